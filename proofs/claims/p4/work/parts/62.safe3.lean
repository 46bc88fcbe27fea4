abbrev gx_q_Code_writeNode (x : Int32) (y : Int32) (S : gm_S × gm_S) (z : Int32 × (gm_S × gm_S)) : Prop := (gm_iN 200 (z.2.1.2.2 5))
abbrev gx_q_Code_writeBetween (x : Int32) (y : Int32) (v : Int32) (w : Int32) (S : gm_S × gm_S) (z : Int32 × (gm_S × gm_S)) : Prop := (gm_iN 200 (z.2.1.2.2 5))
set_option maxRecDepth 100000 in
theorem gx_s_Code_writeBetween (fx : Int32 → Int32 → gm_S × gm_S → Int32 × (gm_S × gm_S)) (px : Int32 → Int32 → gm_S × gm_S → Prop) (c : Int) (hx : ∀ (x : Int32) (y : Int32) (S : gm_S × gm_S), c ≤ y.toInt → gm_iN 200 (S.1.2.2 5) → gm_iT (S.2.2.2 11) (S.2.2.2 12) (S.2.2.2 13) (S.2.1 2) (S.2.1 3) (S.2.1 4) (S.2.1 5) (S.2.1 10) → 0 ≤ x.toInt → x.toInt ≤ 74 → 0 ≤ y.toInt → y.toInt ≤ 40 → px x y S ∧ gx_q_Code_writeNode x y S (fx x y S)) (x : Int32) (y : Int32) (v : Int32) (w : Int32) (S : gm_S × gm_S) (h1 : gm_iN 200 (S.1.2.2 5)) (h2 : gm_iT (S.2.2.2 11) (S.2.2.2 12) (S.2.2.2 13) (S.2.1 2) (S.2.1 3) (S.2.1 4) (S.2.1 5) (S.2.1 10)) (h3 : 0 ≤ y.toInt) (h4 : y.toInt ≤ 74) (h5 : 0 ≤ w.toInt) (h6 : w.toInt ≤ 39) (h7 : c ≤ w.toInt + 1) : gm_p_Code_writeBetween fx px x y v w S ∧ gx_q_Code_writeBetween x y v w S (gm_f_Code_writeBetween fx x y v w S) := by
  unfold gm_p_Code_writeBetween gm_f_Code_writeBetween
  refine gx_ca (Q := gx_q_Code_writeBetween x y v w S) (gx_q_Code_add _ _ _) (gx_s_Code_add _ _ _ h1 h2) ?_
  intro r3 u3 h8
  have h8_0 : gm_iN 200 (u3.1.2.2 5) := h8.1
  have h8_1 : ((-1) ≤ r3.toInt) ∧ (r3.toInt ≤ 199) := h8.2
  refine gx_ca (Q := gx_q_Code_writeBetween x y v w S) (gx_q_Code_writeNode _ _ _) (hx _ _ _ (show c ≤ (w + 1).toInt from (by have := gx_ak w 1 (1) (by decide); omega)) h8_0 h2 h3 h4 (show 0 ≤ (w + 1).toInt from (by have := gx_ak w 1 (1) (by decide); omega)) (show (w + 1).toInt ≤ 40 from (by have := gx_ak w 1 (1) (by decide); omega))) ?_
  intro r_h9 u14 h9
  have h9_0 : gm_iN 200 (u14.1.2.2 5) := h9
  refine gx_ca (Q := gx_q_Code_writeBetween x y v w S) (gx_q_Code_add _ _ _) (gx_s_Code_add _ _ _ h9_0 h2) ?_
  intro r20 u20 h10
  have h10_0 : gm_iN 200 (u20.1.2.2 5) := h10.1
  have h10_1 : ((-1) ≤ r20.toInt) ∧ (r20.toInt ≤ 199) := h10.2
  exact ⟨trivial, h10_0⟩
abbrev gx_q_Code_writeTried (x : Int32) (y : Int32) (S : gm_S × gm_S) (z : Int32 × (gm_S × gm_S)) : Prop := (gm_iN 200 (z.2.1.2.2 5))
set_option maxRecDepth 100000 in
theorem gx_s_Code_writeTried (fx : Int32 → Int32 → gm_S × gm_S → Int32 × (gm_S × gm_S)) (px : Int32 → Int32 → gm_S × gm_S → Prop) (c : Int) (hx : ∀ (x : Int32) (y : Int32) (S : gm_S × gm_S), c ≤ y.toInt → gm_iN 200 (S.1.2.2 5) → gm_iT (S.2.2.2 11) (S.2.2.2 12) (S.2.2.2 13) (S.2.1 2) (S.2.1 3) (S.2.1 4) (S.2.1 5) (S.2.1 10) → 0 ≤ x.toInt → x.toInt ≤ 74 → 0 ≤ y.toInt → y.toInt ≤ 40 → px x y S ∧ gx_q_Code_writeNode x y S (fx x y S)) (x : Int32) (y : Int32) (S : gm_S × gm_S) (h1 : gm_iN 200 (S.1.2.2 5)) (h2 : gm_iT (S.2.2.2 11) (S.2.2.2 12) (S.2.2.2 13) (S.2.1 2) (S.2.1 3) (S.2.1 4) (S.2.1 5) (S.2.1 10)) (h3 : 0 ≤ x.toInt) (h4 : x.toInt ≤ 74) (h5 : 0 ≤ y.toInt) (h6 : y.toInt ≤ 39) (h7 : c ≤ y.toInt + 1) : gm_p_Code_writeTried fx px x y S ∧ gx_q_Code_writeTried x y S (gm_f_Code_writeTried fx x y S) := by
  unfold gm_p_Code_writeTried gm_f_Code_writeTried
  refine gx_ca (Q := gx_q_Code_writeTried x y S) (gx_q_Code_writeLook _ _) (gx_s_Code_writeLook _ _ h1 h2 h3 h4) ?_
  intro r2 u2 h8
  have h8_0 : gm_iN 200 (u2.1.2.2 5) := h8
  refine gx_ca (Q := gx_q_Code_writeTried x y S) (gx_q_Code_writeBetween _ _ _ _ _) (gx_s_Code_writeBetween _ _ c hx _ _ _ _ _ h8_0 h2 h3 h4 h5 h6 h7) ?_
  intro r11 u11 h9
  have h9_0 : gm_iN 200 (u11.1.2.2 5) := h9
  refine gx_ca (Q := gx_q_Code_writeTried x y S) (gx_q_Code_aim _ _) (gx_s_Code_aim _ _ h9_0 h2) ?_
  intro r_h10 u18 h10
  refine gx_ca (Q := gx_q_Code_writeTried x y S) (gx_q_Code_aim _ _) (gx_s_Code_aim _ _ h9_0 h2) ?_
  intro r_h11 u24 h11
  exact ⟨trivial, h9_0⟩
abbrev gx_q_Code_writeOption (x : Int32) (y : Int32) (S : gm_S × gm_S) (z : Int32 × (gm_S × gm_S)) : Prop := (gm_iN 200 (z.2.1.2.2 5))
set_option maxRecDepth 100000 in
theorem gx_s_Code_writeOption (fx : Int32 → Int32 → gm_S × gm_S → Int32 × (gm_S × gm_S)) (px : Int32 → Int32 → gm_S × gm_S → Prop) (c : Int) (hx : ∀ (x : Int32) (y : Int32) (S : gm_S × gm_S), c ≤ y.toInt → gm_iN 200 (S.1.2.2 5) → gm_iT (S.2.2.2 11) (S.2.2.2 12) (S.2.2.2 13) (S.2.1 2) (S.2.1 3) (S.2.1 4) (S.2.1 5) (S.2.1 10) → 0 ≤ x.toInt → x.toInt ≤ 74 → 0 ≤ y.toInt → y.toInt ≤ 40 → px x y S ∧ gx_q_Code_writeNode x y S (fx x y S)) (x : Int32) (y : Int32) (S : gm_S × gm_S) (h1 : gm_iN 200 (S.1.2.2 5)) (h2 : gm_iT (S.2.2.2 11) (S.2.2.2 12) (S.2.2.2 13) (S.2.1 2) (S.2.1 3) (S.2.1 4) (S.2.1 5) (S.2.1 10)) (h3 : 0 ≤ x.toInt) (h4 : x.toInt ≤ 74) (h5 : 0 ≤ y.toInt) (h6 : y.toInt ≤ 39) (h7 : c ≤ y.toInt + 1) : gm_p_Code_writeOption fx px x y S ∧ gx_q_Code_writeOption x y S (gm_f_Code_writeOption fx x y S) := by
  unfold gm_p_Code_writeOption gm_f_Code_writeOption
  refine gx_ca (Q := gx_q_Code_writeOption x y S) (gx_q_Code_writeTried _ _ _) (gx_s_Code_writeTried _ _ c hx _ _ _ h1 h2 h3 h4 h5 h6 h7) ?_
  intro r_h8 u3 h8
  have h8_0 : gm_iN 200 (u3.1.2.2 5) := h8
  refine gx_ca (Q := gx_q_Code_writeOption x y S) (gx_q_Code_aim _ _) (gx_s_Code_aim _ _ h8_0 h2) ?_
  intro r_h9 u13 h9
  exact ⟨trivial, h8_0⟩
abbrev gx_q_Code_writeLoop (x : Int32) (y : Int32) (v : Int32) (S : gm_S × gm_S) (z : Int32 × (gm_S × gm_S)) : Prop := (gm_iN 200 (z.2.1.2.2 5))
set_option maxRecDepth 100000 in
theorem gx_s_Code_writeLoop (fx : Int32 → Int32 → gm_S × gm_S → Int32 × (gm_S × gm_S)) (px : Int32 → Int32 → gm_S × gm_S → Prop) (c : Int) (hx : ∀ (x : Int32) (y : Int32) (S : gm_S × gm_S), c ≤ y.toInt → gm_iN 200 (S.1.2.2 5) → gm_iT (S.2.2.2 11) (S.2.2.2 12) (S.2.2.2 13) (S.2.1 2) (S.2.1 3) (S.2.1 4) (S.2.1 5) (S.2.1 10) → 0 ≤ x.toInt → x.toInt ≤ 74 → 0 ≤ y.toInt → y.toInt ≤ 40 → px x y S ∧ gx_q_Code_writeNode x y S (fx x y S)) (x : Int32) (y : Int32) (v : Int32) (S : gm_S × gm_S) (h1 : gm_iN 200 (S.1.2.2 5)) (h2 : gm_iT (S.2.2.2 11) (S.2.2.2 12) (S.2.2.2 13) (S.2.1 2) (S.2.1 3) (S.2.1 4) (S.2.1 5) (S.2.1 10)) (h3 : 0 ≤ x.toInt) (h4 : x.toInt ≤ 74) (h5 : 0 ≤ y.toInt) (h6 : y.toInt ≤ 39) (h7 : c ≤ y.toInt + 1) : gm_p_Code_writeLoop fx px x y v S ∧ gx_q_Code_writeLoop x y v S (gm_f_Code_writeLoop fx x y v S) := by
  unfold gm_p_Code_writeLoop gm_f_Code_writeLoop
  refine gx_ca (Q := gx_q_Code_writeLoop x y v S) (gx_q_Code_writeLook _ _) (gx_s_Code_writeLook _ _ h1 h2 h3 h4) ?_
  intro r8 u8 h8
  have h8_0 : gm_iN 200 (u8.1.2.2 5) := h8
  refine gx_ca (Q := gx_q_Code_writeLoop x y v S) (gx_q_Code_add _ _ _) (gx_s_Code_add _ _ _ h8_0 h2) ?_
  intro r16 u16 h9
  have h9_0 : gm_iN 200 (u16.1.2.2 5) := h9.1
  have h9_1 : ((-1) ≤ r16.toInt) ∧ (r16.toInt ≤ 199) := h9.2
  refine gx_ca (Q := gx_q_Code_writeLoop x y v S) (gx_q_Code_aim _ _) (gx_s_Code_aim _ _ h9_0 h2) ?_
  intro r_h10 u23 h10
  refine gx_ca (Q := gx_q_Code_writeLoop x y v S) (gx_q_Code_writeNode _ _ _) (hx _ _ _ (show c ≤ (y + 1).toInt from (by have := gx_ak y 1 (1) (by decide); omega)) h9_0 h2 h3 h4 (show 0 ≤ (y + 1).toInt from (by have := gx_ak y 1 (1) (by decide); omega)) (show (y + 1).toInt ≤ 40 from (by have := gx_ak y 1 (1) (by decide); omega))) ?_
  intro r_h11 u31 h11
  have h11_0 : gm_iN 200 (u31.1.2.2 5) := h11
  refine gx_ca (Q := gx_q_Code_writeLoop x y v S) (gx_q_Code_add _ _ _) (gx_s_Code_add _ _ _ h11_0 h2) ?_
  intro r37 u37 h12
  have h12_0 : gm_iN 200 (u37.1.2.2 5) := h12.1
  have h12_1 : ((-1) ≤ r37.toInt) ∧ (r37.toInt ≤ 199) := h12.2
  refine gx_ca (Q := gx_q_Code_writeLoop x y v S) (gx_q_Code_aim _ _) (gx_s_Code_aim _ _ h12_0 h2) ?_
  intro r_h13 u45 h13
  refine gx_ca (Q := gx_q_Code_writeLoop x y v S) (gx_q_Code_aim _ _) (gx_s_Code_aim _ _ h12_0 h2) ?_
  intro r_h14 u51 h14
  refine gx_if (Q := gx_q_Code_writeLoop x y v S) (fun h15 => ?_) (fun h15 => ?_)
  · skip
    have h15_ := gx_eqr (k := -1) (by decide) h15
    exact ⟨trivial, h12_0⟩
  · skip
    have h15_ := gx_eqnr (k := -1) (by decide) h15
    refine gx_in (Q := gx_q_Code_writeLoop x y v S) (vp_in_iff.mpr (by omega)) ?_
    exact ⟨trivial, h12_0⟩
abbrev gx_q_Code_writeSequence (x : Int32) (y : Int32) (S : gm_S × gm_S) (z : Int32 × (gm_S × gm_S)) : Prop := (gm_iN 200 (z.2.1.2.2 5))
set_option maxRecDepth 100000 in
theorem gx_s_Code_writeSequence_10 (fx : Int32 → Int32 → gm_S × gm_S → Int32 × (gm_S × gm_S)) (px : Int32 → Int32 → gm_S × gm_S → Prop) (c : Int) (hx : ∀ (x : Int32) (y : Int32) (S : gm_S × gm_S), c ≤ y.toInt → gm_iN 200 (S.1.2.2 5) → gm_iT (S.2.2.2 11) (S.2.2.2 12) (S.2.2.2 13) (S.2.1 2) (S.2.1 3) (S.2.1 4) (S.2.1 5) (S.2.1 10) → 0 ≤ x.toInt → x.toInt ≤ 74 → 0 ≤ y.toInt → y.toInt ≤ 40 → px x y S ∧ gx_q_Code_writeNode x y S (fx x y S)) (x : Int32) (y : Int32) (S : gm_S × gm_S) (h1 : gm_iN 200 (S.1.2.2 5)) (h2 : gm_iT (S.2.2.2 11) (S.2.2.2 12) (S.2.2.2 13) (S.2.1 2) (S.2.1 3) (S.2.1 4) (S.2.1 5) (S.2.1 10)) (h3 : 0 ≤ x.toInt) (h4 : x.toInt ≤ 74) (h5 : 0 ≤ y.toInt) (h6 : y.toInt ≤ 39) (h7 : c ≤ y.toInt + 1) : ∀ (n10 : Nat) (v3_10 : Int32) (S_10 : gm_S × gm_S), (gm_iN 200 (S_10.1.2.2 5)) → (0 ≤ v3_10.toInt) → (v3_10.toInt ≤ 75) → (75 < v3_10.toInt + n10) → gm_p_Code_writeSequence_10 fx px x y S n10 v3_10 S_10 ∧ gx_q_Code_writeSequence x y S (gm_f_Code_writeSequence_10 fx x y S n10 v3_10 S_10) := by
  intro n10
  induction n10 with
  | zero =>
    intro v3_10 S_10 h8 h9 h10 h11; exfalso; skip; omega
  | succ n10 ih =>
    intro v3_10 S_10 h8 h9 h10 h11
    rw [gm_p_Code_writeSequence_10, gm_f_Code_writeSequence_10]
    refine gx_in (Q := gx_q_Code_writeSequence x y S) (vp_in_iff.mpr (by omega)) ?_
    refine gx_if (Q := gx_q_Code_writeSequence x y S) (fun h12 => ?_) (fun h12 => ?_)
    · skip
      have h12_ := gx_le h12
      exact ⟨trivial, h8⟩
    · skip
      have h12_ := gx_len h12
      refine gx_in (Q := gx_q_Code_writeSequence x y S) (vp_in_iff.mpr (by have := h2.2.2.2.2.1 (Int32.toNatClampNeg x); omega)) ?_
      refine gx_ca (Q := gx_q_Code_writeSequence x y S) (gx_q_Code_writeNode _ _ _) (hx _ _ _ (show c ≤ (y + 1).toInt from (by have := h2.2.2.2.2.1 (Int32.toNatClampNeg x); have := gx_ak y 1 (1) (by decide); omega)) h8 h2 (show 0 ≤ (S.2.1 4 (Int32.toNatClampNeg v3_10)).toInt from (by have := h2.2.2.2.2.2.1 (Int32.toNatClampNeg v3_10); have := h2.2.2.2.2.1 (Int32.toNatClampNeg x); omega)) (show (S.2.1 4 (Int32.toNatClampNeg v3_10)).toInt ≤ 74 from (by have := h2.2.2.2.2.2.1 (Int32.toNatClampNeg v3_10); have := h2.2.2.2.2.1 (Int32.toNatClampNeg x); omega)) (show 0 ≤ (y + 1).toInt from (by have := h2.2.2.2.2.1 (Int32.toNatClampNeg x); have := gx_ak y 1 (1) (by decide); omega)) (show (y + 1).toInt ≤ 40 from (by have := h2.2.2.2.2.1 (Int32.toNatClampNeg x); have := gx_ak y 1 (1) (by decide); omega))) ?_
      intro r_h13 u36 h13
      have h13_0 : gm_iN 200 (u36.1.2.2 5) := h13
      refine ih _ _ ?_ ?_ ?_ ?_
      · exact h13_0
      · exact (show 0 ≤ (v3_10 + 1).toInt from (by have := h2.2.2.2.2.1 (Int32.toNatClampNeg x); have := gx_ak v3_10 1 (1) (by decide); omega))
      · exact (show (v3_10 + 1).toInt ≤ 75 from (by have := h2.2.2.2.2.1 (Int32.toNatClampNeg x); have := gx_ak v3_10 1 (1) (by decide); omega))
      · exact (show 75 < ((v3_10 + 1).toInt + n10) from (by have := h2.2.2.2.2.1 (Int32.toNatClampNeg x); have := gx_ak v3_10 1 (1) (by decide); omega))
set_option maxRecDepth 100000 in
theorem gx_s_Code_writeSequence (fx : Int32 → Int32 → gm_S × gm_S → Int32 × (gm_S × gm_S)) (px : Int32 → Int32 → gm_S × gm_S → Prop) (c : Int) (hx : ∀ (x : Int32) (y : Int32) (S : gm_S × gm_S), c ≤ y.toInt → gm_iN 200 (S.1.2.2 5) → gm_iT (S.2.2.2 11) (S.2.2.2 12) (S.2.2.2 13) (S.2.1 2) (S.2.1 3) (S.2.1 4) (S.2.1 5) (S.2.1 10) → 0 ≤ x.toInt → x.toInt ≤ 74 → 0 ≤ y.toInt → y.toInt ≤ 40 → px x y S ∧ gx_q_Code_writeNode x y S (fx x y S)) (x : Int32) (y : Int32) (S : gm_S × gm_S) (h1 : gm_iN 200 (S.1.2.2 5)) (h2 : gm_iT (S.2.2.2 11) (S.2.2.2 12) (S.2.2.2 13) (S.2.1 2) (S.2.1 3) (S.2.1 4) (S.2.1 5) (S.2.1 10)) (h3 : 0 ≤ x.toInt) (h4 : x.toInt ≤ 74) (h5 : 0 ≤ y.toInt) (h6 : y.toInt ≤ 39) (h7 : c ≤ y.toInt + 1) : gm_p_Code_writeSequence fx px x y S ∧ gx_q_Code_writeSequence x y S (gm_f_Code_writeSequence fx x y S) := by
  unfold gm_p_Code_writeSequence gm_f_Code_writeSequence
  refine gx_in (Q := gx_q_Code_writeSequence x y S) (vp_in_iff.mpr (by omega)) ?_
  refine gx_s_Code_writeSequence_10 _ _ c hx _ _ _ ?_ ?_ ?_ ?_ ?_ ?_ ?_ _ _ _ ?_ ?_ ?_ ?_
  · exact h1
  · exact h2
  · exact (show 0 ≤ x.toInt from (by omega))
  · exact (show x.toInt ≤ 74 from (by omega))
  · exact (show 0 ≤ y.toInt from (by omega))
  · exact (show y.toInt ≤ 39 from (by omega))
  · exact (show c ≤ (y.toInt + 1) from (by omega))
  · exact h1
  · exact (show 0 ≤ (S.2.1 2 (Int32.toNatClampNeg x)).toInt from (by have := h2.2.2.2.1 (Int32.toNatClampNeg x); omega))
  · exact (show (S.2.1 2 (Int32.toNatClampNeg x)).toInt ≤ 75 from (by have := h2.2.2.2.1 (Int32.toNatClampNeg x); omega))
  · exact (show 75 < ((S.2.1 2 (Int32.toNatClampNeg x)).toInt + 200) from (by have := h2.2.2.2.1 (Int32.toNatClampNeg x); omega))
abbrev gx_q_Code_writeChoice (x : Int32) (y : Int32) (S : gm_S × gm_S) (z : Int32 × (gm_S × gm_S)) : Prop := (gm_iN 200 (z.2.1.2.2 5))
set_option maxRecDepth 100000 in
theorem gx_s_Code_writeChoice_29 (fx : Int32 → Int32 → gm_S × gm_S → Int32 × (gm_S × gm_S)) (px : Int32 → Int32 → gm_S × gm_S → Prop) (c : Int) (hx : ∀ (x : Int32) (y : Int32) (S : gm_S × gm_S), c ≤ y.toInt → gm_iN 200 (S.1.2.2 5) → gm_iT (S.2.2.2 11) (S.2.2.2 12) (S.2.2.2 13) (S.2.1 2) (S.2.1 3) (S.2.1 4) (S.2.1 5) (S.2.1 10) → 0 ≤ x.toInt → x.toInt ≤ 74 → 0 ≤ y.toInt → y.toInt ≤ 40 → px x y S ∧ gx_q_Code_writeNode x y S (fx x y S)) (x : Int32) (y : Int32) (S : gm_S × gm_S) (h1 : gm_iN 200 (S.1.2.2 5)) (h2 : gm_iT (S.2.2.2 11) (S.2.2.2 12) (S.2.2.2 13) (S.2.1 2) (S.2.1 3) (S.2.1 4) (S.2.1 5) (S.2.1 10)) (h3 : 0 ≤ x.toInt) (h4 : x.toInt ≤ 74) (h5 : 0 ≤ y.toInt) (h6 : y.toInt ≤ 39) (h7 : c ≤ y.toInt + 1) : ∀ (n29 : Nat) (v5_29 : Int32) (S_29 : gm_S × gm_S), (gm_iN 200 (S_29.1.2.2 5)) → (0 ≤ v5_29.toInt) → (v5_29.toInt ≤ 75) → (75 < v5_29.toInt + n29) → gm_p_Code_writeChoice_29 fx px x y S n29 v5_29 S_29 ∧ gx_q_Code_writeChoice x y S (gm_f_Code_writeChoice_29 fx x y S n29 v5_29 S_29) := by
  intro n29
  induction n29 with
  | zero =>
    intro v5_29 S_29 h8 h9 h10 h11; exfalso; skip; omega
  | succ n29 ih =>
    intro v5_29 S_29 h8 h9 h10 h11
    rw [gm_p_Code_writeChoice_29, gm_f_Code_writeChoice_29]
    refine gx_if (Q := gx_q_Code_writeChoice x y S) (fun h12 => ?_) (fun h12 => ?_)
    · skip
      have h12_ := gx_lt h12
      refine gx_ca (Q := gx_q_Code_writeChoice x y S) (gx_q_Code_aimCommitsFrom _ _) (gx_s_Code_aimCommitsFrom _ _ h8 h2 (show 0 ≤ (S.1.2.2 5).toInt from (by have := h2.2.2.2.2.1 (Int32.toNatClampNeg x); have := gx_sk (S.2.1 3 (Int32.toNatClampNeg x)) 1 (1) (by decide); omega)) (show (S.1.2.2 5).toInt ≤ 200 from (by have := h2.2.2.2.2.1 (Int32.toNatClampNeg x); have := gx_sk (S.2.1 3 (Int32.toNatClampNeg x)) 1 (1) (by decide); omega))) ?_
      intro r_h13 u86 h13
      exact ⟨trivial, h8⟩
    · skip
      have h12_ := gx_ltn h12
      refine gx_if (Q := gx_q_Code_writeChoice x y S) (fun h13 => ?_) (fun h13 => ?_)
      · skip
        have h13_ := gx_le h13
        refine gx_in (Q := gx_q_Code_writeChoice x y S) (vp_in_iff.mpr (by have := h2.2.2.2.2.1 (Int32.toNatClampNeg x); have := gx_sk (S.2.1 3 (Int32.toNatClampNeg x)) 1 (1) (by decide); omega)) ?_
        refine gx_ca (Q := gx_q_Code_writeChoice x y S) (gx_q_Code_writeNode _ _ _) (hx _ _ _ (show c ≤ (y + 1).toInt from (by have := h2.2.2.2.2.1 (Int32.toNatClampNeg x); have := gx_ak y 1 (1) (by decide); have := gx_sk (S.2.1 3 (Int32.toNatClampNeg x)) 1 (1) (by decide); omega)) h8 h2 (show 0 ≤ (S.2.1 4 (Int32.toNatClampNeg v5_29)).toInt from (by have := h2.2.2.2.2.2.1 (Int32.toNatClampNeg v5_29); have := h2.2.2.2.2.1 (Int32.toNatClampNeg x); have := gx_sk (S.2.1 3 (Int32.toNatClampNeg x)) 1 (1) (by decide); omega)) (show (S.2.1 4 (Int32.toNatClampNeg v5_29)).toInt ≤ 74 from (by have := h2.2.2.2.2.2.1 (Int32.toNatClampNeg v5_29); have := h2.2.2.2.2.1 (Int32.toNatClampNeg x); have := gx_sk (S.2.1 3 (Int32.toNatClampNeg x)) 1 (1) (by decide); omega)) (show 0 ≤ (y + 1).toInt from (by have := h2.2.2.2.2.1 (Int32.toNatClampNeg x); have := gx_ak y 1 (1) (by decide); have := gx_sk (S.2.1 3 (Int32.toNatClampNeg x)) 1 (1) (by decide); omega)) (show (y + 1).toInt ≤ 40 from (by have := h2.2.2.2.2.1 (Int32.toNatClampNeg x); have := gx_ak y 1 (1) (by decide); have := gx_sk (S.2.1 3 (Int32.toNatClampNeg x)) 1 (1) (by decide); omega))) ?_
        intro r_h14 u75 h14
        have h14_0 : gm_iN 200 (u75.1.2.2 5) := h14
        refine ih _ _ ?_ ?_ ?_ ?_
        · exact h14_0
        · exact (show 0 ≤ (v5_29 + 1).toInt from (by have := h2.2.2.2.2.1 (Int32.toNatClampNeg x); have := gx_ak v5_29 1 (1) (by decide); have := gx_sk (S.2.1 3 (Int32.toNatClampNeg x)) 1 (1) (by decide); omega))
        · exact (show (v5_29 + 1).toInt ≤ 75 from (by have := h2.2.2.2.2.1 (Int32.toNatClampNeg x); have := gx_ak v5_29 1 (1) (by decide); have := gx_sk (S.2.1 3 (Int32.toNatClampNeg x)) 1 (1) (by decide); omega))
        · exact (show 75 < ((v5_29 + 1).toInt + n29) from (by have := h2.2.2.2.2.1 (Int32.toNatClampNeg x); have := gx_ak v5_29 1 (1) (by decide); have := gx_sk (S.2.1 3 (Int32.toNatClampNeg x)) 1 (1) (by decide); omega))
      · skip
        have h13_ := gx_len h13
        refine gx_in (Q := gx_q_Code_writeChoice x y S) (vp_in_iff.mpr (by have := h2.2.2.2.2.1 (Int32.toNatClampNeg x); have := gx_sk (S.2.1 3 (Int32.toNatClampNeg x)) 1 (1) (by decide); omega)) ?_
        refine gx_ca (Q := gx_q_Code_writeChoice x y S) (gx_q_Code_writeTried _ _ _) (gx_s_Code_writeTried _ _ c hx _ _ _ h8 h2 (show 0 ≤ (S.2.1 4 (Int32.toNatClampNeg v5_29)).toInt from (by have := h2.2.2.2.2.2.1 (Int32.toNatClampNeg v5_29); have := h2.2.2.2.2.1 (Int32.toNatClampNeg x); have := gx_sk (S.2.1 3 (Int32.toNatClampNeg x)) 1 (1) (by decide); omega)) (show (S.2.1 4 (Int32.toNatClampNeg v5_29)).toInt ≤ 74 from (by have := h2.2.2.2.2.2.1 (Int32.toNatClampNeg v5_29); have := h2.2.2.2.2.1 (Int32.toNatClampNeg x); have := gx_sk (S.2.1 3 (Int32.toNatClampNeg x)) 1 (1) (by decide); omega)) h5 h6 h7) ?_
        intro r_h14 u55 h14
        have h14_0 : gm_iN 200 (u55.1.2.2 5) := h14
        refine ih _ _ ?_ ?_ ?_ ?_
        · exact h14_0
        · exact (show 0 ≤ (v5_29 + 1).toInt from (by have := h2.2.2.2.2.1 (Int32.toNatClampNeg x); have := gx_ak v5_29 1 (1) (by decide); have := gx_sk (S.2.1 3 (Int32.toNatClampNeg x)) 1 (1) (by decide); omega))
        · exact (show (v5_29 + 1).toInt ≤ 75 from (by have := h2.2.2.2.2.1 (Int32.toNatClampNeg x); have := gx_ak v5_29 1 (1) (by decide); have := gx_sk (S.2.1 3 (Int32.toNatClampNeg x)) 1 (1) (by decide); omega))
        · exact (show 75 < ((v5_29 + 1).toInt + n29) from (by have := h2.2.2.2.2.1 (Int32.toNatClampNeg x); have := gx_ak v5_29 1 (1) (by decide); have := gx_sk (S.2.1 3 (Int32.toNatClampNeg x)) 1 (1) (by decide); omega))
set_option maxRecDepth 100000 in
theorem gx_s_Code_writeChoice (fx : Int32 → Int32 → gm_S × gm_S → Int32 × (gm_S × gm_S)) (px : Int32 → Int32 → gm_S × gm_S → Prop) (c : Int) (hx : ∀ (x : Int32) (y : Int32) (S : gm_S × gm_S), c ≤ y.toInt → gm_iN 200 (S.1.2.2 5) → gm_iT (S.2.2.2 11) (S.2.2.2 12) (S.2.2.2 13) (S.2.1 2) (S.2.1 3) (S.2.1 4) (S.2.1 5) (S.2.1 10) → 0 ≤ x.toInt → x.toInt ≤ 74 → 0 ≤ y.toInt → y.toInt ≤ 40 → px x y S ∧ gx_q_Code_writeNode x y S (fx x y S)) (x : Int32) (y : Int32) (S : gm_S × gm_S) (h1 : gm_iN 200 (S.1.2.2 5)) (h2 : gm_iT (S.2.2.2 11) (S.2.2.2 12) (S.2.2.2 13) (S.2.1 2) (S.2.1 3) (S.2.1 4) (S.2.1 5) (S.2.1 10)) (h3 : 0 ≤ x.toInt) (h4 : x.toInt ≤ 74) (h5 : 0 ≤ y.toInt) (h6 : y.toInt ≤ 39) (h7 : c ≤ y.toInt + 1) : gm_p_Code_writeChoice fx px x y S ∧ gx_q_Code_writeChoice x y S (gm_f_Code_writeChoice fx x y S) := by
  unfold gm_p_Code_writeChoice gm_f_Code_writeChoice
  refine gx_in (Q := gx_q_Code_writeChoice x y S) (vp_in_iff.mpr (by omega)) ?_
  refine gx_in (Q := gx_q_Code_writeChoice x y S) (vp_in_iff.mpr (by omega)) ?_
  refine gx_s_Code_writeChoice_29 _ _ c hx _ _ _ ?_ ?_ ?_ ?_ ?_ ?_ ?_ _ _ _ ?_ ?_ ?_ ?_
  · exact h1
  · exact h2
  · exact (show 0 ≤ x.toInt from (by omega))
  · exact (show x.toInt ≤ 74 from (by omega))
  · exact (show 0 ≤ y.toInt from (by omega))
  · exact (show y.toInt ≤ 39 from (by omega))
  · exact (show c ≤ (y.toInt + 1) from (by omega))
  · exact h1
  · exact (show 0 ≤ (S.2.1 2 (Int32.toNatClampNeg x)).toInt from (by have := h2.2.2.2.1 (Int32.toNatClampNeg x); omega))
  · exact (show (S.2.1 2 (Int32.toNatClampNeg x)).toInt ≤ 75 from (by have := h2.2.2.2.1 (Int32.toNatClampNeg x); omega))
  · exact (show 75 < ((S.2.1 2 (Int32.toNatClampNeg x)).toInt + 200) from (by have := h2.2.2.2.1 (Int32.toNatClampNeg x); omega))
set_option maxRecDepth 100000 in
theorem gx_s_Code_writeNode (fx : Int32 → Int32 → gm_S × gm_S → Int32 × (gm_S × gm_S)) (px : Int32 → Int32 → gm_S × gm_S → Prop) (c : Int) (hx : ∀ (x : Int32) (y : Int32) (S : gm_S × gm_S), c ≤ y.toInt → gm_iN 200 (S.1.2.2 5) → gm_iT (S.2.2.2 11) (S.2.2.2 12) (S.2.2.2 13) (S.2.1 2) (S.2.1 3) (S.2.1 4) (S.2.1 5) (S.2.1 10) → 0 ≤ x.toInt → x.toInt ≤ 74 → 0 ≤ y.toInt → y.toInt ≤ 40 → px x y S ∧ gx_q_Code_writeNode x y S (fx x y S)) (x : Int32) (y : Int32) (S : gm_S × gm_S) (h1 : gm_iN 200 (S.1.2.2 5)) (h2 : gm_iT (S.2.2.2 11) (S.2.2.2 12) (S.2.2.2 13) (S.2.1 2) (S.2.1 3) (S.2.1 4) (S.2.1 5) (S.2.1 10)) (h3 : 0 ≤ x.toInt) (h4 : x.toInt ≤ 74) (h5 : 0 ≤ y.toInt) (h6 : y.toInt ≤ 40) (h7 : c ≤ y.toInt + 1) : gm_p_Code_writeNode fx px x y S ∧ gx_q_Code_writeNode x y S (gm_f_Code_writeNode fx x y S) := by
  unfold gm_p_Code_writeNode gm_f_Code_writeNode
  refine gx_if (Q := gx_q_Code_writeNode x y S) (fun h8 => ?_) (fun h8 => ?_)
  · skip
    have h8_ := gx_ltr (k := 40) (gx_lit 40 (by decide)) h8
    refine gx_ca (Q := gx_q_Code_writeNode x y S) (gx_q_Tree_partOf _ _) (gx_s_Tree_partOf _ _ h2 h3 h4) ?_
    intro r12 u12 h9
    have h9_0 : (0 ≤ r12.toInt) ∧ (r12.toInt ≤ 74) := h9
    refine gx_in (Q := gx_q_Code_writeNode x y S) (vp_in_iff.mpr (by omega)) ?_
    refine gx_if (Q := gx_q_Code_writeNode x y S) (fun h10 => ?_) (fun h10 => ?_)
    · skip
      clear h10
      refine gx_ca (Q := gx_q_Code_writeNode x y S) (gx_q_Code_add _ _ _) (gx_s_Code_add _ _ _ h1 h2) ?_
      intro r83 u83 h11
      have h11_0 : gm_iN 200 (u83.1.2.2 5) := h11.1
      have h11_1 : ((-1) ≤ r83.toInt) ∧ (r83.toInt ≤ 199) := h11.2
      exact ⟨trivial, h11_0⟩
    · skip
      clear h10
      refine gx_if (Q := gx_q_Code_writeNode x y S) (fun h11 => ?_) (fun h11 => ?_)
      · skip
        clear h11
        refine gx_in (Q := gx_q_Code_writeNode x y S) (vp_in_iff.mpr (by omega)) ?_
        refine gx_ca (Q := gx_q_Code_writeNode x y S) (gx_q_Tree_ruleOf _ _) (gx_s_Tree_ruleOf _ _ h2) ?_
        intro r106 u106 h12
        have h12_0 : ((-1) ≤ r106.toInt) ∧ (r106.toInt ≤ 7) := h12
        refine gx_ca (Q := gx_q_Code_writeNode x y S) (gx_q_Code_add _ _ _) (gx_s_Code_add _ _ _ h1 h2) ?_
        intro r109 u109 h13
        have h13_0 : gm_iN 200 (u109.1.2.2 5) := h13.1
        have h13_1 : ((-1) ≤ r109.toInt) ∧ (r109.toInt ≤ 199) := h13.2
        exact ⟨trivial, h13_0⟩
      · skip
        clear h11
        refine gx_if (Q := gx_q_Code_writeNode x y S) (fun h12 => ?_) (fun h12 => ?_)
        · skip
          clear h12
          refine gx_ca (Q := gx_q_Code_writeNode x y S) (gx_q_Code_writeSequence _ _ _) (gx_s_Code_writeSequence _ _ c hx _ _ _ h1 h2 h3 h4 h5 (show y.toInt ≤ 39 from (by omega)) h7) ?_
          intro r_h13 u119 h13
          have h13_0 : gm_iN 200 (u119.1.2.2 5) := h13
          exact ⟨trivial, h13_0⟩
        · skip
          clear h12
          refine gx_if (Q := gx_q_Code_writeNode x y S) (fun h13 => ?_) (fun h13 => ?_)
          · skip
            clear h13
            refine gx_ca (Q := gx_q_Code_writeNode x y S) (gx_q_Code_writeChoice _ _ _) (gx_s_Code_writeChoice _ _ c hx _ _ _ h1 h2 h3 h4 h5 (show y.toInt ≤ 39 from (by omega)) h7) ?_
            intro r_h14 u128 h14
            have h14_0 : gm_iN 200 (u128.1.2.2 5) := h14
            exact ⟨trivial, h14_0⟩
          · skip
            clear h13
            refine gx_if (Q := gx_q_Code_writeNode x y S) (fun h14 => ?_) (fun h14 => ?_)
            · skip
              clear h14
              refine gx_ca (Q := gx_q_Code_writeNode x y S) (gx_q_Code_writeOption _ _ _) (gx_s_Code_writeOption _ _ c hx _ _ _ h1 h2 (show 0 ≤ r12.toInt from (by omega)) (show r12.toInt ≤ 74 from (by omega)) h5 (show y.toInt ≤ 39 from (by omega)) h7) ?_
              intro r_h15 u137 h15
              have h15_0 : gm_iN 200 (u137.1.2.2 5) := h15
              exact ⟨trivial, h15_0⟩
            · skip
              clear h14
              refine gx_if (Q := gx_q_Code_writeNode x y S) (fun h15 => ?_) (fun h15 => ?_)
              · skip
                clear h15
                refine gx_ca (Q := gx_q_Code_writeNode x y S) (gx_q_Code_writeLoop _ _ _ _) (gx_s_Code_writeLoop _ _ c hx _ _ _ _ h1 h2 (show 0 ≤ r12.toInt from (by omega)) (show r12.toInt ≤ 74 from (by omega)) h5 (show y.toInt ≤ 39 from (by omega)) h7) ?_
                intro r_h16 u147 h16
                have h16_0 : gm_iN 200 (u147.1.2.2 5) := h16
                exact ⟨trivial, h16_0⟩
              · skip
                clear h15
                refine gx_if (Q := gx_q_Code_writeNode x y S) (fun h16 => ?_) (fun h16 => ?_)
                · skip
                  clear h16
                  refine gx_ca (Q := gx_q_Code_writeNode x y S) (gx_q_Code_add _ _ _) (gx_s_Code_add _ _ _ h1 h2) ?_
                  intro r156 u156 h17
                  have h17_0 : gm_iN 200 (u156.1.2.2 5) := h17.1
                  have h17_1 : ((-1) ≤ r156.toInt) ∧ (r156.toInt ≤ 199) := h17.2
                  refine gx_ca (Q := gx_q_Code_writeNode x y S) (gx_q_Code_add _ _ _) (gx_s_Code_add _ _ _ h17_0 h2) ?_
                  intro r166 u166 h18
                  have h18_0 : gm_iN 200 (u166.1.2.2 5) := h18.1
                  have h18_1 : ((-1) ≤ r166.toInt) ∧ (r166.toInt ≤ 199) := h18.2
                  refine gx_ca (Q := gx_q_Code_writeNode x y S) (gx_q_Code_writeLoop _ _ _ _) (gx_s_Code_writeLoop _ _ c hx _ _ _ _ h18_0 h2 (show 0 ≤ r12.toInt from (by omega)) (show r12.toInt ≤ 74 from (by omega)) h5 (show y.toInt ≤ 39 from (by omega)) h7) ?_
                  intro r_h19 u169 h19
                  have h19_0 : gm_iN 200 (u169.1.2.2 5) := h19
                  exact ⟨trivial, h19_0⟩
                · skip
                  clear h16
                  refine gx_if (Q := gx_q_Code_writeNode x y S) (fun h17 => ?_) (fun h17 => ?_)
                  · skip
                    clear h17
                    refine gx_ca (Q := gx_q_Code_writeNode x y S) (gx_q_Code_writeBetween _ _ _ _ _) (gx_s_Code_writeBetween _ _ c hx _ _ _ _ _ h1 h2 (show 0 ≤ r12.toInt from (by omega)) (show r12.toInt ≤ 74 from (by omega)) h5 (show y.toInt ≤ 39 from (by omega)) h7) ?_
                    intro r195 u195 h18
                    have h18_0 : gm_iN 200 (u195.1.2.2 5) := h18
                    exact ⟨trivial, h18_0⟩
                  · skip
                    clear h17
                    refine gx_if (Q := gx_q_Code_writeNode x y S) (fun h18 => ?_) (fun h18 => ?_)
                    · skip
                      clear h18
                      refine gx_ca (Q := gx_q_Code_writeNode x y S) (gx_q_Code_writeBetween _ _ _ _ _) (gx_s_Code_writeBetween _ _ c hx _ _ _ _ _ h1 h2 (show 0 ≤ r12.toInt from (by omega)) (show r12.toInt ≤ 74 from (by omega)) h5 (show y.toInt ≤ 39 from (by omega)) h7) ?_
                      intro r209 u209 h19
                      have h19_0 : gm_iN 200 (u209.1.2.2 5) := h19
                      refine gx_ca (Q := gx_q_Code_writeNode x y S) (gx_q_Code_aim _ _) (gx_s_Code_aim _ _ h19_0 h2) ?_
                      intro r_h20 u212 h20
                      exact ⟨trivial, h19_0⟩
                    · skip
                      clear h18
                      refine gx_if (Q := gx_q_Code_writeNode x y S) (fun h19 => ?_) (fun h19 => ?_)
                      · skip
                        clear h19
                        refine gx_ca (Q := gx_q_Code_writeNode x y S) (gx_q_Code_writeBetween _ _ _ _ _) (gx_s_Code_writeBetween _ _ c hx _ _ _ _ _ h1 h2 (show 0 ≤ r12.toInt from (by omega)) (show r12.toInt ≤ 74 from (by omega)) h5 (show y.toInt ≤ 39 from (by omega)) h7) ?_
                        intro r182 u182 h20
                        have h20_0 : gm_iN 200 (u182.1.2.2 5) := h20
                        exact ⟨trivial, h20_0⟩
                      · skip
                        clear h19
                        refine gx_ca (Q := gx_q_Code_writeNode x y S) (gx_q_Code_writeBetween _ _ _ _ _) (gx_s_Code_writeBetween _ _ c hx _ _ _ _ _ h1 h2 (show 0 ≤ r12.toInt from (by omega)) (show r12.toInt ≤ 74 from (by omega)) h5 (show y.toInt ≤ 39 from (by omega)) h7) ?_
                        intro r209 u209 h20
                        have h20_0 : gm_iN 200 (u209.1.2.2 5) := h20
                        refine gx_ca (Q := gx_q_Code_writeNode x y S) (gx_q_Code_aim _ _) (gx_s_Code_aim _ _ h20_0 h2) ?_
                        intro r_h21 u212 h21
                        exact ⟨trivial, h20_0⟩
  · skip
    have h8_ := gx_ltnr (k := 40) (gx_lit 40 (by decide)) h8
    exact ⟨trivial, h1⟩
theorem gx_z_Code_writeNode : ∀ (d : Nat) (x : Int32) (y : Int32) (S : gm_S × gm_S), (gm_iN 200 (S.1.2.2 5)) → (gm_iT (S.2.2.2 11) (S.2.2.2 12) (S.2.2.2 13) (S.2.1 2) (S.2.1 3) (S.2.1 4) (S.2.1 5) (S.2.1 10)) → (0 ≤ x.toInt) → (x.toInt ≤ 74) → (0 ≤ y.toInt) → (y.toInt ≤ 40) → 40 < y.toInt + d → gm_h_Code_writeNode d x y S ∧ gx_q_Code_writeNode x y S (gm_g_Code_writeNode d x y S) := by
  intro d
  induction d with
  | zero => intro x y S a0 a1 a2 a3 a4 a5 hd; exfalso; omega
  | succ d ih =>
    intro x y S a0 a1 a2 a3 a4 a5 hd
    rw [gm_h_Code_writeNode, gm_g_Code_writeNode]
    exact gx_s_Code_writeNode _ _ (41 - d) (fun x y S hc a0 a1 a2 a3 a4 a5 => ih x y S a0 a1 a2 a3 a4 a5 (by omega)) x y S a0 a1 a2 a3 a4 a5 (by omega)
abbrev gx_q_Code_write (S : gm_S × gm_S) (z : Int32 × (gm_S × gm_S)) : Prop := (gm_iN 200 (z.2.1.2.2 5))
set_option maxRecDepth 100000 in
theorem gx_s_Code_write_23 (S : gm_S × gm_S) (r9 : Int32) (u9 : gm_S × gm_S) (r17 : Int32) (u17 : gm_S × gm_S) (h1 : gm_iN 200 (S.1.2.2 5)) (h2 : gm_iT (S.2.2.2 11) (S.2.2.2 12) (S.2.2.2 13) (S.2.1 2) (S.2.1 3) (S.2.1 4) (S.2.1 5) (S.2.1 10)) : ∀ (n23 : Nat) (v1_23 : Int32) (S_23 : gm_S × gm_S), (gm_iN 200 (S_23.1.2.2 5)) → (0 ≤ v1_23.toInt) → (v1_23.toInt ≤ 8) → (8 < v1_23.toInt + n23) → gm_p_Code_write_23 S r9 u9 r17 u17 n23 v1_23 S_23 ∧ gx_q_Code_write S (gm_f_Code_write_23 S r9 u9 r17 u17 n23 v1_23 S_23) := by
  intro n23
  induction n23 with
  | zero =>
    intro v1_23 S_23 h3 h4 h5 h6; exfalso; skip; omega
  | succ n23 ih =>
    intro v1_23 S_23 h3 h4 h5 h6
    rw [gm_p_Code_write_23, gm_f_Code_write_23]
    refine gx_if (Q := gx_q_Code_write S) (fun h7 => ?_) (fun h7 => ?_)
    · skip
      have h7_ := gx_le h7
      exact ⟨trivial, h3⟩
    · skip
      have h7_ := gx_len h7
      refine gx_in (Q := gx_q_Code_write S) (vp_in_iff.mpr (by omega)) ?_
      refine gx_in (Q := gx_q_Code_write S) (vp_in_iff.mpr (by omega)) ?_
      refine gx_ca (Q := gx_q_Code_write S) (gx_q_Code_writeNode _ _ _) (gx_z_Code_writeNode _ _ _ _ h3 h2 (show 0 ≤ (S.2.1 10 (Int32.toNatClampNeg v1_23)).toInt from (by have := h2.2.2.2.2.2.2.2 (Int32.toNatClampNeg v1_23); omega)) (show (S.2.1 10 (Int32.toNatClampNeg v1_23)).toInt ≤ 74 from (by have := h2.2.2.2.2.2.2.2 (Int32.toNatClampNeg v1_23); omega)) (show 0 ≤ (0 : Int32).toInt from (by have : (0 : Int32).toInt = 0 := (by decide); omega)) (show (0 : Int32).toInt ≤ 40 from (by have : (0 : Int32).toInt = 0 := (by decide); omega)) (show 40 < ((0 : Int32).toInt + 41) from (by have : (0 : Int32).toInt = 0 := (by decide); omega))) ?_
      intro r_h8 u55 h8
      have h8_0 : gm_iN 200 (u55.1.2.2 5) := h8
      refine gx_ca (Q := gx_q_Code_write S) (gx_q_Code_add _ _ _) (gx_s_Code_add _ _ _ h8_0 h2) ?_
      intro r62 u62 h9
      have h9_0 : gm_iN 200 (u62.1.2.2 5) := h9.1
      have h9_1 : ((-1) ≤ r62.toInt) ∧ (r62.toInt ≤ 199) := h9.2
      refine ih _ _ ?_ ?_ ?_ ?_
      · exact h9_0
      · exact (show 0 ≤ (v1_23 + 1).toInt from (by have := gx_ak v1_23 1 (1) (by decide); omega))
      · exact (show (v1_23 + 1).toInt ≤ 8 from (by have := gx_ak v1_23 1 (1) (by decide); omega))
      · exact (show 8 < ((v1_23 + 1).toInt + n23) from (by have := gx_ak v1_23 1 (1) (by decide); omega))
set_option maxRecDepth 100000 in
theorem gx_s_Code_write (S : gm_S × gm_S) (h1 : gm_iN 200 (S.1.2.2 5)) (h2 : gm_iT (S.2.2.2 11) (S.2.2.2 12) (S.2.2.2 13) (S.2.1 2) (S.2.1 3) (S.2.1 4) (S.2.1 5) (S.2.1 10)) : gm_p_Code_write S ∧ gx_q_Code_write S (gm_f_Code_write S) := by
  unfold gm_p_Code_write gm_f_Code_write
  refine gx_ca (Q := gx_q_Code_write S) (gx_q_Code_add _ _ _) (gx_s_Code_add _ _ _ (show 0 ≤ (0 : Int32).toInt ∧ (0 : Int32).toInt ≤ 200 from (by have : (0 : Int32).toInt = 0 := (by decide); omega)) h2) ?_
  intro r9 u9 h3
  have h3_0 : gm_iN 200 (u9.1.2.2 5) := h3.1
  have h3_1 : ((-1) ≤ r9.toInt) ∧ (r9.toInt ≤ 199) := h3.2
  refine gx_ca (Q := gx_q_Code_write S) (gx_q_Code_add _ _ _) (gx_s_Code_add _ _ _ h3_0 h2) ?_
  intro r17 u17 h4
  have h4_0 : gm_iN 200 (u17.1.2.2 5) := h4.1
  have h4_1 : ((-1) ≤ r17.toInt) ∧ (r17.toInt ≤ 199) := h4.2
  refine gx_s_Code_write_23 _ _ _ _ _ ?_ ?_ _ _ _ ?_ ?_ ?_ ?_
  · exact h1
  · exact h2
  · exact h4_0
  · exact (show 0 ≤ (0 : Int32).toInt from (by have : (0 : Int32).toInt = 0 := (by decide); omega))
  · exact (show (0 : Int32).toInt ≤ 8 from (by have : (0 : Int32).toInt = 0 := (by decide); omega))
  · exact (show 8 < ((0 : Int32).toInt + 200) from (by have : (0 : Int32).toInt = 0 := (by decide); omega))
