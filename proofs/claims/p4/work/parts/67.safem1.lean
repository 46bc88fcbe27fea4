theorem gx_mu (x y : Int32) : (x * y).toInt = x.toInt * y.toInt ∨ 2147483648 ≤ x.toInt * y.toInt ∨ x.toInt * y.toInt < -2147483648 := by
  rw [Int32.toInt_mul]
  by_cases h : 2147483648 ≤ x.toInt * y.toInt ∨ x.toInt * y.toInt < -2147483648
  · exact Or.inr h
  · exact Or.inl (Int.bmod_eq_of_le (by omega) (by omega))
theorem gx_mk (x y : Int32) (k : Int) (hk : x.toInt = k) : (x * y).toInt = k * y.toInt ∨ 2147483648 ≤ k * y.toInt ∨ k * y.toInt < -2147483648 := by rw [← hk]; exact gx_mu x y
theorem gx_us (f : Nat → Int32) (k : Nat) (x : Int32) : upd f k x k = x := if_pos rfl
abbrev gx_q_MD_peek (S : gm_S) (z : Int32 × (gm_S)) : Prop := ((((z.1.toInt = 0) ∧ ((S.2.2 2).toInt ≤ (S.2.2 19).toInt)) ∨ ((32 ≤ z.1.toInt) ∧ ((z.1.toInt ≤ 126) ∧ ((S.2.2 19).toInt < (S.2.2 2).toInt)))) ∧ (z.1 = (gm_f_MD_peek S).1))
theorem gx_s_MD_peek (S : gm_S) (h1 : gm_iW 50 (S.2.2 2) (S.1 3)) (h2 : gm_iN 1 (S.2.2 5)) (h3 : 0 ≤ (S.2.2 19).toInt) : gm_p_MD_peek S ∧ gx_q_MD_peek S (gm_f_MD_peek S) := by
  refine (fun (h : gm_p_MD_peek S ∧ (fun z : Int32 × gm_S => ((z.1.toInt = 0) ∧ ((S.2.2 2).toInt ≤ (S.2.2 19).toInt)) ∨ ((32 ≤ z.1.toInt) ∧ ((z.1.toInt ≤ 126) ∧ ((S.2.2 19).toInt < (S.2.2 2).toInt)))) (gm_f_MD_peek S)) => ⟨h.1, h.2, rfl⟩) ?_
  unfold gm_p_MD_peek gm_f_MD_peek
  refine gx_if (Q := fun z : Int32 × gm_S => ((z.1.toInt = 0) ∧ ((S.2.2 2).toInt ≤ (S.2.2 19).toInt)) ∨ ((32 ≤ z.1.toInt) ∧ ((z.1.toInt ≤ 126) ∧ ((S.2.2 19).toInt < (S.2.2 2).toInt)))) (fun h => ⟨trivial, Or.inl ⟨(show (0 : Int32).toInt = 0 by decide), gx_le h⟩⟩) (fun h => ?_)
  have a := gx_len h
  refine gx_in (Q := fun z : Int32 × gm_S => ((z.1.toInt = 0) ∧ ((S.2.2 2).toInt ≤ (S.2.2 19).toInt)) ∨ ((32 ≤ z.1.toInt) ∧ ((z.1.toInt ≤ 126) ∧ ((S.2.2 19).toInt < (S.2.2 2).toInt)))) (vp_in_iff.mpr (by omega)) ⟨trivial, Or.inr ?_⟩
  have hc : ((Int32.toNatClampNeg (S.2.2 19) : Nat) : Int) = (S.2.2 19).toInt := by
    obtain ⟨j, hj, e⟩ := nI_of (x := S.2.2 19) (fun h9 => by have := gx_ltr (k := 0) (by decide) h9; omega)
    rw [e, nI_clamp hj, nI_toInt hj]
  have b := h1.2 (Int32.toNatClampNeg (S.2.2 19)) (by omega)
  exact ⟨b.1, b.2, a⟩
abbrev gx_q_MD_create (x : Int32) (y : Int32) (w : Int32) (S : gm_S) (z : Int32 × (gm_S)) : Prop := (((z.2.1 9 (Int32.toNatClampNeg (S.2.2 5))).toInt = ((S.1 9 (Int32.toNatClampNeg (S.2.2 5))).toInt + 1)) ∧ (z.1.toInt = ((160 * (S.2.2 5).toInt) + (S.1 9 (Int32.toNatClampNeg (S.2.2 5))).toInt)))
theorem gx_s_MD_create (x : Int32) (y : Int32) (w : Int32) (S : gm_S) (h1 : gm_iW 50 (S.2.2 2) (S.1 3)) (h2 : gm_iN 1 (S.2.2 5)) (h3 : 0 ≤ (S.1 9 (Int32.toNatClampNeg (S.2.2 5))).toInt) (h4 : (S.1 9 (Int32.toNatClampNeg (S.2.2 5))).toInt ≤ 150) : gm_p_MD_create x y w S ∧ gx_q_MD_create x y w S (gm_f_MD_create x y w S) := by
  unfold gm_p_MD_create gm_f_MD_create
  have m := gx_mk 160 (S.2.2 5) 160 (gx_lit 160 (by decide))
  have a := gx_ad (160 * (S.2.2 5)) ((S.1 9) (Int32.toNatClampNeg (S.2.2 5)))
  have b := gx_ak ((S.1 9) (Int32.toNatClampNeg (S.2.2 5))) 1 1 (by decide)
  have v : (160 * (S.2.2 5) + (S.1 9) (Int32.toNatClampNeg (S.2.2 5))).toInt = 160 * (S.2.2 5).toInt + (S.1 9 (Int32.toNatClampNeg (S.2.2 5))).toInt := by omega
  have i1 : vp_in (S.2.2 5) 2 := vp_in_iff.mpr (by omega)
  have i2 : vp_in (160 * (S.2.2 5) + (S.1 9) (Int32.toNatClampNeg (S.2.2 5))) 320 := vp_in_iff.mpr (by omega)
  refine ⟨⟨i1, i1, i1, i2, i2, i2, i1, i2, i2, i2, trivial⟩, ?_, v⟩
  show (upd (S.1 9) (Int32.toNatClampNeg (S.2.2 5)) ((S.1 9) (Int32.toNatClampNeg (S.2.2 5)) + 1) (Int32.toNatClampNeg (S.2.2 5))).toInt = (S.1 9 (Int32.toNatClampNeg (S.2.2 5))).toInt + 1
  rw [gx_us]
  omega
abbrev gx_q_MD_refuse (S : gm_S) (z : Int32 × (gm_S)) : Prop := ((z.2.2.2 24).toInt = 1)
set_option maxRecDepth 100000 in
theorem gx_s_MD_refuse (S : gm_S) (h1 : gm_iW 50 (S.2.2 2) (S.1 3)) (h2 : gm_iN 1 (S.2.2 5)) : gm_p_MD_refuse S ∧ gx_q_MD_refuse S (gm_f_MD_refuse S) := by
  unfold gm_p_MD_refuse gm_f_MD_refuse
  exact ⟨trivial, (show (1 : Int32).toInt = 1 from (by have : (1 : Int32).toInt = 1 := (by decide); omega))⟩
abbrev gx_q_MD_closing (x : Int32) (z : Int32 × (Unit)) : Prop := ((41 ≤ z.1.toInt) ∧ (z.1.toInt ≤ 126))
set_option maxRecDepth 100000 in
theorem gx_s_MD_closing (x : Int32) : gm_p_MD_closing x ∧ gx_q_MD_closing x (gm_f_MD_closing x) := by
  unfold gm_p_MD_closing gm_f_MD_closing
  refine gx_if (Q := gx_q_MD_closing x) (fun h1 => ?_) (fun h1 => ?_)
  · skip
    have h1_ := gx_eqr (k := 40) (gx_lit 40 (by decide)) h1
    exact ⟨trivial, (show (41 ≤ (41 : Int32).toInt) ∧ ((41 : Int32).toInt ≤ 126) from (by have : (41 : Int32).toInt = 41 := gx_lit 41 (by decide); omega))⟩
  · skip
    have h1_ := gx_eqnr (k := 40) (gx_lit 40 (by decide)) h1
    refine gx_if (Q := gx_q_MD_closing x) (fun h2 => ?_) (fun h2 => ?_)
    · skip
      have h2_ := gx_eqr (k := 123) (gx_lit 123 (by decide)) h2
      exact ⟨trivial, (show (41 ≤ (125 : Int32).toInt) ∧ ((125 : Int32).toInt ≤ 126) from (by have : (125 : Int32).toInt = 125 := gx_lit 125 (by decide); omega))⟩
    · skip
      have h2_ := gx_eqnr (k := 123) (gx_lit 123 (by decide)) h2
      exact ⟨trivial, (show (41 ≤ (59 : Int32).toInt) ∧ ((59 : Int32).toInt ≤ 126) from (by have : (59 : Int32).toInt = 59 := gx_lit 59 (by decide); omega))⟩
abbrev gx_q_MD_ruleOf (x : Int32) (y : Int32) (S : gm_S) (z : Int32 × (gm_S)) : Prop := ((-1 ≤ z.1.toInt) ∧ (z.1.toInt ≤ 7))
set_option maxRecDepth 100000 in
theorem gx_s_MD_ruleOf_2 (x : Int32) (y : Int32) (S : gm_S) (h1 : gm_iW 50 (S.2.2 2) (S.1 3)) (h2 : gm_iN 1 (S.2.2 5)) (h3 : 0 ≤ x.toInt) (h4 : x.toInt ≤ 1) (h5 : (S.1 6 (Int32.toNatClampNeg x)).toInt ≤ 8) : ∀ (n2 : Nat) (v3_2 : Int32) (S_2 : gm_S), (0 ≤ v3_2.toInt) → (v3_2.toInt ≤ 8) → (8 < v3_2.toInt + n2) → gm_p_MD_ruleOf_2 x y S n2 v3_2 S_2 ∧ gx_q_MD_ruleOf x y S (gm_f_MD_ruleOf_2 x y S n2 v3_2 S_2) := by
  intro n2
  induction n2 with
  | zero =>
    intro v3_2 S_2 h6 h7 h8; exfalso; skip; omega
  | succ n2 ih =>
    intro v3_2 S_2 h6 h7 h8
    rw [gm_p_MD_ruleOf_2, gm_f_MD_ruleOf_2]
    refine gx_in (Q := gx_q_MD_ruleOf x y S) (vp_in_iff.mpr (by omega)) ?_
    refine gx_if (Q := gx_q_MD_ruleOf x y S) (fun h9 => ?_) (fun h9 => ?_)
    · skip
      have h9_ := gx_le h9
      exact ⟨trivial, (show ((-1) ≤ ((-1) : Int32).toInt) ∧ (((-1) : Int32).toInt ≤ 7) from (by have : ((-1) : Int32).toInt = -1 := (by decide); omega))⟩
    · skip
      have h9_ := gx_len h9
      refine gx_in (Q := gx_q_MD_ruleOf x y S) (vp_in_iff.mpr (by have := gx_ad (8 * x) v3_2; have := gx_mk 8 x 8 (gx_lit 8 (by decide)); omega)) ?_
      refine gx_if (Q := gx_q_MD_ruleOf x y S) (fun h10 => ?_) (fun h10 => ?_)
      · skip
        clear h10
        exact ⟨trivial, (show ((-1) ≤ v3_2.toInt) ∧ (v3_2.toInt ≤ 7) from (by omega))⟩
      · skip
        clear h10
        refine ih _ _ ?_ ?_ ?_
        · exact (show 0 ≤ (v3_2 + 1).toInt from (by have := gx_ak v3_2 1 (1) (by decide); omega))
        · exact (show (v3_2 + 1).toInt ≤ 8 from (by have := gx_ak v3_2 1 (1) (by decide); omega))
        · exact (show 8 < ((v3_2 + 1).toInt + n2) from (by have := gx_ak v3_2 1 (1) (by decide); omega))
set_option maxRecDepth 100000 in
theorem gx_s_MD_ruleOf (x : Int32) (y : Int32) (S : gm_S) (h1 : gm_iW 50 (S.2.2 2) (S.1 3)) (h2 : gm_iN 1 (S.2.2 5)) (h3 : 0 ≤ x.toInt) (h4 : x.toInt ≤ 1) (h5 : (S.1 6 (Int32.toNatClampNeg x)).toInt ≤ 8) : gm_p_MD_ruleOf x y S ∧ gx_q_MD_ruleOf x y S (gm_f_MD_ruleOf x y S) := by
  unfold gm_p_MD_ruleOf gm_f_MD_ruleOf
  refine gx_s_MD_ruleOf_2 _ _ _ ?_ ?_ ?_ ?_ ?_ _ _ _ ?_ ?_ ?_
  · exact h1
  · exact h2
  · exact (show 0 ≤ x.toInt from (by omega))
  · exact (show x.toInt ≤ 1 from (by omega))
  · exact (show (S.1 6 (Int32.toNatClampNeg x)).toInt ≤ 8 from (by omega))
  · exact (show 0 ≤ (0 : Int32).toInt from (by have : (0 : Int32).toInt = 0 := (by decide); omega))
  · exact (show (0 : Int32).toInt ≤ 8 from (by have : (0 : Int32).toInt = 0 := (by decide); omega))
  · exact (show 8 < ((0 : Int32).toInt + 200) from (by have : (0 : Int32).toInt = 0 := (by decide); omega))
abbrev gx_q_MD_include (x : Int32) (y : Int32) (w : Int32) (S : gm_S) (z : Int32 × (gm_S)) : Prop := True
set_option maxRecDepth 100000 in
theorem gx_s_MD_include_3 (x : Int32) (y : Int32) (w : Int32) (S : gm_S) (h1 : gm_iW 50 (S.2.2 2) (S.1 3)) (h2 : gm_iN 1 (S.2.2 5)) (h3 : 0 ≤ x.toInt) (h4 : x.toInt ≤ 319) (h5 : 0 ≤ y.toInt) (h6 : y.toInt ≤ 126) (h7 : 0 ≤ w.toInt) (h8 : w.toInt ≤ 126) : ∀ (n3 : Nat) (v4_3 : Int32) (S_3 : gm_S), (0 ≤ v4_3.toInt) → (v4_3.toInt ≤ 127) → (127 < v4_3.toInt + n3) → gm_p_MD_include_3 x y w S n3 v4_3 S_3 ∧ gx_q_MD_include x y w S (gm_f_MD_include_3 x y w S n3 v4_3 S_3) := by
  intro n3
  induction n3 with
  | zero =>
    intro v4_3 S_3 h9 h10 h11; exfalso; skip; omega
  | succ n3 ih =>
    intro v4_3 S_3 h9 h10 h11
    rw [gm_p_MD_include_3, gm_f_MD_include_3]
    refine gx_if (Q := gx_q_MD_include x y w S) (fun h12 => ?_) (fun h12 => ?_)
    · skip
      have h12_ := gx_lt h12
      exact ⟨trivial, trivial⟩
    · skip
      have h12_ := gx_ltn h12
      refine gx_if (Q := gx_q_MD_include x y w S) (fun h13 => ?_) (fun h13 => ?_)
      · skip
        have h13_ := gx_lel (k := 96) (gx_lit 96 (by decide)) h13
        refine gx_in (Q := gx_q_MD_include x y w S) (vp_in_iff.mpr (by omega)) ?_
        refine gx_in (Q := gx_q_MD_include x y w S) (vp_in_iff.mpr (by omega)) ?_
        refine ih _ _ ?_ ?_ ?_
        · exact (show 0 ≤ (v4_3 + 1).toInt from (by have := gx_ak v4_3 1 (1) (by decide); omega))
        · exact (show (v4_3 + 1).toInt ≤ 127 from (by have := gx_ak v4_3 1 (1) (by decide); omega))
        · exact (show 127 < ((v4_3 + 1).toInt + n3) from (by have := gx_ak v4_3 1 (1) (by decide); omega))
      · skip
        have h13_ := gx_lenl (k := 96) (gx_lit 96 (by decide)) h13
        refine gx_in (Q := gx_q_MD_include x y w S) (vp_in_iff.mpr (by omega)) ?_
        refine gx_in (Q := gx_q_MD_include x y w S) (vp_in_iff.mpr (by omega)) ?_
        refine ih _ _ ?_ ?_ ?_
        · exact (show 0 ≤ (v4_3 + 1).toInt from (by have := gx_ak v4_3 1 (1) (by decide); omega))
        · exact (show (v4_3 + 1).toInt ≤ 127 from (by have := gx_ak v4_3 1 (1) (by decide); omega))
        · exact (show 127 < ((v4_3 + 1).toInt + n3) from (by have := gx_ak v4_3 1 (1) (by decide); omega))
set_option maxRecDepth 100000 in
theorem gx_s_MD_include (x : Int32) (y : Int32) (w : Int32) (S : gm_S) (h1 : gm_iW 50 (S.2.2 2) (S.1 3)) (h2 : gm_iN 1 (S.2.2 5)) (h3 : 0 ≤ x.toInt) (h4 : x.toInt ≤ 319) (h5 : 0 ≤ y.toInt) (h6 : y.toInt ≤ 126) (h7 : 0 ≤ w.toInt) (h8 : w.toInt ≤ 126) : gm_p_MD_include x y w S ∧ gx_q_MD_include x y w S (gm_f_MD_include x y w S) := by
  unfold gm_p_MD_include gm_f_MD_include
  refine gx_s_MD_include_3 _ _ _ _ ?_ ?_ ?_ ?_ ?_ ?_ ?_ ?_ _ _ _ ?_ ?_ ?_
  · exact h1
  · exact h2
  · exact (show 0 ≤ x.toInt from (by omega))
  · exact (show x.toInt ≤ 319 from (by omega))
  · exact (show 0 ≤ y.toInt from (by omega))
  · exact (show y.toInt ≤ 126 from (by omega))
  · exact (show 0 ≤ w.toInt from (by omega))
  · exact (show w.toInt ≤ 126 from (by omega))
  · exact h5
  · exact (show y.toInt ≤ 127 from (by omega))
  · exact (show 127 < (y.toInt + 200) from (by omega))
abbrev gx_q_MD_primary (x : Int32) (S : gm_S) (z : Int32 × (gm_S)) : Prop := (((z.2.2.2 21).toInt = ((S.2.2 21).toInt + 1)) ∧ (((z.2.2.2 23).toInt = 0) ∧ (((S.2.2 19).toInt ≤ (z.2.2.2 19).toInt) ∧ (((z.2.2.2 19).toInt ≤ ((S.2.2 19).toInt + 1)) ∧ (((z.2.2.2 19).toInt ≤ (S.2.2 2).toInt) ∧ (((S.1 9 (Int32.toNatClampNeg (S.2.2 5))).toInt ≤ (z.2.1 9 (Int32.toNatClampNeg (S.2.2 5))).toInt) ∧ ((((z.2.1 9 (Int32.toNatClampNeg (S.2.2 5))).toInt ≤ ((S.1 9 (Int32.toNatClampNeg (S.2.2 5))).toInt + (2 * ((z.2.2.2 19).toInt - (S.2.2 19).toInt)))) ∨ (((S.2.2 23).toInt ≠ 0) ∧ ((z.2.1 9 (Int32.toNatClampNeg (S.2.2 5))).toInt ≤ (((S.1 9 (Int32.toNatClampNeg (S.2.2 5))).toInt + (2 * ((z.2.2.2 19).toInt - (S.2.2 19).toInt))) + 1)))))))))))
set_option maxRecDepth 100000 in
theorem gx_s_MD_primary_j106 (x : Int32) (S : gm_S) (r3 : Int32) (u3 : gm_S) (v2_j76 : Int32) (S_j76 : gm_S) (v2_j106 : Int32) (S_j106 : gm_S) (h1 : gm_iW 50 (S.2.2 2) (S.1 3)) (h2 : gm_iN 1 (S.2.2 5)) (h3 : 0 ≤ (S.1 9 (Int32.toNatClampNeg (S.2.2 5))).toInt) (h4 : (S.1 9 (Int32.toNatClampNeg (S.2.2 5))).toInt ≤ 145) (h5 : 0 ≤ (S.2.2 19).toInt) (h6 : (S.2.2 19).toInt ≤ (S.2.2 2).toInt) (h7 : 0 ≤ (S.2.2 21).toInt) (h8 : (S.2.2 21).toInt ≤ 58) (h9 : (S.1 9 (Int32.toNatClampNeg (S.2.2 5))).toInt ≤ (S_j106.1 9 (Int32.toNatClampNeg (S.2.2 5))).toInt) (h10 : (S.2.2 19).toInt ≤ (S_j106.2.2 19).toInt) (h11 : (S_j106.2.2 19).toInt ≤ ((S.2.2 19).toInt + 1)) (h12 : (S_j106.2.2 19).toInt ≤ (S.2.2 2).toInt) (h13 : (S_j106.2.2 21).toInt = (S.2.2 21).toInt) (h14 : ((S_j106.1 9 (Int32.toNatClampNeg (S.2.2 5))).toInt ≤ ((S.1 9 (Int32.toNatClampNeg (S.2.2 5))).toInt + (2 * ((S_j106.2.2 19).toInt - (S.2.2 19).toInt)))) ∨ (((S.2.2 23).toInt ≠ 0) ∧ ((S_j106.1 9 (Int32.toNatClampNeg (S.2.2 5))).toInt ≤ (((S.1 9 (Int32.toNatClampNeg (S.2.2 5))).toInt + (2 * ((S_j106.2.2 19).toInt - (S.2.2 19).toInt))) + 1)))) : gm_p_MD_primary_j106 x S r3 u3 v2_j76 S_j76 v2_j106 S_j106 ∧ gx_q_MD_primary x S (gm_f_MD_primary_j106 x S r3 u3 v2_j76 S_j76 v2_j106 S_j106) := by
  unfold gm_p_MD_primary_j106 gm_f_MD_primary_j106
  refine gx_in (Q := gx_q_MD_primary x S) (vp_in_iff.mpr (by omega)) ?_
  exact ⟨trivial, (show (((S_j106.2.2 21) + 1).toInt = ((S.2.2 21).toInt + 1)) ∧ (((0 : Int32).toInt = 0) ∧ (((S.2.2 19).toInt ≤ (S_j106.2.2 19).toInt) ∧ (((S_j106.2.2 19).toInt ≤ ((S.2.2 19).toInt + 1)) ∧ (((S_j106.2.2 19).toInt ≤ (S.2.2 2).toInt) ∧ (((S.1 9 (Int32.toNatClampNeg (S.2.2 5))).toInt ≤ (S_j106.1 9 (Int32.toNatClampNeg (S.2.2 5))).toInt) ∧ (((S_j106.1 9 (Int32.toNatClampNeg (S.2.2 5))).toInt ≤ ((S.1 9 (Int32.toNatClampNeg (S.2.2 5))).toInt + (2 * ((S_j106.2.2 19).toInt - (S.2.2 19).toInt)))) ∨ (((S.2.2 23).toInt ≠ 0) ∧ ((S_j106.1 9 (Int32.toNatClampNeg (S.2.2 5))).toInt ≤ (((S.1 9 (Int32.toNatClampNeg (S.2.2 5))).toInt + (2 * ((S_j106.2.2 19).toInt - (S.2.2 19).toInt))) + 1))))))))) from (by have := gx_ak (S_j106.2.2 21) 1 (1) (by decide); have : (0 : Int32).toInt = 0 := (by decide); omega))⟩
set_option maxRecDepth 100000 in
theorem gx_s_MD_primary_j100 (x : Int32) (S : gm_S) (r3 : Int32) (u3 : gm_S) (v2_j76 : Int32) (S_j76 : gm_S) (k0_j100 : Int32) (S_j100 : gm_S) (h1 : gm_iW 50 (S.2.2 2) (S.1 3)) (h2 : gm_iN 1 (S.2.2 5)) (h3 : 0 ≤ (S.1 9 (Int32.toNatClampNeg (S.2.2 5))).toInt) (h4 : (S.1 9 (Int32.toNatClampNeg (S.2.2 5))).toInt ≤ 145) (h5 : 0 ≤ (S.2.2 19).toInt) (h6 : (S.2.2 19).toInt ≤ (S.2.2 2).toInt) (h7 : 0 ≤ (S.2.2 21).toInt) (h8 : (S.2.2 21).toInt ≤ 58) (h9 : (S.1 9 (Int32.toNatClampNeg (S.2.2 5))).toInt ≤ (S_j100.1 9 (Int32.toNatClampNeg (S.2.2 5))).toInt) (h10 : (S.2.2 19).toInt ≤ (S_j100.2.2 19).toInt) (h11 : (S_j100.2.2 19).toInt ≤ ((S.2.2 19).toInt + 1)) (h12 : (S_j100.2.2 19).toInt ≤ (S.2.2 2).toInt) (h13 : (S_j100.2.2 21).toInt = (S.2.2 21).toInt) (h14 : (S_j100.2.2 23).toInt = (S.2.2 23).toInt) (h15 : (S_j100.1 9 (Int32.toNatClampNeg (S.2.2 5))).toInt ≤ ((S.1 9 (Int32.toNatClampNeg (S.2.2 5))).toInt + (2 * ((S_j100.2.2 19).toInt - (S.2.2 19).toInt)))) (h16 : (S.2.2 23).toInt ≠ 0) : gm_p_MD_primary_j100 x S r3 u3 v2_j76 S_j76 k0_j100 S_j100 ∧ gx_q_MD_primary x S (gm_f_MD_primary_j100 x S r3 u3 v2_j76 S_j76 k0_j100 S_j100) := by
  unfold gm_p_MD_primary_j100 gm_f_MD_primary_j100
  refine gx_ca (Q := gx_q_MD_primary x S) (gx_q_MD_create _ _ _ _) (gx_s_MD_create _ _ _ _ h1 h2 (show 0 ≤ (S_j100.1 9 (Int32.toNatClampNeg (S.2.2 5))).toInt from (by omega)) (show (S_j100.1 9 (Int32.toNatClampNeg (S.2.2 5))).toInt ≤ 150 from (by omega))) ?_
  intro r102 u102 h17
  have h17_0 : ((u102.1 9 (Int32.toNatClampNeg (S.2.2 5))).toInt = ((S_j100.1 9 (Int32.toNatClampNeg (S.2.2 5))).toInt + 1)) ∧ (r102.toInt = ((160 * (S.2.2 5).toInt) + (S_j100.1 9 (Int32.toNatClampNeg (S.2.2 5))).toInt)) := h17
  clear h17
  refine gx_s_MD_primary_j106 _ _ _ _ _ _ _ _ ?_ ?_ ?_ ?_ ?_ ?_ ?_ ?_ ?_ ?_ ?_ ?_ ?_ ?_
  · exact h1
  · exact h2
  · exact (show 0 ≤ (S.1 9 (Int32.toNatClampNeg (S.2.2 5))).toInt from (by omega))
  · exact (show (S.1 9 (Int32.toNatClampNeg (S.2.2 5))).toInt ≤ 145 from (by omega))
  · exact (show 0 ≤ (S.2.2 19).toInt from (by omega))
  · exact (show (S.2.2 19).toInt ≤ (S.2.2 2).toInt from (by omega))
  · exact (show 0 ≤ (S.2.2 21).toInt from (by omega))
  · exact (show (S.2.2 21).toInt ≤ 58 from (by omega))
  · exact (show (S.1 9 (Int32.toNatClampNeg (S.2.2 5))).toInt ≤ (u102.1 9 (Int32.toNatClampNeg (S.2.2 5))).toInt from (by omega))
  · exact (show (S.2.2 19).toInt ≤ (S_j100.2.2 19).toInt from (by omega))
  · exact (show (S_j100.2.2 19).toInt ≤ ((S.2.2 19).toInt + 1) from (by omega))
  · exact (show (S_j100.2.2 19).toInt ≤ (S.2.2 2).toInt from (by omega))
  · exact (show (S_j100.2.2 21).toInt = (S.2.2 21).toInt from (by omega))
  · exact (show ((u102.1 9 (Int32.toNatClampNeg (S.2.2 5))).toInt ≤ ((S.1 9 (Int32.toNatClampNeg (S.2.2 5))).toInt + (2 * ((S_j100.2.2 19).toInt - (S.2.2 19).toInt)))) ∨ (((S.2.2 23).toInt ≠ 0) ∧ ((u102.1 9 (Int32.toNatClampNeg (S.2.2 5))).toInt ≤ (((S.1 9 (Int32.toNatClampNeg (S.2.2 5))).toInt + (2 * ((S_j100.2.2 19).toInt - (S.2.2 19).toInt))) + 1))) from (by omega))
set_option maxRecDepth 100000 in
theorem gx_s_MD_primary_j76 (x : Int32) (S : gm_S) (r3 : Int32) (u3 : gm_S) (v2_j76 : Int32) (S_j76 : gm_S) (h1 : gm_iW 50 (S.2.2 2) (S.1 3)) (h2 : gm_iN 1 (S.2.2 5)) (h3 : 0 ≤ (S.1 9 (Int32.toNatClampNeg (S.2.2 5))).toInt) (h4 : (S.1 9 (Int32.toNatClampNeg (S.2.2 5))).toInt ≤ 145) (h5 : 0 ≤ (S.2.2 19).toInt) (h6 : (S.2.2 19).toInt ≤ (S.2.2 2).toInt) (h7 : 0 ≤ (S.2.2 21).toInt) (h8 : (S.2.2 21).toInt ≤ 58) (h9 : (S.1 9 (Int32.toNatClampNeg (S.2.2 5))).toInt ≤ (S_j76.1 9 (Int32.toNatClampNeg (S.2.2 5))).toInt) (h10 : (S.2.2 19).toInt ≤ (S_j76.2.2 19).toInt) (h11 : (S_j76.2.2 19).toInt ≤ ((S.2.2 19).toInt + 1)) (h12 : (S_j76.2.2 19).toInt ≤ (S.2.2 2).toInt) (h13 : (S_j76.2.2 21).toInt = (S.2.2 21).toInt) (h14 : (S_j76.2.2 23).toInt = (S.2.2 23).toInt) (h15 : (S_j76.1 9 (Int32.toNatClampNeg (S.2.2 5))).toInt ≤ ((S.1 9 (Int32.toNatClampNeg (S.2.2 5))).toInt + (2 * ((S_j76.2.2 19).toInt - (S.2.2 19).toInt)))) : gm_p_MD_primary_j76 x S r3 u3 v2_j76 S_j76 ∧ gx_q_MD_primary x S (gm_f_MD_primary_j76 x S r3 u3 v2_j76 S_j76) := by
  unfold gm_p_MD_primary_j76 gm_f_MD_primary_j76
  refine gx_if (Q := gx_q_MD_primary x S) (fun h16 => ?_) (fun h16 => ?_)
  · skip
    have h16_ := gx_eqr (k := 0) (by decide) h16
    refine gx_s_MD_primary_j106 _ _ _ _ _ _ _ _ ?_ ?_ ?_ ?_ ?_ ?_ ?_ ?_ ?_ ?_ ?_ ?_ ?_ ?_
    · exact h1
    · exact h2
    · exact (show 0 ≤ (S.1 9 (Int32.toNatClampNeg (S.2.2 5))).toInt from (by omega))
    · exact (show (S.1 9 (Int32.toNatClampNeg (S.2.2 5))).toInt ≤ 145 from (by omega))
    · exact (show 0 ≤ (S.2.2 19).toInt from (by omega))
    · exact (show (S.2.2 19).toInt ≤ (S.2.2 2).toInt from (by omega))
    · exact (show 0 ≤ (S.2.2 21).toInt from (by omega))
    · exact (show (S.2.2 21).toInt ≤ 58 from (by omega))
    · exact (show (S.1 9 (Int32.toNatClampNeg (S.2.2 5))).toInt ≤ (S_j76.1 9 (Int32.toNatClampNeg (S.2.2 5))).toInt from (by omega))
    · exact (show (S.2.2 19).toInt ≤ (S_j76.2.2 19).toInt from (by omega))
    · exact (show (S_j76.2.2 19).toInt ≤ ((S.2.2 19).toInt + 1) from (by omega))
    · exact (show (S_j76.2.2 19).toInt ≤ (S.2.2 2).toInt from (by omega))
    · exact (show (S_j76.2.2 21).toInt = (S.2.2 21).toInt from (by omega))
    · exact (show ((S_j76.1 9 (Int32.toNatClampNeg (S.2.2 5))).toInt ≤ ((S.1 9 (Int32.toNatClampNeg (S.2.2 5))).toInt + (2 * ((S_j76.2.2 19).toInt - (S.2.2 19).toInt)))) ∨ (((S.2.2 23).toInt ≠ 0) ∧ ((S_j76.1 9 (Int32.toNatClampNeg (S.2.2 5))).toInt ≤ (((S.1 9 (Int32.toNatClampNeg (S.2.2 5))).toInt + (2 * ((S_j76.2.2 19).toInt - (S.2.2 19).toInt))) + 1))) from (by omega))
  · skip
    have h16_ := gx_eqnr (k := 0) (by decide) h16
    refine gx_if (Q := gx_q_MD_primary x S) (fun h17 => ?_) (fun h17 => ?_)
    · skip
      have h17_ := gx_eqr (k := 38) (gx_lit 38 (by decide)) h17
      refine gx_s_MD_primary_j100 _ _ _ _ _ _ _ _ ?_ ?_ ?_ ?_ ?_ ?_ ?_ ?_ ?_ ?_ ?_ ?_ ?_ ?_ ?_ ?_
      · exact h1
      · exact h2
      · exact (show 0 ≤ (S.1 9 (Int32.toNatClampNeg (S.2.2 5))).toInt from (by omega))
      · exact (show (S.1 9 (Int32.toNatClampNeg (S.2.2 5))).toInt ≤ 145 from (by omega))
      · exact (show 0 ≤ (S.2.2 19).toInt from (by omega))
      · exact (show (S.2.2 19).toInt ≤ (S.2.2 2).toInt from (by omega))
      · exact (show 0 ≤ (S.2.2 21).toInt from (by omega))
      · exact (show (S.2.2 21).toInt ≤ 58 from (by omega))
      · exact (show (S.1 9 (Int32.toNatClampNeg (S.2.2 5))).toInt ≤ (S_j76.1 9 (Int32.toNatClampNeg (S.2.2 5))).toInt from (by omega))
      · exact (show (S.2.2 19).toInt ≤ (S_j76.2.2 19).toInt from (by omega))
      · exact (show (S_j76.2.2 19).toInt ≤ ((S.2.2 19).toInt + 1) from (by omega))
      · exact (show (S_j76.2.2 19).toInt ≤ (S.2.2 2).toInt from (by omega))
      · exact (show (S_j76.2.2 21).toInt = (S.2.2 21).toInt from (by omega))
      · exact (show (S_j76.2.2 23).toInt = (S.2.2 23).toInt from (by omega))
      · exact (show (S_j76.1 9 (Int32.toNatClampNeg (S.2.2 5))).toInt ≤ ((S.1 9 (Int32.toNatClampNeg (S.2.2 5))).toInt + (2 * ((S_j76.2.2 19).toInt - (S.2.2 19).toInt))) from (by omega))
      · exact (show (S.2.2 23).toInt ≠ 0 from (by omega))
    · skip
      have h17_ := gx_eqnr (k := 38) (gx_lit 38 (by decide)) h17
      refine gx_s_MD_primary_j100 _ _ _ _ _ _ _ _ ?_ ?_ ?_ ?_ ?_ ?_ ?_ ?_ ?_ ?_ ?_ ?_ ?_ ?_ ?_ ?_
      · exact h1
      · exact h2
      · exact (show 0 ≤ (S.1 9 (Int32.toNatClampNeg (S.2.2 5))).toInt from (by omega))
      · exact (show (S.1 9 (Int32.toNatClampNeg (S.2.2 5))).toInt ≤ 145 from (by omega))
      · exact (show 0 ≤ (S.2.2 19).toInt from (by omega))
      · exact (show (S.2.2 19).toInt ≤ (S.2.2 2).toInt from (by omega))
      · exact (show 0 ≤ (S.2.2 21).toInt from (by omega))
      · exact (show (S.2.2 21).toInt ≤ 58 from (by omega))
      · exact (show (S.1 9 (Int32.toNatClampNeg (S.2.2 5))).toInt ≤ (S_j76.1 9 (Int32.toNatClampNeg (S.2.2 5))).toInt from (by omega))
      · exact (show (S.2.2 19).toInt ≤ (S_j76.2.2 19).toInt from (by omega))
      · exact (show (S_j76.2.2 19).toInt ≤ ((S.2.2 19).toInt + 1) from (by omega))
      · exact (show (S_j76.2.2 19).toInt ≤ (S.2.2 2).toInt from (by omega))
      · exact (show (S_j76.2.2 21).toInt = (S.2.2 21).toInt from (by omega))
      · exact (show (S_j76.2.2 23).toInt = (S.2.2 23).toInt from (by omega))
      · exact (show (S_j76.1 9 (Int32.toNatClampNeg (S.2.2 5))).toInt ≤ ((S.1 9 (Int32.toNatClampNeg (S.2.2 5))).toInt + (2 * ((S_j76.2.2 19).toInt - (S.2.2 19).toInt))) from (by omega))
      · exact (show (S.2.2 23).toInt ≠ 0 from (by omega))
set_option maxRecDepth 100000 in
theorem gx_s_MD_primary_j75 (x : Int32) (S : gm_S) (r3 : Int32) (u3 : gm_S) (S_j25 : gm_S) (k0_j49 : Int32) (S_j49 : gm_S) (r51 : Int32) (u51 : gm_S) (k0_j75 : Int32) (S_j75 : gm_S) (h1 : gm_iW 50 (S.2.2 2) (S.1 3)) (h2 : gm_iN 1 (S.2.2 5)) (h3 : 0 ≤ (S.1 9 (Int32.toNatClampNeg (S.2.2 5))).toInt) (h4 : (S.1 9 (Int32.toNatClampNeg (S.2.2 5))).toInt ≤ 145) (h5 : 0 ≤ (S.2.2 19).toInt) (h6 : (S.2.2 19).toInt ≤ (S.2.2 2).toInt) (h7 : 0 ≤ (S.2.2 21).toInt) (h8 : (S.2.2 21).toInt ≤ 58) (h9 : (S.1 9 (Int32.toNatClampNeg (S.2.2 5))).toInt ≤ (S_j75.1 9 (Int32.toNatClampNeg (S.2.2 5))).toInt) (h10 : (S.2.2 19).toInt ≤ (S_j75.2.2 19).toInt) (h11 : (S_j75.2.2 19).toInt ≤ ((S.2.2 19).toInt + 1)) (h12 : (S_j75.2.2 19).toInt ≤ (S.2.2 2).toInt) (h13 : (S_j75.2.2 21).toInt = (S.2.2 21).toInt) (h14 : (S_j75.2.2 23).toInt = (S.2.2 23).toInt) (h15 : (S_j75.1 9 (Int32.toNatClampNeg (S.2.2 5))).toInt ≤ ((S.1 9 (Int32.toNatClampNeg (S.2.2 5))).toInt + (2 * ((S_j75.2.2 19).toInt - (S.2.2 19).toInt)))) : gm_p_MD_primary_j75 x S r3 u3 S_j25 k0_j49 S_j49 r51 u51 k0_j75 S_j75 ∧ gx_q_MD_primary x S (gm_f_MD_primary_j75 x S r3 u3 S_j25 k0_j49 S_j49 r51 u51 k0_j75 S_j75) := by
  unfold gm_p_MD_primary_j75 gm_f_MD_primary_j75
  refine gx_s_MD_primary_j76 _ _ _ _ _ _ ?_ ?_ ?_ ?_ ?_ ?_ ?_ ?_ ?_ ?_ ?_ ?_ ?_ ?_ ?_
  · exact h1
  · exact h2
  · exact (show 0 ≤ (S.1 9 (Int32.toNatClampNeg (S.2.2 5))).toInt from (by omega))
  · exact (show (S.1 9 (Int32.toNatClampNeg (S.2.2 5))).toInt ≤ 145 from (by omega))
  · exact (show 0 ≤ (S.2.2 19).toInt from (by omega))
  · exact (show (S.2.2 19).toInt ≤ (S.2.2 2).toInt from (by omega))
  · exact (show 0 ≤ (S.2.2 21).toInt from (by omega))
  · exact (show (S.2.2 21).toInt ≤ 58 from (by omega))
  · exact (show (S.1 9 (Int32.toNatClampNeg (S.2.2 5))).toInt ≤ (S_j75.1 9 (Int32.toNatClampNeg (S.2.2 5))).toInt from (by omega))
  · exact (show (S.2.2 19).toInt ≤ (S_j75.2.2 19).toInt from (by omega))
  · exact (show (S_j75.2.2 19).toInt ≤ ((S.2.2 19).toInt + 1) from (by omega))
  · exact (show (S_j75.2.2 19).toInt ≤ (S.2.2 2).toInt from (by omega))
  · exact (show (S_j75.2.2 21).toInt = (S.2.2 21).toInt from (by omega))
  · exact (show (S_j75.2.2 23).toInt = (S.2.2 23).toInt from (by omega))
  · exact (show (S_j75.1 9 (Int32.toNatClampNeg (S.2.2 5))).toInt ≤ ((S.1 9 (Int32.toNatClampNeg (S.2.2 5))).toInt + (2 * ((S_j75.2.2 19).toInt - (S.2.2 19).toInt))) from (by omega))
set_option maxRecDepth 100000 in
theorem gx_s_MD_primary_j49 (x : Int32) (S : gm_S) (r3 : Int32) (u3 : gm_S) (S_j25 : gm_S) (k0_j49 : Int32) (S_j49 : gm_S) (h1 : gm_iW 50 (S.2.2 2) (S.1 3)) (h2 : gm_iN 1 (S.2.2 5)) (h3 : 0 ≤ (S.1 9 (Int32.toNatClampNeg (S.2.2 5))).toInt) (h4 : (S.1 9 (Int32.toNatClampNeg (S.2.2 5))).toInt ≤ 145) (h5 : 0 ≤ (S.2.2 19).toInt) (h6 : (S.2.2 19).toInt ≤ (S.2.2 2).toInt) (h7 : 0 ≤ (S.2.2 21).toInt) (h8 : (S.2.2 21).toInt ≤ 58) (h9 : (S_j49.1 9 (Int32.toNatClampNeg (S.2.2 5))).toInt = (S.1 9 (Int32.toNatClampNeg (S.2.2 5))).toInt) (h10 : (S_j49.2.2 19).toInt = ((S.2.2 19).toInt + 1)) (h11 : (S_j49.2.2 21).toInt = (S.2.2 21).toInt) (h12 : (S_j49.2.2 23).toInt = (S.2.2 23).toInt) (h13 : (S.2.2 19).toInt < (S.2.2 2).toInt) : gm_p_MD_primary_j49 x S r3 u3 S_j25 k0_j49 S_j49 ∧ gx_q_MD_primary x S (gm_f_MD_primary_j49 x S r3 u3 S_j25 k0_j49 S_j49) := by
  unfold gm_p_MD_primary_j49 gm_f_MD_primary_j49
  refine gx_ca (Q := gx_q_MD_primary x S) (gx_q_MD_create _ _ _ _) (gx_s_MD_create _ _ _ _ h1 h2 (show 0 ≤ (S_j49.1 9 (Int32.toNatClampNeg (S.2.2 5))).toInt from (by omega)) (show (S_j49.1 9 (Int32.toNatClampNeg (S.2.2 5))).toInt ≤ 150 from (by omega))) ?_
  intro r51 u51 h14
  have h14_0 : ((u51.1 9 (Int32.toNatClampNeg (S.2.2 5))).toInt = ((S_j49.1 9 (Int32.toNatClampNeg (S.2.2 5))).toInt + 1)) ∧ (r51.toInt = ((160 * (S.2.2 5).toInt) + (S_j49.1 9 (Int32.toNatClampNeg (S.2.2 5))).toInt)) := h14
  clear h14
  refine gx_if (Q := gx_q_MD_primary x S) (fun h15 => ?_) (fun h15 => ?_)
  · skip
    have h15_ := gx_eqr (k := 43) (gx_lit 43 (by decide)) h15
    refine gx_ca (Q := gx_q_MD_primary x S) (gx_q_MD_create _ _ _ _) (gx_s_MD_create _ _ _ _ h1 h2 (show 0 ≤ (u51.1 9 (Int32.toNatClampNeg (S.2.2 5))).toInt from (by omega)) (show (u51.1 9 (Int32.toNatClampNeg (S.2.2 5))).toInt ≤ 150 from (by omega))) ?_
    intro r67 u67 h16
    have h16_0 : ((u67.1 9 (Int32.toNatClampNeg (S.2.2 5))).toInt = ((u51.1 9 (Int32.toNatClampNeg (S.2.2 5))).toInt + 1)) ∧ (r67.toInt = ((160 * (S.2.2 5).toInt) + (u51.1 9 (Int32.toNatClampNeg (S.2.2 5))).toInt)) := h16
    clear h16
    refine gx_s_MD_primary_j75 _ _ _ _ _ _ _ _ _ _ _ ?_ ?_ ?_ ?_ ?_ ?_ ?_ ?_ ?_ ?_ ?_ ?_ ?_ ?_ ?_
    · exact h1
    · exact h2
    · exact (show 0 ≤ (S.1 9 (Int32.toNatClampNeg (S.2.2 5))).toInt from (by omega))
    · exact (show (S.1 9 (Int32.toNatClampNeg (S.2.2 5))).toInt ≤ 145 from (by omega))
    · exact (show 0 ≤ (S.2.2 19).toInt from (by omega))
    · exact (show (S.2.2 19).toInt ≤ (S.2.2 2).toInt from (by omega))
    · exact (show 0 ≤ (S.2.2 21).toInt from (by omega))
    · exact (show (S.2.2 21).toInt ≤ 58 from (by omega))
    · exact (show (S.1 9 (Int32.toNatClampNeg (S.2.2 5))).toInt ≤ (u67.1 9 (Int32.toNatClampNeg (S.2.2 5))).toInt from (by omega))
    · exact (show (S.2.2 19).toInt ≤ (S_j49.2.2 19).toInt from (by omega))
    · exact (show (S_j49.2.2 19).toInt ≤ ((S.2.2 19).toInt + 1) from (by omega))
    · exact (show (S_j49.2.2 19).toInt ≤ (S.2.2 2).toInt from (by omega))
    · exact (show (S_j49.2.2 21).toInt = (S.2.2 21).toInt from (by omega))
    · exact (show (S_j49.2.2 23).toInt = (S.2.2 23).toInt from (by omega))
    · exact (show (u67.1 9 (Int32.toNatClampNeg (S.2.2 5))).toInt ≤ ((S.1 9 (Int32.toNatClampNeg (S.2.2 5))).toInt + (2 * ((S_j49.2.2 19).toInt - (S.2.2 19).toInt))) from (by omega))
  · skip
    have h15_ := gx_eqnr (k := 43) (gx_lit 43 (by decide)) h15
    refine gx_s_MD_primary_j75 _ _ _ _ _ _ _ _ _ _ _ ?_ ?_ ?_ ?_ ?_ ?_ ?_ ?_ ?_ ?_ ?_ ?_ ?_ ?_ ?_
    · exact h1
    · exact h2
    · exact (show 0 ≤ (S.1 9 (Int32.toNatClampNeg (S.2.2 5))).toInt from (by omega))
    · exact (show (S.1 9 (Int32.toNatClampNeg (S.2.2 5))).toInt ≤ 145 from (by omega))
    · exact (show 0 ≤ (S.2.2 19).toInt from (by omega))
    · exact (show (S.2.2 19).toInt ≤ (S.2.2 2).toInt from (by omega))
    · exact (show 0 ≤ (S.2.2 21).toInt from (by omega))
    · exact (show (S.2.2 21).toInt ≤ 58 from (by omega))
    · exact (show (S.1 9 (Int32.toNatClampNeg (S.2.2 5))).toInt ≤ (u51.1 9 (Int32.toNatClampNeg (S.2.2 5))).toInt from (by omega))
    · exact (show (S.2.2 19).toInt ≤ (S_j49.2.2 19).toInt from (by omega))
    · exact (show (S_j49.2.2 19).toInt ≤ ((S.2.2 19).toInt + 1) from (by omega))
    · exact (show (S_j49.2.2 19).toInt ≤ (S.2.2 2).toInt from (by omega))
    · exact (show (S_j49.2.2 21).toInt = (S.2.2 21).toInt from (by omega))
    · exact (show (S_j49.2.2 23).toInt = (S.2.2 23).toInt from (by omega))
    · exact (show (u51.1 9 (Int32.toNatClampNeg (S.2.2 5))).toInt ≤ ((S.1 9 (Int32.toNatClampNeg (S.2.2 5))).toInt + (2 * ((S_j49.2.2 19).toInt - (S.2.2 19).toInt))) from (by omega))
set_option maxRecDepth 100000 in
theorem gx_s_MD_primary_j25 (x : Int32) (S : gm_S) (r3 : Int32) (u3 : gm_S) (S_j25 : gm_S) (h1 : gm_iW 50 (S.2.2 2) (S.1 3)) (h2 : gm_iN 1 (S.2.2 5)) (h3 : 0 ≤ (S.1 9 (Int32.toNatClampNeg (S.2.2 5))).toInt) (h4 : (S.1 9 (Int32.toNatClampNeg (S.2.2 5))).toInt ≤ 145) (h5 : 0 ≤ (S.2.2 19).toInt) (h6 : (S.2.2 19).toInt ≤ (S.2.2 2).toInt) (h7 : 0 ≤ (S.2.2 21).toInt) (h8 : (S.2.2 21).toInt ≤ 58) (h9 : (S_j25.1 9 (Int32.toNatClampNeg (S.2.2 5))).toInt = (S.1 9 (Int32.toNatClampNeg (S.2.2 5))).toInt) (h10 : (S_j25.2.2 19).toInt = (S.2.2 19).toInt) (h11 : (S_j25.2.2 21).toInt = (S.2.2 21).toInt) (h12 : (S_j25.2.2 23).toInt = (S.2.2 23).toInt) (h13 : (S.2.2 19).toInt < (S.2.2 2).toInt) : gm_p_MD_primary_j25 x S r3 u3 S_j25 ∧ gx_q_MD_primary x S (gm_f_MD_primary_j25 x S r3 u3 S_j25) := by
  unfold gm_p_MD_primary_j25 gm_f_MD_primary_j25
  refine gx_if (Q := gx_q_MD_primary x S) (fun h14 => ?_) (fun h14 => ?_)
  · skip
    have h14_ := gx_eqr (k := 63) (gx_lit 63 (by decide)) h14
    refine gx_s_MD_primary_j49 _ _ _ _ _ _ _ ?_ ?_ ?_ ?_ ?_ ?_ ?_ ?_ ?_ ?_ ?_ ?_ ?_
    · exact h1
    · exact h2
    · exact (show 0 ≤ (S.1 9 (Int32.toNatClampNeg (S.2.2 5))).toInt from (by omega))
    · exact (show (S.1 9 (Int32.toNatClampNeg (S.2.2 5))).toInt ≤ 145 from (by omega))
    · exact (show 0 ≤ (S.2.2 19).toInt from (by omega))
    · exact (show (S.2.2 19).toInt ≤ (S.2.2 2).toInt from (by omega))
    · exact (show 0 ≤ (S.2.2 21).toInt from (by omega))
    · exact (show (S.2.2 21).toInt ≤ 58 from (by omega))
    · exact (show (S_j25.1 9 (Int32.toNatClampNeg (S.2.2 5))).toInt = (S.1 9 (Int32.toNatClampNeg (S.2.2 5))).toInt from (by omega))
    · exact (show ((S_j25.2.2 19) + 1).toInt = ((S.2.2 19).toInt + 1) from (by have := gx_ak (S_j25.2.2 19) 1 (1) (by decide); omega))
    · exact (show (S_j25.2.2 21).toInt = (S.2.2 21).toInt from (by omega))
    · exact (show (S_j25.2.2 23).toInt = (S.2.2 23).toInt from (by omega))
    · exact (show (S.2.2 19).toInt < (S.2.2 2).toInt from (by omega))
  · skip
    have h14_ := gx_eqnr (k := 63) (gx_lit 63 (by decide)) h14
    refine gx_s_MD_primary_j49 _ _ _ _ _ _ _ ?_ ?_ ?_ ?_ ?_ ?_ ?_ ?_ ?_ ?_ ?_ ?_ ?_
    · exact h1
    · exact h2
    · exact (show 0 ≤ (S.1 9 (Int32.toNatClampNeg (S.2.2 5))).toInt from (by omega))
    · exact (show (S.1 9 (Int32.toNatClampNeg (S.2.2 5))).toInt ≤ 145 from (by omega))
    · exact (show 0 ≤ (S.2.2 19).toInt from (by omega))
    · exact (show (S.2.2 19).toInt ≤ (S.2.2 2).toInt from (by omega))
    · exact (show 0 ≤ (S.2.2 21).toInt from (by omega))
    · exact (show (S.2.2 21).toInt ≤ 58 from (by omega))
    · exact (show (S_j25.1 9 (Int32.toNatClampNeg (S.2.2 5))).toInt = (S.1 9 (Int32.toNatClampNeg (S.2.2 5))).toInt from (by omega))
    · exact (show ((S_j25.2.2 19) + 1).toInt = ((S.2.2 19).toInt + 1) from (by have := gx_ak (S_j25.2.2 19) 1 (1) (by decide); omega))
    · exact (show (S_j25.2.2 21).toInt = (S.2.2 21).toInt from (by omega))
    · exact (show (S_j25.2.2 23).toInt = (S.2.2 23).toInt from (by omega))
    · exact (show (S.2.2 19).toInt < (S.2.2 2).toInt from (by omega))
set_option maxRecDepth 100000 in
theorem gx_s_MD_primary (x : Int32) (S : gm_S) (h1 : gm_iW 50 (S.2.2 2) (S.1 3)) (h2 : gm_iN 1 (S.2.2 5)) (h3 : 0 ≤ (S.1 9 (Int32.toNatClampNeg (S.2.2 5))).toInt) (h4 : (S.1 9 (Int32.toNatClampNeg (S.2.2 5))).toInt ≤ 145) (h5 : 0 ≤ (S.2.2 19).toInt) (h6 : (S.2.2 19).toInt ≤ (S.2.2 2).toInt) (h7 : 0 ≤ (S.2.2 21).toInt) (h8 : (S.2.2 21).toInt ≤ 58) : gm_p_MD_primary x S ∧ gx_q_MD_primary x S (gm_f_MD_primary x S) := by
  unfold gm_p_MD_primary gm_f_MD_primary
  refine gx_ca (Q := gx_q_MD_primary x S) (gx_q_MD_peek _) (gx_s_MD_peek _ h1 h2 h5) ?_
  intro r3 u3 h9
  have h9_0 : (((r3.toInt = 0) ∧ ((S.2.2 2).toInt ≤ (S.2.2 19).toInt)) ∨ ((32 ≤ r3.toInt) ∧ ((r3.toInt ≤ 126) ∧ ((S.2.2 19).toInt < (S.2.2 2).toInt)))) ∧ (r3 = (gm_f_MD_peek S).1) := h9
  refine gx_if (Q := gx_q_MD_primary x S) (fun h10 => ?_) (fun h10 => ?_)
  · skip
    have h10_ := gx_eqr (k := 63) (gx_lit 63 (by decide)) h10
    refine gx_s_MD_primary_j25 _ _ _ _ _ ?_ ?_ ?_ ?_ ?_ ?_ ?_ ?_ ?_ ?_ ?_ ?_ ?_
    · exact h1
    · exact h2
    · exact (show 0 ≤ (S.1 9 (Int32.toNatClampNeg (S.2.2 5))).toInt from (by omega))
    · exact (show (S.1 9 (Int32.toNatClampNeg (S.2.2 5))).toInt ≤ 145 from (by omega))
    · exact (show 0 ≤ (S.2.2 19).toInt from (by omega))
    · exact (show (S.2.2 19).toInt ≤ (S.2.2 2).toInt from (by omega))
    · exact (show 0 ≤ (S.2.2 21).toInt from (by omega))
    · exact (show (S.2.2 21).toInt ≤ 58 from (by omega))
    · exact (show (S.1 9 (Int32.toNatClampNeg (S.2.2 5))).toInt = (S.1 9 (Int32.toNatClampNeg (S.2.2 5))).toInt from (by omega))
    · exact (show (S.2.2 19).toInt = (S.2.2 19).toInt from (by omega))
    · exact (show (S.2.2 21).toInt = (S.2.2 21).toInt from (by omega))
    · exact (show (S.2.2 23).toInt = (S.2.2 23).toInt from (by omega))
    · exact (show (S.2.2 19).toInt < (S.2.2 2).toInt from (by omega))
  · skip
    have h10_ := gx_eqnr (k := 63) (gx_lit 63 (by decide)) h10
    refine gx_if (Q := gx_q_MD_primary x S) (fun h11 => ?_) (fun h11 => ?_)
    · skip
      have h11_ := gx_eqr (k := 42) (gx_lit 42 (by decide)) h11
      refine gx_s_MD_primary_j25 _ _ _ _ _ ?_ ?_ ?_ ?_ ?_ ?_ ?_ ?_ ?_ ?_ ?_ ?_ ?_
      · exact h1
      · exact h2
      · exact (show 0 ≤ (S.1 9 (Int32.toNatClampNeg (S.2.2 5))).toInt from (by omega))
      · exact (show (S.1 9 (Int32.toNatClampNeg (S.2.2 5))).toInt ≤ 145 from (by omega))
      · exact (show 0 ≤ (S.2.2 19).toInt from (by omega))
      · exact (show (S.2.2 19).toInt ≤ (S.2.2 2).toInt from (by omega))
      · exact (show 0 ≤ (S.2.2 21).toInt from (by omega))
      · exact (show (S.2.2 21).toInt ≤ 58 from (by omega))
      · exact (show (S.1 9 (Int32.toNatClampNeg (S.2.2 5))).toInt = (S.1 9 (Int32.toNatClampNeg (S.2.2 5))).toInt from (by omega))
      · exact (show (S.2.2 19).toInt = (S.2.2 19).toInt from (by omega))
      · exact (show (S.2.2 21).toInt = (S.2.2 21).toInt from (by omega))
      · exact (show (S.2.2 23).toInt = (S.2.2 23).toInt from (by omega))
      · exact (show (S.2.2 19).toInt < (S.2.2 2).toInt from (by omega))
    · skip
      have h11_ := gx_eqnr (k := 42) (gx_lit 42 (by decide)) h11
      refine gx_if (Q := gx_q_MD_primary x S) (fun h12 => ?_) (fun h12 => ?_)
      · skip
        have h12_ := gx_eqr (k := 43) (gx_lit 43 (by decide)) h12
        refine gx_s_MD_primary_j25 _ _ _ _ _ ?_ ?_ ?_ ?_ ?_ ?_ ?_ ?_ ?_ ?_ ?_ ?_ ?_
        · exact h1
        · exact h2
        · exact (show 0 ≤ (S.1 9 (Int32.toNatClampNeg (S.2.2 5))).toInt from (by omega))
        · exact (show (S.1 9 (Int32.toNatClampNeg (S.2.2 5))).toInt ≤ 145 from (by omega))
        · exact (show 0 ≤ (S.2.2 19).toInt from (by omega))
        · exact (show (S.2.2 19).toInt ≤ (S.2.2 2).toInt from (by omega))
        · exact (show 0 ≤ (S.2.2 21).toInt from (by omega))
        · exact (show (S.2.2 21).toInt ≤ 58 from (by omega))
        · exact (show (S.1 9 (Int32.toNatClampNeg (S.2.2 5))).toInt = (S.1 9 (Int32.toNatClampNeg (S.2.2 5))).toInt from (by omega))
        · exact (show (S.2.2 19).toInt = (S.2.2 19).toInt from (by omega))
        · exact (show (S.2.2 21).toInt = (S.2.2 21).toInt from (by omega))
        · exact (show (S.2.2 23).toInt = (S.2.2 23).toInt from (by omega))
        · exact (show (S.2.2 19).toInt < (S.2.2 2).toInt from (by omega))
      · skip
        have h12_ := gx_eqnr (k := 43) (gx_lit 43 (by decide)) h12
        refine gx_s_MD_primary_j76 _ _ _ _ _ _ ?_ ?_ ?_ ?_ ?_ ?_ ?_ ?_ ?_ ?_ ?_ ?_ ?_ ?_ ?_
        · exact h1
        · exact h2
        · exact (show 0 ≤ (S.1 9 (Int32.toNatClampNeg (S.2.2 5))).toInt from (by omega))
        · exact (show (S.1 9 (Int32.toNatClampNeg (S.2.2 5))).toInt ≤ 145 from (by omega))
        · exact (show 0 ≤ (S.2.2 19).toInt from (by omega))
        · exact (show (S.2.2 19).toInt ≤ (S.2.2 2).toInt from (by omega))
        · exact (show 0 ≤ (S.2.2 21).toInt from (by omega))
        · exact (show (S.2.2 21).toInt ≤ 58 from (by omega))
        · exact (show (S.1 9 (Int32.toNatClampNeg (S.2.2 5))).toInt ≤ (S.1 9 (Int32.toNatClampNeg (S.2.2 5))).toInt from (by omega))
        · exact (show (S.2.2 19).toInt ≤ (S.2.2 19).toInt from (by omega))
        · exact (show (S.2.2 19).toInt ≤ ((S.2.2 19).toInt + 1) from (by omega))
        · exact (show (S.2.2 19).toInt ≤ (S.2.2 2).toInt from (by omega))
        · exact (show (S.2.2 21).toInt = (S.2.2 21).toInt from (by omega))
        · exact (show (S.2.2 23).toInt = (S.2.2 23).toInt from (by omega))
        · exact (show (S.1 9 (Int32.toNatClampNeg (S.2.2 5))).toInt ≤ ((S.1 9 (Int32.toNatClampNeg (S.2.2 5))).toInt + (2 * ((S.2.2 19).toInt - (S.2.2 19).toInt))) from (by omega))
abbrev gx_q_MD_endSequence (S : gm_S) (z : Int32 × (gm_S)) : Prop := (((z.2.2.2 21).toInt = (S.1 28 (Int32.toNatClampNeg (S.2.2 20))).toInt) ∧ (((z.2.2.2 22).toInt = ((S.2.2 22).toInt + 1)) ∧ (((S.1 9 (Int32.toNatClampNeg (S.2.2 5))).toInt ≤ (z.2.1 9 (Int32.toNatClampNeg (S.2.2 5))).toInt) ∧ (((((S.2.2 21).toInt = (S.1 28 (Int32.toNatClampNeg (S.2.2 20))).toInt) ∧ ((z.2.1 9 (Int32.toNatClampNeg (S.2.2 5))).toInt = ((S.1 9 (Int32.toNatClampNeg (S.2.2 5))).toInt + 1))) ∨ (((S.1 28 (Int32.toNatClampNeg (S.2.2 20))).toInt < (S.2.2 21).toInt) ∧ ((z.2.1 9 (Int32.toNatClampNeg (S.2.2 5))).toInt = ((((S.1 9 (Int32.toNatClampNeg (S.2.2 5))).toInt + (S.2.2 21).toInt) - (S.1 28 (Int32.toNatClampNeg (S.2.2 20))).toInt) - 1))))))))
set_option maxRecDepth 100000 in
theorem gx_s_MD_endSequence_45 (S : gm_S) (k0_j37 : Int32) (S_j37 : gm_S) (h1 : gm_iW 50 (S.2.2 2) (S.1 3)) (h2 : gm_iN 1 (S.2.2 5)) (h3 : 0 ≤ (S.1 9 (Int32.toNatClampNeg (S.2.2 5))).toInt) (h4 : ((S.1 9 (Int32.toNatClampNeg (S.2.2 5))).toInt + (S.2.2 21).toInt) ≤ 120) (h5 : 0 ≤ (S.2.2 20).toInt) (h6 : (S.2.2 20).toInt ≤ 6) (h7 : 0 ≤ (S.1 28 (Int32.toNatClampNeg (S.2.2 20))).toInt) (h8 : (S.1 28 (Int32.toNatClampNeg (S.2.2 20))).toInt ≤ (S.2.2 21).toInt) (h9 : (S.2.2 21).toInt ≤ 55) (h10 : 0 ≤ (S.2.2 22).toInt) (h11 : (S.2.2 22).toInt ≤ 55) (h12 : (((S.2.2 21).toInt = (S.1 28 (Int32.toNatClampNeg (S.2.2 20))).toInt) ∧ ((S_j37.1 9 (Int32.toNatClampNeg (S.2.2 5))).toInt = ((S.1 9 (Int32.toNatClampNeg (S.2.2 5))).toInt + 1))) ∨ (((S.1 28 (Int32.toNatClampNeg (S.2.2 20))).toInt < (S.2.2 21).toInt) ∧ ((S_j37.1 9 (Int32.toNatClampNeg (S.2.2 5))).toInt = (S.1 9 (Int32.toNatClampNeg (S.2.2 5))).toInt))) : ∀ (n45 : Nat) (v2_45 : Int32) (v1_45 : Int32) (S_45 : gm_S), ((S_45.1 9 (Int32.toNatClampNeg (S.2.2 5))).toInt = ((S_j37.1 9 (Int32.toNatClampNeg (S.2.2 5))).toInt + (((S.2.2 21).toInt - 2) - v2_45.toInt))) → (v2_45.toInt ≤ ((S.2.2 21).toInt - 2)) → ((((S.1 28 (Int32.toNatClampNeg (S.2.2 20))).toInt - 1) ≤ v2_45.toInt) ∨ (((S.2.2 21).toInt = (S.1 28 (Int32.toNatClampNeg (S.2.2 20))).toInt) ∧ (v2_45.toInt = ((S.1 28 (Int32.toNatClampNeg (S.2.2 20))).toInt - 2)))) → (((v2_45.toInt - (S.1 28 (Int32.toNatClampNeg (S.2.2 20))).toInt) + 2) < n45) → ((S_45.2.2 22).toInt = (S.2.2 22).toInt) → gm_p_MD_endSequence_45 S k0_j37 S_j37 n45 v2_45 v1_45 S_45 ∧ gx_q_MD_endSequence S (gm_f_MD_endSequence_45 S k0_j37 S_j37 n45 v2_45 v1_45 S_45) := by
  intro n45
  induction n45 with
  | zero =>
    intro v2_45 v1_45 S_45 h13 h14 h15 h16 h17; exfalso; skip; omega
  | succ n45 ih =>
    intro v2_45 v1_45 S_45 h13 h14 h15 h16 h17
    rw [gm_p_MD_endSequence_45, gm_f_MD_endSequence_45]
    refine gx_in (Q := gx_q_MD_endSequence S) (vp_in_iff.mpr (by omega)) ?_
    refine gx_if (Q := gx_q_MD_endSequence S) (fun h18 => ?_) (fun h18 => ?_)
    · skip
      have h18_ := gx_lt h18
      refine gx_in (Q := gx_q_MD_endSequence S) (vp_in_iff.mpr (by omega)) ?_
      refine gx_in (Q := gx_q_MD_endSequence S) (vp_in_iff.mpr (by omega)) ?_
      exact ⟨trivial, (show ((S.1 28 (Int32.toNatClampNeg (S.2.2 20))).toInt = (S.1 28 (Int32.toNatClampNeg (S.2.2 20))).toInt) ∧ ((((S_45.2.2 22) + 1).toInt = ((S.2.2 22).toInt + 1)) ∧ (((S.1 9 (Int32.toNatClampNeg (S.2.2 5))).toInt ≤ (S_45.1 9 (Int32.toNatClampNeg (S.2.2 5))).toInt) ∧ ((((S.2.2 21).toInt = (S.1 28 (Int32.toNatClampNeg (S.2.2 20))).toInt) ∧ ((S_45.1 9 (Int32.toNatClampNeg (S.2.2 5))).toInt = ((S.1 9 (Int32.toNatClampNeg (S.2.2 5))).toInt + 1))) ∨ (((S.1 28 (Int32.toNatClampNeg (S.2.2 20))).toInt < (S.2.2 21).toInt) ∧ ((S_45.1 9 (Int32.toNatClampNeg (S.2.2 5))).toInt = ((((S.1 9 (Int32.toNatClampNeg (S.2.2 5))).toInt + (S.2.2 21).toInt) - (S.1 28 (Int32.toNatClampNeg (S.2.2 20))).toInt) - 1)))))) from (by have := gx_ak (S_45.2.2 22) 1 (1) (by decide); omega))⟩
    · skip
      have h18_ := gx_ltn h18
      refine gx_in (Q := gx_q_MD_endSequence S) (vp_in_iff.mpr (by omega)) ?_
      refine gx_ca (Q := gx_q_MD_endSequence S) (gx_q_MD_create _ _ _ _) (gx_s_MD_create _ _ _ _ h1 h2 (show 0 ≤ (S_45.1 9 (Int32.toNatClampNeg (S.2.2 5))).toInt from (by omega)) (show (S_45.1 9 (Int32.toNatClampNeg (S.2.2 5))).toInt ≤ 150 from (by omega))) ?_
      intro r67 u67 h19
      have h19_0 : ((u67.1 9 (Int32.toNatClampNeg (S.2.2 5))).toInt = ((S_45.1 9 (Int32.toNatClampNeg (S.2.2 5))).toInt + 1)) ∧ (r67.toInt = ((160 * (S.2.2 5).toInt) + (S_45.1 9 (Int32.toNatClampNeg (S.2.2 5))).toInt)) := h19
      clear h19
      refine ih _ _ _ ?_ ?_ ?_ ?_ ?_
      · exact (show (u67.1 9 (Int32.toNatClampNeg (S.2.2 5))).toInt = ((S_j37.1 9 (Int32.toNatClampNeg (S.2.2 5))).toInt + (((S.2.2 21).toInt - 2) - (v2_45 + (-1)).toInt)) from (by have e0 := gx_ak v2_45 (-1) (-1) (by decide); generalize (v2_45 + (-1)).toInt = t0 at e0 ⊢; omega))
      · exact (show (v2_45 + (-1)).toInt ≤ ((S.2.2 21).toInt - 2) from (by have e0 := gx_ak v2_45 (-1) (-1) (by decide); generalize (v2_45 + (-1)).toInt = t0 at e0 ⊢; omega))
      · exact (show (((S.1 28 (Int32.toNatClampNeg (S.2.2 20))).toInt - 1) ≤ (v2_45 + (-1)).toInt) ∨ (((S.2.2 21).toInt = (S.1 28 (Int32.toNatClampNeg (S.2.2 20))).toInt) ∧ ((v2_45 + (-1)).toInt = ((S.1 28 (Int32.toNatClampNeg (S.2.2 20))).toInt - 2))) from (by have e0 := gx_ak v2_45 (-1) (-1) (by decide); generalize (v2_45 + (-1)).toInt = t0 at e0 ⊢; omega))
      · exact (show (((v2_45 + (-1)).toInt - (S.1 28 (Int32.toNatClampNeg (S.2.2 20))).toInt) + 2) < n45 from (by have e0 := gx_ak v2_45 (-1) (-1) (by decide); generalize (v2_45 + (-1)).toInt = t0 at e0 ⊢; omega))
      · exact h17
set_option maxRecDepth 100000 in
theorem gx_s_MD_endSequence_j37 (S : gm_S) (k0_j37 : Int32) (S_j37 : gm_S) (h1 : gm_iW 50 (S.2.2 2) (S.1 3)) (h2 : gm_iN 1 (S.2.2 5)) (h3 : 0 ≤ (S.1 9 (Int32.toNatClampNeg (S.2.2 5))).toInt) (h4 : ((S.1 9 (Int32.toNatClampNeg (S.2.2 5))).toInt + (S.2.2 21).toInt) ≤ 120) (h5 : 0 ≤ (S.2.2 20).toInt) (h6 : (S.2.2 20).toInt ≤ 6) (h7 : 0 ≤ (S.1 28 (Int32.toNatClampNeg (S.2.2 20))).toInt) (h8 : (S.1 28 (Int32.toNatClampNeg (S.2.2 20))).toInt ≤ (S.2.2 21).toInt) (h9 : (S.2.2 21).toInt ≤ 55) (h10 : 0 ≤ (S.2.2 22).toInt) (h11 : (S.2.2 22).toInt ≤ 55) (h12 : (((S.2.2 21).toInt = (S.1 28 (Int32.toNatClampNeg (S.2.2 20))).toInt) ∧ ((S_j37.1 9 (Int32.toNatClampNeg (S.2.2 5))).toInt = ((S.1 9 (Int32.toNatClampNeg (S.2.2 5))).toInt + 1))) ∨ (((S.1 28 (Int32.toNatClampNeg (S.2.2 20))).toInt < (S.2.2 21).toInt) ∧ ((S_j37.1 9 (Int32.toNatClampNeg (S.2.2 5))).toInt = (S.1 9 (Int32.toNatClampNeg (S.2.2 5))).toInt))) (h13 : (S_j37.2.2 21).toInt = (S.2.2 21).toInt) (h14 : (S_j37.2.2 22).toInt = (S.2.2 22).toInt) : gm_p_MD_endSequence_j37 S k0_j37 S_j37 ∧ gx_q_MD_endSequence S (gm_f_MD_endSequence_j37 S k0_j37 S_j37) := by
  unfold gm_p_MD_endSequence_j37 gm_f_MD_endSequence_j37
  refine gx_s_MD_endSequence_45 _ _ _ ?_ ?_ ?_ ?_ ?_ ?_ ?_ ?_ ?_ ?_ ?_ ?_ _ _ _ _ ?_ ?_ ?_ ?_ ?_
  · exact h1
  · exact h2
  · exact (show 0 ≤ (S.1 9 (Int32.toNatClampNeg (S.2.2 5))).toInt from (by omega))
  · exact (show ((S.1 9 (Int32.toNatClampNeg (S.2.2 5))).toInt + (S.2.2 21).toInt) ≤ 120 from (by omega))
  · exact (show 0 ≤ (S.2.2 20).toInt from (by omega))
  · exact (show (S.2.2 20).toInt ≤ 6 from (by omega))
  · exact (show 0 ≤ (S.1 28 (Int32.toNatClampNeg (S.2.2 20))).toInt from (by omega))
  · exact (show (S.1 28 (Int32.toNatClampNeg (S.2.2 20))).toInt ≤ (S.2.2 21).toInt from (by omega))
  · exact (show (S.2.2 21).toInt ≤ 55 from (by omega))
  · exact (show 0 ≤ (S.2.2 22).toInt from (by omega))
  · exact (show (S.2.2 22).toInt ≤ 55 from (by omega))
  · exact (show (((S.2.2 21).toInt = (S.1 28 (Int32.toNatClampNeg (S.2.2 20))).toInt) ∧ ((S_j37.1 9 (Int32.toNatClampNeg (S.2.2 5))).toInt = ((S.1 9 (Int32.toNatClampNeg (S.2.2 5))).toInt + 1))) ∨ (((S.1 28 (Int32.toNatClampNeg (S.2.2 20))).toInt < (S.2.2 21).toInt) ∧ ((S_j37.1 9 (Int32.toNatClampNeg (S.2.2 5))).toInt = (S.1 9 (Int32.toNatClampNeg (S.2.2 5))).toInt)) from (by omega))
  · exact (show (S_j37.1 9 (Int32.toNatClampNeg (S.2.2 5))).toInt = ((S_j37.1 9 (Int32.toNatClampNeg (S.2.2 5))).toInt + (((S.2.2 21).toInt - 2) - ((S_j37.2.2 21) - 2).toInt)) from (by have := gx_sk (S_j37.2.2 21) 2 (2) (gx_lit 2 (by decide)); omega))
  · exact (show ((S_j37.2.2 21) - 2).toInt ≤ ((S.2.2 21).toInt - 2) from (by have := gx_sk (S_j37.2.2 21) 2 (2) (gx_lit 2 (by decide)); omega))
  · exact (show (((S.1 28 (Int32.toNatClampNeg (S.2.2 20))).toInt - 1) ≤ ((S_j37.2.2 21) - 2).toInt) ∨ (((S.2.2 21).toInt = (S.1 28 (Int32.toNatClampNeg (S.2.2 20))).toInt) ∧ (((S_j37.2.2 21) - 2).toInt = ((S.1 28 (Int32.toNatClampNeg (S.2.2 20))).toInt - 2))) from (by have := gx_sk (S_j37.2.2 21) 2 (2) (gx_lit 2 (by decide)); omega))
  · exact (show ((((S_j37.2.2 21) - 2).toInt - (S.1 28 (Int32.toNatClampNeg (S.2.2 20))).toInt) + 2) < 200 from (by have := gx_sk (S_j37.2.2 21) 2 (2) (gx_lit 2 (by decide)); omega))
  · exact h14
set_option maxRecDepth 100000 in
theorem gx_s_MD_endSequence (S : gm_S) (h1 : gm_iW 50 (S.2.2 2) (S.1 3)) (h2 : gm_iN 1 (S.2.2 5)) (h3 : 0 ≤ (S.1 9 (Int32.toNatClampNeg (S.2.2 5))).toInt) (h4 : ((S.1 9 (Int32.toNatClampNeg (S.2.2 5))).toInt + (S.2.2 21).toInt) ≤ 120) (h5 : 0 ≤ (S.2.2 20).toInt) (h6 : (S.2.2 20).toInt ≤ 6) (h7 : 0 ≤ (S.1 28 (Int32.toNatClampNeg (S.2.2 20))).toInt) (h8 : (S.1 28 (Int32.toNatClampNeg (S.2.2 20))).toInt ≤ (S.2.2 21).toInt) (h9 : (S.2.2 21).toInt ≤ 55) (h10 : 0 ≤ (S.2.2 22).toInt) (h11 : (S.2.2 22).toInt ≤ 55) : gm_p_MD_endSequence S ∧ gx_q_MD_endSequence S (gm_f_MD_endSequence S) := by
  unfold gm_p_MD_endSequence gm_f_MD_endSequence
  refine gx_in (Q := gx_q_MD_endSequence S) (vp_in_iff.mpr (by omega)) ?_
  refine gx_if (Q := gx_q_MD_endSequence S) (fun h12 => ?_) (fun h12 => ?_)
  · skip
    have h12_ := gx_eq h12
    refine gx_ca (Q := gx_q_MD_endSequence S) (gx_q_MD_create _ _ _ _) (gx_s_MD_create _ _ _ _ h1 h2 h3 (show (S.1 9 (Int32.toNatClampNeg (S.2.2 5))).toInt ≤ 150 from (by omega))) ?_
    intro r20 u20 h13
    have h13_0 : ((u20.1 9 (Int32.toNatClampNeg (S.2.2 5))).toInt = ((S.1 9 (Int32.toNatClampNeg (S.2.2 5))).toInt + 1)) ∧ (r20.toInt = ((160 * (S.2.2 5).toInt) + (S.1 9 (Int32.toNatClampNeg (S.2.2 5))).toInt)) := h13
    clear h13
    refine gx_s_MD_endSequence_j37 _ _ _ ?_ ?_ ?_ ?_ ?_ ?_ ?_ ?_ ?_ ?_ ?_ ?_ ?_ ?_
    · exact h1
    · exact h2
    · exact (show 0 ≤ (S.1 9 (Int32.toNatClampNeg (S.2.2 5))).toInt from (by omega))
    · exact (show ((S.1 9 (Int32.toNatClampNeg (S.2.2 5))).toInt + (S.2.2 21).toInt) ≤ 120 from (by omega))
    · exact (show 0 ≤ (S.2.2 20).toInt from (by omega))
    · exact (show (S.2.2 20).toInt ≤ 6 from (by omega))
    · exact (show 0 ≤ (S.1 28 (Int32.toNatClampNeg (S.2.2 20))).toInt from (by omega))
    · exact (show (S.1 28 (Int32.toNatClampNeg (S.2.2 20))).toInt ≤ (S.2.2 21).toInt from (by omega))
    · exact (show (S.2.2 21).toInt ≤ 55 from (by omega))
    · exact (show 0 ≤ (S.2.2 22).toInt from (by omega))
    · exact (show (S.2.2 22).toInt ≤ 55 from (by omega))
    · exact (show (((S.2.2 21).toInt = (S.1 28 (Int32.toNatClampNeg (S.2.2 20))).toInt) ∧ ((u20.1 9 (Int32.toNatClampNeg (S.2.2 5))).toInt = ((S.1 9 (Int32.toNatClampNeg (S.2.2 5))).toInt + 1))) ∨ (((S.1 28 (Int32.toNatClampNeg (S.2.2 20))).toInt < (S.2.2 21).toInt) ∧ ((u20.1 9 (Int32.toNatClampNeg (S.2.2 5))).toInt = (S.1 9 (Int32.toNatClampNeg (S.2.2 5))).toInt)) from (by omega))
    · exact (show (S.2.2 21).toInt = (S.2.2 21).toInt from (by omega))
    · exact (show (S.2.2 22).toInt = (S.2.2 22).toInt from (by omega))
  · skip
    have h12_ := gx_eqn h12
    refine gx_in (Q := gx_q_MD_endSequence S) (vp_in_iff.mpr (by have := gx_sk (S.2.2 21) 1 (1) (by decide); omega)) ?_
    refine gx_s_MD_endSequence_j37 _ _ _ ?_ ?_ ?_ ?_ ?_ ?_ ?_ ?_ ?_ ?_ ?_ ?_ ?_ ?_
    · exact h1
    · exact h2
    · exact (show 0 ≤ (S.1 9 (Int32.toNatClampNeg (S.2.2 5))).toInt from (by omega))
    · exact (show ((S.1 9 (Int32.toNatClampNeg (S.2.2 5))).toInt + (S.2.2 21).toInt) ≤ 120 from (by omega))
    · exact (show 0 ≤ (S.2.2 20).toInt from (by omega))
    · exact (show (S.2.2 20).toInt ≤ 6 from (by omega))
    · exact (show 0 ≤ (S.1 28 (Int32.toNatClampNeg (S.2.2 20))).toInt from (by omega))
    · exact (show (S.1 28 (Int32.toNatClampNeg (S.2.2 20))).toInt ≤ (S.2.2 21).toInt from (by omega))
    · exact (show (S.2.2 21).toInt ≤ 55 from (by omega))
    · exact (show 0 ≤ (S.2.2 22).toInt from (by omega))
    · exact (show (S.2.2 22).toInt ≤ 55 from (by omega))
    · exact (show (((S.2.2 21).toInt = (S.1 28 (Int32.toNatClampNeg (S.2.2 20))).toInt) ∧ ((S.1 9 (Int32.toNatClampNeg (S.2.2 5))).toInt = ((S.1 9 (Int32.toNatClampNeg (S.2.2 5))).toInt + 1))) ∨ (((S.1 28 (Int32.toNatClampNeg (S.2.2 20))).toInt < (S.2.2 21).toInt) ∧ ((S.1 9 (Int32.toNatClampNeg (S.2.2 5))).toInt = (S.1 9 (Int32.toNatClampNeg (S.2.2 5))).toInt)) from (by omega))
    · exact (show (S.2.2 21).toInt = (S.2.2 21).toInt from (by omega))
    · exact (show (S.2.2 22).toInt = (S.2.2 22).toInt from (by omega))
