/-- the open brackets: where their items and alternatives begin -/
def gm_iC (d i l : Int32) (bk ib ab : Nat → Int32) : Prop :=
  (bk 0).toInt = 59 ∧ (∀ j : Nat, (j : Int) ≤ d.toInt → 0 ≤ (ib j).toInt ∧ 0 ≤ (ab j).toInt) ∧ (∀ j : Nat, (j : Int) < d.toInt → (ib j).toInt ≤ (ib (j + 1)).toInt ∧ (ab j).toInt ≤ (ab (j + 1)).toInt) ∧ (ib (Int32.toNatClampNeg d)).toInt ≤ i.toInt ∧ (ab (Int32.toNatClampNeg d)).toInt ≤ l.toInt
theorem gx_cl (x : Int32) (h : 0 ≤ x.toInt) : ((Int32.toNatClampNeg x : Nat) : Int) = x.toInt := by
  obtain ⟨j, hj, e⟩ := nI_of (x := x) (fun h9 => by have := gx_ltr (k := 0) (by decide) h9; omega)
  rw [e, nI_clamp hj, nI_toInt hj]
theorem gx_iC_f {d i l : Int32} {bk ib ab : Nat → Int32} (h : gm_iC d i l bk ib ab) (hd : 0 ≤ d.toInt) : 0 ≤ (ib (Int32.toNatClampNeg d)).toInt ∧ 0 ≤ (ab (Int32.toNatClampNeg d)).toInt ∧ (ib (Int32.toNatClampNeg d)).toInt ≤ i.toInt ∧ (ab (Int32.toNatClampNeg d)).toInt ≤ l.toInt := by
  have c := gx_cl d hd
  have a := h.2.1 (Int32.toNatClampNeg d) (by omega)
  exact ⟨a.1, a.2, h.2.2.2.1, h.2.2.2.2⟩
theorem gx_iC_b {d i l : Int32} {bk ib ab : Nat → Int32} (h : gm_iC d i l bk ib ab) (hd : 0 ≤ d.toInt) (hn : ¬ bk (Int32.toNatClampNeg d) = 59) : 1 ≤ d.toInt := by
  apply Classical.byContradiction
  intro n
  have c := gx_cl d hd
  have e : Int32.toNatClampNeg d = 0 := by omega
  rw [e] at hn
  exact hn (Int32.toInt_inj.mp (h.1.trans (gx_lit 59 (by decide)).symm))
theorem gx_iC_s {d i l i' l' : Int32} {bk ib ab : Nat → Int32} (h : gm_iC d i l bk ib ab) (hi : (ib (Int32.toNatClampNeg d)).toInt ≤ i'.toInt) (hl : (ab (Int32.toNatClampNeg d)).toInt ≤ l'.toInt) : gm_iC d i' l' bk ib ab := ⟨h.1, h.2.1, h.2.2.1, hi, hl⟩
theorem gx_iC_p {d d' i l i' l' : Int32} {bk ib ab : Nat → Int32} (h : gm_iC d i l bk ib ab) (hd : d'.toInt = d.toInt - 1) (h1 : 1 ≤ d.toInt) (hi : (ib (Int32.toNatClampNeg d)).toInt ≤ i'.toInt) (hl : (ab (Int32.toNatClampNeg d)).toInt ≤ l'.toInt) : gm_iC d' i' l' bk ib ab := by
  have c := gx_cl d (by omega)
  have c' := gx_cl d' (by omega)
  have e : Int32.toNatClampNeg d = Int32.toNatClampNeg d' + 1 := by omega
  have k := h.2.2.1 (Int32.toNatClampNeg d') (by omega)
  rw [e] at hi hl
  exact ⟨h.1, fun j hj => h.2.1 j (by omega), fun j hj => h.2.2.1 j (by omega), by omega, by omega⟩
theorem gx_iC_u {d i l c : Int32} {bk ib ab : Nat → Int32} (h : gm_iC d i l bk ib ab) (h0 : 0 ≤ d.toInt) (h5 : d.toInt ≤ 5) : gm_iC (d + 1) i l (upd bk (Int32.toNatClampNeg (d + 1)) c) (upd ib (Int32.toNatClampNeg (d + 1)) i) (upd ab (Int32.toNatClampNeg (d + 1)) l) := by
  have a := gx_ak d 1 1 (by decide)
  have e : (d + 1).toInt = d.toInt + 1 := by omega
  have c1 := gx_cl d h0
  have c2 := gx_cl (d + 1) (by omega)
  have f := gx_iC_f h h0
  have e2 : Int32.toNatClampNeg (d + 1) = Int32.toNatClampNeg d + 1 := by omega
  unfold gm_iC
  generalize Int32.toNatClampNeg (d + 1) = K at c2 e2 ⊢
  have ne : ∀ (g : Nat → Int32) (x : Int32) (j : Nat), j ≠ K → upd g K x j = g j := fun g x j hj => if_neg hj
  refine ⟨by rw [ne _ _ 0 (by omega)]; exact h.1, fun j hj => ?_, fun j hj => ?_, by rw [gx_us]; omega, by rw [gx_us]; omega⟩
  · by_cases q : j = K
    · rw [q, gx_us, gx_us]; omega
    · rw [ne _ _ j q, ne _ _ j q]; exact h.2.1 j (by omega)
  · by_cases q : j + 1 = K
    · rw [q, gx_us, gx_us, ne _ _ j (by omega), ne _ _ j (by omega)]
      have : j = Int32.toNatClampNeg d := by omega
      rw [this]; exact ⟨f.2.2.1, f.2.2.2⟩
    · rw [ne _ _ j (by omega), ne _ _ j (by omega), ne _ _ (j + 1) q, ne _ _ (j + 1) q]; exact h.2.2.1 j (by omega)
theorem gx_iC_0 (bk ib ab : Nat → Int32) : gm_iC 0 0 0 (upd bk (Int32.toNatClampNeg 0) 59) (upd ib (Int32.toNatClampNeg 0) 0) (upd ab (Int32.toNatClampNeg 0) 0) := by
  have z : (0 : Int32).toInt = 0 := by decide
  have e : Int32.toNatClampNeg 0 = 0 := by decide
  unfold gm_iC
  rw [e]
  refine ⟨by rw [gx_us]; exact gx_lit 59 (by decide), fun j hj => ?_, fun j hj => by omega, by rw [gx_us]; omega, by rw [gx_us]; omega⟩
  have : j = 0 := by omega
  rw [this, gx_us, gx_us]; omega
abbrev gx_q_MD_close (S : gm_S) (z : Int32 × (gm_S)) : Prop := (gm_iC (z.2.2.2 20) (z.2.2.2 21) (z.2.2.2 22) (S.1 26) (S.1 28) (S.1 29)) ∧ ((0 ≤ (z.2.1 9 (Int32.toNatClampNeg (S.2.2 5))).toInt) ∧ (((S.2.2 19).toInt ≤ (z.2.2.2 19).toInt) ∧ (((z.2.2.2 19).toInt ≤ (S.2.2 2).toInt) ∧ ((0 ≤ (z.2.2.2 20).toInt) ∧ (((z.2.2.2 20).toInt ≤ 6) ∧ ((0 ≤ (z.2.2.2 21).toInt) ∧ ((0 ≤ (z.2.2.2 22).toInt) ∧ (((z.2.2.2 23).toInt = 0) ∧ ((((((z.2.1 9 (Int32.toNatClampNeg (S.2.2 5))).toInt + (z.2.2.2 21).toInt) + (z.2.2.2 22).toInt) + (2 * (z.2.2.2 20).toInt)) ≤ ((((((S.1 9 (Int32.toNatClampNeg (S.2.2 5))).toInt + (S.2.2 21).toInt) + (S.2.2 22).toInt) + (2 * (S.2.2 20).toInt)) + 2) + (2 * ((z.2.2.2 19).toInt - (S.2.2 19).toInt)))) ∧ (((((z.2.2.2 21).toInt + (z.2.2.2 22).toInt) + (z.2.2.2 20).toInt) ≤ (((S.2.2 21).toInt + (S.2.2 22).toInt) + (S.2.2 20).toInt))))))))))))
set_option maxRecDepth 100000 in
theorem gx_s_MD_close_23 (S : gm_S) (u1 : gm_S) (h1 : gm_iW 50 (S.2.2 2) (S.1 3)) (h2 : gm_iN 1 (S.2.2 5)) (h3 : gm_iC (S.2.2 20) (S.2.2 21) (S.2.2 22) (S.1 26) (S.1 28) (S.1 29)) (h4 : 0 ≤ (S.1 9 (Int32.toNatClampNeg (S.2.2 5))).toInt) (h5 : (((S.1 9 (Int32.toNatClampNeg (S.2.2 5))).toInt + (S.2.2 21).toInt) + (S.2.2 22).toInt) ≤ 110) (h6 : 0 ≤ (S.2.2 19).toInt) (h7 : (S.2.2 19).toInt ≤ (S.2.2 2).toInt) (h8 : 0 ≤ (S.2.2 20).toInt) (h9 : (S.2.2 20).toInt ≤ 6) (h10 : (S.2.2 21).toInt ≤ 50) (h11 : (S.2.2 22).toInt ≤ 50) (h12 : (S.2.2 23).toInt = 0) (h13 : 0 ≤ (S.1 6 (Int32.toNatClampNeg (S.2.2 5))).toInt) (h14 : (S.1 6 (Int32.toNatClampNeg (S.2.2 5))).toInt ≤ 7) (h15 : (u1.2.2 21).toInt = (S.1 28 (Int32.toNatClampNeg (S.2.2 20))).toInt) : ∀ (n23 : Nat) (v2_23 : Int32) (v1_23 : Int32) (S_23 : gm_S), (gm_iC (S_23.2.2 20) (S_23.2.2 21) (S_23.2.2 22) (S.1 26) (S.1 28) (S.1 29)) → ((S_23.2.2 20) = (S.2.2 20)) → ((S_23.2.2 19) = (S.2.2 19)) → ((S_23.2.2 21).toInt = (S.1 28 (Int32.toNatClampNeg (S.2.2 20))).toInt) → ((S_23.2.2 22).toInt = ((S.2.2 22).toInt + 1)) → ((S_23.2.2 23).toInt = 0) → (((S.1 29 (Int32.toNatClampNeg (S.2.2 20))).toInt - 1) ≤ v2_23.toInt) → (v2_23.toInt ≤ ((S.2.2 22).toInt - 1)) → (((v2_23.toInt - (S.1 29 (Int32.toNatClampNeg (S.2.2 20))).toInt) + 2) < n23) → (0 ≤ (S_23.1 9 (Int32.toNatClampNeg (S.2.2 5))).toInt) → ((((S_23.1 9 (Int32.toNatClampNeg (S.2.2 5))).toInt + v2_23.toInt) + (S.1 28 (Int32.toNatClampNeg (S.2.2 20))).toInt) ≤ (((S.1 9 (Int32.toNatClampNeg (S.2.2 5))).toInt + (S.2.2 21).toInt) + (S.2.2 22).toInt)) → gm_p_MD_close_23 S u1 n23 v2_23 v1_23 S_23 ∧ gx_q_MD_close S (gm_f_MD_close_23 S u1 n23 v2_23 v1_23 S_23) := by
  intro n23
  induction n23 with
  | zero =>
    intro v2_23 v1_23 S_23 h16 h17 h18 h19 h20 h21 h22 h23 h24 h25 h26; exfalso; have := gx_iC_f h3 (by omega); omega
  | succ n23 ih =>
    intro v2_23 v1_23 S_23 h16 h17 h18 h19 h20 h21 h22 h23 h24 h25 h26
    rw [gm_p_MD_close_23, gm_f_MD_close_23]
    try dsimp only
    rw [show (S_23.2.2 20) = (S.2.2 20) from h17]
    rw [show (S_23.2.2 19) = (S.2.2 19) from h18]
    refine gx_in (Q := gx_q_MD_close S) (vp_in_iff.mpr (by have := gx_iC_f h3 (by omega); omega)) ?_
    refine gx_if (Q := gx_q_MD_close S) (fun h27 => ?_) (fun h27 => ?_)
    · skip
      have h27_ := gx_lt h27
      refine gx_in (Q := gx_q_MD_close S) (vp_in_iff.mpr (by have := gx_iC_f h3 (by omega); omega)) ?_
      refine gx_in (Q := gx_q_MD_close S) (vp_in_iff.mpr (by have := gx_iC_f h3 (by omega); omega)) ?_
      refine gx_if (Q := gx_q_MD_close S) (fun h28 => ?_) (fun h28 => ?_)
      · skip
        have h28_ := gx_eqr (k := 59) (gx_lit 59 (by decide)) h28
        refine gx_in (Q := gx_q_MD_close S) (vp_in_iff.mpr (by have := gx_iC_f h3 (by omega); omega)) ?_
        refine gx_in (Q := gx_q_MD_close S) (vp_in_iff.mpr (by have := gx_iC_f h3 (by omega); have := gx_ad (8 * (S.2.2 5)) (S.1 6 (Int32.toNatClampNeg (S.2.2 5))); have := gx_mk 8 (S.2.2 5) 8 (gx_lit 8 (by decide)); omega)) ?_
        exact ⟨trivial, ⟨(gx_iC_s h3 (show (S.1 28 (Int32.toNatClampNeg (S.2.2 20))).toInt ≤ (S_23.2.2 21).toInt from (by have := gx_iC_f h3 (by omega); omega)) (show (S.1 29 (Int32.toNatClampNeg (S.2.2 20))).toInt ≤ (S.1 29 (Int32.toNatClampNeg (S.2.2 20))).toInt from (by have := gx_iC_f h3 (by omega); omega))), (show (0 ≤ (S_23.1 9 (Int32.toNatClampNeg (S.2.2 5))).toInt) ∧ (((S.2.2 19).toInt ≤ (S.2.2 19).toInt) ∧ (((S.2.2 19).toInt ≤ (S.2.2 2).toInt) ∧ ((0 ≤ (S.2.2 20).toInt) ∧ (((S.2.2 20).toInt ≤ 6) ∧ ((0 ≤ (S_23.2.2 21).toInt) ∧ ((0 ≤ (S.1 29 (Int32.toNatClampNeg (S.2.2 20))).toInt) ∧ (((S_23.2.2 23).toInt = 0) ∧ ((((((S_23.1 9 (Int32.toNatClampNeg (S.2.2 5))).toInt + (S_23.2.2 21).toInt) + (S.1 29 (Int32.toNatClampNeg (S.2.2 20))).toInt) + (2 * (S.2.2 20).toInt)) ≤ ((((((S.1 9 (Int32.toNatClampNeg (S.2.2 5))).toInt + (S.2.2 21).toInt) + (S.2.2 22).toInt) + (2 * (S.2.2 20).toInt)) + 2) + (2 * ((S.2.2 19).toInt - (S.2.2 19).toInt)))) ∧ ((((S_23.2.2 21).toInt + (S.1 29 (Int32.toNatClampNeg (S.2.2 20))).toInt) + (S.2.2 20).toInt) ≤ (((S.2.2 21).toInt + (S.2.2 22).toInt) + (S.2.2 20).toInt)))))))))) from (by have := gx_iC_f h3 (by omega); omega))⟩⟩
      · skip
        have h28_d := gx_iC_b h3 (by omega) h28
        have h28_ := gx_eqnr (k := 59) (gx_lit 59 (by decide)) h28
        refine gx_in (Q := gx_q_MD_close S) (vp_in_iff.mpr (by have := gx_iC_f h3 (by omega); omega)) ?_
        have key137 : ∀ (k0_j137 : Int32) (S_j137 : gm_S), (gm_iC (S_j137.2.2 20) (S_j137.2.2 21) (S_j137.2.2 22) (S.1 26) (S.1 28) (S.1 29)) → ((S_j137.2.2 20).toInt = (S.2.2 20).toInt) → ((S_j137.2.2 19).toInt = (S.2.2 19).toInt) → ((S_j137.2.2 21).toInt = (S.1 28 (Int32.toNatClampNeg (S.2.2 20))).toInt) → ((S_j137.2.2 22).toInt = (S.1 29 (Int32.toNatClampNeg (S.2.2 20))).toInt) → (0 ≤ (S_j137.1 9 (Int32.toNatClampNeg (S.2.2 5))).toInt) → ((((S_j137.1 9 (Int32.toNatClampNeg (S.2.2 5))).toInt + (S.1 28 (Int32.toNatClampNeg (S.2.2 20))).toInt) + (S.1 29 (Int32.toNatClampNeg (S.2.2 20))).toInt) ≤ ((((S.1 9 (Int32.toNatClampNeg (S.2.2 5))).toInt + (S.2.2 21).toInt) + (S.2.2 22).toInt) + 2)) → ((vp_in (S_j137.2.2 20) 8) ∧ ((gm_p_MD_primary k0_j137 (va_up (va_up (va_up (va_up (va_up (va_up (va_up (va_up S.1 8 (S_j137.1 8)) 9 (S_j137.1 9)) 10 (S_j137.1 10)) 11 (S_j137.1 11)) 12 (S_j137.1 12)) 13 (S_j137.1 13)) 30 (S_j137.1 30)) 31 (S_j137.1 31), va_up (va_up S.2.1 17 (S_j137.2.1 17)) 18 (S_j137.2.1 18), va_up (va_up (va_up (va_up (va_up (va_up S.2.2 19 (S_j137.2.2 19)) 20 ((S_j137.2.2 20) - 1)) 21 (S_j137.2.2 21)) 22 (S_j137.2.2 22)) 23 (S.1 27 (Int32.toNatClampNeg (S_j137.2.2 20)))) 25 (S_j137.2.2 25))) ∧ (gm_bd (gm_f_MD_primary k0_j137 (va_up (va_up (va_up (va_up (va_up (va_up (va_up (va_up S.1 8 (S_j137.1 8)) 9 (S_j137.1 9)) 10 (S_j137.1 10)) 11 (S_j137.1 11)) 12 (S_j137.1 12)) 13 (S_j137.1 13)) 30 (S_j137.1 30)) 31 (S_j137.1 31), va_up (va_up S.2.1 17 (S_j137.2.1 17)) 18 (S_j137.2.1 18), va_up (va_up (va_up (va_up (va_up (va_up S.2.2 19 (S_j137.2.2 19)) 20 ((S_j137.2.2 20) - 1)) 21 (S_j137.2.2 21)) 22 (S_j137.2.2 22)) 23 (S.1 27 (Int32.toNatClampNeg (S_j137.2.2 20)))) 25 (S_j137.2.2 25))) (fun _ u163 => True)))) ∧ gx_q_MD_close S (gm_bd (gm_f_MD_primary k0_j137 (va_up (va_up (va_up (va_up (va_up (va_up (va_up (va_up S.1 8 (S_j137.1 8)) 9 (S_j137.1 9)) 10 (S_j137.1 10)) 11 (S_j137.1 11)) 12 (S_j137.1 12)) 13 (S_j137.1 13)) 30 (S_j137.1 30)) 31 (S_j137.1 31), va_up (va_up S.2.1 17 (S_j137.2.1 17)) 18 (S_j137.2.1 18), va_up (va_up (va_up (va_up (va_up (va_up S.2.2 19 (S_j137.2.2 19)) 20 ((S_j137.2.2 20) - 1)) 21 (S_j137.2.2 21)) 22 (S_j137.2.2 22)) 23 (S.1 27 (Int32.toNatClampNeg (S_j137.2.2 20)))) 25 (S_j137.2.2 25))) (fun _ u163 => (0, (va_up (va_up (va_up (va_up (va_up (va_up (va_up (va_up S.1 8 (S_j137.1 8)) 9 (u163.1 9)) 10 (u163.1 10)) 11 (u163.1 11)) 12 (u163.1 12)) 13 (u163.1 13)) 30 (u163.1 30)) 31 (S_j137.1 31), va_up (va_up S.2.1 17 (u163.2.1 17)) 18 (u163.2.1 18), va_up (va_up (va_up (va_up (va_up (va_up S.2.2 19 (u163.2.2 19)) 20 ((S_j137.2.2 20) - 1)) 21 (u163.2.2 21)) 22 (S_j137.2.2 22)) 23 (u163.2.2 23)) 25 (S_j137.2.2 25))))) := by
          intro k0_j137 S_j137 h29 h30 h31 h32 h33 h34 h35
          try dsimp only
          refine gx_in (Q := gx_q_MD_close S) (vp_in_iff.mpr (by have := gx_iC_f h3 (by omega); omega)) ?_
          refine gx_ca (Q := gx_q_MD_close S) (gx_q_MD_primary _ _) (gx_s_MD_primary _ _ h1 h2 h34 (show (S_j137.1 9 (Int32.toNatClampNeg (S.2.2 5))).toInt ≤ 145 from (by have := gx_iC_f h3 (by omega); omega)) (show 0 ≤ (S_j137.2.2 19).toInt from (by have := gx_iC_f h3 (by omega); omega)) (show (S_j137.2.2 19).toInt ≤ (S.2.2 2).toInt from (by have := gx_iC_f h3 (by omega); omega)) (show 0 ≤ (S_j137.2.2 21).toInt from (by have := gx_iC_f h3 (by omega); omega)) (show (S_j137.2.2 21).toInt ≤ 58 from (by have := gx_iC_f h3 (by omega); omega))) ?_
          intro r_h36 u163 h36
          have h36_0 : ((u163.2.2 21).toInt = ((S_j137.2.2 21).toInt + 1)) ∧ (((u163.2.2 23).toInt = 0) ∧ (((S_j137.2.2 19).toInt ≤ (u163.2.2 19).toInt) ∧ (((u163.2.2 19).toInt ≤ ((S_j137.2.2 19).toInt + 1)) ∧ (((u163.2.2 19).toInt ≤ (S.2.2 2).toInt) ∧ (((S_j137.1 9 (Int32.toNatClampNeg (S.2.2 5))).toInt ≤ (u163.1 9 (Int32.toNatClampNeg (S.2.2 5))).toInt) ∧ (((u163.1 9 (Int32.toNatClampNeg (S.2.2 5))).toInt ≤ ((S_j137.1 9 (Int32.toNatClampNeg (S.2.2 5))).toInt + (2 * ((u163.2.2 19).toInt - (S_j137.2.2 19).toInt)))) ∨ (((S.1 27 (Int32.toNatClampNeg (S_j137.2.2 20))).toInt ≠ 0) ∧ ((u163.1 9 (Int32.toNatClampNeg (S.2.2 5))).toInt ≤ (((S_j137.1 9 (Int32.toNatClampNeg (S.2.2 5))).toInt + (2 * ((u163.2.2 19).toInt - (S_j137.2.2 19).toInt))) + 1))))))))) := h36
          clear h36
          exact ⟨trivial, ⟨(gx_iC_p h3 (show ((S_j137.2.2 20) - 1).toInt = ((S.2.2 20).toInt - 1) from (by have := gx_iC_f h3 (by omega); have := gx_sk (S_j137.2.2 20) 1 (1) (by decide); omega)) (show 1 ≤ (S.2.2 20).toInt from (by have := gx_iC_f h3 (by omega); omega)) (show (S.1 28 (Int32.toNatClampNeg (S.2.2 20))).toInt ≤ (u163.2.2 21).toInt from (by have := gx_iC_f h3 (by omega); omega)) (show (S.1 29 (Int32.toNatClampNeg (S.2.2 20))).toInt ≤ (S_j137.2.2 22).toInt from (by have := gx_iC_f h3 (by omega); omega))), (show (0 ≤ (u163.1 9 (Int32.toNatClampNeg (S.2.2 5))).toInt) ∧ (((S.2.2 19).toInt ≤ (u163.2.2 19).toInt) ∧ (((u163.2.2 19).toInt ≤ (S.2.2 2).toInt) ∧ ((0 ≤ ((S_j137.2.2 20) - 1).toInt) ∧ ((((S_j137.2.2 20) - 1).toInt ≤ 6) ∧ ((0 ≤ (u163.2.2 21).toInt) ∧ ((0 ≤ (S_j137.2.2 22).toInt) ∧ (((u163.2.2 23).toInt = 0) ∧ ((((((u163.1 9 (Int32.toNatClampNeg (S.2.2 5))).toInt + (u163.2.2 21).toInt) + (S_j137.2.2 22).toInt) + (2 * ((S_j137.2.2 20) - 1).toInt)) ≤ ((((((S.1 9 (Int32.toNatClampNeg (S.2.2 5))).toInt + (S.2.2 21).toInt) + (S.2.2 22).toInt) + (2 * (S.2.2 20).toInt)) + 2) + (2 * ((u163.2.2 19).toInt - (S.2.2 19).toInt)))) ∧ ((((u163.2.2 21).toInt + (S_j137.2.2 22).toInt) + ((S_j137.2.2 20) - 1).toInt) ≤ (((S.2.2 21).toInt + (S.2.2 22).toInt) + (S.2.2 20).toInt)))))))))) from (by have := gx_iC_f h3 (by omega); have := gx_sk (S_j137.2.2 20) 1 (1) (by decide); omega))⟩⟩
        refine gx_if (Q := gx_q_MD_close S) (fun h29 => ?_) (fun h29 => ?_)
        · skip
          have h29_ := gx_eqr (k := 123) (gx_lit 123 (by decide)) h29
          refine gx_ca (Q := gx_q_MD_close S) (gx_q_MD_create _ _ _ _) (gx_s_MD_create _ _ _ _ h1 h2 h25 (show (S_23.1 9 (Int32.toNatClampNeg (S.2.2 5))).toInt ≤ 150 from (by have := gx_iC_f h3 (by omega); omega))) ?_
          intro r130 u130 h30
          have h30_0 : ((u130.1 9 (Int32.toNatClampNeg (S.2.2 5))).toInt = ((S_23.1 9 (Int32.toNatClampNeg (S.2.2 5))).toInt + 1)) ∧ (r130.toInt = ((160 * (S.2.2 5).toInt) + (S_23.1 9 (Int32.toNatClampNeg (S.2.2 5))).toInt)) := h30
          clear h30
          refine key137 r130 (va_up (va_up (va_up (va_up (va_up (va_up (va_up (va_up S.1 8 (S_23.1 8)) 9 (u130.1 9)) 10 (u130.1 10)) 11 (u130.1 11)) 12 (u130.1 12)) 13 (u130.1 13)) 30 (S_23.1 30)) 31 (S_23.1 31), va_up (va_up S.2.1 17 (u130.2.1 17)) 18 (u130.2.1 18), va_up (va_up (va_up (va_up (va_up (va_up S.2.2 19 (S.2.2 19)) 20 (S.2.2 20)) 21 (S_23.2.2 21)) 22 (S.1 29 (Int32.toNatClampNeg (S.2.2 20)))) 23 (S_23.2.2 23)) 25 (S_23.2.2 25)) ?_ ?_ ?_ ?_ ?_ ?_ ?_
          · exact (gx_iC_s h3 (show (S.1 28 (Int32.toNatClampNeg (S.2.2 20))).toInt ≤ (S_23.2.2 21).toInt from (by have := gx_iC_f h3 (by omega); omega)) (show (S.1 29 (Int32.toNatClampNeg (S.2.2 20))).toInt ≤ (S.1 29 (Int32.toNatClampNeg (S.2.2 20))).toInt from (by have := gx_iC_f h3 (by omega); omega)))
          · exact (show (S.2.2 20).toInt = (S.2.2 20).toInt from (by have := gx_iC_f h3 (by omega); omega))
          · exact (show (S.2.2 19).toInt = (S.2.2 19).toInt from (by have := gx_iC_f h3 (by omega); omega))
          · exact h19
          · exact (show (S.1 29 (Int32.toNatClampNeg (S.2.2 20))).toInt = (S.1 29 (Int32.toNatClampNeg (S.2.2 20))).toInt from (by have := gx_iC_f h3 (by omega); omega))
          · exact (show 0 ≤ (u130.1 9 (Int32.toNatClampNeg (S.2.2 5))).toInt from (by have := gx_iC_f h3 (by omega); omega))
          · exact (show (((u130.1 9 (Int32.toNatClampNeg (S.2.2 5))).toInt + (S.1 28 (Int32.toNatClampNeg (S.2.2 20))).toInt) + (S.1 29 (Int32.toNatClampNeg (S.2.2 20))).toInt) ≤ ((((S.1 9 (Int32.toNatClampNeg (S.2.2 5))).toInt + (S.2.2 21).toInt) + (S.2.2 22).toInt) + 2) from (by have := gx_iC_f h3 (by omega); omega))
        · skip
          have h29_ := gx_eqnr (k := 123) (gx_lit 123 (by decide)) h29
          refine key137 v1_23 (va_up (va_up (va_up (va_up (va_up (va_up (va_up (va_up S.1 8 (S_23.1 8)) 9 (S_23.1 9)) 10 (S_23.1 10)) 11 (S_23.1 11)) 12 (S_23.1 12)) 13 (S_23.1 13)) 30 (S_23.1 30)) 31 (S_23.1 31), va_up (va_up S.2.1 17 (S_23.2.1 17)) 18 (S_23.2.1 18), va_up (va_up (va_up (va_up (va_up (va_up S.2.2 19 (S.2.2 19)) 20 (S.2.2 20)) 21 (S_23.2.2 21)) 22 (S.1 29 (Int32.toNatClampNeg (S.2.2 20)))) 23 (S_23.2.2 23)) 25 (S_23.2.2 25)) ?_ ?_ ?_ ?_ ?_ ?_ ?_
          · exact (gx_iC_s h3 (show (S.1 28 (Int32.toNatClampNeg (S.2.2 20))).toInt ≤ (S_23.2.2 21).toInt from (by have := gx_iC_f h3 (by omega); omega)) (show (S.1 29 (Int32.toNatClampNeg (S.2.2 20))).toInt ≤ (S.1 29 (Int32.toNatClampNeg (S.2.2 20))).toInt from (by have := gx_iC_f h3 (by omega); omega)))
          · exact (show (S.2.2 20).toInt = (S.2.2 20).toInt from (by have := gx_iC_f h3 (by omega); omega))
          · exact (show (S.2.2 19).toInt = (S.2.2 19).toInt from (by have := gx_iC_f h3 (by omega); omega))
          · exact h19
          · exact (show (S.1 29 (Int32.toNatClampNeg (S.2.2 20))).toInt = (S.1 29 (Int32.toNatClampNeg (S.2.2 20))).toInt from (by have := gx_iC_f h3 (by omega); omega))
          · exact h25
          · exact (show (((S_23.1 9 (Int32.toNatClampNeg (S.2.2 5))).toInt + (S.1 28 (Int32.toNatClampNeg (S.2.2 20))).toInt) + (S.1 29 (Int32.toNatClampNeg (S.2.2 20))).toInt) ≤ ((((S.1 9 (Int32.toNatClampNeg (S.2.2 5))).toInt + (S.2.2 21).toInt) + (S.2.2 22).toInt) + 2) from (by have := gx_iC_f h3 (by omega); omega))
    · skip
      have h27_ := gx_ltn h27
      refine gx_in (Q := gx_q_MD_close S) (vp_in_iff.mpr (by have := gx_iC_f h3 (by omega); omega)) ?_
      refine gx_ca (Q := gx_q_MD_close S) (gx_q_MD_create _ _ _ _) (gx_s_MD_create _ _ _ _ h1 h2 h25 (show (S_23.1 9 (Int32.toNatClampNeg (S.2.2 5))).toInt ≤ 150 from (by have := gx_iC_f h3 (by omega); omega))) ?_
      intro r45 u45 h28
      have h28_0 : ((u45.1 9 (Int32.toNatClampNeg (S.2.2 5))).toInt = ((S_23.1 9 (Int32.toNatClampNeg (S.2.2 5))).toInt + 1)) ∧ (r45.toInt = ((160 * (S.2.2 5).toInt) + (S_23.1 9 (Int32.toNatClampNeg (S.2.2 5))).toInt)) := h28
      clear h28
      refine ih _ _ _ ?_ ?_ ?_ ?_ ?_ ?_ ?_ ?_ ?_ ?_ ?_
      · exact (gx_iC_s h3 (show (S.1 28 (Int32.toNatClampNeg (S.2.2 20))).toInt ≤ (S_23.2.2 21).toInt from (by have := gx_iC_f h3 (by omega); omega)) (show (S.1 29 (Int32.toNatClampNeg (S.2.2 20))).toInt ≤ (S_23.2.2 22).toInt from (by have := gx_iC_f h3 (by omega); omega)))
      · exact rfl
      · exact rfl
      · exact h19
      · exact h20
      · exact h21
      · exact (show ((S.1 29 (Int32.toNatClampNeg (S.2.2 20))).toInt - 1) ≤ (v2_23 + (-1)).toInt from (by have := gx_iC_f h3 (by omega); have e1 := gx_ak v2_23 (-1) (-1) (by decide); generalize (v2_23 + (-1)).toInt = t1 at e1 ⊢; omega))
      · exact (show (v2_23 + (-1)).toInt ≤ ((S.2.2 22).toInt - 1) from (by have := gx_iC_f h3 (by omega); have e1 := gx_ak v2_23 (-1) (-1) (by decide); generalize (v2_23 + (-1)).toInt = t1 at e1 ⊢; omega))
      · exact (show (((v2_23 + (-1)).toInt - (S.1 29 (Int32.toNatClampNeg (S.2.2 20))).toInt) + 2) < n23 from (by have := gx_iC_f h3 (by omega); have e1 := gx_ak v2_23 (-1) (-1) (by decide); generalize (v2_23 + (-1)).toInt = t1 at e1 ⊢; omega))
      · exact (show 0 ≤ (u45.1 9 (Int32.toNatClampNeg (S.2.2 5))).toInt from (by have := gx_iC_f h3 (by omega); omega))
      · exact (show (((u45.1 9 (Int32.toNatClampNeg (S.2.2 5))).toInt + (v2_23 + (-1)).toInt) + (S.1 28 (Int32.toNatClampNeg (S.2.2 20))).toInt) ≤ (((S.1 9 (Int32.toNatClampNeg (S.2.2 5))).toInt + (S.2.2 21).toInt) + (S.2.2 22).toInt) from (by have := gx_iC_f h3 (by omega); have e1 := gx_ak v2_23 (-1) (-1) (by decide); generalize (v2_23 + (-1)).toInt = t1 at e1 ⊢; omega))
set_option maxRecDepth 100000 in
theorem gx_s_MD_close (S : gm_S) (h1 : gm_iW 50 (S.2.2 2) (S.1 3)) (h2 : gm_iN 1 (S.2.2 5)) (h3 : gm_iC (S.2.2 20) (S.2.2 21) (S.2.2 22) (S.1 26) (S.1 28) (S.1 29)) (h4 : 0 ≤ (S.1 9 (Int32.toNatClampNeg (S.2.2 5))).toInt) (h5 : (((S.1 9 (Int32.toNatClampNeg (S.2.2 5))).toInt + (S.2.2 21).toInt) + (S.2.2 22).toInt) ≤ 110) (h6 : 0 ≤ (S.2.2 19).toInt) (h7 : (S.2.2 19).toInt ≤ (S.2.2 2).toInt) (h8 : 0 ≤ (S.2.2 20).toInt) (h9 : (S.2.2 20).toInt ≤ 6) (h10 : (S.2.2 21).toInt ≤ 50) (h11 : (S.2.2 22).toInt ≤ 50) (h12 : (S.2.2 23).toInt = 0) (h13 : 0 ≤ (S.1 6 (Int32.toNatClampNeg (S.2.2 5))).toInt) (h14 : (S.1 6 (Int32.toNatClampNeg (S.2.2 5))).toInt ≤ 7) : gm_p_MD_close S ∧ gx_q_MD_close S (gm_f_MD_close S) := by
  unfold gm_p_MD_close gm_f_MD_close
  refine gx_ca (Q := gx_q_MD_close S) (gx_q_MD_endSequence _) (gx_s_MD_endSequence _ h1 h2 h4 (show ((S.1 9 (Int32.toNatClampNeg (S.2.2 5))).toInt + (S.2.2 21).toInt) ≤ 120 from (by have := gx_iC_f h3 (by omega); omega)) h8 h9 (show 0 ≤ (S.1 28 (Int32.toNatClampNeg (S.2.2 20))).toInt from (by have := gx_iC_f h3 (by omega); omega)) (show (S.1 28 (Int32.toNatClampNeg (S.2.2 20))).toInt ≤ (S.2.2 21).toInt from (by have := gx_iC_f h3 (by omega); omega)) (show (S.2.2 21).toInt ≤ 55 from (by have := gx_iC_f h3 (by omega); omega)) (show 0 ≤ (S.2.2 22).toInt from (by have := gx_iC_f h3 (by omega); omega)) (show (S.2.2 22).toInt ≤ 55 from (by have := gx_iC_f h3 (by omega); omega))) ?_
  intro r_h15 u1 h15
  have h15_0 : ((u1.2.2 21).toInt = (S.1 28 (Int32.toNatClampNeg (S.2.2 20))).toInt) ∧ (((u1.2.2 22).toInt = ((S.2.2 22).toInt + 1)) ∧ (((S.1 9 (Int32.toNatClampNeg (S.2.2 5))).toInt ≤ (u1.1 9 (Int32.toNatClampNeg (S.2.2 5))).toInt) ∧ ((((S.2.2 21).toInt = (S.1 28 (Int32.toNatClampNeg (S.2.2 20))).toInt) ∧ ((u1.1 9 (Int32.toNatClampNeg (S.2.2 5))).toInt = ((S.1 9 (Int32.toNatClampNeg (S.2.2 5))).toInt + 1))) ∨ (((S.1 28 (Int32.toNatClampNeg (S.2.2 20))).toInt < (S.2.2 21).toInt) ∧ ((u1.1 9 (Int32.toNatClampNeg (S.2.2 5))).toInt = ((((S.1 9 (Int32.toNatClampNeg (S.2.2 5))).toInt + (S.2.2 21).toInt) - (S.1 28 (Int32.toNatClampNeg (S.2.2 20))).toInt) - 1)))))) := h15
  clear h15
  refine gx_in (Q := gx_q_MD_close S) (vp_in_iff.mpr (by have := gx_iC_f h3 (by omega); have := gx_sk (u1.2.2 22) 1 (1) (by decide); omega)) ?_
  refine gx_s_MD_close_23 _ _ ?_ ?_ ?_ ?_ ?_ ?_ ?_ ?_ ?_ ?_ ?_ ?_ ?_ ?_ ?_ _ _ _ _ ?_ ?_ ?_ ?_ ?_ ?_ ?_ ?_ ?_ ?_ ?_
  · exact h1
  · exact h2
  · exact h3
  · exact (show 0 ≤ (S.1 9 (Int32.toNatClampNeg (S.2.2 5))).toInt from (by have := gx_iC_f h3 (by omega); omega))
  · exact (show (((S.1 9 (Int32.toNatClampNeg (S.2.2 5))).toInt + (S.2.2 21).toInt) + (S.2.2 22).toInt) ≤ 110 from (by have := gx_iC_f h3 (by omega); omega))
  · exact (show 0 ≤ (S.2.2 19).toInt from (by have := gx_iC_f h3 (by omega); omega))
  · exact (show (S.2.2 19).toInt ≤ (S.2.2 2).toInt from (by have := gx_iC_f h3 (by omega); omega))
  · exact (show 0 ≤ (S.2.2 20).toInt from (by have := gx_iC_f h3 (by omega); omega))
  · exact (show (S.2.2 20).toInt ≤ 6 from (by have := gx_iC_f h3 (by omega); omega))
  · exact (show (S.2.2 21).toInt ≤ 50 from (by have := gx_iC_f h3 (by omega); omega))
  · exact (show (S.2.2 22).toInt ≤ 50 from (by have := gx_iC_f h3 (by omega); omega))
  · exact (show (S.2.2 23).toInt = 0 from (by have := gx_iC_f h3 (by omega); omega))
  · exact (show 0 ≤ (S.1 6 (Int32.toNatClampNeg (S.2.2 5))).toInt from (by have := gx_iC_f h3 (by omega); omega))
  · exact (show (S.1 6 (Int32.toNatClampNeg (S.2.2 5))).toInt ≤ 7 from (by have := gx_iC_f h3 (by omega); omega))
  · exact (show (u1.2.2 21).toInt = (S.1 28 (Int32.toNatClampNeg (S.2.2 20))).toInt from (by have := gx_iC_f h3 (by omega); omega))
  · exact (gx_iC_s h3 (show (S.1 28 (Int32.toNatClampNeg (S.2.2 20))).toInt ≤ (u1.2.2 21).toInt from (by have := gx_iC_f h3 (by omega); omega)) (show (S.1 29 (Int32.toNatClampNeg (S.2.2 20))).toInt ≤ (u1.2.2 22).toInt from (by have := gx_iC_f h3 (by omega); omega)))
  · exact rfl
  · exact rfl
  · exact (show (u1.2.2 21).toInt = (S.1 28 (Int32.toNatClampNeg (S.2.2 20))).toInt from (by have := gx_iC_f h3 (by omega); omega))
  · exact (show (u1.2.2 22).toInt = ((S.2.2 22).toInt + 1) from (by have := gx_iC_f h3 (by omega); omega))
  · exact h12
  · exact (show ((S.1 29 (Int32.toNatClampNeg (S.2.2 20))).toInt - 1) ≤ ((u1.2.2 22) - 2).toInt from (by have := gx_iC_f h3 (by omega); have := gx_sk (u1.2.2 22) 2 (2) (gx_lit 2 (by decide)); omega))
  · exact (show ((u1.2.2 22) - 2).toInt ≤ ((S.2.2 22).toInt - 1) from (by have := gx_iC_f h3 (by omega); have := gx_sk (u1.2.2 22) 2 (2) (gx_lit 2 (by decide)); omega))
  · exact (show ((((u1.2.2 22) - 2).toInt - (S.1 29 (Int32.toNatClampNeg (S.2.2 20))).toInt) + 2) < 200 from (by have := gx_iC_f h3 (by omega); have := gx_sk (u1.2.2 22) 2 (2) (gx_lit 2 (by decide)); omega))
  · exact (show 0 ≤ (u1.1 9 (Int32.toNatClampNeg (S.2.2 5))).toInt from (by have := gx_iC_f h3 (by omega); omega))
  · exact (show (((u1.1 9 (Int32.toNatClampNeg (S.2.2 5))).toInt + ((u1.2.2 22) - 2).toInt) + (S.1 28 (Int32.toNatClampNeg (S.2.2 20))).toInt) ≤ (((S.1 9 (Int32.toNatClampNeg (S.2.2 5))).toInt + (S.2.2 21).toInt) + (S.2.2 22).toInt) from (by have := gx_iC_f h3 (by omega); have := gx_sk (u1.2.2 22) 2 (2) (gx_lit 2 (by decide)); omega))
