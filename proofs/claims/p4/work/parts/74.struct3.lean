/-- between two rules: all parts in order, unless the text was refused -/
def gm_iX (w : Int32) (ty fr : Int32) (rc nm wh pa kd on tw ow : Nat → Int32) : Prop := w.toInt ≠ 0 ∨ gm_iS 0 ty fr rc nm wh pa kd on tw ow 0 0 (fun _ => 0) (fun _ => 0)
theorem gx_iS_0 {w : Int32} {ty fr : Int32} {rc nm wh pa kd on tw ow : Nat → Int32} (h : gm_iX w ty fr rc nm wh pa kd on tw ow) (hw : w.toInt = 0) (it al : Nat → Int32) : gm_iS 1 ty fr rc nm wh pa kd on tw ow 0 0 it al := by
  have z : (0 : Int32).toInt = 0 := by decide
  rcases h with h | h
  · exact absurd hw h
  · exact ⟨fun n h1 h2 => ⟨(h.1 n h1 h2).1, (h.1 n h1 h2).2.1, by have := (h.1 n h1 h2).2.2; omega⟩, fun k hk => by omega, fun k hk => by omega, h.2.2.2⟩
theorem gx_iS_r {ty fr : Int32} {rc nm wh pa kd on tw ow : Nat → Int32} {i l : Int32} {it al : Nat → Int32} (h : gm_iS 1 ty fr rc nm wh pa kd on tw ow i l it al) {J : Nat} {c r' : Int32} (hJ : (J : Int) = 8 * fr.toInt + (rc (Int32.toNatClampNeg fr)).toInt) (hr : r'.toInt = (rc (Int32.toNatClampNeg fr)).toInt + 1) (hc : 65 ≤ c.toInt) (hc2 : c.toInt ≤ 90) (hw : 160 * fr.toInt ≤ (wh J).toInt) (hw2 : (wh J).toInt < 160 * fr.toInt + (pa (Int32.toNatClampNeg fr)).toInt) : gm_iS 0 ty fr (upd rc (Int32.toNatClampNeg fr) r') (upd nm J c) wh pa kd on tw ow 0 0 (fun _ => 0) (fun _ => 0) := by
  have z : (0 : Int32).toInt = 0 := by decide
  unfold gm_iS
  rw [gx_us]
  refine ⟨fun n h1 h2 => ⟨(h.1 n h1 h2).1, (h.1 n h1 h2).2.1, by have := (h.1 n h1 h2).2.2; omega⟩, fun k hk => by omega, fun k hk => by omega, fun r h1 j hj => ?_⟩
  by_cases q : j = J
  · rw [q, gx_us]; exact ⟨hc, hc2, hw, hw2⟩
  · rw [gx_un _ _ _ q]; exact h.2.2.2 r (by omega) j hj
theorem gx_iX_0 (w ty fr : Int32) (rc nm wh pa kd on tw : Nat → Int32) {ow : Nat → Int32} : gm_iX w ty fr (upd rc (Int32.toNatClampNeg fr) 0) nm wh (upd pa (Int32.toNatClampNeg fr) 0) kd on tw ow := by
  have z : (0 : Int32).toInt = 0 := by decide
  right
  unfold gm_iS
  rw [gx_us, gx_us]
  exact ⟨fun n h1 h2 => by omega, fun k hk => by omega, fun k hk => by omega, fun r h1 => by omega⟩
abbrev gy_q_MD_readRule (S : gm_S) (z : Int32 × (gm_S)) : Prop := (gm_iX (z.2.2.2 24) (S.2.2 2) (S.2.2 5) (z.2.1 6) (z.2.1 7) (z.2.1 8) (z.2.1 9) (z.2.1 10) (z.2.1 11) (z.2.1 12) (z.2.1 13)) ∧ ((0 ≤ (z.2.1 9 (Int32.toNatClampNeg (S.2.2 5))).toInt) ∧ (((z.2.1 9 (Int32.toNatClampNeg (S.2.2 5))).toInt ≤ (2 * (z.2.2.2 19).toInt)) ∧ (((S.2.2 19).toInt ≤ (z.2.2.2 19).toInt) ∧ (((z.2.2.2 19).toInt ≤ (S.2.2 2).toInt) ∧ ((0 ≤ (z.2.1 6 (Int32.toNatClampNeg (S.2.2 5))).toInt) ∧ (((z.2.1 6 (Int32.toNatClampNeg (S.2.2 5))).toInt ≤ 8) ∧ ((((S.2.2 19).toInt < (z.2.2.2 19).toInt) ∨ ((z.2.2.2 24).toInt ≠ 0)))))))))
set_option maxRecDepth 100000 in
theorem gy_s_MD_readRule_j44 (S : gm_S) (r1 : Int32) (u1 : gm_S) (S_j44 : gm_S) (h1 : gm_iW 50 (S.2.2 2) (S.1 3)) (h2 : gm_iN 1 (S.2.2 5)) (h3 : gm_iX (S.2.2 24) (S.2.2 2) (S.2.2 5) (S.1 6) (S.1 7) (S.1 8) (S.1 9) (S.1 10) (S.1 11) (S.1 12) (S.1 13)) (h4 : 0 ≤ (S.1 9 (Int32.toNatClampNeg (S.2.2 5))).toInt) (h5 : (S.1 9 (Int32.toNatClampNeg (S.2.2 5))).toInt ≤ (2 * (S.2.2 19).toInt)) (h6 : 0 ≤ (S.2.2 19).toInt) (h7 : (S.2.2 19).toInt ≤ (S.2.2 2).toInt) (h8 : 0 ≤ (S.1 6 (Int32.toNatClampNeg (S.2.2 5))).toInt) (h9 : (S.1 6 (Int32.toNatClampNeg (S.2.2 5))).toInt ≤ 8) (h10 : (S.2.2 24).toInt = 0) (h11 : (S_j44.1 9 (Int32.toNatClampNeg (S.2.2 5))).toInt = (S.1 9 (Int32.toNatClampNeg (S.2.2 5))).toInt) (h12 : (S_j44.1 6 (Int32.toNatClampNeg (S.2.2 5))).toInt = (S.1 6 (Int32.toNatClampNeg (S.2.2 5))).toInt) (h13 : (S_j44.2.2 19).toInt = (S.2.2 19).toInt) (h14 : gm_iX (S_j44.2.2 24) (S.2.2 2) (S.2.2 5) (S_j44.1 6) (S_j44.1 7) (S_j44.1 8) (S_j44.1 9) (S_j44.1 10) (S_j44.1 11) (S_j44.1 12) (S_j44.1 13)) : gm_p_MD_readRule_j44 S r1 u1 S_j44 ∧ gy_q_MD_readRule S (gm_f_MD_readRule_j44 S r1 u1 S_j44) := by
  unfold gm_p_MD_readRule_j44 gm_f_MD_readRule_j44
  refine gx_ca (Q := gy_q_MD_readRule S) (gx_q_MD_refuse _) (gx_s_MD_refuse _ h1 h2) ?_
  intro r_h15 u45 h15
  have h15_0 : (u45.2.2 24).toInt = 1 := h15
  clear h15
  exact ⟨trivial, ⟨(Or.inl (show (u45.2.2 24).toInt ≠ 0 from (by omega))), (show (0 ≤ (S_j44.1 9 (Int32.toNatClampNeg (S.2.2 5))).toInt) ∧ (((S_j44.1 9 (Int32.toNatClampNeg (S.2.2 5))).toInt ≤ (2 * (S_j44.2.2 19).toInt)) ∧ (((S.2.2 19).toInt ≤ (S_j44.2.2 19).toInt) ∧ (((S_j44.2.2 19).toInt ≤ (S.2.2 2).toInt) ∧ ((0 ≤ (S_j44.1 6 (Int32.toNatClampNeg (S.2.2 5))).toInt) ∧ (((S_j44.1 6 (Int32.toNatClampNeg (S.2.2 5))).toInt ≤ 8) ∧ (((S.2.2 19).toInt < (S_j44.2.2 19).toInt) ∨ ((u45.2.2 24).toInt ≠ 0))))))) from (by omega))⟩⟩
set_option maxRecDepth 100000 in
theorem gy_s_MD_readRule_130 (S : gm_S) (r1 : Int32) (u1 : gm_S) (r37 : Int32) (u37 : gm_S) (r60 : Int32) (u60 : gm_S) (h1 : gm_iW 50 (S.2.2 2) (S.1 3)) (h2 : gm_iN 1 (S.2.2 5)) (h3 : gm_iX (S.2.2 24) (S.2.2 2) (S.2.2 5) (S.1 6) (S.1 7) (S.1 8) (S.1 9) (S.1 10) (S.1 11) (S.1 12) (S.1 13)) (h4 : 0 ≤ (S.1 9 (Int32.toNatClampNeg (S.2.2 5))).toInt) (h5 : (S.1 9 (Int32.toNatClampNeg (S.2.2 5))).toInt ≤ (2 * (S.2.2 19).toInt)) (h6 : 0 ≤ (S.2.2 19).toInt) (h7 : (S.2.2 19).toInt ≤ (S.2.2 2).toInt) (h8 : 0 ≤ (S.1 6 (Int32.toNatClampNeg (S.2.2 5))).toInt) (h9 : (S.1 6 (Int32.toNatClampNeg (S.2.2 5))).toInt ≤ 8) (h10 : (S.2.2 24).toInt = 0) (h11 : (S.1 6 (Int32.toNatClampNeg (S.2.2 5))).toInt ≤ 7) (h12 : 65 ≤ r1.toInt) (h13 : r1.toInt ≤ 90) : ∀ (n130 : Nat) (S_130 : gm_S), (gm_iC (S_130.2.2 20) (S_130.2.2 21) (S_130.2.2 22) (S_130.1 26) (S_130.1 28) (S_130.1 29)) → (gm_iS 1 (S.2.2 2) (S.2.2 5) (S_130.1 6) (S_130.1 7) (S_130.1 8) (S_130.1 9) (S_130.1 10) (S_130.1 11) (S_130.1 12) (S_130.1 13) (S_130.2.2 21) (S_130.2.2 22) (S_130.1 30) (S_130.1 31)) → (0 ≤ (S_130.1 9 (Int32.toNatClampNeg (S.2.2 5))).toInt) → (0 ≤ (S_130.2.2 19).toInt) → ((S_130.2.2 19).toInt ≤ (S.2.2 2).toInt) → (0 ≤ (S_130.2.2 20).toInt) → ((S_130.2.2 20).toInt ≤ 6) → (0 ≤ (S_130.2.2 21).toInt) → (0 ≤ (S_130.2.2 22).toInt) → (((((S_130.1 9 (Int32.toNatClampNeg (S.2.2 5))).toInt + (S_130.2.2 21).toInt) + (S_130.2.2 22).toInt) + (2 * (S_130.2.2 20).toInt)) ≤ (2 * (S_130.2.2 19).toInt)) → (((S_130.2.2 23).toInt = 0) ∨ ((((((S_130.1 9 (Int32.toNatClampNeg (S.2.2 5))).toInt + (S_130.2.2 21).toInt) + (S_130.2.2 22).toInt) + (2 * (S_130.2.2 20).toInt)) + 1) ≤ (2 * (S_130.2.2 19).toInt))) → ((((S_130.2.2 21).toInt + (S_130.2.2 22).toInt) + (S_130.2.2 20).toInt) ≤ (S_130.2.2 19).toInt) → ((S_130.1 6 (Int32.toNatClampNeg (S.2.2 5))).toInt = (S.1 6 (Int32.toNatClampNeg (S.2.2 5))).toInt) → ((S.2.2 19).toInt < (S_130.2.2 19).toInt) → (0 < n130) → (((S_130.2.2 24).toInt ≠ 0) ∨ ((((S.2.2 2).toInt - (S_130.2.2 19).toInt) + 1) < n130)) → (((S_130.2.2 25).toInt ≠ 0) ∨ (((160 * (S.2.2 5).toInt) ≤ (S_130.1 8 (Int32.toNatClampNeg ((8 * (S.2.2 5)) + (S_130.1 6 (Int32.toNatClampNeg (S.2.2 5)))))).toInt) ∧ ((S_130.1 8 (Int32.toNatClampNeg ((8 * (S.2.2 5)) + (S_130.1 6 (Int32.toNatClampNeg (S.2.2 5)))))).toInt < ((160 * (S.2.2 5).toInt) + (S_130.1 9 (Int32.toNatClampNeg (S.2.2 5))).toInt)))) → gm_p_MD_readRule_130 S r1 u1 r37 u37 r60 u60 n130 S_130 ∧ gy_q_MD_readRule S (gm_f_MD_readRule_130 S r1 u1 r37 u37 r60 u60 n130 S_130) := by
  intro n130
  induction n130 with
  | zero =>
    intro S_130 h14 h15 h16 h17 h18 h19 h20 h21 h22 h23 h24 h25 h26 h27 h28 h29 h30; exfalso; have := gx_iC_f h14 (by omega); have := gx_ad (8 * (S.2.2 5)) (S_130.1 6 (Int32.toNatClampNeg (S.2.2 5))); have := gx_mk 8 (S.2.2 5) 8 (gx_lit 8 (by decide)); omega
  | succ n130 ih =>
    intro S_130 h14 h15 h16 h17 h18 h19 h20 h21 h22 h23 h24 h25 h26 h27 h28 h29 h30
    rw [gm_p_MD_readRule_130, gm_f_MD_readRule_130]
    try dsimp only
    have key151 : ∀ (S_j151 : gm_S), (gm_iC (S_j151.2.2 20) (S_j151.2.2 21) (S_j151.2.2 22) (S_j151.1 26) (S_j151.1 28) (S_j151.1 29)) → (gm_iS 1 (S.2.2 2) (S.2.2 5) (S_j151.1 6) (S_j151.1 7) (S_j151.1 8) (S_j151.1 9) (S_j151.1 10) (S_j151.1 11) (S_j151.1 12) (S_j151.1 13) (S_j151.2.2 21) (S_j151.2.2 22) (S_j151.1 30) (S_j151.1 31)) → (0 ≤ (S_j151.1 9 (Int32.toNatClampNeg (S.2.2 5))).toInt) → (0 ≤ (S_j151.2.2 19).toInt) → ((S_j151.2.2 19).toInt ≤ (S.2.2 2).toInt) → (0 ≤ (S_j151.2.2 20).toInt) → ((S_j151.2.2 20).toInt ≤ 6) → (0 ≤ (S_j151.2.2 21).toInt) → (0 ≤ (S_j151.2.2 22).toInt) → (((((S_j151.1 9 (Int32.toNatClampNeg (S.2.2 5))).toInt + (S_j151.2.2 21).toInt) + (S_j151.2.2 22).toInt) + (2 * (S_j151.2.2 20).toInt)) ≤ (2 * (S_j151.2.2 19).toInt)) → (((S_j151.2.2 23).toInt = 0) ∨ ((((((S_j151.1 9 (Int32.toNatClampNeg (S.2.2 5))).toInt + (S_j151.2.2 21).toInt) + (S_j151.2.2 22).toInt) + (2 * (S_j151.2.2 20).toInt)) + 1) ≤ (2 * (S_j151.2.2 19).toInt))) → ((((S_j151.2.2 21).toInt + (S_j151.2.2 22).toInt) + (S_j151.2.2 20).toInt) ≤ (S_j151.2.2 19).toInt) → ((S_j151.1 6 (Int32.toNatClampNeg (S.2.2 5))).toInt = (S.1 6 (Int32.toNatClampNeg (S.2.2 5))).toInt) → ((S.2.2 19).toInt < (S_j151.2.2 19).toInt) → (((S_j151.2.2 25).toInt ≠ 0) ∨ (((160 * (S.2.2 5).toInt) ≤ (S_j151.1 8 (Int32.toNatClampNeg ((8 * (S.2.2 5)) + (S_j151.1 6 (Int32.toNatClampNeg (S.2.2 5)))))).toInt) ∧ ((S_j151.1 8 (Int32.toNatClampNeg ((8 * (S.2.2 5)) + (S_j151.1 6 (Int32.toNatClampNeg (S.2.2 5)))))).toInt < ((160 * (S.2.2 5).toInt) + (S_j151.1 9 (Int32.toNatClampNeg (S.2.2 5))).toInt)))) → (((S_j151.2.2 24).toInt ≠ 0) ∨ ((S_j151.2.2 25).toInt = 0)) → ((((S_j151.2.2 24) = 0) → ((vp_in (S.2.2 5) 2) ∧ ((vp_in ((8 * (S.2.2 5)) + (S_j151.1 6 (Int32.toNatClampNeg (S.2.2 5)))) 16) ∧ ((vp_in (S.2.2 5) 2) ∧ ((vp_in (S.2.2 5) 2) ∧ True))))) ∧ ((¬ ((S_j151.2.2 24) = 0)) → True)) ∧ gy_q_MD_readRule S (if (S_j151.2.2 24) = 0 then (0, (va_up (va_up (va_up (va_up (va_up (va_up (va_up (va_up (va_up (va_up (va_up (va_up (va_up (va_up S.1 6 (upd (S_j151.1 6) (Int32.toNatClampNeg (S.2.2 5)) ((S_j151.1 6 (Int32.toNatClampNeg (S.2.2 5))) + 1))) 7 (upd (S_j151.1 7) (Int32.toNatClampNeg ((8 * (S.2.2 5)) + (S_j151.1 6 (Int32.toNatClampNeg (S.2.2 5))))) r1)) 8 (S_j151.1 8)) 9 (S_j151.1 9)) 10 (S_j151.1 10)) 11 (S_j151.1 11)) 12 (S_j151.1 12)) 13 (S_j151.1 13)) 26 (S_j151.1 26)) 27 (S_j151.1 27)) 28 (S_j151.1 28)) 29 (S_j151.1 29)) 30 (S_j151.1 30)) 31 (S_j151.1 31), va_up (va_up S.2.1 17 (S_j151.2.1 17)) 18 (S_j151.2.1 18), va_up (va_up (va_up (va_up (va_up (va_up (va_up S.2.2 19 (S_j151.2.2 19)) 20 (S_j151.2.2 20)) 21 (S_j151.2.2 21)) 22 (S_j151.2.2 22)) 23 (S_j151.2.2 23)) 24 (S_j151.2.2 24)) 25 (S_j151.2.2 25))) else (0, (va_up (va_up (va_up (va_up (va_up (va_up (va_up (va_up (va_up (va_up (va_up (va_up (va_up (va_up S.1 6 (S_j151.1 6)) 7 (S_j151.1 7)) 8 (S_j151.1 8)) 9 (S_j151.1 9)) 10 (S_j151.1 10)) 11 (S_j151.1 11)) 12 (S_j151.1 12)) 13 (S_j151.1 13)) 26 (S_j151.1 26)) 27 (S_j151.1 27)) 28 (S_j151.1 28)) 29 (S_j151.1 29)) 30 (S_j151.1 30)) 31 (S_j151.1 31), va_up (va_up S.2.1 17 (S_j151.2.1 17)) 18 (S_j151.2.1 18), va_up (va_up (va_up (va_up (va_up (va_up (va_up S.2.2 19 (S_j151.2.2 19)) 20 (S_j151.2.2 20)) 21 (S_j151.2.2 21)) 22 (S_j151.2.2 22)) 23 (S_j151.2.2 23)) 24 (S_j151.2.2 24)) 25 (S_j151.2.2 25)))) := by
      intro S_j151 h31 h32 h33 h34 h35 h36 h37 h38 h39 h40 h41 h42 h43 h44 h45 h46
      try dsimp only
      refine gx_if (Q := gy_q_MD_readRule S) (fun h47 => ?_) (fun h47 => ?_)
      · skip
        have h47_ := gx_eqr (k := 0) (by decide) h47
        refine gx_in (Q := gy_q_MD_readRule S) (vp_in_iff.mpr (by have := gx_iC_f h14 (by omega); have := gx_iC_f h31 (by omega); have := gx_ad (8 * (S.2.2 5)) (S_130.1 6 (Int32.toNatClampNeg (S.2.2 5))); have := gx_ad (8 * (S.2.2 5)) (S_j151.1 6 (Int32.toNatClampNeg (S.2.2 5))); have := gx_mk 8 (S.2.2 5) 8 (gx_lit 8 (by decide)); omega)) ?_
        refine gx_in (Q := gy_q_MD_readRule S) (vp_in_iff.mpr (by have := gx_iC_f h14 (by omega); have := gx_iC_f h31 (by omega); have := gx_ad (8 * (S.2.2 5)) (S_j151.1 6 (Int32.toNatClampNeg (S.2.2 5))); have := gx_ad (8 * (S.2.2 5)) (S_130.1 6 (Int32.toNatClampNeg (S.2.2 5))); have := gx_mk 8 (S.2.2 5) 8 (gx_lit 8 (by decide)); omega)) ?_
        refine gx_in (Q := gy_q_MD_readRule S) (vp_in_iff.mpr (by have := gx_iC_f h14 (by omega); have := gx_iC_f h31 (by omega); have := gx_ad (8 * (S.2.2 5)) (S_130.1 6 (Int32.toNatClampNeg (S.2.2 5))); have := gx_ad (8 * (S.2.2 5)) (S_j151.1 6 (Int32.toNatClampNeg (S.2.2 5))); have := gx_mk 8 (S.2.2 5) 8 (gx_lit 8 (by decide)); omega)) ?_
        refine gx_in (Q := gy_q_MD_readRule S) (vp_in_iff.mpr (by have := gx_iC_f h14 (by omega); have := gx_iC_f h31 (by omega); have := gx_ad (8 * (S.2.2 5)) (S_130.1 6 (Int32.toNatClampNeg (S.2.2 5))); have := gx_ad (8 * (S.2.2 5)) (S_j151.1 6 (Int32.toNatClampNeg (S.2.2 5))); have := gx_mk 8 (S.2.2 5) 8 (gx_lit 8 (by decide)); omega)) ?_
        exact ⟨trivial, ⟨(Or.inr (gx_iS_r h32 (by have := gx_iC_f h14 (by omega); have := gx_iC_f h31 (by omega); have := gx_ad (8 * (S.2.2 5)) (S_j151.1 6 (Int32.toNatClampNeg (S.2.2 5))); have := gx_ad (8 * (S.2.2 5)) (S_130.1 6 (Int32.toNatClampNeg (S.2.2 5))); have := gx_mk 8 (S.2.2 5) 8 (gx_lit 8 (by decide)); have c9 := gx_cl ((8 * (S.2.2 5)) + (S_j151.1 6 (Int32.toNatClampNeg (S.2.2 5)))) (by omega); omega) (show ((S_j151.1 6 (Int32.toNatClampNeg (S.2.2 5))) + 1).toInt = ((S_j151.1 6 (Int32.toNatClampNeg (S.2.2 5))).toInt + 1) from (by have := gx_iC_f h14 (by omega); have := gx_iC_f h31 (by omega); have := gx_ak (S_j151.1 6 (Int32.toNatClampNeg (S.2.2 5))) 1 (1) (by decide); have := gx_ad (8 * (S.2.2 5)) (S_130.1 6 (Int32.toNatClampNeg (S.2.2 5))); have := gx_ad (8 * (S.2.2 5)) (S_j151.1 6 (Int32.toNatClampNeg (S.2.2 5))); have := gx_mk 8 (S.2.2 5) 8 (gx_lit 8 (by decide)); omega)) (show 65 ≤ r1.toInt from (by have := gx_iC_f h14 (by omega); have := gx_iC_f h31 (by omega); have := gx_ad (8 * (S.2.2 5)) (S_130.1 6 (Int32.toNatClampNeg (S.2.2 5))); have := gx_ad (8 * (S.2.2 5)) (S_j151.1 6 (Int32.toNatClampNeg (S.2.2 5))); have := gx_mk 8 (S.2.2 5) 8 (gx_lit 8 (by decide)); omega)) (show r1.toInt ≤ 90 from (by have := gx_iC_f h14 (by omega); have := gx_iC_f h31 (by omega); have := gx_ad (8 * (S.2.2 5)) (S_130.1 6 (Int32.toNatClampNeg (S.2.2 5))); have := gx_ad (8 * (S.2.2 5)) (S_j151.1 6 (Int32.toNatClampNeg (S.2.2 5))); have := gx_mk 8 (S.2.2 5) 8 (gx_lit 8 (by decide)); omega)) (show (160 * (S.2.2 5).toInt) ≤ (S_j151.1 8 (Int32.toNatClampNeg ((8 * (S.2.2 5)) + (S_j151.1 6 (Int32.toNatClampNeg (S.2.2 5)))))).toInt from (by have := gx_iC_f h14 (by omega); have := gx_iC_f h31 (by omega); have := gx_ad (8 * (S.2.2 5)) (S_j151.1 6 (Int32.toNatClampNeg (S.2.2 5))); have := gx_ad (8 * (S.2.2 5)) (S_130.1 6 (Int32.toNatClampNeg (S.2.2 5))); have := gx_mk 8 (S.2.2 5) 8 (gx_lit 8 (by decide)); omega)) (show (S_j151.1 8 (Int32.toNatClampNeg ((8 * (S.2.2 5)) + (S_j151.1 6 (Int32.toNatClampNeg (S.2.2 5)))))).toInt < ((160 * (S.2.2 5).toInt) + (S_j151.1 9 (Int32.toNatClampNeg (S.2.2 5))).toInt) from (by have := gx_iC_f h14 (by omega); have := gx_iC_f h31 (by omega); have := gx_ad (8 * (S.2.2 5)) (S_j151.1 6 (Int32.toNatClampNeg (S.2.2 5))); have := gx_ad (8 * (S.2.2 5)) (S_130.1 6 (Int32.toNatClampNeg (S.2.2 5))); have := gx_mk 8 (S.2.2 5) 8 (gx_lit 8 (by decide)); omega)))), (show (0 ≤ (S_j151.1 9 (Int32.toNatClampNeg (S.2.2 5))).toInt) ∧ (((S_j151.1 9 (Int32.toNatClampNeg (S.2.2 5))).toInt ≤ (2 * (S_j151.2.2 19).toInt)) ∧ (((S.2.2 19).toInt ≤ (S_j151.2.2 19).toInt) ∧ (((S_j151.2.2 19).toInt ≤ (S.2.2 2).toInt) ∧ ((0 ≤ (upd (S_j151.1 6) (Int32.toNatClampNeg (S.2.2 5)) ((S_j151.1 6 (Int32.toNatClampNeg (S.2.2 5))) + 1) (Int32.toNatClampNeg (S.2.2 5))).toInt) ∧ (((upd (S_j151.1 6) (Int32.toNatClampNeg (S.2.2 5)) ((S_j151.1 6 (Int32.toNatClampNeg (S.2.2 5))) + 1) (Int32.toNatClampNeg (S.2.2 5))).toInt ≤ 8) ∧ (((S.2.2 19).toInt < (S_j151.2.2 19).toInt) ∨ ((S_j151.2.2 24).toInt ≠ 0))))))) from (by rw [gx_us]; exact (show (0 ≤ (S_j151.1 9 (Int32.toNatClampNeg (S.2.2 5))).toInt) ∧ (((S_j151.1 9 (Int32.toNatClampNeg (S.2.2 5))).toInt ≤ (2 * (S_j151.2.2 19).toInt)) ∧ (((S.2.2 19).toInt ≤ (S_j151.2.2 19).toInt) ∧ (((S_j151.2.2 19).toInt ≤ (S.2.2 2).toInt) ∧ ((0 ≤ ((S_j151.1 6 (Int32.toNatClampNeg (S.2.2 5))) + 1).toInt) ∧ ((((S_j151.1 6 (Int32.toNatClampNeg (S.2.2 5))) + 1).toInt ≤ 8) ∧ (((S.2.2 19).toInt < (S_j151.2.2 19).toInt) ∨ ((S_j151.2.2 24).toInt ≠ 0))))))) from (by have := gx_iC_f h14 (by omega); have := gx_iC_f h31 (by omega); have := gx_ak (S_j151.1 6 (Int32.toNatClampNeg (S.2.2 5))) 1 (1) (by decide); have := gx_ad (8 * (S.2.2 5)) (S_130.1 6 (Int32.toNatClampNeg (S.2.2 5))); have := gx_ad (8 * (S.2.2 5)) (S_j151.1 6 (Int32.toNatClampNeg (S.2.2 5))); have := gx_mk 8 (S.2.2 5) 8 (gx_lit 8 (by decide)); omega))))⟩⟩
      · skip
        have h47_ := gx_eqnr (k := 0) (by decide) h47
        exact ⟨trivial, ⟨(Or.inl (show (S_j151.2.2 24).toInt ≠ 0 from (by have := gx_iC_f h14 (by omega); have := gx_iC_f h31 (by omega); have := gx_ad (8 * (S.2.2 5)) (S_130.1 6 (Int32.toNatClampNeg (S.2.2 5))); have := gx_ad (8 * (S.2.2 5)) (S_j151.1 6 (Int32.toNatClampNeg (S.2.2 5))); have := gx_mk 8 (S.2.2 5) 8 (gx_lit 8 (by decide)); omega))), (show (0 ≤ (S_j151.1 9 (Int32.toNatClampNeg (S.2.2 5))).toInt) ∧ (((S_j151.1 9 (Int32.toNatClampNeg (S.2.2 5))).toInt ≤ (2 * (S_j151.2.2 19).toInt)) ∧ (((S.2.2 19).toInt ≤ (S_j151.2.2 19).toInt) ∧ (((S_j151.2.2 19).toInt ≤ (S.2.2 2).toInt) ∧ ((0 ≤ (S_j151.1 6 (Int32.toNatClampNeg (S.2.2 5))).toInt) ∧ (((S_j151.1 6 (Int32.toNatClampNeg (S.2.2 5))).toInt ≤ 8) ∧ (((S.2.2 19).toInt < (S_j151.2.2 19).toInt) ∨ ((S_j151.2.2 24).toInt ≠ 0))))))) from (by have := gx_iC_f h14 (by omega); have := gx_iC_f h31 (by omega); have := gx_ad (8 * (S.2.2 5)) (S_130.1 6 (Int32.toNatClampNeg (S.2.2 5))); have := gx_ad (8 * (S.2.2 5)) (S_j151.1 6 (Int32.toNatClampNeg (S.2.2 5))); have := gx_mk 8 (S.2.2 5) 8 (gx_lit 8 (by decide)); omega))⟩⟩
    refine gx_if (Q := gy_q_MD_readRule S) (fun h31 => ?_) (fun h31 => ?_)
    · skip
      have h31_ := gx_eqr (k := 0) (by decide) h31
      refine gx_if (Q := gy_q_MD_readRule S) (fun h32 => ?_) (fun h32 => ?_)
      · skip
        have h32_ := gx_eqr (k := 0) (by decide) h32
        refine key151 (va_up (va_up (va_up (va_up (va_up (va_up (va_up (va_up (va_up (va_up (va_up (va_up (va_up (va_up S.1 6 (S_130.1 6)) 7 (S_130.1 7)) 8 (S_130.1 8)) 9 (S_130.1 9)) 10 (S_130.1 10)) 11 (S_130.1 11)) 12 (S_130.1 12)) 13 (S_130.1 13)) 26 (S_130.1 26)) 27 (S_130.1 27)) 28 (S_130.1 28)) 29 (S_130.1 29)) 30 (S_130.1 30)) 31 (S_130.1 31), va_up (va_up S.2.1 17 (S_130.2.1 17)) 18 (S_130.2.1 18), va_up (va_up (va_up (va_up (va_up (va_up (va_up S.2.2 19 (S_130.2.2 19)) 20 (S_130.2.2 20)) 21 (S_130.2.2 21)) 22 (S_130.2.2 22)) 23 (S_130.2.2 23)) 24 (S_130.2.2 24)) 25 (S_130.2.2 25)) ?_ ?_ ?_ ?_ ?_ ?_ ?_ ?_ ?_ ?_ ?_ ?_ ?_ ?_ ?_ ?_
        · exact h14
        · exact h15
        · exact h16
        · exact h17
        · exact h18
        · exact h19
        · exact h20
        · exact h21
        · exact h22
        · exact h23
        · exact h24
        · exact h25
        · exact h26
        · exact h27
        · exact h30
        · exact (show ((S_130.2.2 24).toInt ≠ 0) ∨ ((S_130.2.2 25).toInt = 0) from (by have := gx_iC_f h14 (by omega); have := gx_ad (8 * (S.2.2 5)) (S_130.1 6 (Int32.toNatClampNeg (S.2.2 5))); have := gx_mk 8 (S.2.2 5) 8 (gx_lit 8 (by decide)); omega))
      · skip
        have h32_ := gx_eqnr (k := 0) (by decide) h32
        refine gx_ca (Q := gy_q_MD_readRule S) (gy_q_MD_readPart _) (gy_s_MD_readPart _ h1 h2 h14 h15 h16 h17 h18 h19 h20 h21 h22 h23 h24 h25 (show 0 ≤ (S_130.1 6 (Int32.toNatClampNeg (S.2.2 5))).toInt from (by have := gx_iC_f h14 (by omega); have := gx_ad (8 * (S.2.2 5)) (S_130.1 6 (Int32.toNatClampNeg (S.2.2 5))); have := gx_mk 8 (S.2.2 5) 8 (gx_lit 8 (by decide)); omega)) (show (S_130.1 6 (Int32.toNatClampNeg (S.2.2 5))).toInt ≤ 7 from (by have := gx_iC_f h14 (by omega); have := gx_ad (8 * (S.2.2 5)) (S_130.1 6 (Int32.toNatClampNeg (S.2.2 5))); have := gx_mk 8 (S.2.2 5) 8 (gx_lit 8 (by decide)); omega)) (show (S_130.2.2 25).toInt ≠ 0 from (by have := gx_iC_f h14 (by omega); have := gx_ad (8 * (S.2.2 5)) (S_130.1 6 (Int32.toNatClampNeg (S.2.2 5))); have := gx_mk 8 (S.2.2 5) 8 (gx_lit 8 (by decide)); omega))) ?_
        intro r_h33 u145 h33
        have h33_0 : gm_iC (u145.2.2 20) (u145.2.2 21) (u145.2.2 22) (u145.1 26) (u145.1 28) (u145.1 29) := h33.1
        have h33_1 : gm_iS 1 (S.2.2 2) (S.2.2 5) (S_130.1 6) (S_130.1 7) (u145.1 8) (u145.1 9) (u145.1 10) (u145.1 11) (u145.1 12) (u145.1 13) (u145.2.2 21) (u145.2.2 22) (u145.1 30) (u145.1 31) := h33.2.1
        have h33_2 : (((u145.2.2 25).toInt ≠ 0) ∨ (((160 * (S.2.2 5).toInt) ≤ (u145.1 8 (Int32.toNatClampNeg ((8 * (S.2.2 5)) + (S_130.1 6 (Int32.toNatClampNeg (S.2.2 5)))))).toInt) ∧ ((u145.1 8 (Int32.toNatClampNeg ((8 * (S.2.2 5)) + (S_130.1 6 (Int32.toNatClampNeg (S.2.2 5)))))).toInt < ((160 * (S.2.2 5).toInt) + (u145.1 9 (Int32.toNatClampNeg (S.2.2 5))).toInt)))) ∧ ((0 ≤ (u145.1 9 (Int32.toNatClampNeg (S.2.2 5))).toInt) ∧ ((0 ≤ (u145.2.2 19).toInt) ∧ (((u145.2.2 19).toInt ≤ (S.2.2 2).toInt) ∧ ((0 ≤ (u145.2.2 20).toInt) ∧ (((u145.2.2 20).toInt ≤ 6) ∧ ((0 ≤ (u145.2.2 21).toInt) ∧ ((0 ≤ (u145.2.2 22).toInt) ∧ ((((((u145.1 9 (Int32.toNatClampNeg (S.2.2 5))).toInt + (u145.2.2 21).toInt) + (u145.2.2 22).toInt) + (2 * (u145.2.2 20).toInt)) ≤ (2 * (u145.2.2 19).toInt)) ∧ ((((u145.2.2 23).toInt = 0) ∨ ((((((u145.1 9 (Int32.toNatClampNeg (S.2.2 5))).toInt + (u145.2.2 21).toInt) + (u145.2.2 22).toInt) + (2 * (u145.2.2 20).toInt)) + 1) ≤ (2 * (u145.2.2 19).toInt))) ∧ (((((u145.2.2 21).toInt + (u145.2.2 22).toInt) + (u145.2.2 20).toInt) ≤ (u145.2.2 19).toInt) ∧ (((S_130.2.2 19).toInt ≤ (u145.2.2 19).toInt) ∧ (((S_130.2.2 19).toInt < (u145.2.2 19).toInt) ∨ ((u145.2.2 24).toInt ≠ 0))))))))))))) := h33.2.2
        clear h33
        refine ih _ ?_ ?_ ?_ ?_ ?_ ?_ ?_ ?_ ?_ ?_ ?_ ?_ ?_ ?_ ?_ ?_ ?_
        · exact h33_0
        · exact h33_1
        · exact (show 0 ≤ (u145.1 9 (Int32.toNatClampNeg (S.2.2 5))).toInt from (by have := gx_iC_f h14 (by omega); have := gx_iC_f h33_0 (by omega); have := gx_ad (8 * (S.2.2 5)) (S_130.1 6 (Int32.toNatClampNeg (S.2.2 5))); have := gx_mk 8 (S.2.2 5) 8 (gx_lit 8 (by decide)); omega))
        · exact (show 0 ≤ (u145.2.2 19).toInt from (by have := gx_iC_f h14 (by omega); have := gx_iC_f h33_0 (by omega); have := gx_ad (8 * (S.2.2 5)) (S_130.1 6 (Int32.toNatClampNeg (S.2.2 5))); have := gx_mk 8 (S.2.2 5) 8 (gx_lit 8 (by decide)); omega))
        · exact (show (u145.2.2 19).toInt ≤ (S.2.2 2).toInt from (by have := gx_iC_f h14 (by omega); have := gx_iC_f h33_0 (by omega); have := gx_ad (8 * (S.2.2 5)) (S_130.1 6 (Int32.toNatClampNeg (S.2.2 5))); have := gx_mk 8 (S.2.2 5) 8 (gx_lit 8 (by decide)); omega))
        · exact (show 0 ≤ (u145.2.2 20).toInt from (by have := gx_iC_f h14 (by omega); have := gx_iC_f h33_0 (by omega); have := gx_ad (8 * (S.2.2 5)) (S_130.1 6 (Int32.toNatClampNeg (S.2.2 5))); have := gx_mk 8 (S.2.2 5) 8 (gx_lit 8 (by decide)); omega))
        · exact (show (u145.2.2 20).toInt ≤ 6 from (by have := gx_iC_f h14 (by omega); have := gx_iC_f h33_0 (by omega); have := gx_ad (8 * (S.2.2 5)) (S_130.1 6 (Int32.toNatClampNeg (S.2.2 5))); have := gx_mk 8 (S.2.2 5) 8 (gx_lit 8 (by decide)); omega))
        · exact (show 0 ≤ (u145.2.2 21).toInt from (by have := gx_iC_f h14 (by omega); have := gx_iC_f h33_0 (by omega); have := gx_ad (8 * (S.2.2 5)) (S_130.1 6 (Int32.toNatClampNeg (S.2.2 5))); have := gx_mk 8 (S.2.2 5) 8 (gx_lit 8 (by decide)); omega))
        · exact (show 0 ≤ (u145.2.2 22).toInt from (by have := gx_iC_f h14 (by omega); have := gx_iC_f h33_0 (by omega); have := gx_ad (8 * (S.2.2 5)) (S_130.1 6 (Int32.toNatClampNeg (S.2.2 5))); have := gx_mk 8 (S.2.2 5) 8 (gx_lit 8 (by decide)); omega))
        · exact (show ((((u145.1 9 (Int32.toNatClampNeg (S.2.2 5))).toInt + (u145.2.2 21).toInt) + (u145.2.2 22).toInt) + (2 * (u145.2.2 20).toInt)) ≤ (2 * (u145.2.2 19).toInt) from (by have := gx_iC_f h14 (by omega); have := gx_iC_f h33_0 (by omega); have := gx_ad (8 * (S.2.2 5)) (S_130.1 6 (Int32.toNatClampNeg (S.2.2 5))); have := gx_mk 8 (S.2.2 5) 8 (gx_lit 8 (by decide)); omega))
        · exact (show ((u145.2.2 23).toInt = 0) ∨ ((((((u145.1 9 (Int32.toNatClampNeg (S.2.2 5))).toInt + (u145.2.2 21).toInt) + (u145.2.2 22).toInt) + (2 * (u145.2.2 20).toInt)) + 1) ≤ (2 * (u145.2.2 19).toInt)) from (by have := gx_iC_f h14 (by omega); have := gx_iC_f h33_0 (by omega); have := gx_ad (8 * (S.2.2 5)) (S_130.1 6 (Int32.toNatClampNeg (S.2.2 5))); have := gx_mk 8 (S.2.2 5) 8 (gx_lit 8 (by decide)); omega))
        · exact (show (((u145.2.2 21).toInt + (u145.2.2 22).toInt) + (u145.2.2 20).toInt) ≤ (u145.2.2 19).toInt from (by have := gx_iC_f h14 (by omega); have := gx_iC_f h33_0 (by omega); have := gx_ad (8 * (S.2.2 5)) (S_130.1 6 (Int32.toNatClampNeg (S.2.2 5))); have := gx_mk 8 (S.2.2 5) 8 (gx_lit 8 (by decide)); omega))
        · exact h26
        · exact (show (S.2.2 19).toInt < (u145.2.2 19).toInt from (by have := gx_iC_f h14 (by omega); have := gx_iC_f h33_0 (by omega); have := gx_ad (8 * (S.2.2 5)) (S_130.1 6 (Int32.toNatClampNeg (S.2.2 5))); have := gx_mk 8 (S.2.2 5) 8 (gx_lit 8 (by decide)); omega))
        · exact (show 0 < n130 from (by have := gx_iC_f h14 (by omega); have := gx_iC_f h33_0 (by omega); have := gx_ad (8 * (S.2.2 5)) (S_130.1 6 (Int32.toNatClampNeg (S.2.2 5))); have := gx_mk 8 (S.2.2 5) 8 (gx_lit 8 (by decide)); omega))
        · exact (show ((u145.2.2 24).toInt ≠ 0) ∨ ((((S.2.2 2).toInt - (u145.2.2 19).toInt) + 1) < n130) from (by have := gx_iC_f h14 (by omega); have := gx_iC_f h33_0 (by omega); have := gx_ad (8 * (S.2.2 5)) (S_130.1 6 (Int32.toNatClampNeg (S.2.2 5))); have := gx_mk 8 (S.2.2 5) 8 (gx_lit 8 (by decide)); omega))
        · exact (show ((u145.2.2 25).toInt ≠ 0) ∨ (((160 * (S.2.2 5).toInt) ≤ (u145.1 8 (Int32.toNatClampNeg ((8 * (S.2.2 5)) + (S_130.1 6 (Int32.toNatClampNeg (S.2.2 5)))))).toInt) ∧ ((u145.1 8 (Int32.toNatClampNeg ((8 * (S.2.2 5)) + (S_130.1 6 (Int32.toNatClampNeg (S.2.2 5)))))).toInt < ((160 * (S.2.2 5).toInt) + (u145.1 9 (Int32.toNatClampNeg (S.2.2 5))).toInt))) from (by have := gx_iC_f h14 (by omega); have := gx_iC_f h33_0 (by omega); have := gx_ad (8 * (S.2.2 5)) (S_130.1 6 (Int32.toNatClampNeg (S.2.2 5))); have := gx_mk 8 (S.2.2 5) 8 (gx_lit 8 (by decide)); omega))
    · skip
      have h31_ := gx_eqnr (k := 0) (by decide) h31
      refine key151 (va_up (va_up (va_up (va_up (va_up (va_up (va_up (va_up (va_up (va_up (va_up (va_up (va_up (va_up S.1 6 (S_130.1 6)) 7 (S_130.1 7)) 8 (S_130.1 8)) 9 (S_130.1 9)) 10 (S_130.1 10)) 11 (S_130.1 11)) 12 (S_130.1 12)) 13 (S_130.1 13)) 26 (S_130.1 26)) 27 (S_130.1 27)) 28 (S_130.1 28)) 29 (S_130.1 29)) 30 (S_130.1 30)) 31 (S_130.1 31), va_up (va_up S.2.1 17 (S_130.2.1 17)) 18 (S_130.2.1 18), va_up (va_up (va_up (va_up (va_up (va_up (va_up S.2.2 19 (S_130.2.2 19)) 20 (S_130.2.2 20)) 21 (S_130.2.2 21)) 22 (S_130.2.2 22)) 23 (S_130.2.2 23)) 24 (S_130.2.2 24)) 25 (S_130.2.2 25)) ?_ ?_ ?_ ?_ ?_ ?_ ?_ ?_ ?_ ?_ ?_ ?_ ?_ ?_ ?_ ?_
      · exact h14
      · exact h15
      · exact h16
      · exact h17
      · exact h18
      · exact h19
      · exact h20
      · exact h21
      · exact h22
      · exact h23
      · exact h24
      · exact h25
      · exact h26
      · exact h27
      · exact h30
      · exact (show ((S_130.2.2 24).toInt ≠ 0) ∨ ((S_130.2.2 25).toInt = 0) from (by have := gx_iC_f h14 (by omega); have := gx_ad (8 * (S.2.2 5)) (S_130.1 6 (Int32.toNatClampNeg (S.2.2 5))); have := gx_mk 8 (S.2.2 5) 8 (gx_lit 8 (by decide)); omega))
set_option maxRecDepth 100000 in
theorem gy_s_MD_readRule (S : gm_S) (h1 : gm_iW 50 (S.2.2 2) (S.1 3)) (h2 : gm_iN 1 (S.2.2 5)) (h3 : gm_iX (S.2.2 24) (S.2.2 2) (S.2.2 5) (S.1 6) (S.1 7) (S.1 8) (S.1 9) (S.1 10) (S.1 11) (S.1 12) (S.1 13)) (h4 : 0 ≤ (S.1 9 (Int32.toNatClampNeg (S.2.2 5))).toInt) (h5 : (S.1 9 (Int32.toNatClampNeg (S.2.2 5))).toInt ≤ (2 * (S.2.2 19).toInt)) (h6 : 0 ≤ (S.2.2 19).toInt) (h7 : (S.2.2 19).toInt ≤ (S.2.2 2).toInt) (h8 : 0 ≤ (S.1 6 (Int32.toNatClampNeg (S.2.2 5))).toInt) (h9 : (S.1 6 (Int32.toNatClampNeg (S.2.2 5))).toInt ≤ 8) (h10 : (S.2.2 24).toInt = 0) : gm_p_MD_readRule S ∧ gy_q_MD_readRule S (gm_f_MD_readRule S) := by
  unfold gm_p_MD_readRule gm_f_MD_readRule
  refine gx_ca (Q := gy_q_MD_readRule S) (gx_q_MD_peek _) (gx_s_MD_peek _ h1 h2 h6) ?_
  intro r1 u1 h11
  have h11_0 : (((r1.toInt = 0) ∧ ((S.2.2 2).toInt ≤ (S.2.2 19).toInt)) ∨ ((32 ≤ r1.toInt) ∧ ((r1.toInt ≤ 126) ∧ ((S.2.2 19).toInt < (S.2.2 2).toInt)))) ∧ (r1 = (gm_f_MD_peek S).1) := h11
  refine gx_if (Q := gy_q_MD_readRule S) (fun h12 => ?_) (fun h12 => ?_)
  · skip
    have h12_ := gx_ltr (k := 65) (gx_lit 65 (by decide)) h12
    refine gy_s_MD_readRule_j44 _ _ _ _ ?_ ?_ ?_ ?_ ?_ ?_ ?_ ?_ ?_ ?_ ?_ ?_ ?_ ?_
    · exact h1
    · exact h2
    · exact h3
    · exact (show 0 ≤ (S.1 9 (Int32.toNatClampNeg (S.2.2 5))).toInt from (by omega))
    · exact (show (S.1 9 (Int32.toNatClampNeg (S.2.2 5))).toInt ≤ (2 * (S.2.2 19).toInt) from (by omega))
    · exact (show 0 ≤ (S.2.2 19).toInt from (by omega))
    · exact (show (S.2.2 19).toInt ≤ (S.2.2 2).toInt from (by omega))
    · exact (show 0 ≤ (S.1 6 (Int32.toNatClampNeg (S.2.2 5))).toInt from (by omega))
    · exact (show (S.1 6 (Int32.toNatClampNeg (S.2.2 5))).toInt ≤ 8 from (by omega))
    · exact (show (S.2.2 24).toInt = 0 from (by omega))
    · exact (show (S.1 9 (Int32.toNatClampNeg (S.2.2 5))).toInt = (S.1 9 (Int32.toNatClampNeg (S.2.2 5))).toInt from (by omega))
    · exact (show (S.1 6 (Int32.toNatClampNeg (S.2.2 5))).toInt = (S.1 6 (Int32.toNatClampNeg (S.2.2 5))).toInt from (by omega))
    · exact (show (S.2.2 19).toInt = (S.2.2 19).toInt from (by omega))
    · exact h3
  · skip
    have h12_ := gx_ltnr (k := 65) (gx_lit 65 (by decide)) h12
    refine gx_if (Q := gy_q_MD_readRule S) (fun h13 => ?_) (fun h13 => ?_)
    · skip
      have h13_ := gx_ltl (k := 90) (gx_lit 90 (by decide)) h13
      refine gy_s_MD_readRule_j44 _ _ _ _ ?_ ?_ ?_ ?_ ?_ ?_ ?_ ?_ ?_ ?_ ?_ ?_ ?_ ?_
      · exact h1
      · exact h2
      · exact h3
      · exact (show 0 ≤ (S.1 9 (Int32.toNatClampNeg (S.2.2 5))).toInt from (by omega))
      · exact (show (S.1 9 (Int32.toNatClampNeg (S.2.2 5))).toInt ≤ (2 * (S.2.2 19).toInt) from (by omega))
      · exact (show 0 ≤ (S.2.2 19).toInt from (by omega))
      · exact (show (S.2.2 19).toInt ≤ (S.2.2 2).toInt from (by omega))
      · exact (show 0 ≤ (S.1 6 (Int32.toNatClampNeg (S.2.2 5))).toInt from (by omega))
      · exact (show (S.1 6 (Int32.toNatClampNeg (S.2.2 5))).toInt ≤ 8 from (by omega))
      · exact (show (S.2.2 24).toInt = 0 from (by omega))
      · exact (show (S.1 9 (Int32.toNatClampNeg (S.2.2 5))).toInt = (S.1 9 (Int32.toNatClampNeg (S.2.2 5))).toInt from (by omega))
      · exact (show (S.1 6 (Int32.toNatClampNeg (S.2.2 5))).toInt = (S.1 6 (Int32.toNatClampNeg (S.2.2 5))).toInt from (by omega))
      · exact (show (S.2.2 19).toInt = (S.2.2 19).toInt from (by omega))
      · exact h3
    · skip
      have h13_ := gx_ltnl (k := 90) (gx_lit 90 (by decide)) h13
      refine gx_in (Q := gy_q_MD_readRule S) (vp_in_iff.mpr (by omega)) ?_
      refine gx_if (Q := gy_q_MD_readRule S) (fun h14 => ?_) (fun h14 => ?_)
      · skip
        have h14_ := gx_eqr (k := 8) (gx_lit 8 (by decide)) h14
        refine gy_s_MD_readRule_j44 _ _ _ _ ?_ ?_ ?_ ?_ ?_ ?_ ?_ ?_ ?_ ?_ ?_ ?_ ?_ ?_
        · exact h1
        · exact h2
        · exact h3
        · exact (show 0 ≤ (S.1 9 (Int32.toNatClampNeg (S.2.2 5))).toInt from (by omega))
        · exact (show (S.1 9 (Int32.toNatClampNeg (S.2.2 5))).toInt ≤ (2 * (S.2.2 19).toInt) from (by omega))
        · exact (show 0 ≤ (S.2.2 19).toInt from (by omega))
        · exact (show (S.2.2 19).toInt ≤ (S.2.2 2).toInt from (by omega))
        · exact (show 0 ≤ (S.1 6 (Int32.toNatClampNeg (S.2.2 5))).toInt from (by omega))
        · exact (show (S.1 6 (Int32.toNatClampNeg (S.2.2 5))).toInt ≤ 8 from (by omega))
        · exact (show (S.2.2 24).toInt = 0 from (by omega))
        · exact (show (S.1 9 (Int32.toNatClampNeg (S.2.2 5))).toInt = (S.1 9 (Int32.toNatClampNeg (S.2.2 5))).toInt from (by omega))
        · exact (show (S.1 6 (Int32.toNatClampNeg (S.2.2 5))).toInt = (S.1 6 (Int32.toNatClampNeg (S.2.2 5))).toInt from (by omega))
        · exact (show (S.2.2 19).toInt = (S.2.2 19).toInt from (by omega))
        · exact h3
      · skip
        have h14_ := gx_eqnr (k := 8) (gx_lit 8 (by decide)) h14
        refine gx_ca (Q := gy_q_MD_readRule S) (gx_q_MD_ruleOf _ _ _) (gx_s_MD_ruleOf _ _ _ h1 h2 (show 0 ≤ (S.2.2 5).toInt from (by omega)) (show (S.2.2 5).toInt ≤ 1 from (by omega)) h9) ?_
        intro r37 u37 h15
        have h15_0 : ((-1) ≤ r37.toInt) ∧ (r37.toInt ≤ 7) := h15
        clear h15
        refine gx_if (Q := gy_q_MD_readRule S) (fun h16 => ?_) (fun h16 => ?_)
        · skip
          have h16_ := gx_eqr (k := -1) (by decide) h16
          refine gx_ca (Q := gy_q_MD_readRule S) (gx_q_MD_peek _) (gx_s_MD_peek _ h1 h2 (show 0 ≤ ((S.2.2 19) + 1).toInt from (by have := gx_ak (S.2.2 19) 1 (1) (by decide); omega))) ?_
          intro r60 u60 h17
          have h17_0 : (((r60.toInt = 0) ∧ ((S.2.2 2).toInt ≤ ((S.2.2 19) + 1).toInt)) ∨ ((32 ≤ r60.toInt) ∧ ((r60.toInt ≤ 126) ∧ (((S.2.2 19) + 1).toInt < (S.2.2 2).toInt)))) ∧ (r60 = (gm_f_MD_peek (S.1, S.2.1, va_up S.2.2 19 ((S.2.2 19) + 1))).1) := h17
          refine gx_if (Q := gy_q_MD_readRule S) (fun h18 => ?_) (fun h18 => ?_)
          · skip
            have h18_ := gx_eqr (k := 61) (gx_lit 61 (by decide)) h18
            refine gx_in (Q := gy_q_MD_readRule S) (vp_in_iff.mpr (by have := gx_ak (S.2.2 19) 1 (1) (by decide); have : (0 : Int32).toInt = 0 := (by decide); omega)) ?_
            refine gx_in (Q := gy_q_MD_readRule S) (vp_in_iff.mpr (by have := gx_ak (S.2.2 19) 1 (1) (by decide); have : (0 : Int32).toInt = 0 := (by decide); omega)) ?_
            refine gx_in (Q := gy_q_MD_readRule S) (vp_in_iff.mpr (by have := gx_ak (S.2.2 19) 1 (1) (by decide); have : (0 : Int32).toInt = 0 := (by decide); omega)) ?_
            refine gy_s_MD_readRule_130 _ _ _ _ _ _ _ ?_ ?_ ?_ ?_ ?_ ?_ ?_ ?_ ?_ ?_ ?_ ?_ ?_ _ _ ?_ ?_ ?_ ?_ ?_ ?_ ?_ ?_ ?_ ?_ ?_ ?_ ?_ ?_ ?_ ?_ ?_
            · exact h1
            · exact h2
            · exact h3
            · exact (show 0 ≤ (S.1 9 (Int32.toNatClampNeg (S.2.2 5))).toInt from (by have := gx_ak (S.2.2 19) 1 (1) (by decide); omega))
            · exact (show (S.1 9 (Int32.toNatClampNeg (S.2.2 5))).toInt ≤ (2 * (S.2.2 19).toInt) from (by have := gx_ak (S.2.2 19) 1 (1) (by decide); omega))
            · exact (show 0 ≤ (S.2.2 19).toInt from (by have := gx_ak (S.2.2 19) 1 (1) (by decide); omega))
            · exact (show (S.2.2 19).toInt ≤ (S.2.2 2).toInt from (by have := gx_ak (S.2.2 19) 1 (1) (by decide); omega))
            · exact (show 0 ≤ (S.1 6 (Int32.toNatClampNeg (S.2.2 5))).toInt from (by have := gx_ak (S.2.2 19) 1 (1) (by decide); omega))
            · exact (show (S.1 6 (Int32.toNatClampNeg (S.2.2 5))).toInt ≤ 8 from (by have := gx_ak (S.2.2 19) 1 (1) (by decide); omega))
            · exact (show (S.2.2 24).toInt = 0 from (by have := gx_ak (S.2.2 19) 1 (1) (by decide); omega))
            · exact (show (S.1 6 (Int32.toNatClampNeg (S.2.2 5))).toInt ≤ 7 from (by have := gx_ak (S.2.2 19) 1 (1) (by decide); omega))
            · exact (show 65 ≤ r1.toInt from (by have := gx_ak (S.2.2 19) 1 (1) (by decide); omega))
            · exact (show r1.toInt ≤ 90 from (by have := gx_ak (S.2.2 19) 1 (1) (by decide); omega))
            · exact (gx_iC_0 _ _ _)
            · exact (gx_iS_0 h3 (show (S.2.2 24).toInt = 0 from (by have := gx_ak (S.2.2 19) 1 (1) (by decide); omega)) _ _)
            · exact h4
            · exact (show 0 ≤ (((S.2.2 19) + 1) + 1).toInt from (by have := gx_ak ((S.2.2 19) + 1) 1 (1) (by decide); have := gx_ak (S.2.2 19) 1 (1) (by decide); omega))
            · exact (show (((S.2.2 19) + 1) + 1).toInt ≤ (S.2.2 2).toInt from (by have := gx_ak ((S.2.2 19) + 1) 1 (1) (by decide); have := gx_ak (S.2.2 19) 1 (1) (by decide); omega))
            · exact (show 0 ≤ (0 : Int32).toInt from (by have := gx_ak (S.2.2 19) 1 (1) (by decide); have : (0 : Int32).toInt = 0 := (by decide); omega))
            · exact (show (0 : Int32).toInt ≤ 6 from (by have := gx_ak (S.2.2 19) 1 (1) (by decide); have : (0 : Int32).toInt = 0 := (by decide); omega))
            · exact (show 0 ≤ (0 : Int32).toInt from (by have := gx_ak (S.2.2 19) 1 (1) (by decide); have : (0 : Int32).toInt = 0 := (by decide); omega))
            · exact (show 0 ≤ (0 : Int32).toInt from (by have := gx_ak (S.2.2 19) 1 (1) (by decide); have : (0 : Int32).toInt = 0 := (by decide); omega))
            · exact (show ((((S.1 9 (Int32.toNatClampNeg (S.2.2 5))).toInt + (0 : Int32).toInt) + (0 : Int32).toInt) + (2 * (0 : Int32).toInt)) ≤ (2 * (((S.2.2 19) + 1) + 1).toInt) from (by have := gx_ak ((S.2.2 19) + 1) 1 (1) (by decide); have := gx_ak (S.2.2 19) 1 (1) (by decide); have : (0 : Int32).toInt = 0 := (by decide); omega))
            · exact (show ((0 : Int32).toInt = 0) ∨ ((((((S.1 9 (Int32.toNatClampNeg (S.2.2 5))).toInt + (0 : Int32).toInt) + (0 : Int32).toInt) + (2 * (0 : Int32).toInt)) + 1) ≤ (2 * (((S.2.2 19) + 1) + 1).toInt)) from (by have := gx_ak ((S.2.2 19) + 1) 1 (1) (by decide); have := gx_ak (S.2.2 19) 1 (1) (by decide); have : (0 : Int32).toInt = 0 := (by decide); omega))
            · exact (show (((0 : Int32).toInt + (0 : Int32).toInt) + (0 : Int32).toInt) ≤ (((S.2.2 19) + 1) + 1).toInt from (by have := gx_ak ((S.2.2 19) + 1) 1 (1) (by decide); have := gx_ak (S.2.2 19) 1 (1) (by decide); have : (0 : Int32).toInt = 0 := (by decide); omega))
            · exact (show (S.1 6 (Int32.toNatClampNeg (S.2.2 5))).toInt = (S.1 6 (Int32.toNatClampNeg (S.2.2 5))).toInt from (by have := gx_ak (S.2.2 19) 1 (1) (by decide); omega))
            · exact (show (S.2.2 19).toInt < (((S.2.2 19) + 1) + 1).toInt from (by have := gx_ak ((S.2.2 19) + 1) 1 (1) (by decide); have := gx_ak (S.2.2 19) 1 (1) (by decide); omega))
            · exact (show 0 < 200 from (by have := gx_ak (S.2.2 19) 1 (1) (by decide); omega))
            · exact (show ((S.2.2 24).toInt ≠ 0) ∨ ((((S.2.2 2).toInt - (((S.2.2 19) + 1) + 1).toInt) + 1) < 200) from (by have := gx_ak ((S.2.2 19) + 1) 1 (1) (by decide); have := gx_ak (S.2.2 19) 1 (1) (by decide); omega))
            · exact (show ((1 : Int32).toInt ≠ 0) ∨ (((160 * (S.2.2 5).toInt) ≤ (S.1 8 (Int32.toNatClampNeg ((8 * (S.2.2 5)) + (S.1 6 (Int32.toNatClampNeg (S.2.2 5)))))).toInt) ∧ ((S.1 8 (Int32.toNatClampNeg ((8 * (S.2.2 5)) + (S.1 6 (Int32.toNatClampNeg (S.2.2 5)))))).toInt < ((160 * (S.2.2 5).toInt) + (S.1 9 (Int32.toNatClampNeg (S.2.2 5))).toInt))) from (by have := gx_ad (8 * (S.2.2 5)) (S.1 6 (Int32.toNatClampNeg (S.2.2 5))); have := gx_ak (S.2.2 19) 1 (1) (by decide); have := gx_mk 8 (S.2.2 5) 8 (gx_lit 8 (by decide)); have : (1 : Int32).toInt = 1 := (by decide); omega))
          · skip
            have h18_ := gx_eqnr (k := 61) (gx_lit 61 (by decide)) h18
            refine gx_ca (Q := gy_q_MD_readRule S) (gx_q_MD_refuse _) (gx_s_MD_refuse _ h1 h2) ?_
            intro r_h19 u69 h19
            have h19_0 : (u69.2.2 24).toInt = 1 := h19
            clear h19
            exact ⟨trivial, ⟨(Or.inl (show (u69.2.2 24).toInt ≠ 0 from (by have := gx_ak (S.2.2 19) 1 (1) (by decide); omega))), (show (0 ≤ (S.1 9 (Int32.toNatClampNeg (S.2.2 5))).toInt) ∧ (((S.1 9 (Int32.toNatClampNeg (S.2.2 5))).toInt ≤ (2 * ((S.2.2 19) + 1).toInt)) ∧ (((S.2.2 19).toInt ≤ ((S.2.2 19) + 1).toInt) ∧ ((((S.2.2 19) + 1).toInt ≤ (S.2.2 2).toInt) ∧ ((0 ≤ (S.1 6 (Int32.toNatClampNeg (S.2.2 5))).toInt) ∧ (((S.1 6 (Int32.toNatClampNeg (S.2.2 5))).toInt ≤ 8) ∧ (((S.2.2 19).toInt < ((S.2.2 19) + 1).toInt) ∨ ((u69.2.2 24).toInt ≠ 0))))))) from (by have := gx_ak (S.2.2 19) 1 (1) (by decide); omega))⟩⟩
        · skip
          have h16_ := gx_eqnr (k := -1) (by decide) h16
          refine gy_s_MD_readRule_j44 _ _ _ _ ?_ ?_ ?_ ?_ ?_ ?_ ?_ ?_ ?_ ?_ ?_ ?_ ?_ ?_
          · exact h1
          · exact h2
          · exact h3
          · exact (show 0 ≤ (S.1 9 (Int32.toNatClampNeg (S.2.2 5))).toInt from (by omega))
          · exact (show (S.1 9 (Int32.toNatClampNeg (S.2.2 5))).toInt ≤ (2 * (S.2.2 19).toInt) from (by omega))
          · exact (show 0 ≤ (S.2.2 19).toInt from (by omega))
          · exact (show (S.2.2 19).toInt ≤ (S.2.2 2).toInt from (by omega))
          · exact (show 0 ≤ (S.1 6 (Int32.toNatClampNeg (S.2.2 5))).toInt from (by omega))
          · exact (show (S.1 6 (Int32.toNatClampNeg (S.2.2 5))).toInt ≤ 8 from (by omega))
          · exact (show (S.2.2 24).toInt = 0 from (by omega))
          · exact (show (S.1 9 (Int32.toNatClampNeg (S.2.2 5))).toInt = (S.1 9 (Int32.toNatClampNeg (S.2.2 5))).toInt from (by omega))
          · exact (show (S.1 6 (Int32.toNatClampNeg (S.2.2 5))).toInt = (S.1 6 (Int32.toNatClampNeg (S.2.2 5))).toInt from (by omega))
          · exact (show (S.2.2 19).toInt = (S.2.2 19).toInt from (by omega))
          · exact h3
abbrev gy_q_MD_read (S : gm_S) (z : Int32 × (gm_S)) : Prop := (gm_iX (z.2.2.2 24) (S.2.2 2) (z.2.2.2 5) (z.2.1 6) (z.2.1 7) (z.2.1 8) (z.2.1 9) (z.2.1 10) (z.2.1 11) (z.2.1 12) (z.2.1 13)) ∧ ((0 ≤ (z.2.2.2 5).toInt) ∧ (((z.2.2.2 5).toInt ≤ 1) ∧ ((0 ≤ (z.2.1 9 (Int32.toNatClampNeg (z.2.2.2 5))).toInt) ∧ (((z.2.1 9 (Int32.toNatClampNeg (z.2.2.2 5))).toInt ≤ 100) ∧ ((0 ≤ (z.2.2.2 19).toInt) ∧ (((z.2.2.2 19).toInt ≤ (S.2.2 2).toInt) ∧ ((0 ≤ (z.2.1 6 (Int32.toNatClampNeg (z.2.2.2 5))).toInt) ∧ (((z.2.1 6 (Int32.toNatClampNeg (z.2.2.2 5))).toInt ≤ 8)))))))))
set_option maxRecDepth 100000 in
theorem gy_s_MD_read_46 (S : gm_S) (h1 : gm_iW 50 (S.2.2 2) (S.1 3)) : ∀ (n46 : Nat) (S_46 : gm_S), (gm_iX (S_46.2.2 24) (S.2.2 2) (S_46.2.2 5) (S_46.1 6) (S_46.1 7) (S_46.1 8) (S_46.1 9) (S_46.1 10) (S_46.1 11) (S_46.1 12) (S_46.1 13)) → (0 ≤ (S_46.2.2 5).toInt) → ((S_46.2.2 5).toInt ≤ 1) → (0 ≤ (S_46.1 9 (Int32.toNatClampNeg (S_46.2.2 5))).toInt) → ((S_46.1 9 (Int32.toNatClampNeg (S_46.2.2 5))).toInt ≤ (2 * (S_46.2.2 19).toInt)) → (0 ≤ (S_46.2.2 19).toInt) → ((S_46.2.2 19).toInt ≤ (S.2.2 2).toInt) → (0 ≤ (S_46.1 6 (Int32.toNatClampNeg (S_46.2.2 5))).toInt) → ((S_46.1 6 (Int32.toNatClampNeg (S_46.2.2 5))).toInt ≤ 8) → (0 < n46) → (((S_46.2.2 24).toInt ≠ 0) ∨ ((((S.2.2 2).toInt - (S_46.2.2 19).toInt) + 1) < n46)) → gm_p_MD_read_46 S n46 S_46 ∧ gy_q_MD_read S (gm_f_MD_read_46 S n46 S_46) := by
  intro n46
  induction n46 with
  | zero =>
    intro S_46 h2 h3 h4 h5 h6 h7 h8 h9 h10 h11 h12; exfalso; skip; omega
  | succ n46 ih =>
    intro S_46 h2 h3 h4 h5 h6 h7 h8 h9 h10 h11 h12
    rw [gm_p_MD_read_46, gm_f_MD_read_46]
    refine gx_if (Q := gy_q_MD_read S) (fun h13 => ?_) (fun h13 => ?_)
    · skip
      have h13_ := gx_eqr (k := 0) (by decide) h13
      refine gx_if (Q := gy_q_MD_read S) (fun h14 => ?_) (fun h14 => ?_)
      · skip
        have h14_ := gx_lt h14
        refine gx_ca (Q := gy_q_MD_read S) (gy_q_MD_readRule _) (gy_s_MD_readRule _ h1 (show 0 ≤ (S_46.2.2 5).toInt ∧ (S_46.2.2 5).toInt ≤ 1 from (by omega)) h2 h5 h6 h7 h8 h9 h10 (show (S_46.2.2 24).toInt = 0 from (by omega))) ?_
        intro r_h15 u77 h15
        have h15_0 : gm_iX (u77.2.2 24) (S.2.2 2) (S_46.2.2 5) (u77.1 6) (u77.1 7) (u77.1 8) (u77.1 9) (u77.1 10) (u77.1 11) (u77.1 12) (u77.1 13) := h15.1
        have h15_1 : (0 ≤ (u77.1 9 (Int32.toNatClampNeg (S_46.2.2 5))).toInt) ∧ (((u77.1 9 (Int32.toNatClampNeg (S_46.2.2 5))).toInt ≤ (2 * (u77.2.2 19).toInt)) ∧ (((S_46.2.2 19).toInt ≤ (u77.2.2 19).toInt) ∧ (((u77.2.2 19).toInt ≤ (S.2.2 2).toInt) ∧ ((0 ≤ (u77.1 6 (Int32.toNatClampNeg (S_46.2.2 5))).toInt) ∧ (((u77.1 6 (Int32.toNatClampNeg (S_46.2.2 5))).toInt ≤ 8) ∧ (((S_46.2.2 19).toInt < (u77.2.2 19).toInt) ∨ ((u77.2.2 24).toInt ≠ 0))))))) := h15.2
        clear h15
        refine ih _ ?_ ?_ ?_ ?_ ?_ ?_ ?_ ?_ ?_ ?_ ?_
        · exact h15_0
        · exact h3
        · exact h4
        · exact (show 0 ≤ (u77.1 9 (Int32.toNatClampNeg (S_46.2.2 5))).toInt from (by omega))
        · exact (show (u77.1 9 (Int32.toNatClampNeg (S_46.2.2 5))).toInt ≤ (2 * (u77.2.2 19).toInt) from (by omega))
        · exact (show 0 ≤ (u77.2.2 19).toInt from (by omega))
        · exact (show (u77.2.2 19).toInt ≤ (S.2.2 2).toInt from (by omega))
        · exact (show 0 ≤ (u77.1 6 (Int32.toNatClampNeg (S_46.2.2 5))).toInt from (by omega))
        · exact (show (u77.1 6 (Int32.toNatClampNeg (S_46.2.2 5))).toInt ≤ 8 from (by omega))
        · exact (show 0 < n46 from (by omega))
        · exact (show ((u77.2.2 24).toInt ≠ 0) ∨ ((((S.2.2 2).toInt - (u77.2.2 19).toInt) + 1) < n46) from (by omega))
      · skip
        have h14_ := gx_ltn h14
        refine gx_in (Q := gy_q_MD_read S) (vp_in_iff.mpr (by omega)) ?_
        refine gx_if (Q := gy_q_MD_read S) (fun h15 => ?_) (fun h15 => ?_)
        · skip
          have h15_ := gx_eqr (k := 0) (by decide) h15
          refine gx_ca (Q := gy_q_MD_read S) (gy_q_MD_readRule _) (gy_s_MD_readRule _ h1 (show 0 ≤ (S_46.2.2 5).toInt ∧ (S_46.2.2 5).toInt ≤ 1 from (by omega)) h2 h5 h6 h7 h8 h9 h10 (show (S_46.2.2 24).toInt = 0 from (by omega))) ?_
          intro r_h16 u77 h16
          have h16_0 : gm_iX (u77.2.2 24) (S.2.2 2) (S_46.2.2 5) (u77.1 6) (u77.1 7) (u77.1 8) (u77.1 9) (u77.1 10) (u77.1 11) (u77.1 12) (u77.1 13) := h16.1
          have h16_1 : (0 ≤ (u77.1 9 (Int32.toNatClampNeg (S_46.2.2 5))).toInt) ∧ (((u77.1 9 (Int32.toNatClampNeg (S_46.2.2 5))).toInt ≤ (2 * (u77.2.2 19).toInt)) ∧ (((S_46.2.2 19).toInt ≤ (u77.2.2 19).toInt) ∧ (((u77.2.2 19).toInt ≤ (S.2.2 2).toInt) ∧ ((0 ≤ (u77.1 6 (Int32.toNatClampNeg (S_46.2.2 5))).toInt) ∧ (((u77.1 6 (Int32.toNatClampNeg (S_46.2.2 5))).toInt ≤ 8) ∧ (((S_46.2.2 19).toInt < (u77.2.2 19).toInt) ∨ ((u77.2.2 24).toInt ≠ 0))))))) := h16.2
          clear h16
          refine ih _ ?_ ?_ ?_ ?_ ?_ ?_ ?_ ?_ ?_ ?_ ?_
          · exact h16_0
          · exact h3
          · exact h4
          · exact (show 0 ≤ (u77.1 9 (Int32.toNatClampNeg (S_46.2.2 5))).toInt from (by omega))
          · exact (show (u77.1 9 (Int32.toNatClampNeg (S_46.2.2 5))).toInt ≤ (2 * (u77.2.2 19).toInt) from (by omega))
          · exact (show 0 ≤ (u77.2.2 19).toInt from (by omega))
          · exact (show (u77.2.2 19).toInt ≤ (S.2.2 2).toInt from (by omega))
          · exact (show 0 ≤ (u77.1 6 (Int32.toNatClampNeg (S_46.2.2 5))).toInt from (by omega))
          · exact (show (u77.1 6 (Int32.toNatClampNeg (S_46.2.2 5))).toInt ≤ 8 from (by omega))
          · exact (show 0 < n46 from (by omega))
          · exact (show ((u77.2.2 24).toInt ≠ 0) ∨ ((((S.2.2 2).toInt - (u77.2.2 19).toInt) + 1) < n46) from (by omega))
        · skip
          have h15_ := gx_eqnr (k := 0) (by decide) h15
          refine gx_if (Q := gy_q_MD_read S) (fun h16 => ?_) (fun h16 => ?_)
          · skip
            have h16_ := gx_eqr (k := 0) (by decide) h16
            exact ⟨trivial, ⟨h2, (show (0 ≤ (S_46.2.2 5).toInt) ∧ (((S_46.2.2 5).toInt ≤ 1) ∧ ((0 ≤ (S_46.1 9 (Int32.toNatClampNeg (S_46.2.2 5))).toInt) ∧ (((S_46.1 9 (Int32.toNatClampNeg (S_46.2.2 5))).toInt ≤ 100) ∧ ((0 ≤ (S_46.2.2 19).toInt) ∧ (((S_46.2.2 19).toInt ≤ (S.2.2 2).toInt) ∧ ((0 ≤ (S_46.1 6 (Int32.toNatClampNeg (S_46.2.2 5))).toInt) ∧ ((S_46.1 6 (Int32.toNatClampNeg (S_46.2.2 5))).toInt ≤ 8))))))) from (by omega))⟩⟩
          · skip
            have h16_ := gx_eqnr (k := 0) (by decide) h16
            exact ⟨trivial, ⟨h2, (show (0 ≤ (S_46.2.2 5).toInt) ∧ (((S_46.2.2 5).toInt ≤ 1) ∧ ((0 ≤ (S_46.1 9 (Int32.toNatClampNeg (S_46.2.2 5))).toInt) ∧ (((S_46.1 9 (Int32.toNatClampNeg (S_46.2.2 5))).toInt ≤ 100) ∧ ((0 ≤ (S_46.2.2 19).toInt) ∧ (((S_46.2.2 19).toInt ≤ (S.2.2 2).toInt) ∧ ((0 ≤ (S_46.1 6 (Int32.toNatClampNeg (S_46.2.2 5))).toInt) ∧ ((S_46.1 6 (Int32.toNatClampNeg (S_46.2.2 5))).toInt ≤ 8))))))) from (by omega))⟩⟩
    · skip
      have h13_ := gx_eqnr (k := 0) (by decide) h13
      refine gx_if (Q := gy_q_MD_read S) (fun h14 => ?_) (fun h14 => ?_)
      · skip
        have h14_ := gx_eqr (k := 0) (by decide) h14
        exact ⟨trivial, ⟨h2, (show (0 ≤ (S_46.2.2 5).toInt) ∧ (((S_46.2.2 5).toInt ≤ 1) ∧ ((0 ≤ (S_46.1 9 (Int32.toNatClampNeg (S_46.2.2 5))).toInt) ∧ (((S_46.1 9 (Int32.toNatClampNeg (S_46.2.2 5))).toInt ≤ 100) ∧ ((0 ≤ (S_46.2.2 19).toInt) ∧ (((S_46.2.2 19).toInt ≤ (S.2.2 2).toInt) ∧ ((0 ≤ (S_46.1 6 (Int32.toNatClampNeg (S_46.2.2 5))).toInt) ∧ ((S_46.1 6 (Int32.toNatClampNeg (S_46.2.2 5))).toInt ≤ 8))))))) from (by omega))⟩⟩
      · skip
        have h14_ := gx_eqnr (k := 0) (by decide) h14
        exact ⟨trivial, ⟨h2, (show (0 ≤ (S_46.2.2 5).toInt) ∧ (((S_46.2.2 5).toInt ≤ 1) ∧ ((0 ≤ (S_46.1 9 (Int32.toNatClampNeg (S_46.2.2 5))).toInt) ∧ (((S_46.1 9 (Int32.toNatClampNeg (S_46.2.2 5))).toInt ≤ 100) ∧ ((0 ≤ (S_46.2.2 19).toInt) ∧ (((S_46.2.2 19).toInt ≤ (S.2.2 2).toInt) ∧ ((0 ≤ (S_46.1 6 (Int32.toNatClampNeg (S_46.2.2 5))).toInt) ∧ ((S_46.1 6 (Int32.toNatClampNeg (S_46.2.2 5))).toInt ≤ 8))))))) from (by omega))⟩⟩
set_option maxRecDepth 100000 in
theorem gy_s_MD_read_46_a (S : gm_S) (h1 : gm_iW 50 (S.2.2 2) (S.1 3)) : ∀ (n46 : Nat) (S_46 : gm_S), (gm_iX (S_46.2.2 24) (S.2.2 2) (S_46.2.2 5) (S_46.1 6) (S_46.1 7) (S_46.1 8) (S_46.1 9) (S_46.1 10) (S_46.1 11) (S_46.1 12) (S_46.1 13)) → (0 ≤ (S_46.2.2 5).toInt) → ((S_46.2.2 5).toInt ≤ 1) → (0 ≤ (S_46.1 9 (Int32.toNatClampNeg (S_46.2.2 5))).toInt) → ((S_46.1 9 (Int32.toNatClampNeg (S_46.2.2 5))).toInt ≤ (2 * (S_46.2.2 19).toInt)) → (0 ≤ (S_46.2.2 19).toInt) → ((S_46.2.2 19).toInt ≤ (S.2.2 2).toInt) → (0 ≤ (S_46.1 6 (Int32.toNatClampNeg (S_46.2.2 5))).toInt) → ((S_46.1 6 (Int32.toNatClampNeg (S_46.2.2 5))).toInt ≤ 8) → (0 < n46) → (((S_46.2.2 24).toInt ≠ 0) ∨ ((((S.2.2 2).toInt - (S_46.2.2 19).toInt) + 1) < n46)) → gm_p_MD_read_46_a S n46 S_46 ∧ gy_q_MD_read S (gm_f_MD_read_46_a S n46 S_46) := by
  intro n46
  induction n46 with
  | zero =>
    intro S_46 h2 h3 h4 h5 h6 h7 h8 h9 h10 h11 h12; exfalso; skip; omega
  | succ n46 ih =>
    intro S_46 h2 h3 h4 h5 h6 h7 h8 h9 h10 h11 h12
    rw [gm_p_MD_read_46_a, gm_f_MD_read_46_a]
    refine gx_if (Q := gy_q_MD_read S) (fun h13 => ?_) (fun h13 => ?_)
    · skip
      have h13_ := gx_eqr (k := 0) (by decide) h13
      refine gx_if (Q := gy_q_MD_read S) (fun h14 => ?_) (fun h14 => ?_)
      · skip
        have h14_ := gx_lt h14
        refine gx_ca (Q := gy_q_MD_read S) (gy_q_MD_readRule _) (gy_s_MD_readRule _ h1 (show 0 ≤ (S_46.2.2 5).toInt ∧ (S_46.2.2 5).toInt ≤ 1 from (by omega)) h2 h5 h6 h7 h8 h9 h10 (show (S_46.2.2 24).toInt = 0 from (by omega))) ?_
        intro r_h15 u77 h15
        have h15_0 : gm_iX (u77.2.2 24) (S.2.2 2) (S_46.2.2 5) (u77.1 6) (u77.1 7) (u77.1 8) (u77.1 9) (u77.1 10) (u77.1 11) (u77.1 12) (u77.1 13) := h15.1
        have h15_1 : (0 ≤ (u77.1 9 (Int32.toNatClampNeg (S_46.2.2 5))).toInt) ∧ (((u77.1 9 (Int32.toNatClampNeg (S_46.2.2 5))).toInt ≤ (2 * (u77.2.2 19).toInt)) ∧ (((S_46.2.2 19).toInt ≤ (u77.2.2 19).toInt) ∧ (((u77.2.2 19).toInt ≤ (S.2.2 2).toInt) ∧ ((0 ≤ (u77.1 6 (Int32.toNatClampNeg (S_46.2.2 5))).toInt) ∧ (((u77.1 6 (Int32.toNatClampNeg (S_46.2.2 5))).toInt ≤ 8) ∧ (((S_46.2.2 19).toInt < (u77.2.2 19).toInt) ∨ ((u77.2.2 24).toInt ≠ 0))))))) := h15.2
        clear h15
        refine ih _ ?_ ?_ ?_ ?_ ?_ ?_ ?_ ?_ ?_ ?_ ?_
        · exact h15_0
        · exact h3
        · exact h4
        · exact (show 0 ≤ (u77.1 9 (Int32.toNatClampNeg (S_46.2.2 5))).toInt from (by omega))
        · exact (show (u77.1 9 (Int32.toNatClampNeg (S_46.2.2 5))).toInt ≤ (2 * (u77.2.2 19).toInt) from (by omega))
        · exact (show 0 ≤ (u77.2.2 19).toInt from (by omega))
        · exact (show (u77.2.2 19).toInt ≤ (S.2.2 2).toInt from (by omega))
        · exact (show 0 ≤ (u77.1 6 (Int32.toNatClampNeg (S_46.2.2 5))).toInt from (by omega))
        · exact (show (u77.1 6 (Int32.toNatClampNeg (S_46.2.2 5))).toInt ≤ 8 from (by omega))
        · exact (show 0 < n46 from (by omega))
        · exact (show ((u77.2.2 24).toInt ≠ 0) ∨ ((((S.2.2 2).toInt - (u77.2.2 19).toInt) + 1) < n46) from (by omega))
      · skip
        have h14_ := gx_ltn h14
        refine gx_in (Q := gy_q_MD_read S) (vp_in_iff.mpr (by omega)) ?_
        refine gx_if (Q := gy_q_MD_read S) (fun h15 => ?_) (fun h15 => ?_)
        · skip
          have h15_ := gx_eqr (k := 0) (by decide) h15
          refine gx_ca (Q := gy_q_MD_read S) (gy_q_MD_readRule _) (gy_s_MD_readRule _ h1 (show 0 ≤ (S_46.2.2 5).toInt ∧ (S_46.2.2 5).toInt ≤ 1 from (by omega)) h2 h5 h6 h7 h8 h9 h10 (show (S_46.2.2 24).toInt = 0 from (by omega))) ?_
          intro r_h16 u77 h16
          have h16_0 : gm_iX (u77.2.2 24) (S.2.2 2) (S_46.2.2 5) (u77.1 6) (u77.1 7) (u77.1 8) (u77.1 9) (u77.1 10) (u77.1 11) (u77.1 12) (u77.1 13) := h16.1
          have h16_1 : (0 ≤ (u77.1 9 (Int32.toNatClampNeg (S_46.2.2 5))).toInt) ∧ (((u77.1 9 (Int32.toNatClampNeg (S_46.2.2 5))).toInt ≤ (2 * (u77.2.2 19).toInt)) ∧ (((S_46.2.2 19).toInt ≤ (u77.2.2 19).toInt) ∧ (((u77.2.2 19).toInt ≤ (S.2.2 2).toInt) ∧ ((0 ≤ (u77.1 6 (Int32.toNatClampNeg (S_46.2.2 5))).toInt) ∧ (((u77.1 6 (Int32.toNatClampNeg (S_46.2.2 5))).toInt ≤ 8) ∧ (((S_46.2.2 19).toInt < (u77.2.2 19).toInt) ∨ ((u77.2.2 24).toInt ≠ 0))))))) := h16.2
          clear h16
          refine ih _ ?_ ?_ ?_ ?_ ?_ ?_ ?_ ?_ ?_ ?_ ?_
          · exact h16_0
          · exact h3
          · exact h4
          · exact (show 0 ≤ (u77.1 9 (Int32.toNatClampNeg (S_46.2.2 5))).toInt from (by omega))
          · exact (show (u77.1 9 (Int32.toNatClampNeg (S_46.2.2 5))).toInt ≤ (2 * (u77.2.2 19).toInt) from (by omega))
          · exact (show 0 ≤ (u77.2.2 19).toInt from (by omega))
          · exact (show (u77.2.2 19).toInt ≤ (S.2.2 2).toInt from (by omega))
          · exact (show 0 ≤ (u77.1 6 (Int32.toNatClampNeg (S_46.2.2 5))).toInt from (by omega))
          · exact (show (u77.1 6 (Int32.toNatClampNeg (S_46.2.2 5))).toInt ≤ 8 from (by omega))
          · exact (show 0 < n46 from (by omega))
          · exact (show ((u77.2.2 24).toInt ≠ 0) ∨ ((((S.2.2 2).toInt - (u77.2.2 19).toInt) + 1) < n46) from (by omega))
        · skip
          have h15_ := gx_eqnr (k := 0) (by decide) h15
          refine gx_if (Q := gy_q_MD_read S) (fun h16 => ?_) (fun h16 => ?_)
          · skip
            have h16_ := gx_eqr (k := 0) (by decide) h16
            exact ⟨trivial, ⟨h2, (show (0 ≤ (S_46.2.2 5).toInt) ∧ (((S_46.2.2 5).toInt ≤ 1) ∧ ((0 ≤ (S_46.1 9 (Int32.toNatClampNeg (S_46.2.2 5))).toInt) ∧ (((S_46.1 9 (Int32.toNatClampNeg (S_46.2.2 5))).toInt ≤ 100) ∧ ((0 ≤ (S_46.2.2 19).toInt) ∧ (((S_46.2.2 19).toInt ≤ (S.2.2 2).toInt) ∧ ((0 ≤ (S_46.1 6 (Int32.toNatClampNeg (S_46.2.2 5))).toInt) ∧ ((S_46.1 6 (Int32.toNatClampNeg (S_46.2.2 5))).toInt ≤ 8))))))) from (by omega))⟩⟩
          · skip
            have h16_ := gx_eqnr (k := 0) (by decide) h16
            exact ⟨trivial, ⟨h2, (show (0 ≤ (S_46.2.2 5).toInt) ∧ (((S_46.2.2 5).toInt ≤ 1) ∧ ((0 ≤ (S_46.1 9 (Int32.toNatClampNeg (S_46.2.2 5))).toInt) ∧ (((S_46.1 9 (Int32.toNatClampNeg (S_46.2.2 5))).toInt ≤ 100) ∧ ((0 ≤ (S_46.2.2 19).toInt) ∧ (((S_46.2.2 19).toInt ≤ (S.2.2 2).toInt) ∧ ((0 ≤ (S_46.1 6 (Int32.toNatClampNeg (S_46.2.2 5))).toInt) ∧ ((S_46.1 6 (Int32.toNatClampNeg (S_46.2.2 5))).toInt ≤ 8))))))) from (by omega))⟩⟩
    · skip
      have h13_ := gx_eqnr (k := 0) (by decide) h13
      refine gx_if (Q := gy_q_MD_read S) (fun h14 => ?_) (fun h14 => ?_)
      · skip
        have h14_ := gx_eqr (k := 0) (by decide) h14
        exact ⟨trivial, ⟨h2, (show (0 ≤ (S_46.2.2 5).toInt) ∧ (((S_46.2.2 5).toInt ≤ 1) ∧ ((0 ≤ (S_46.1 9 (Int32.toNatClampNeg (S_46.2.2 5))).toInt) ∧ (((S_46.1 9 (Int32.toNatClampNeg (S_46.2.2 5))).toInt ≤ 100) ∧ ((0 ≤ (S_46.2.2 19).toInt) ∧ (((S_46.2.2 19).toInt ≤ (S.2.2 2).toInt) ∧ ((0 ≤ (S_46.1 6 (Int32.toNatClampNeg (S_46.2.2 5))).toInt) ∧ ((S_46.1 6 (Int32.toNatClampNeg (S_46.2.2 5))).toInt ≤ 8))))))) from (by omega))⟩⟩
      · skip
        have h14_ := gx_eqnr (k := 0) (by decide) h14
        exact ⟨trivial, ⟨h2, (show (0 ≤ (S_46.2.2 5).toInt) ∧ (((S_46.2.2 5).toInt ≤ 1) ∧ ((0 ≤ (S_46.1 9 (Int32.toNatClampNeg (S_46.2.2 5))).toInt) ∧ (((S_46.1 9 (Int32.toNatClampNeg (S_46.2.2 5))).toInt ≤ 100) ∧ ((0 ≤ (S_46.2.2 19).toInt) ∧ (((S_46.2.2 19).toInt ≤ (S.2.2 2).toInt) ∧ ((0 ≤ (S_46.1 6 (Int32.toNatClampNeg (S_46.2.2 5))).toInt) ∧ ((S_46.1 6 (Int32.toNatClampNeg (S_46.2.2 5))).toInt ≤ 8))))))) from (by omega))⟩⟩
set_option maxRecDepth 100000 in
theorem gy_s_MD_read (S : gm_S) (h1 : gm_iW 50 (S.2.2 2) (S.1 3)) : gm_p_MD_read S ∧ gy_q_MD_read S (gm_f_MD_read S) := by
  unfold gm_p_MD_read gm_f_MD_read
  refine gx_if (Q := gy_q_MD_read S) (fun h2 => ?_) (fun h2 => ?_)
  · skip
    have h2_ := gx_eqr (k := 0) (by decide) h2
    refine gx_in (Q := gy_q_MD_read S) (vp_in_iff.mpr (by have : (1 : Int32).toInt = 1 := (by decide); omega)) ?_
    refine gx_in (Q := gy_q_MD_read S) (vp_in_iff.mpr (by have : (1 : Int32).toInt = 1 := (by decide); omega)) ?_
    refine gy_s_MD_read_46_a _ ?_ _ _ ?_ ?_ ?_ ?_ ?_ ?_ ?_ ?_ ?_ ?_ ?_
    · exact h1
    · exact (gx_iX_0 _ _ _ _ _ _ _ _ _ _)
    · exact (show 0 ≤ (1 : Int32).toInt from (by have : (1 : Int32).toInt = 1 := (by decide); omega))
    · exact (show (1 : Int32).toInt ≤ 1 from (by have : (1 : Int32).toInt = 1 := (by decide); omega))
    · exact (show 0 ≤ (upd (S.1 9) (Int32.toNatClampNeg 1) 0 (Int32.toNatClampNeg 1)).toInt from (by rw [gx_us]; exact (show 0 ≤ (0 : Int32).toInt from (by have : (0 : Int32).toInt = 0 := (by decide); omega))))
    · exact (show (upd (S.1 9) (Int32.toNatClampNeg 1) 0 (Int32.toNatClampNeg 1)).toInt ≤ (2 * (0 : Int32).toInt) from (by rw [gx_us]; exact (show (0 : Int32).toInt ≤ (2 * (0 : Int32).toInt) from (by have : (0 : Int32).toInt = 0 := (by decide); omega))))
    · exact (show 0 ≤ (0 : Int32).toInt from (by have : (0 : Int32).toInt = 0 := (by decide); omega))
    · exact (show (0 : Int32).toInt ≤ (S.2.2 2).toInt from (by have : (0 : Int32).toInt = 0 := (by decide); omega))
    · exact (show 0 ≤ (upd (S.1 6) (Int32.toNatClampNeg 1) 0 (Int32.toNatClampNeg 1)).toInt from (by rw [gx_us]; exact (show 0 ≤ (0 : Int32).toInt from (by have : (0 : Int32).toInt = 0 := (by decide); omega))))
    · exact (show (upd (S.1 6) (Int32.toNatClampNeg 1) 0 (Int32.toNatClampNeg 1)).toInt ≤ 8 from (by rw [gx_us]; exact (show (0 : Int32).toInt ≤ 8 from (by have : (0 : Int32).toInt = 0 := (by decide); omega))))
    · exact (show 0 < 200 from (by omega))
    · exact (show ((0 : Int32).toInt ≠ 0) ∨ ((((S.2.2 2).toInt - (0 : Int32).toInt) + 1) < 200) from (by have : (0 : Int32).toInt = 0 := (by decide); omega))
  · skip
    have h2_ := gx_eqnr (k := 0) (by decide) h2
    refine gx_in (Q := gy_q_MD_read S) (vp_in_iff.mpr (by have : (0 : Int32).toInt = 0 := (by decide); omega)) ?_
    refine gx_in (Q := gy_q_MD_read S) (vp_in_iff.mpr (by have : (0 : Int32).toInt = 0 := (by decide); omega)) ?_
    refine gy_s_MD_read_46 _ ?_ _ _ ?_ ?_ ?_ ?_ ?_ ?_ ?_ ?_ ?_ ?_ ?_
    · exact h1
    · exact (gx_iX_0 _ _ _ _ _ _ _ _ _ _)
    · exact (show 0 ≤ (0 : Int32).toInt from (by have : (0 : Int32).toInt = 0 := (by decide); omega))
    · exact (show (0 : Int32).toInt ≤ 1 from (by have : (0 : Int32).toInt = 0 := (by decide); omega))
    · exact (show 0 ≤ (upd (S.1 9) (Int32.toNatClampNeg 0) 0 (Int32.toNatClampNeg 0)).toInt from (by rw [gx_us]; exact (show 0 ≤ (0 : Int32).toInt from (by have : (0 : Int32).toInt = 0 := (by decide); omega))))
    · exact (show (upd (S.1 9) (Int32.toNatClampNeg 0) 0 (Int32.toNatClampNeg 0)).toInt ≤ (2 * (0 : Int32).toInt) from (by rw [gx_us]; exact (show (0 : Int32).toInt ≤ (2 * (0 : Int32).toInt) from (by have : (0 : Int32).toInt = 0 := (by decide); omega))))
    · exact (show 0 ≤ (0 : Int32).toInt from (by have : (0 : Int32).toInt = 0 := (by decide); omega))
    · exact (show (0 : Int32).toInt ≤ (S.2.2 2).toInt from (by have : (0 : Int32).toInt = 0 := (by decide); omega))
    · exact (show 0 ≤ (upd (S.1 6) (Int32.toNatClampNeg 0) 0 (Int32.toNatClampNeg 0)).toInt from (by rw [gx_us]; exact (show 0 ≤ (0 : Int32).toInt from (by have : (0 : Int32).toInt = 0 := (by decide); omega))))
    · exact (show (upd (S.1 6) (Int32.toNatClampNeg 0) 0 (Int32.toNatClampNeg 0)).toInt ≤ 8 from (by rw [gx_us]; exact (show (0 : Int32).toInt ≤ 8 from (by have : (0 : Int32).toInt = 0 := (by decide); omega))))
    · exact (show 0 < 200 from (by omega))
    · exact (show ((0 : Int32).toInt ≠ 0) ∨ ((((S.2.2 2).toInt - (0 : Int32).toInt) + 1) < 200) from (by have : (0 : Int32).toInt = 0 := (by decide); omega))
