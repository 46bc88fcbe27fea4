/-! What ties the two sides together, call by call. -/
theorem gs_nar {x : Int32} (h1 : ¬ x < 32) (h2 : ¬ 126 < x) : vp_nar .char x = x := by
  have q1 := gx_ltnr (k := 32) (gx_lit 32 (by decide)) h1
  have q2 := gx_ltnl (k := 126) (gx_lit 126 (by decide)) h2
  obtain ⟨j, hj, e⟩ := nI_of (x := x) (fun h9 => by have := gx_ltr (k := 0) (by decide) h9; omega)
  have t := nI_toInt hj
  rw [← e] at t
  rw [e]
  have key : ∀ j : Nat, j < 127 → vp_nar .char (nI j) = nI j := by decide +kernel
  exact key j (by omega)
/-- the same text -/
def gs_TK (s1 s17 : gm_S) : Prop := s1.2.2 1 = s17.2.2 2 ∧ ∀ k : Nat, (k : Int) < (s17.2.2 2).toInt → s1.1 0 k = s17.1 3 k
/-- the same subject -/
def gs_SK (s2 s17 : gm_S) : Prop := s2.2.2 1 = s17.2.2 32 ∧ ∀ k : Nat, (k : Int) < (s17.2.2 32).toInt → s2.1 0 k = s17.1 33 k
theorem gs_ty (x : Int32) (s t : gm_S) (h : gs_TK s t) (hW : gm_iW 50 (t.2.2 2) (t.1 3)) : (gm_f_Row_append 50 x s).1 = (gm_f_MD_type x t).1 ∧ gs_TK (gm_f_Row_append 50 x s).2 (gm_f_MD_type x t).2 := by
  obtain ⟨h, hk⟩ := h
  have l := hW.1.2
  have l0 := hW.1.1
  unfold gm_f_Row_append gm_f_MD_type
  by_cases a : x < 32
  · rw [if_pos a, if_pos a]
    exact ⟨rfl, h, hk⟩
  rw [if_neg a, if_neg a]
  by_cases b : 126 < x
  · rw [if_pos b, if_pos b]
    exact ⟨rfl, h, hk⟩
  rw [if_neg b, if_neg b]
  have o : (Int32.ofNat 50).toInt = 50 := gx_on 50 (by decide)
  by_cases c : t.2.2 2 = 50
  · have c1 := gx_eqr (k := 50) (gx_lit 50 (by decide)) c
    have n : ¬ s.2.2 1 < Int32.ofNat 50 := by rw [Int32.lt_iff_toInt_lt, h]; omega
    rw [if_neg n, if_pos c]
    exact ⟨rfl, h, hk⟩
  · have c1 := gx_eqnr (k := 50) (gx_lit 50 (by decide)) c
    have n : s.2.2 1 < Int32.ofNat 50 := by rw [Int32.lt_iff_toInt_lt, h]; omega
    rw [if_pos n, if_neg c]
    refine ⟨rfl, ?_, fun k hk' => ?_⟩
    · show s.2.2 1 + 1 = t.2.2 2 + 1
      rw [h]
    · have hk' : (k : Int) < (t.2.2 2 + 1).toInt := hk'
      have ak := gx_ak (t.2.2 2) 1 1 (by decide)
      have ct := gx_cl (t.2.2 2) l0
      show upd (s.1 0) (Int32.toNatClampNeg (s.2.2 1)) (vp_nar .char x) k = upd (t.1 3) (Int32.toNatClampNeg (t.2.2 2)) x k
      rw [h, gs_nar a b]
      by_cases q : k = Int32.toNatClampNeg (t.2.2 2)
      · rw [q, gx_us, gx_us]
      · rw [gx_un _ _ _ q, gx_un _ _ _ q]
        exact hk k (by omega)
theorem gs_fd (x : Int32) (s t : gm_S) (h : gs_SK s t) (hW : gm_iW 10 (t.2.2 32) (t.1 33)) : (gm_f_Row_append 10 x s).1 = (gm_f_MD_feed x t).1 ∧ gs_SK (gm_f_Row_append 10 x s).2 (gm_f_MD_feed x t).2 := by
  obtain ⟨h, hk⟩ := h
  have l := hW.1.2
  have l0 := hW.1.1
  unfold gm_f_Row_append gm_f_MD_feed
  by_cases a : x < 32
  · rw [if_pos a, if_pos a]
    exact ⟨rfl, h, hk⟩
  rw [if_neg a, if_neg a]
  by_cases b : 126 < x
  · rw [if_pos b, if_pos b]
    exact ⟨rfl, h, hk⟩
  rw [if_neg b, if_neg b]
  have o : (Int32.ofNat 10).toInt = 10 := gx_on 10 (by decide)
  by_cases c : t.2.2 32 = 10
  · have c1 := gx_eqr (k := 10) (gx_lit 10 (by decide)) c
    have n : ¬ s.2.2 1 < Int32.ofNat 10 := by rw [Int32.lt_iff_toInt_lt, h]; omega
    rw [if_neg n, if_pos c]
    exact ⟨rfl, h, hk⟩
  · have c1 := gx_eqnr (k := 10) (gx_lit 10 (by decide)) c
    have n : s.2.2 1 < Int32.ofNat 10 := by rw [Int32.lt_iff_toInt_lt, h]; omega
    rw [if_pos n, if_neg c]
    refine ⟨rfl, ?_, fun k hk' => ?_⟩
    · show s.2.2 1 + 1 = t.2.2 32 + 1
      rw [h]
    · have hk' : (k : Int) < (t.2.2 32 + 1).toInt := hk'
      have ak := gx_ak (t.2.2 32) 1 1 (by decide)
      have ct := gx_cl (t.2.2 32) l0
      show upd (s.1 0) (Int32.toNatClampNeg (s.2.2 1)) (vp_nar .char x) k = upd (t.1 33) (Int32.toNatClampNeg (t.2.2 32)) x k
      rw [h, gs_nar a b]
      by_cases q : k = Int32.toNatClampNeg (t.2.2 32)
      · rw [q, gx_us, gx_us]
      · rw [gx_un _ _ _ q, gx_un _ _ _ q]
        exact hk k (by omega)
/-- the text, as both see it -/
theorem gs_TK_tx {s1 s17 : gm_S} (h : gs_TK s1 s17) (hW : gm_iW 50 (s17.2.2 2) (s17.1 3)) : gp_tx (s1.2.2 1) (s1.1 0) (gp_tn s17) (Int32.toNatClampNeg (s17.2.2 2)) ∧ gp_tx (s17.2.2 2) (s17.1 3) (gp_tn s17) (Int32.toNatClampNeg (s17.2.2 2)) := by
  have w := gp_tx_of hW
  refine ⟨⟨by rw [h.1]; exact w.1, w.2.1, fun k hk => ?_⟩, w⟩
  rw [h.2 k (by have := w.1; omega)]
  exact w.2.2 k hk
/-- compile that answers -/
def gs_crQ (S : gm_S × gm_S × gm_S × gm_S × gm_S × gm_S × gm_S × gm_S) (s17 : gm_S) (z : Int32 × (gm_S × gm_S × gm_S × gm_S × gm_S × gm_S × gm_S × gm_S)) (z' : Int32 × gm_S) : Prop := z.1 = 0 ∧ z'.2.2.2 0 = 0 ∧ z.2.2.2.2.2.2.2.2.2.1 0 (Int32.toNatClampNeg 0) = z'.1.toInt64 ∧ ¬ z.2.1.2.2 5 = 0 ∧ z.2.1.2.2 6 = 0 ∧ z.2.1.2.2 7 = z'.2.2.2 1 ∧ z'.2.2.2 39 = 0 ∧ ¬ z'.2.2.2 4 = -1 ∧ ∃ tx ty R f, gs_pair tx ty R f z.2.2.2.2.1 z.2.2.2.2.2.2.1 z'.2
theorem gs_law_cr (s0 s1 s8 s9 s10 s11 s12 s18 s17 : gm_S) (hT : gs_TK s1 s17) (hI : gp_RI s17) (h2 : gm_iT (s9.2.2 11) (s9.2.2 12) (s9.2.2 13) (s9.1 2) (s9.1 3) (s9.1 4) (s9.1 5) (s9.1 10)) (h4 : gm_iN 75 (s12.2.2 3)) (h1 : gm_iW 50 (s1.2.2 1) (s1.1 0)) (hz : (gm_f_GM_compile (s0, s1, s8, s9, s10, s11, s12)).1 = 0) : gs_crQ (s0, s1, s8, s9, s10, s11, s12, s18) s17 (gm_f_LW_compile_r (s0, s1, s8, s9, s10, s11, s12, s18)) (gm_f_MD_compile s17) := by
  obtain ⟨x1, x2⟩ := gs_TK_tx hT hI.1
  have C := gs_compileC (s0, s1, s8, s9, s10, s11, s12) x1 h1 h2 h4
  have M := gs_compileM s17 hI x2
  unfold gm_f_LW_compile_r
  dsimp only
  generalize hg : gm_f_GM_compile (s0, s1, s8, s9, s10, s11, s12) = g at C hz ⊢
  obtain ⟨k, b, u⟩ := g
  have hz : k = 0 := hz
  subst hz
  obtain ⟨c1, c2, -⟩ := C
  obtain ⟨m1, m2, m3, -⟩ := M
  obtain ⟨a1, a2, a3⟩ := gs_C_u c1 m1
  have z0 : (0 : Int32).toInt = 0 := by decide
  have a1 : (0 : Int32).toInt = ((gm_f_MD_compile s17).2.2.2 0).toInt := a1
  have e0 : (gm_f_MD_compile s17).2.2.2 0 = 0 := (Int32.toInt_inj.mp a1).symm
  obtain ⟨c3, c4, R, f, nA, nC, c5, c6, c7⟩ := c2 rfl
  obtain ⟨m4, R', f', nA', nC', m5, m6⟩ := m3 e0
  have e : R = R' ∧ f = f' := by
    rw [c5] at m5
    injection m5 with m5
    injection m5 with m5 m7
    injection m7 with m7 m8
    exact ⟨m5, m7⟩
  obtain ⟨e1, e2⟩ := e
  subst e1
  subst e2
  have a3 : b.toInt = (gm_f_MD_compile s17).1.toInt := a3 z0
  have nn : ¬ (gm_f_MD_compile s17).2.2.2 4 = -1 := by
    intro q
    obtain ⟨Pg, nA2, nC2, ⟨t, t1, t2, hU⟩, -⟩ := m6
    have := hU.1.1
    rw [q] at this
    exact absurd this (by decide)
  have un : gs_no R (gq_un f R) ∧ gs_no R (gq_wd f R) := by
    unfold gs_C at c1
    rw [c5] at c1
    rcases c1 with ⟨w, -⟩ | ⟨-, w, -⟩ | ⟨w1, w2, -⟩
    · exact absurd (show (0 : Int32).toInt = 2 from w) (by decide)
    · exact absurd (show (0 : Int32).toInt = 3 from w) (by decide)
    · exact ⟨w1, w2⟩
  refine ⟨rfl, e0, ?_, ?_, c4, Int32.toInt_inj.mp a2, m4, nn, gp_tn s17, Int32.toNatClampNeg (s17.2.2 2), R, f, ?_, m6, ⟨_, _, x2⟩, ⟨nA, nC, c5⟩, un.1, un.2, ?_⟩
  · show vp_updL (s18.2.1 0) (Int32.toNatClampNeg 0) b.toInt64 (Int32.toNatClampNeg 0) = _
    rw [gx_lus, Int32.toInt_inj.mp a3]
  · show ¬ u.1.2.2 5 = 0
    have c3 : u.1.2.2 5 = 1 := c3
    rw [c3]
    decide
  · exact c6
  · exact c7
/-- compile that throws -/
def gs_ctQ (S : gm_S × gm_S × gm_S × gm_S × gm_S × gm_S × gm_S × gm_S) (s17 : gm_S) (z : Int32 × (gm_S × gm_S × gm_S × gm_S × gm_S × gm_S × gm_S × gm_S)) (z' : Int32 × gm_S) : Prop := ¬ z.1 = 0 ∧ z'.2.2.2 0 = z.1 ∧ z.2.1.2.2 5 = S.1.2.2 5 ∧ z.2.1.2.2 6 = S.1.2.2 6 ∧ z.2.1.2.2 7 = z'.2.2.2 1 ∧ z'.2.2.2 39 = s17.2.2 39 ∧ z'.2.2.2 4 = s17.2.2 4 ∧ (¬ s17.2.2 4 = -1 → gs_same (s17.2.2 4) s17 z'.2)
theorem gs_law_ct (s0 s1 s8 s9 s10 s11 s12 s18 s17 : gm_S) (hT : gs_TK s1 s17) (hI : gp_RI s17) (h2 : gm_iT (s9.2.2 11) (s9.2.2 12) (s9.2.2 13) (s9.1 2) (s9.1 3) (s9.1 4) (s9.1 5) (s9.1 10)) (h4 : gm_iN 75 (s12.2.2 3)) (h1 : gm_iW 50 (s1.2.2 1) (s1.1 0)) (hz : ¬ (gm_f_GM_compile (s0, s1, s8, s9, s10, s11, s12)).1 = 0) : gs_ctQ (s0, s1, s8, s9, s10, s11, s12, s18) s17 (gm_f_LW_compile_t (s0, s1, s8, s9, s10, s11, s12, s18)) (gm_f_MD_compile s17) := by
  obtain ⟨x1, x2⟩ := gs_TK_tx hT hI.1
  have C := gs_compileC (s0, s1, s8, s9, s10, s11, s12) x1 h1 h2 h4
  have M := gs_compileM s17 hI x2
  generalize hm : gm_f_MD_compile s17 = m at M ⊢
  obtain ⟨m1, m2, -, m3⟩ := M
  unfold gm_f_LW_compile_t
  dsimp only
  generalize hg : gm_f_GM_compile (s0, s1, s8, s9, s10, s11, s12) = g at C hz ⊢
  obtain ⟨k, b, u⟩ := g
  have hz : ¬ k = 0 := hz
  obtain ⟨c1, -, c2⟩ := C
  obtain ⟨c3, c4⟩ := c2 hz
  obtain ⟨a1, a2, -⟩ := gs_C_u c1 m1
  have A1 : k = m.2.2.2 0 := Int32.toInt_inj.mp a1
  have A2 : u.1.2.2 7 = m.2.2.2 1 := Int32.toInt_inj.mp a2
  have nz : ¬ m.2.2.2 0 = 0 := by rw [← A1]; exact hz
  obtain ⟨m4, m5, m6⟩ := m3 nz
  have k123 : k = 1 ∨ k = 2 ∨ k = 3 := by
    unfold gs_C at c1
    generalize gs_rd (gp_tn s17) (Int32.toNatClampNeg (s17.2.2 2)) = res at c1
    match res, c1 with
    | .inl j, c1 => exact Or.inl (Int32.toInt_inj.mp (show k.toInt = _ from c1.1))
    | .inr t, c1 =>
      rcases c1 with ⟨w, -⟩ | ⟨-, w, -⟩ | ⟨-, -, w, -⟩
      · exact Or.inr (Or.inl (Int32.toInt_inj.mp (show k.toInt = _ from (show k.toInt = 2 from w).trans (gx_lit 2 (by decide)).symm)))
      · exact Or.inr (Or.inr (Int32.toInt_inj.mp (show k.toInt = _ from (show k.toInt = 3 from w).trans (gx_lit 3 (by decide)).symm)))
      · exact absurd (Int32.toInt_inj.mp (show k.toInt = (0 : Int32).toInt from w)) hz
  refine gf_b3 (Q := fun z => gs_ctQ (s0, s1, s8, s9, s10, s11, s12, s18) s17 z m) (fun x => x = (k, b, u)) rfl (fun r v hv => ?_) (fun n r v hn hv => ?_)
  · injection hv with hv
    exact absurd hv.symm hz
  · injection hv with hv1 hv2
    injection hv2 with hv2 hv3
    subst hv1
    subst hv3
    refine gf_if (Q := fun z => gs_ctQ (s0, s1, s8, s9, s10, s11, s12, s18) s17 z m) (fun q => ?_) (fun q => ?_)
    · exact ⟨show ¬ (1 : Int32) = 0 by decide, show m.2.2.2 0 = 1 by rw [← A1]; exact q, c3, c4, A2, m5, m4, m6⟩
    refine gf_if (Q := fun z => gs_ctQ (s0, s1, s8, s9, s10, s11, s12, s18) s17 z m) (fun q2 => ?_) (fun q2 => ?_)
    · exact ⟨show ¬ (2 : Int32) = 0 by decide, show m.2.2.2 0 = 2 by rw [← A1]; exact q2, c3, c4, A2, m5, m4, m6⟩
    · exact ⟨show ¬ (3 : Int32) = 0 by decide, show m.2.2.2 0 = 3 by rw [← A1]; exact k123.resolve_left q |>.resolve_left q2, c3, c4, A2, m5, m4, m6⟩
