theorem gy_s_MD_findHead (x : Int32) (S : gm_S) {ty fr : Int32} (hU : gm_iU ty fr (S.1 6) (S.1 7) (S.1 8) (S.1 9) (S.1 10) (S.1 11) (S.1 12) (S.1 13)) (ht : ty.toInt ≤ 50) (hb : ∀ n, S.1 15 n = 0 ∨ S.1 15 n = 1) (hc : ∀ k : Nat, (k : Int) < ty.toInt → ∀ j : Nat, (j : Int) = 50 * fr.toInt + k → 32 ≤ (S.1 14 j).toInt ∧ (S.1 14 j).toInt ≤ 126) (hx : 160 * fr.toInt ≤ x.toInt) (hx2 : x.toInt < 160 * fr.toInt + ((S.1 9) (Int32.toNatClampNeg fr)).toInt) :
    gm_p_MD_findHead x S ∧ gp_hQ S (S.1 10) (S.1 11) (S.1 12) (fun n => gp_mz (S.1 6) (S.1 7) (S.1 8) fr (S.1 11 n)) (fun j => S.1 15 j = 1) ((S.1 14 (50 * Int32.toNatClampNeg fr + Int32.toNatClampNeg (S.1 11 (Int32.toNatClampNeg x)))).toInt) (Int32.toNatClampNeg x) (gm_f_MD_findHead x S) := by
  obtain ⟨⟨f0, f1⟩, ⟨p0, p1⟩, ⟨r0, r1⟩, hG, hN⟩ := hU
  have cx := gx_cl x (by omega)
  have cf := gx_cl fr f0
  have nd := (hG.1 (Int32.toNatClampNeg x) (by omega) (by omega)).1
  unfold gp_node at nd
  obtain ⟨k0, k1, n4, n45, n1, -⟩ := nd
  have ix : vp_in x 320 := vp_in_iff.mpr (by omega)
  obtain ⟨Q, hQ⟩ : ∃ Q : Int32 × gm_S → Prop, Q = gp_hQ S (S.1 10) (S.1 11) (S.1 12) (fun n => gp_mz (S.1 6) (S.1 7) (S.1 8) fr (S.1 11 n)) (fun j => S.1 15 j = 1) ((S.1 14 (50 * Int32.toNatClampNeg fr + Int32.toNatClampNeg (S.1 11 (Int32.toNatClampNeg x)))).toInt) (Int32.toNatClampNeg x) := ⟨_, rfl⟩
  rw [← hQ]
  unfold gm_p_MD_findHead gm_f_MD_findHead
  refine gx_in (Q := Q) ix ?_
  refine gx_if (Q := Q) (fun h => ?_) (fun h1 => ?_)
  · have k : ((S.1 10) (Int32.toNatClampNeg x)).toInt = 1 := by rw [h]; decide
    have a := n1 k
    have d := gx_dv x (by omega)
    have ed : x / 160 = fr := Int32.toInt_inj.mp (by omega)
    rw [ed]
    have m := gx_mk 50 fr 50 (gx_lit 50 (by decide))
    have s := gx_ad (50 * fr) ((S.1 11) (Int32.toNatClampNeg x))
    have e1 : (50 * fr + ((S.1 11) (Int32.toNatClampNeg x))).toInt = 50 * fr.toInt + ((S.1 11) (Int32.toNatClampNeg x)).toInt := by omega
    have c1 := gx_cl (50 * fr + ((S.1 11) (Int32.toNatClampNeg x))) (by omega)
    rw [e1] at c1
    have co := gx_cl ((S.1 11) (Int32.toNatClampNeg x)) (by omega)
    have eJ : Int32.toNatClampNeg (50 * fr + ((S.1 11) (Int32.toNatClampNeg x))) = 50 * Int32.toNatClampNeg fr + Int32.toNatClampNeg ((S.1 11) (Int32.toNatClampNeg x)) := by omega
    have ch := hc (Int32.toNatClampNeg ((S.1 11) (Int32.toNatClampNeg x))) (by omega) (50 * Int32.toNatClampNeg fr + Int32.toNatClampNeg ((S.1 11) (Int32.toNatClampNeg x))) (by omega)
    refine gx_in (Q := Q) ix (gx_in (Q := Q) (vp_in_iff.mpr (by omega)) ?_)
    rw [eJ]
    clear m s e1 c1 eJ
    generalize hv : S.1 14 (50 * Int32.toNatClampNeg fr + Int32.toNatClampNeg ((S.1 11) (Int32.toNatClampNeg x))) = v at ch hQ ⊢
    obtain ⟨j, hj, ev⟩ := nI_of (x := v) (fun h9 => by have := gx_ltr (k := 0) (by decide) h9; omega)
    have tv : v.toInt = (j : Int) := by rw [ev]; exact nI_toInt hj
    have no1 : ∀ (hd : Nat → Prop) (rw : Prop), gp_hF (S.1 10) (S.1 11) (S.1 12) (fun n => gp_mz (S.1 6) (S.1 7) (S.1 8) fr (S.1 11 n)) (fun j => S.1 15 j = 1) hd rw (Int32.toNatClampNeg x) ↔ rw := by
      intro hd rw
      unfold gp_hF
      constructor
      · rintro (⟨-, t⟩ | ⟨t, -⟩ | ⟨t, -⟩ | ⟨t, -⟩ | ⟨t, -⟩)
        · exact t
        · omega
        · omega
        · omega
        · omega
      · exact fun t => Or.inl ⟨k, t⟩
    refine gx_if (Q := Q) (fun g => gx_in (Q := Q) ix (gx_in (Q := Q) ix ⟨trivial, ?_⟩)) (fun g => gx_in (Q := Q) ix (gx_in (Q := Q) ix ⟨trivial, ?_⟩))
    · have g1 := gx_lel (k := 96) (gx_lit 96 (by decide)) g
      rw [hQ]
      refine ⟨_, _, gp_uself _ _, rfl, fun q hq => ?_, fun q hq => ?_⟩
      · rw [no1]
        exact ⟨Or.inl, fun t => t.elim id (fun t => by omega)⟩
      · rw [no1, gp_bl_or, Bool.or_eq_true, ev]
        have e5 : nI j = nI ((j - 96) + 96) := by rw [show (j - 96) + 96 = j by omega]
        rw [e5, gp_sh_hi (j - 96) (by omega) q hq, decide_eq_true_iff, ← e5]
        have tj : (nI j).toInt = (j : Int) := nI_toInt hj
        constructor
        · exact fun t => t.elim Or.inl (fun t => Or.inr (by omega))
        · exact fun t => t.elim Or.inl (fun t => Or.inr (by omega))
    · have g1 := gx_lenl (k := 96) (gx_lit 96 (by decide)) g
      rw [hQ]
      refine ⟨_, _, rfl, gp_uself _ _, fun q hq => ?_, fun q hq => ?_⟩
      · rw [no1, gp_bl_or, Bool.or_eq_true, ev]
        have e5 : nI j = nI ((j - 32) + 32) := by rw [show (j - 32) + 32 = j by omega]
        rw [e5, gp_sh_lo (j - 32) (by omega) q hq, decide_eq_true_iff, ← e5]
        have tj : (nI j).toInt = (j : Int) := nI_toInt hj
        constructor
        · exact fun t => t.elim Or.inl (fun t => Or.inr (by omega))
        · exact fun t => t.elim Or.inl (fun t => Or.inr (by omega))
      · rw [no1]
        exact ⟨Or.inl, fun t => t.elim id (fun t => by omega)⟩
  refine gx_if (Q := Q) (fun h => ⟨trivial, by rw [hQ]; exact gp_hQ0 rfl rfl (Or.inr (Or.inl (by rw [h]; decide)))⟩) (fun h2 => ?_)
  refine gx_if (Q := Q) (fun h => ?_) (fun h3 => ?_)
  · have k : ((S.1 10) (Int32.toNatClampNeg x)).toInt = 3 := by rw [h]; decide
    refine gx_ca (Q := Q) (fun z => gp_me (S.1 6) (S.1 7) (S.1 8) fr ((S.1 11) (Int32.toNatClampNeg x)) z.1) (gy_s_MD_meant x fr S f0 f1 r1 hx (by omega)) ?_
    intro r9 u9 h5
    have h5 : gp_me (S.1 6) (S.1 7) (S.1 8) fr ((S.1 11) (Int32.toNatClampNeg x)) r9 := h5
    have e := gp_mz_eq f0 h5
    have w2 : 160 * fr.toInt ≤ r9.toInt ∧ r9.toInt < 160 * fr.toInt + ((S.1 9) (Int32.toNatClampNeg fr)).toInt := by
      rcases gp_me_un hG f0 h5 with ⟨-, q⟩ | ⟨-, -, q⟩
      · exact absurd q (hN _ (by omega) (by omega) h)
      · exact q
    refine gx_ca (Q := Q) (fun z : Int32 × gm_S => z.2.2.1 17 = vp_updL (S.2.1 17) (Int32.toNatClampNeg x) (S.2.1 17 (Int32.toNatClampNeg x) ||| S.2.1 17 (Int32.toNatClampNeg r9)) ∧ z.2.2.1 18 = vp_updL (S.2.1 18) (Int32.toNatClampNeg x) (S.2.1 18 (Int32.toNatClampNeg x) ||| S.2.1 18 (Int32.toNatClampNeg r9))) (gy_s_MD_addHead x r9 S (by omega) (by omega) (by omega) (by omega)) ?_
    intro r u h6
    refine ⟨trivial, ?_⟩
    rw [hQ]
    refine gp_hQ1 (y := Int32.toNatClampNeg r9) h6.1 h6.2 (fun hd rw => ?_)
    unfold gp_hF
    constructor
    · rintro (⟨t, -⟩ | ⟨-, t⟩ | ⟨t, -⟩ | ⟨t, -⟩ | ⟨t, -⟩)
      · omega
      · have t : hd (Int32.toNatClampNeg (gp_mz (S.1 6) (S.1 7) (S.1 8) fr ((S.1 11) (Int32.toNatClampNeg x)))) := t
        rw [← e] at t
        exact t
      · omega
      · omega
      · omega
    · intro t
      refine Or.inr (Or.inl ⟨k, ?_⟩)
      show hd (Int32.toNatClampNeg (gp_mz (S.1 6) (S.1 7) (S.1 8) fr ((S.1 11) (Int32.toNatClampNeg x))))
      rw [← e]
      exact t
  refine gx_if (Q := Q) (fun h => ?_) (fun h4 => ?_)
  · have k : ((S.1 10) (Int32.toNatClampNeg x)).toInt = 4 := by rw [h]; decide
    have a := n4 (by omega)
    have b := n45 (by omega)
    have cw := gx_cl ((S.1 12) (Int32.toNatClampNeg x)) (by omega)
    refine gx_in (Q := Q) ix ?_
    refine gx_ca (Q := Q) (fun z : Int32 × gm_S => z.2.2.1 17 = vp_updL (S.2.1 17) (Int32.toNatClampNeg x) (S.2.1 17 (Int32.toNatClampNeg x) ||| S.2.1 17 (Int32.toNatClampNeg ((S.1 11) (Int32.toNatClampNeg x)))) ∧ z.2.2.1 18 = vp_updL (S.2.1 18) (Int32.toNatClampNeg x) (S.2.1 18 (Int32.toNatClampNeg x) ||| S.2.1 18 (Int32.toNatClampNeg ((S.1 11) (Int32.toNatClampNeg x))))) (gy_s_MD_addHead x ((S.1 11) (Int32.toNatClampNeg x)) S (by omega) (by omega) (by omega) (by omega)) ?_
    intro r u h5
    refine gx_in (Q := Q) ix (gx_in (Q := Q) (vp_in_iff.mpr (by omega)) ?_)
    refine gx_if (Q := Q) (fun g => ⟨trivial, ?_⟩) (fun g => gx_in (Q := Q) ix ?_)
    · rw [hQ]
      refine gp_hQ1 (y := Int32.toNatClampNeg ((S.1 11) (Int32.toNatClampNeg x))) h5.1 h5.2 (fun hd rw => ?_)
      unfold gp_hF
      constructor
      · rintro (⟨t, -⟩ | ⟨t, -⟩ | ⟨-, t | ⟨t, -⟩⟩ | ⟨t, -⟩ | ⟨t, -⟩)
        · omega
        · omega
        · exact t
        · have t : (S.1 15) (Int32.toNatClampNeg ((S.1 11) (Int32.toNatClampNeg x))) = 1 := t
          rw [g] at t
          exact absurd t (by decide)
        · omega
        · omega
      · exact fun t => Or.inr (Or.inr (Or.inl ⟨k, Or.inl t⟩))
    · refine gx_ca (Q := Q) (fun z : Int32 × gm_S => z.2.2.1 17 = vp_updL (u.2.1 17) (Int32.toNatClampNeg x) (u.2.1 17 (Int32.toNatClampNeg x) ||| u.2.1 17 (Int32.toNatClampNeg ((S.1 12) (Int32.toNatClampNeg x)))) ∧ z.2.2.1 18 = vp_updL (u.2.1 18) (Int32.toNatClampNeg x) (u.2.1 18 (Int32.toNatClampNeg x) ||| u.2.1 18 (Int32.toNatClampNeg ((S.1 12) (Int32.toNatClampNeg x))))) (gy_s_MD_addHead x ((S.1 12) (Int32.toNatClampNeg x)) _ (by omega) (by omega) (by omega) (by omega)) ?_
      intro r' u' h6
      refine ⟨trivial, ?_⟩
      rw [hQ]
      refine gp_hQ2 (y := Int32.toNatClampNeg ((S.1 11) (Int32.toNatClampNeg x))) (w := Int32.toNatClampNeg ((S.1 12) (Int32.toNatClampNeg x))) (gp_upd2 (by omega) h5.1 h6.1) (gp_upd2 (by omega) h5.2 h6.2) (fun hd rw => ?_)
      unfold gp_hF
      constructor
      · rintro (⟨t, -⟩ | ⟨t, -⟩ | ⟨-, t | ⟨-, t⟩⟩ | ⟨t, -⟩ | ⟨t, -⟩)
        · omega
        · omega
        · exact Or.inl t
        · exact Or.inr t
        · omega
        · omega
      · exact fun t => Or.inr (Or.inr (Or.inl ⟨k, t.elim Or.inl (fun t => Or.inr ⟨(gp_01 (hb _)).mp g, t⟩)⟩))
  refine gx_if (Q := Q) (fun h => ?_) (fun h5 => ?_)
  · have k : ((S.1 10) (Int32.toNatClampNeg x)).toInt = 5 := by rw [h]; decide
    have a := n4 (by omega)
    have b := n45 (by omega)
    have cw := gx_cl ((S.1 12) (Int32.toNatClampNeg x)) (by omega)
    refine gx_in (Q := Q) ix ?_
    refine gx_ca (Q := Q) (fun z : Int32 × gm_S => z.2.2.1 17 = vp_updL (S.2.1 17) (Int32.toNatClampNeg x) (S.2.1 17 (Int32.toNatClampNeg x) ||| S.2.1 17 (Int32.toNatClampNeg ((S.1 11) (Int32.toNatClampNeg x)))) ∧ z.2.2.1 18 = vp_updL (S.2.1 18) (Int32.toNatClampNeg x) (S.2.1 18 (Int32.toNatClampNeg x) ||| S.2.1 18 (Int32.toNatClampNeg ((S.1 11) (Int32.toNatClampNeg x))))) (gy_s_MD_addHead x ((S.1 11) (Int32.toNatClampNeg x)) S (by omega) (by omega) (by omega) (by omega)) ?_
    intro r u h5
    refine gx_in (Q := Q) ix ?_
    refine gx_ca (Q := Q) (fun z : Int32 × gm_S => z.2.2.1 17 = vp_updL (u.2.1 17) (Int32.toNatClampNeg x) (u.2.1 17 (Int32.toNatClampNeg x) ||| u.2.1 17 (Int32.toNatClampNeg ((S.1 12) (Int32.toNatClampNeg x)))) ∧ z.2.2.1 18 = vp_updL (u.2.1 18) (Int32.toNatClampNeg x) (u.2.1 18 (Int32.toNatClampNeg x) ||| u.2.1 18 (Int32.toNatClampNeg ((S.1 12) (Int32.toNatClampNeg x))))) (gy_s_MD_addHead x ((S.1 12) (Int32.toNatClampNeg x)) _ (by omega) (by omega) (by omega) (by omega)) ?_
    intro r' u' h6
    refine ⟨trivial, ?_⟩
    rw [hQ]
    refine gp_hQ2 (y := Int32.toNatClampNeg ((S.1 11) (Int32.toNatClampNeg x))) (w := Int32.toNatClampNeg ((S.1 12) (Int32.toNatClampNeg x))) (gp_upd2 (by omega) h5.1 h6.1) (gp_upd2 (by omega) h5.2 h6.2) (fun hd rw => ?_)
    unfold gp_hF
    constructor
    · rintro (⟨t, -⟩ | ⟨t, -⟩ | ⟨t, -⟩ | ⟨-, t⟩ | ⟨t, -⟩)
      · omega
      · omega
      · omega
      · exact t
      · omega
    · exact fun t => Or.inr (Or.inr (Or.inr (Or.inl ⟨k, t⟩)))
  refine gx_if (Q := Q) (fun h => ?_) (fun h6 => ?_)
  · have k : ((S.1 10) (Int32.toNatClampNeg x)).toInt = 6 := by rw [h]; decide
    have a := n4 (by omega)
    refine gx_in (Q := Q) ix ?_
    refine gx_ca (Q := Q) (fun z : Int32 × gm_S => z.2.2.1 17 = vp_updL (S.2.1 17) (Int32.toNatClampNeg x) (S.2.1 17 (Int32.toNatClampNeg x) ||| S.2.1 17 (Int32.toNatClampNeg ((S.1 11) (Int32.toNatClampNeg x)))) ∧ z.2.2.1 18 = vp_updL (S.2.1 18) (Int32.toNatClampNeg x) (S.2.1 18 (Int32.toNatClampNeg x) ||| S.2.1 18 (Int32.toNatClampNeg ((S.1 11) (Int32.toNatClampNeg x))))) (gy_s_MD_addHead x ((S.1 11) (Int32.toNatClampNeg x)) S (by omega) (by omega) (by omega) (by omega)) ?_
    intro r u h5
    refine ⟨trivial, ?_⟩
    rw [hQ]
    refine gp_hQ1 (y := Int32.toNatClampNeg ((S.1 11) (Int32.toNatClampNeg x))) h5.1 h5.2 (fun hd rw => ?_)
    unfold gp_hF
    constructor
    · rintro (⟨t, -⟩ | ⟨t, -⟩ | ⟨t, -⟩ | ⟨t, -⟩ | ⟨-, t⟩)
      · omega
      · omega
      · omega
      · omega
      · exact t
    · exact fun t => Or.inr (Or.inr (Or.inr (Or.inr ⟨by omega, t⟩)))
  refine gx_if (Q := Q) (fun h => ?_) (fun h7 => ?_)
  · have k : ((S.1 10) (Int32.toNatClampNeg x)).toInt = 7 := by rw [h]; decide
    have a := n4 (by omega)
    refine gx_in (Q := Q) ix ?_
    refine gx_ca (Q := Q) (fun z : Int32 × gm_S => z.2.2.1 17 = vp_updL (S.2.1 17) (Int32.toNatClampNeg x) (S.2.1 17 (Int32.toNatClampNeg x) ||| S.2.1 17 (Int32.toNatClampNeg ((S.1 11) (Int32.toNatClampNeg x)))) ∧ z.2.2.1 18 = vp_updL (S.2.1 18) (Int32.toNatClampNeg x) (S.2.1 18 (Int32.toNatClampNeg x) ||| S.2.1 18 (Int32.toNatClampNeg ((S.1 11) (Int32.toNatClampNeg x))))) (gy_s_MD_addHead x ((S.1 11) (Int32.toNatClampNeg x)) S (by omega) (by omega) (by omega) (by omega)) ?_
    intro r u h5
    refine ⟨trivial, ?_⟩
    rw [hQ]
    refine gp_hQ1 (y := Int32.toNatClampNeg ((S.1 11) (Int32.toNatClampNeg x))) h5.1 h5.2 (fun hd rw => ?_)
    unfold gp_hF
    constructor
    · rintro (⟨t, -⟩ | ⟨t, -⟩ | ⟨t, -⟩ | ⟨t, -⟩ | ⟨-, t⟩)
      · omega
      · omega
      · omega
      · omega
      · exact t
    · exact fun t => Or.inr (Or.inr (Or.inr (Or.inr ⟨by omega, t⟩)))
  refine gx_if (Q := Q) (fun h => ⟨trivial, by rw [hQ]; exact gp_hQ0 rfl rfl (Or.inr (Or.inr (Or.inl (by rw [h]; decide))))⟩) (fun h8 => ?_)
  refine gx_if (Q := Q) (fun h => ⟨trivial, by rw [hQ]; exact gp_hQ0 rfl rfl (Or.inr (Or.inr (Or.inr (by rw [h]; decide))))⟩) (fun h9 => ?_)
  refine gx_if (Q := Q) (fun h => ?_) (fun h10 => ?_)
  · have k : ((S.1 10) (Int32.toNatClampNeg x)).toInt = 10 := by rw [h]; decide
    have a := n4 (by omega)
    refine gx_in (Q := Q) ix ?_
    refine gx_ca (Q := Q) (fun z : Int32 × gm_S => z.2.2.1 17 = vp_updL (S.2.1 17) (Int32.toNatClampNeg x) (S.2.1 17 (Int32.toNatClampNeg x) ||| S.2.1 17 (Int32.toNatClampNeg ((S.1 11) (Int32.toNatClampNeg x)))) ∧ z.2.2.1 18 = vp_updL (S.2.1 18) (Int32.toNatClampNeg x) (S.2.1 18 (Int32.toNatClampNeg x) ||| S.2.1 18 (Int32.toNatClampNeg ((S.1 11) (Int32.toNatClampNeg x))))) (gy_s_MD_addHead x ((S.1 11) (Int32.toNatClampNeg x)) S (by omega) (by omega) (by omega) (by omega)) ?_
    intro r u h5
    refine ⟨trivial, ?_⟩
    rw [hQ]
    refine gp_hQ1 (y := Int32.toNatClampNeg ((S.1 11) (Int32.toNatClampNeg x))) h5.1 h5.2 (fun hd rw => ?_)
    unfold gp_hF
    constructor
    · rintro (⟨t, -⟩ | ⟨t, -⟩ | ⟨t, -⟩ | ⟨t, -⟩ | ⟨-, t⟩)
      · omega
      · omega
      · omega
      · omega
      · exact t
    · exact fun t => Or.inr (Or.inr (Or.inr (Or.inr ⟨by omega, t⟩)))
  · have q1 := gx_eqnr (k := 1) (by decide) h1
    have q2 := gx_eqnr (k := 2) (by decide) h2
    have q3 := gx_eqnr (k := 3) (by decide) h3
    have q4 := gx_eqnr (k := 4) (by decide) h4
    have q5 := gx_eqnr (k := 5) (by decide) h5
    have q6 := gx_eqnr (k := 6) (by decide) h6
    have q7 := gx_eqnr (k := 7) (by decide) h7
    have q8 := gx_eqnr (k := 8) (by decide) h8
    have q9 := gx_eqnr (k := 9) (by decide) h9
    have q10 := gx_eqnr (k := 10) (by decide) h10
    refine ⟨trivial, ?_⟩
    rw [hQ]
    exact gp_hQ0 rfl rfl (Or.inl (by omega))
