theorem gz_workOut (x y : Int32) (S : gm_S) {P fed : Nat} (hC : gp_WC S P fed) {rk : Nat → Nat} {t : Nat} (hFI : gp_FI (S.1 10) (S.1 11) (S.1 12) (gp_Mz S) (gp_So S fed) (gp_Sr S fed) (gp_Bs S) P fed (S.1 34) (S.1 35) rk t) (hx : gp_Bs S ≤ Int32.toNatClampNeg x) (hx2 : Int32.toNatClampNeg x < gp_Bs S + P) (hx3 : 0 ≤ x.toInt) (hy : 0 ≤ y.toInt) (hy2 : y.toInt ≤ fed) : gm_p_MD_workOut x y S ∧ gp_wQ S P fed rk t (Int32.toNatClampNeg x) (Int32.toNatClampNeg y) (gm_f_MD_workOut x y S) := by
  obtain ⟨Q, hQ⟩ : ∃ Q, Q = gp_wQ S P fed rk t (Int32.toNatClampNeg x) (Int32.toNatClampNeg y) := ⟨_, rfl⟩
  rw [← hQ]
  have hC' := hC
  obtain ⟨⟨b0, b1⟩, ⟨p0, p1⟩, ⟨f0, f1⟩, -, SC⟩ := hC'
  have nd := SC.1 (Int32.toNatClampNeg x) hx hx2
  have cy := gx_cl y hy
  have cx := gx_cl x hx3
  have cb := gx_cl (S.2.2 4) b0
  have hB : gp_Bs S = 160 * Int32.toNatClampNeg (S.2.2 4) := rfl
  have ix : vp_in x 320 := vp_in_iff.mpr (by omega)
  have n3 : (-3 : Int32).toInt = -3 := by decide
  have n1 : (-1 : Int32).toInt = -1 := by decide
  have z0 : (0 : Int32).toInt = 0 := by decide
  have z1 : (1 : Int32).toInt = 1 := by decide
  obtain ⟨⟨e0, e10⟩, -, -, nr, nm⟩ := nd
  have nd := SC.1 (Int32.toNatClampNeg x) hx hx2
  have pass : ∀ (r : Int32) (u : gm_S), gp_wQ S P fed rk t (Int32.toNatClampNeg x) (Int32.toNatClampNeg y) (r, u) → ((r = 0 ∨ r = 1) ∧ True) ∧ Q (r, ((va_up (va_up S.1 34 (u.1 34)) 35 (u.1 35)), S.2.1, S.2.2)) := by
    intro r u h
    rw [hQ]
    rcases h with ⟨h1, h2⟩ | h
    · exact ⟨⟨Or.inl h1, trivial⟩, Or.inl ⟨h1, h2⟩⟩
    · exact ⟨⟨Or.inr h.1, trivial⟩, Or.inr h⟩
  have j103 : ∀ (r u) (k0 : Int32), ¬ k0.toInt = -3 → (gp_cell (S.1 10) (S.1 11) (S.1 12) (gp_Mz S) (gp_So S fed) (gp_Sr S fed) (gp_Tb (gp_Bs S) (S.1 34)) (gp_Tb (gp_Bs S) (S.1 35)) (gp_okc (gp_Bs S) P fed (S.1 34) rk t) (Int32.toNatClampNeg x) (Int32.toNatClampNeg y) k0.toInt 0) → gm_p_MD_workOut_j103 x y S r u k0 y x S ∧ Q (gm_f_MD_workOut_j103 x y S r u k0 y x S) := by
    intro r u k0 hk0 hcell
    unfold gm_p_MD_workOut_j103 gm_f_MD_workOut_j103
    rw [gp_v45 S]
    refine gx_ca (Q := Q) _ (gz_set x y k0 0 S hC (rk := rk) (t := t) hx hx2 hx3 hy hy2 hk0 (by omega) (by rw [z0]; exact hcell)) ?_
    intro r4 u4 hr4
    rw [hQ]
    exact gp_wS_q hr4
  have j125 : ∀ (r u) (k0 : Int32), ¬ k0.toInt = -3 → (gp_cell (S.1 10) (S.1 11) (S.1 12) (gp_Mz S) (gp_So S fed) (gp_Sr S fed) (gp_Tb (gp_Bs S) (S.1 34)) (gp_Tb (gp_Bs S) (S.1 35)) (gp_okc (gp_Bs S) P fed (S.1 34) rk t) (Int32.toNatClampNeg x) (Int32.toNatClampNeg y) k0.toInt 0) → gm_p_MD_workOut_j125 x y S r u k0 y x S ∧ Q (gm_f_MD_workOut_j125 x y S r u k0 y x S) := by
    intro r u k0 hk0 hcell
    unfold gm_p_MD_workOut_j125 gm_f_MD_workOut_j125
    rw [gp_v45 S]
    refine gx_ca (Q := Q) _ (gz_set x y k0 0 S hC (rk := rk) (t := t) hx hx2 hx3 hy hy2 hk0 (by omega) (by rw [z0]; exact hcell)) ?_
    intro r4 u4 hr4
    rw [hQ]
    exact gp_wS_q hr4
  unfold gm_p_MD_workOut gm_f_MD_workOut
  refine gx_in (Q := Q) ix (gx_in (Q := Q) ix ?_)
  refine gx_if (Q := Q) (fun q => ?_) (fun q => ?_)
  · have kk := gx_eqr (k := 0) z0 q
    refine gx_ca (Q := Q) _ (gz_set x y 0 0 S hC (rk := rk) (t := t) hx hx2 hx3 hy hy2 (by omega) (by omega) ⟨fun _ => ⟨z0, z0⟩, fun k => by omega, fun k => by omega, fun k => by omega, fun k => by omega, fun k => by omega, fun k => by omega, fun k => by omega, fun k => by omega, fun k => by omega, fun k => by omega⟩) ?_
    intro r4 u4 hr4
    rw [hQ]
    exact gp_wS_q hr4
  have q0 := gx_eqnr (k := 0) z0 q
  refine gx_if (Q := Q) (fun q => ?_) (fun q => ?_)
  · have kk := gx_eqr (k := 1) z1 q
    have nr := nr kk
    have cell : ∀ v, (gp_Sr S fed (Int32.toNatClampNeg x) (Int32.toNatClampNeg y) ∧ v = (S.1 12 (Int32.toNatClampNeg x)).toInt) ∨ (¬ gp_Sr S fed (Int32.toNatClampNeg x) (Int32.toNatClampNeg y) ∧ v = -1) → gp_cell (S.1 10) (S.1 11) (S.1 12) (gp_Mz S) (gp_So S fed) (gp_Sr S fed) (gp_Tb (gp_Bs S) (S.1 34)) (gp_Tb (gp_Bs S) (S.1 35)) (gp_okc (gp_Bs S) P fed (S.1 34) rk t) (Int32.toNatClampNeg x) (Int32.toNatClampNeg y) v 0 := fun v h => ⟨fun k => by omega, fun _ => ⟨h, rfl⟩, fun k => by omega, fun k => by omega, fun k => by omega, fun k => by omega, fun k => by omega, fun k => by omega, fun k => by omega, fun k => by omega, fun k => by omega⟩
    refine gx_ca (Q := Q) _ (gz_isRow x y S (fed := fed) b0 b1 (by omega) (by omega) f0 f1 hy hy2 nr.1 nr.2.2 nr.2.1) ?_
    intro r u hr
    refine gx_if (Q := Q) (fun w => ?_) (fun w => gx_in (Q := Q) ix ?_)
    · refine j103 r u (-1) (by omega) (cell _ (Or.inr ⟨?_, n1⟩))
      rcases hr with ⟨-, hr⟩ | ⟨hr, -⟩
      · exact hr
      · have hr : r = 1 := hr
        rw [hr] at w; exact absurd w (by decide)
    · refine j103 r u _ (by omega) (cell _ (Or.inl ⟨?_, rfl⟩))
      rcases hr with ⟨hr, -⟩ | ⟨-, hr⟩
      · exact absurd hr w
      · exact hr
  have q1 := gx_eqnr (k := 1) z1 q
  refine gx_if (Q := Q) (fun q => ?_) (fun q => ?_)
  · have kk := gx_eqr (k := 2) (gx_lit 2 (by decide)) q
    have cell : ∀ v, (gp_So S fed (Int32.toNatClampNeg x) (Int32.toNatClampNeg y) ∧ v = -1) ∨ (¬ gp_So S fed (Int32.toNatClampNeg x) (Int32.toNatClampNeg y) ∧ v = 1) → gp_cell (S.1 10) (S.1 11) (S.1 12) (gp_Mz S) (gp_So S fed) (gp_Sr S fed) (gp_Tb (gp_Bs S) (S.1 34)) (gp_Tb (gp_Bs S) (S.1 35)) (gp_okc (gp_Bs S) P fed (S.1 34) rk t) (Int32.toNatClampNeg x) (Int32.toNatClampNeg y) v 0 := fun v h => ⟨fun k => by omega, fun k => by omega, fun _ => ⟨h, rfl⟩, fun k => by omega, fun k => by omega, fun k => by omega, fun k => by omega, fun k => by omega, fun k => by omega, fun k => by omega, fun k => by omega⟩
    refine gx_ca (Q := Q) _ (gz_isOut x y S (fed := fed) (by omega) (by omega) f0 f1 hy hy2) ?_
    intro r u hr
    refine gx_if (Q := Q) (fun w => ?_) (fun w => ?_)
    · refine j125 r u 1 (by omega) (cell _ (Or.inr ⟨?_, z1⟩))
      rcases hr with ⟨-, hr⟩ | ⟨hr, -⟩
      · exact hr
      · have hr : r = 1 := hr
        rw [hr] at w; exact absurd w (by decide)
    · refine j125 r u (-1) (by omega) (cell _ (Or.inl ⟨?_, n1⟩))
      rcases hr with ⟨hr, -⟩ | ⟨-, hr⟩
      · exact absurd hr w
      · exact hr
  have q2 := gx_eqnr (k := 2) (gx_lit 2 (by decide)) q
  refine gx_if (Q := Q) (fun q => ?_) (fun q => ?_)
  · have kk := gx_eqr (k := 3) (gx_lit 3 (by decide)) q
    obtain ⟨m1, m2, m3⟩ := nm kk
    obtain ⟨ty, hU⟩ := hC.2.2.2.1
    have hU' := hU
    obtain ⟨-, -, ⟨r0, r1⟩, -, -⟩ := hU'
    refine gx_ca (Q := Q) (fun z : Int32 × gm_S => gp_me (S.1 6) (S.1 7) (S.1 8) (S.2.2 4) (S.1 11 (Int32.toNatClampNeg x)) z.1) (gy_s_MD_meant x (S.2.2 4) S b0 b1 r1 (by omega) (by omega)) ?_
    intro r u hr
    have hr : gp_me (S.1 6) (S.1 7) (S.1 8) (S.2.2 4) (S.1 11 (Int32.toNatClampNeg x)) r := hr
    have er : r = gp_Mz S (Int32.toNatClampNeg x) := gp_mz_eq b0 hr
    rw [er]
    refine gx_ca (Q := Q) _ (gz_workLike (gp_Mz S (Int32.toNatClampNeg x)) x y S hC hFI hx hx2 hx3 hy hy2 m1 m2 (by omega) (Or.inl ⟨kk, rfl, rfl⟩) (fun ok h => ⟨fun k => by omega, fun k => by omega, fun k => by omega, fun _ => ⟨h, rfl, rfl⟩, fun k => by omega, fun k => by omega, fun k => by omega, fun k => by omega, fun k => by omega, fun k => by omega, fun k => by omega⟩)) ?_
    intro r2 u2 hr2
    exact pass r2 u2 hr2
  have q3 := gx_eqnr (k := 3) (gx_lit 3 (by decide)) q
  refine gx_if (Q := Q) (fun q => ?_) (fun q => ?_)
  · have kk := gx_eqr (k := 4) (gx_lit 4 (by decide)) q
    refine gx_ca (Q := Q) _ (gz_workPair x y S hC hFI hx hx2 hx3 hy hy2 kk) ?_
    intro r u hr
    exact pass r u hr
  have q4 := gx_eqnr (k := 4) (gx_lit 4 (by decide)) q
  refine gx_if (Q := Q) (fun q => ?_) (fun q => ?_)
  · have kk := gx_eqr (k := 5) (gx_lit 5 (by decide)) q
    refine gx_ca (Q := Q) _ (gz_workChoice x y S hC hFI hx hx2 hx3 hy hy2 kk) ?_
    intro r u hr
    exact pass r u hr
  have q5 := gx_eqnr (k := 5) (gx_lit 5 (by decide)) q
  refine gx_if (Q := Q) (fun q => ?_) (fun q => ?_)
  · have kk := gx_eqr (k := 6) (gx_lit 6 (by decide)) q
    refine gx_ca (Q := Q) _ (gz_workLoop x y S hC hFI hx hx2 hx3 hy hy2 (Or.inl kk)) ?_
    intro r u hr
    exact pass r u hr
  have q6 := gx_eqnr (k := 6) (gx_lit 6 (by decide)) q
  refine gx_if (Q := Q) (fun q => ?_) (fun q => ?_)
  · have kk := gx_eqr (k := 7) (gx_lit 7 (by decide)) q
    refine gx_ca (Q := Q) _ (gz_workLoop x y S hC hFI hx hx2 hx3 hy hy2 (Or.inr kk)) ?_
    intro r u hr
    exact pass r u hr
  have q7 := gx_eqnr (k := 7) (gx_lit 7 (by decide)) q
  have j226 : ∀ (r : Int32) (u : gm_S) (r2 : Int32) (u2 : gm_S) (k0 : Int32), gp_okc (gp_Bs S) P fed (S.1 34) rk t (Int32.toNatClampNeg (S.1 11 (Int32.toNatClampNeg x))) (Int32.toNatClampNeg y) → 4 ≤ (S.1 10 (Int32.toNatClampNeg x)).toInt → ¬ k0.toInt = -3 → (∀ w, w = 1 + gp_Tb (gp_Bs S) (S.1 35) (Int32.toNatClampNeg (S.1 11 (Int32.toNatClampNeg x))) (Int32.toNatClampNeg y) → gp_cell (S.1 10) (S.1 11) (S.1 12) (gp_Mz S) (gp_So S fed) (gp_Sr S fed) (gp_Tb (gp_Bs S) (S.1 34)) (gp_Tb (gp_Bs S) (S.1 35)) (gp_okc (gp_Bs S) P fed (S.1 34) rk t) (Int32.toNatClampNeg x) (Int32.toNatClampNeg y) k0.toInt w) → 0 ≤ gp_Tb (gp_Bs S) (S.1 35) (Int32.toNatClampNeg (S.1 11 (Int32.toNatClampNeg x))) (Int32.toNatClampNeg y) → gp_Tb (gp_Bs S) (S.1 35) (Int32.toNatClampNeg (S.1 11 (Int32.toNatClampNeg x))) (Int32.toNatClampNeg y) ≤ 1001 → gm_p_MD_workOut_j226 x y S r u r2 u2 k0 y x S ∧ Q (gm_f_MD_workOut_j226 x y S r u r2 u2 k0 y x S) := by
    intro r u r2 u2 k0 ok k4 hk0 hcell c0 c1
    have a3 := (nd.2.1 k4).2.2
    unfold gm_p_MD_workOut_j226 gm_f_MD_workOut_j226
    rw [gp_v45 S]
    refine gx_ca (Q := Q) _ (gz_costOf _ y S hC ok.1 ok.2.1 (by omega) hy hy2) ?_
    intro r3 u3 h3
    have h3 : r3.toInt = gp_Tb (gp_Bs S) (S.1 35) (Int32.toNatClampNeg (S.1 11 (Int32.toNatClampNeg x))) (Int32.toNatClampNeg y) := h3
    have s := gx_ad 1 r3
    have s1 : (1 + r3).toInt = 1 + gp_Tb (gp_Bs S) (S.1 35) (Int32.toNatClampNeg (S.1 11 (Int32.toNatClampNeg x))) (Int32.toNatClampNeg y) := by omega
    refine gx_ca (Q := Q) _ (gz_set x y k0 (1 + r3) S hC (rk := rk) (t := t) hx hx2 hx3 hy hy2 hk0 (by omega) (hcell _ s1)) ?_
    intro r4 u4 hr4
    rw [hQ]
    exact gp_wS_q hr4
  refine gx_if (Q := Q) (fun q => ?_) (fun q => ?_)
  · have kk := gx_eqr (k := 8) (gx_lit 8 (by decide)) q
    obtain ⟨a1, a2, a3⟩ := nd.2.1 (by omega)
    have cell : ∀ v w, (gp_okc (gp_Bs S) P fed (S.1 34) rk t (Int32.toNatClampNeg (S.1 11 (Int32.toNatClampNeg x))) (Int32.toNatClampNeg y) ∧ w = 1 + gp_Tb (gp_Bs S) (S.1 35) (Int32.toNatClampNeg (S.1 11 (Int32.toNatClampNeg x))) (Int32.toNatClampNeg y) ∧ ((gp_Tb (gp_Bs S) (S.1 34) (Int32.toNatClampNeg (S.1 11 (Int32.toNatClampNeg x))) (Int32.toNatClampNeg y) = -1 ∧ v = -1) ∨ (¬ gp_Tb (gp_Bs S) (S.1 34) (Int32.toNatClampNeg (S.1 11 (Int32.toNatClampNeg x))) (Int32.toNatClampNeg y) = -1 ∧ v = 0))) → gp_cell (S.1 10) (S.1 11) (S.1 12) (gp_Mz S) (gp_So S fed) (gp_Sr S fed) (gp_Tb (gp_Bs S) (S.1 34)) (gp_Tb (gp_Bs S) (S.1 35)) (gp_okc (gp_Bs S) P fed (S.1 34) rk t) (Int32.toNatClampNeg x) (Int32.toNatClampNeg y) v w := fun v w h => ⟨fun k => by omega, fun k => by omega, fun k => by omega, fun k => by omega, fun k => by omega, fun k => by omega, fun k => by omega, fun k => by omega, fun _ => h, fun k => by omega, fun k => by omega⟩
    have tk := gz_taken (S.1 11 (Int32.toNatClampNeg x)) y S hC a1 (by omega) (by omega) hy hy2
    refine gx_ca (Q := Q) _ tk ?_
    intro r u hr
    have hr : r.toInt = gp_Tb (gp_Bs S) (S.1 34) (Int32.toNatClampNeg (S.1 11 (Int32.toNatClampNeg x))) (Int32.toNatClampNeg y) := hr
    refine gx_if (Q := Q) (fun q => ⟨trivial, by rw [hQ]; exact Or.inl ⟨rfl, rfl, rfl, _, _, Or.inr (Or.inl ⟨by omega, rfl, rfl⟩), by omega, by have := gx_eq q; omega⟩⟩) (fun q => ?_)
    have q1 := gx_eqn q
    obtain ⟨ok, v, c0, c1⟩ := gp_FI_k hC hFI a1 (show (Int32.toNatClampNeg (S.1 11 (Int32.toNatClampNeg x))) < gp_Bs S + P by omega) (show Int32.toNatClampNeg y ≤ fed by omega) (by omega)
    refine gx_ca (Q := Q) _ tk ?_
    intro r2 u2 hr2
    have hr2 : r2.toInt = gp_Tb (gp_Bs S) (S.1 34) (Int32.toNatClampNeg (S.1 11 (Int32.toNatClampNeg x))) (Int32.toNatClampNeg y) := hr2
    refine gx_if (Q := Q) (fun w => gx_in (Q := Q) ix ?_) (fun w => gx_in (Q := Q) ix ?_)
    · have w1 := gx_eqr (k := -1) n1 w
      refine gx_if (Q := Q) (fun e => ?_) (fun e => ?_)
      · have e1 := gx_eqr (k := 9) (gx_lit 9 (by decide)) e
        exfalso; omega
      · have e1 := gx_eqnr (k := 9) (gx_lit 9 (by decide)) e
        exact j226 r u r2 u2 (-1) ok (by omega) (by omega) (fun w hw => cell _ _ ⟨ok, hw, Or.inl ⟨by omega, n1⟩⟩) c0 c1
    · have w1 := gx_eqnr (k := -1) n1 w
      refine gx_if (Q := Q) (fun e => ?_) (fun e => ?_)
      · have e1 := gx_eqr (k := 9) (gx_lit 9 (by decide)) e
        exfalso; omega
      · have e1 := gx_eqnr (k := 9) (gx_lit 9 (by decide)) e
        exact j226 r u r2 u2 0 ok (by omega) (by omega) (fun w hw => cell _ _ ⟨ok, hw, Or.inr ⟨by omega, z0⟩⟩) c0 c1
  have q8 := gx_eqnr (k := 8) (gx_lit 8 (by decide)) q
  refine gx_if (Q := Q) (fun q => ?_) (fun q => ?_)
  · have kk := gx_eqr (k := 9) (gx_lit 9 (by decide)) q
    obtain ⟨a1, a2, a3⟩ := nd.2.1 (by omega)
    have cell : ∀ v w, (gp_okc (gp_Bs S) P fed (S.1 34) rk t (Int32.toNatClampNeg (S.1 11 (Int32.toNatClampNeg x))) (Int32.toNatClampNeg y) ∧ w = 1 + gp_Tb (gp_Bs S) (S.1 35) (Int32.toNatClampNeg (S.1 11 (Int32.toNatClampNeg x))) (Int32.toNatClampNeg y) ∧ ((gp_Tb (gp_Bs S) (S.1 34) (Int32.toNatClampNeg (S.1 11 (Int32.toNatClampNeg x))) (Int32.toNatClampNeg y) = -1 ∧ v = 0) ∨ (¬ gp_Tb (gp_Bs S) (S.1 34) (Int32.toNatClampNeg (S.1 11 (Int32.toNatClampNeg x))) (Int32.toNatClampNeg y) = -1 ∧ v = -1))) → gp_cell (S.1 10) (S.1 11) (S.1 12) (gp_Mz S) (gp_So S fed) (gp_Sr S fed) (gp_Tb (gp_Bs S) (S.1 34)) (gp_Tb (gp_Bs S) (S.1 35)) (gp_okc (gp_Bs S) P fed (S.1 34) rk t) (Int32.toNatClampNeg x) (Int32.toNatClampNeg y) v w := fun v w h => ⟨fun k => by omega, fun k => by omega, fun k => by omega, fun k => by omega, fun k => by omega, fun k => by omega, fun k => by omega, fun k => by omega, fun k => by omega, fun _ => h, fun k => by omega⟩
    have tk := gz_taken (S.1 11 (Int32.toNatClampNeg x)) y S hC a1 (by omega) (by omega) hy hy2
    refine gx_ca (Q := Q) _ tk ?_
    intro r u hr
    have hr : r.toInt = gp_Tb (gp_Bs S) (S.1 34) (Int32.toNatClampNeg (S.1 11 (Int32.toNatClampNeg x))) (Int32.toNatClampNeg y) := hr
    refine gx_if (Q := Q) (fun q => ⟨trivial, by rw [hQ]; exact Or.inl ⟨rfl, rfl, rfl, _, _, Or.inr (Or.inl ⟨by omega, rfl, rfl⟩), by omega, by have := gx_eq q; omega⟩⟩) (fun q => ?_)
    have q1 := gx_eqn q
    obtain ⟨ok, v, c0, c1⟩ := gp_FI_k hC hFI a1 (show (Int32.toNatClampNeg (S.1 11 (Int32.toNatClampNeg x))) < gp_Bs S + P by omega) (show Int32.toNatClampNeg y ≤ fed by omega) (by omega)
    refine gx_ca (Q := Q) _ tk ?_
    intro r2 u2 hr2
    have hr2 : r2.toInt = gp_Tb (gp_Bs S) (S.1 34) (Int32.toNatClampNeg (S.1 11 (Int32.toNatClampNeg x))) (Int32.toNatClampNeg y) := hr2
    refine gx_if (Q := Q) (fun w => gx_in (Q := Q) ix ?_) (fun w => gx_in (Q := Q) ix ?_)
    · have w1 := gx_eqr (k := -1) n1 w
      refine gx_if (Q := Q) (fun e => ?_) (fun e => ?_)
      · have e1 := gx_eqr (k := 9) (gx_lit 9 (by decide)) e
        exact j226 r u r2 u2 0 ok (by omega) (by omega) (fun w hw => cell _ _ ⟨ok, hw, Or.inl ⟨by omega, z0⟩⟩) c0 c1
      · have e1 := gx_eqnr (k := 9) (gx_lit 9 (by decide)) e
        exfalso; omega
    · have w1 := gx_eqnr (k := -1) n1 w
      refine gx_if (Q := Q) (fun e => ?_) (fun e => ?_)
      · have e1 := gx_eqr (k := 9) (gx_lit 9 (by decide)) e
        exact j226 r u r2 u2 (-1) ok (by omega) (by omega) (fun w hw => cell _ _ ⟨ok, hw, Or.inr ⟨by omega, n1⟩⟩) c0 c1
      · have e1 := gx_eqnr (k := 9) (gx_lit 9 (by decide)) e
        exfalso; omega
  have q9 := gx_eqnr (k := 9) (gx_lit 9 (by decide)) q
  refine gx_if (Q := Q) (fun q => ?_) (fun q => ?_)
  · have kk := gx_eqr (k := 10) (gx_lit 10 (by decide)) q
    obtain ⟨a1, a2, a3⟩ := nd.2.1 (by omega)
    refine gx_ca (Q := Q) _ (gz_workLike (S.1 11 (Int32.toNatClampNeg x)) x y S hC hFI hx hx2 hx3 hy hy2 a1 (by omega) (by omega) (Or.inr (Or.inl ⟨by omega, rfl, rfl⟩)) (fun ok h => ⟨fun k => by omega, fun k => by omega, fun k => by omega, fun k => by omega, fun k => by omega, fun k => by omega, fun k => by omega, fun k => by omega, fun k => by omega, fun k => by omega, fun _ => ⟨h, rfl, rfl⟩⟩)) ?_
    intro r2 u2 hr2
    exact pass r2 u2 hr2
  have qa := gx_eqnr (k := 10) (gx_lit 10 (by decide)) q
  exfalso
  omega
