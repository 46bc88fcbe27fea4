theorem gz_workChoice (x y : Int32) (S : gm_S) {P fed : Nat} (hC : gp_WC S P fed) {rk : Nat → Nat} {t : Nat} (hFI : gp_FI (S.1 10) (S.1 11) (S.1 12) (gp_Mz S) (gp_So S fed) (gp_Sr S fed) (gp_Bs S) P fed (S.1 34) (S.1 35) rk t) (hx : gp_Bs S ≤ Int32.toNatClampNeg x) (hx2 : Int32.toNatClampNeg x < gp_Bs S + P) (hx3 : 0 ≤ x.toInt) (hy : 0 ≤ y.toInt) (hy2 : y.toInt ≤ fed) (k5 : (S.1 10 (Int32.toNatClampNeg x)).toInt = 5) : gm_p_MD_workChoice x y S ∧ gp_wQ S P fed rk t (Int32.toNatClampNeg x) (Int32.toNatClampNeg y) (gm_f_MD_workChoice x y S) := by
  obtain ⟨Q, hQ⟩ : ∃ Q, Q = gp_wQ S P fed rk t (Int32.toNatClampNeg x) (Int32.toNatClampNeg y) := ⟨_, rfl⟩
  rw [← hQ]
  have hC' := hC
  obtain ⟨⟨b0, b1⟩, ⟨p0, p1⟩, ⟨f0, f1⟩, -, SC⟩ := hC'
  have nd := SC.1 (Int32.toNatClampNeg x) hx hx2
  have cy := gx_cl y hy
  have cx := gx_cl x hx3
  have cb := gx_cl (S.2.2 4) b0
  have hB : gp_Bs S = 160 * Int32.toNatClampNeg (S.2.2 4) := rfl
  have ix : vp_in x 320 := vp_in_iff.mpr (by omega)
  have n3 : (-3 : Int32).toInt = -3 := by decide
  have n1 : (-1 : Int32).toInt = -1 := by decide
  have z0 : (0 : Int32).toInt = 0 := by decide
  have z1 : (1 : Int32).toInt = 1 := by decide
  obtain ⟨a1, a2, a3⟩ := nd.2.1 (by omega)
  obtain ⟨t1, t2, t3⟩ := nd.2.2.1 (Or.inr k5)
  have cell : ∀ v w, ((¬ gp_So S fed (Int32.toNatClampNeg (S.1 11 (Int32.toNatClampNeg x))) (Int32.toNatClampNeg y) ∧ gp_okc (gp_Bs S) P fed (S.1 34) rk t (Int32.toNatClampNeg (S.1 11 (Int32.toNatClampNeg x))) (Int32.toNatClampNeg y) ∧ ¬ gp_Tb (gp_Bs S) (S.1 34) (Int32.toNatClampNeg (S.1 11 (Int32.toNatClampNeg x))) (Int32.toNatClampNeg y) = -1 ∧ v = gp_Tb (gp_Bs S) (S.1 34) (Int32.toNatClampNeg (S.1 11 (Int32.toNatClampNeg x))) (Int32.toNatClampNeg y) ∧ w = 1 + gp_Tb (gp_Bs S) (S.1 35) (Int32.toNatClampNeg (S.1 11 (Int32.toNatClampNeg x))) (Int32.toNatClampNeg y)) ∨ (¬ gp_So S fed (Int32.toNatClampNeg (S.1 11 (Int32.toNatClampNeg x))) (Int32.toNatClampNeg y) ∧ gp_okc (gp_Bs S) P fed (S.1 34) rk t (Int32.toNatClampNeg (S.1 11 (Int32.toNatClampNeg x))) (Int32.toNatClampNeg y) ∧ gp_Tb (gp_Bs S) (S.1 34) (Int32.toNatClampNeg (S.1 11 (Int32.toNatClampNeg x))) (Int32.toNatClampNeg y) = -1 ∧ gp_okc (gp_Bs S) P fed (S.1 34) rk t (Int32.toNatClampNeg (S.1 12 (Int32.toNatClampNeg x))) (Int32.toNatClampNeg y) ∧ v = gp_Tb (gp_Bs S) (S.1 34) (Int32.toNatClampNeg (S.1 12 (Int32.toNatClampNeg x))) (Int32.toNatClampNeg y) ∧ w = 1 + gp_Tb (gp_Bs S) (S.1 35) (Int32.toNatClampNeg (S.1 11 (Int32.toNatClampNeg x))) (Int32.toNatClampNeg y) + gp_Tb (gp_Bs S) (S.1 35) (Int32.toNatClampNeg (S.1 12 (Int32.toNatClampNeg x))) (Int32.toNatClampNeg y)) ∨ (gp_So S fed (Int32.toNatClampNeg (S.1 11 (Int32.toNatClampNeg x))) (Int32.toNatClampNeg y) ∧ gp_okc (gp_Bs S) P fed (S.1 34) rk t (Int32.toNatClampNeg (S.1 12 (Int32.toNatClampNeg x))) (Int32.toNatClampNeg y) ∧ v = gp_Tb (gp_Bs S) (S.1 34) (Int32.toNatClampNeg (S.1 12 (Int32.toNatClampNeg x))) (Int32.toNatClampNeg y) ∧ w = gp_Tb (gp_Bs S) (S.1 35) (Int32.toNatClampNeg (S.1 12 (Int32.toNatClampNeg x))) (Int32.toNatClampNeg y))) → gp_cell (S.1 10) (S.1 11) (S.1 12) (gp_Mz S) (gp_So S fed) (gp_Sr S fed) (gp_Tb (gp_Bs S) (S.1 34)) (gp_Tb (gp_Bs S) (S.1 35)) (gp_okc (gp_Bs S) P fed (S.1 34) rk t) (Int32.toNatClampNeg x) (Int32.toNatClampNeg y) v w := fun v w h => ⟨fun k => by omega, fun k => by omega, fun k => by omega, fun k => by omega, fun k => by omega, fun _ => h, fun k => by omega, fun k => by omega, fun k => by omega, fun k => by omega, fun k => by omega⟩
  have j68 : ∀ (r10 : Int32) (u10 : gm_S) (c : Int32) (ci : Int), c.toInt = ci → 0 ≤ ci → ci ≤ 1002 → (∀ w, gp_okc (gp_Bs S) P fed (S.1 34) rk t (Int32.toNatClampNeg (S.1 12 (Int32.toNatClampNeg x))) (Int32.toNatClampNeg y) → w = ci + gp_Tb (gp_Bs S) (S.1 35) (Int32.toNatClampNeg (S.1 12 (Int32.toNatClampNeg x))) (Int32.toNatClampNeg y) → gp_cell (S.1 10) (S.1 11) (S.1 12) (gp_Mz S) (gp_So S fed) (gp_Sr S fed) (gp_Tb (gp_Bs S) (S.1 34)) (gp_Tb (gp_Bs S) (S.1 35)) (gp_okc (gp_Bs S) P fed (S.1 34) rk t) (Int32.toNatClampNeg x) (Int32.toNatClampNeg y) (gp_Tb (gp_Bs S) (S.1 34) (Int32.toNatClampNeg (S.1 12 (Int32.toNatClampNeg x))) (Int32.toNatClampNeg y)) w) → gm_p_MD_workChoice_j68 x y S r10 u10 c S ∧ Q (gm_f_MD_workChoice_j68 x y S r10 u10 c S) := by
    intro r10 u10 c ci hc hc0 hc1 hcell
    unfold gm_p_MD_workChoice_j68 gm_f_MD_workChoice_j68
    rw [gp_v45 S]
    refine gx_in (Q := Q) ix ?_
    refine gx_ca (Q := Q) _ (gz_taken _ y S hC t1 (by omega) (by omega) hy hy2) ?_
    intro r u hr
    have hr : r.toInt = gp_Tb (gp_Bs S) (S.1 34) (Int32.toNatClampNeg (S.1 12 (Int32.toNatClampNeg x))) (Int32.toNatClampNeg y) := hr
    refine gx_if (Q := Q) (fun q => ⟨trivial, by rw [hQ]; exact Or.inl ⟨rfl, rfl, rfl, _, _, Or.inr (Or.inr (Or.inr (Or.inl ⟨k5, rfl, rfl⟩))), by omega, by have := gx_eq q; omega⟩⟩) (fun q => ?_)
    have q1 := gx_eqn q
    obtain ⟨ok, v, c0, c1⟩ := gp_FI_k hC hFI t1 (show (Int32.toNatClampNeg (S.1 12 (Int32.toNatClampNeg x))) < gp_Bs S + P by omega) (show Int32.toNatClampNeg y ≤ fed by omega) (by omega)
    refine gx_in (Q := Q) ix ?_
    refine gx_ca (Q := Q) _ (gz_costOf _ y S hC t1 (by omega) (by omega) hy hy2) ?_
    intro r2 u2 hr2
    have hr2 : r2.toInt = gp_Tb (gp_Bs S) (S.1 35) (Int32.toNatClampNeg (S.1 12 (Int32.toNatClampNeg x))) (Int32.toNatClampNeg y) := hr2
    have s := gx_ad c r2
    have s1 : (c + r2).toInt = ci + gp_Tb (gp_Bs S) (S.1 35) (Int32.toNatClampNeg (S.1 12 (Int32.toNatClampNeg x))) (Int32.toNatClampNeg y) := by omega
    refine gx_ca (Q := Q) _ (gz_set x y r (c + r2) S hC (rk := rk) (t := t) hx hx2 hx3 hy hy2 (by omega) (by omega) (by rw [hr]; exact hcell _ ok s1)) ?_
    intro r4 u4 hr4
    rw [hQ]
    exact gp_wS_b hr4
  unfold gm_p_MD_workChoice gm_f_MD_workChoice
  refine gx_in (Q := Q) ix ?_
  refine gx_ca (Q := Q) _ (gz_isOut (S.1 11 (Int32.toNatClampNeg x)) y S (fed := fed) (by omega) (by omega) f0 f1 hy hy2) ?_
  intro r u hr
  refine gx_if (Q := Q) (fun q => ?_) (fun q => ?_)
  · have no : ¬ gp_So S fed (Int32.toNatClampNeg (S.1 11 (Int32.toNatClampNeg x))) (Int32.toNatClampNeg y) := by
      rcases hr with ⟨-, hr⟩ | ⟨hr, -⟩
      · exact hr
      · have hr : r = 1 := hr
        rw [hr] at q; exact absurd q (by decide)
    refine gx_in (Q := Q) ix ?_
    refine gx_ca (Q := Q) _ (gz_taken _ y S hC a1 (by omega) (by omega) hy hy2) ?_
    intro r1 u1 hr1
    have hr1 : r1.toInt = gp_Tb (gp_Bs S) (S.1 34) (Int32.toNatClampNeg (S.1 11 (Int32.toNatClampNeg x))) (Int32.toNatClampNeg y) := hr1
    refine gx_if (Q := Q) (fun q => ⟨trivial, by rw [hQ]; exact Or.inl ⟨rfl, rfl, rfl, _, _, Or.inr (Or.inl ⟨by omega, rfl, rfl⟩), by omega, by have := gx_eq q; omega⟩⟩) (fun q => ?_)
    have q1 := gx_eqn q
    obtain ⟨ok, v, c0, c1⟩ := gp_FI_k hC hFI a1 (show (Int32.toNatClampNeg (S.1 11 (Int32.toNatClampNeg x))) < gp_Bs S + P by omega) (show Int32.toNatClampNeg y ≤ fed by omega) (by omega)
    refine gx_in (Q := Q) ix ?_
    refine gx_ca (Q := Q) _ (gz_costOf _ y S hC a1 (by omega) (by omega) hy hy2) ?_
    intro r2 u2 hr2
    have hr2 : r2.toInt = gp_Tb (gp_Bs S) (S.1 35) (Int32.toNatClampNeg (S.1 11 (Int32.toNatClampNeg x))) (Int32.toNatClampNeg y) := hr2
    have s := gx_ad 1 r2
    have s1 : (1 + r2).toInt = 1 + gp_Tb (gp_Bs S) (S.1 35) (Int32.toNatClampNeg (S.1 11 (Int32.toNatClampNeg x))) (Int32.toNatClampNeg y) := by omega
    refine gx_if (Q := Q) (fun w => ?_) (fun w => ?_)
    · have w1 := gx_eqr (k := -1) n1 w
      exact j68 r u (1 + r2) _ s1 (by omega) (by omega) (fun w' ok' hw => cell _ _ (Or.inr (Or.inl ⟨no, ok, by omega, ok', rfl, hw⟩)))
    · have w1 := gx_eqnr (k := -1) n1 w
      refine gx_ca (Q := Q) _ (gz_set x y r1 (1 + r2) S hC (rk := rk) (t := t) hx hx2 hx3 hy hy2 (by omega) (by omega) (cell _ _ (Or.inl ⟨no, ok, by omega, hr1, s1⟩))) ?_
      intro r4 u4 hr4
      rw [hQ]
      exact gp_wS_q hr4
  · have yes : gp_So S fed (Int32.toNatClampNeg (S.1 11 (Int32.toNatClampNeg x))) (Int32.toNatClampNeg y) := by
      rcases hr with ⟨hr, -⟩ | ⟨-, hr⟩
      · exact absurd hr q
      · exact hr
    exact j68 r u 0 0 z0 (by omega) (by omega) (fun w' ok' hw => cell _ _ (Or.inr (Or.inr ⟨yes, ok', rfl, by omega⟩)))
theorem gz_workLoop (x y : Int32) (S : gm_S) {P fed : Nat} (hC : gp_WC S P fed) {rk : Nat → Nat} {t : Nat} (hFI : gp_FI (S.1 10) (S.1 11) (S.1 12) (gp_Mz S) (gp_So S fed) (gp_Sr S fed) (gp_Bs S) P fed (S.1 34) (S.1 35) rk t) (hx : gp_Bs S ≤ Int32.toNatClampNeg x) (hx2 : Int32.toNatClampNeg x < gp_Bs S + P) (hx3 : 0 ≤ x.toInt) (hy : 0 ≤ y.toInt) (hy2 : y.toInt ≤ fed) (k67 : (S.1 10 (Int32.toNatClampNeg x)).toInt = 6 ∨ (S.1 10 (Int32.toNatClampNeg x)).toInt = 7) : gm_p_MD_workLoop x y S ∧ gp_wQ S P fed rk t (Int32.toNatClampNeg x) (Int32.toNatClampNeg y) (gm_f_MD_workLoop x y S) := by
  obtain ⟨Q, hQ⟩ : ∃ Q, Q = gp_wQ S P fed rk t (Int32.toNatClampNeg x) (Int32.toNatClampNeg y) := ⟨_, rfl⟩
  rw [← hQ]
  have hC' := hC
  obtain ⟨⟨b0, b1⟩, ⟨p0, p1⟩, ⟨f0, f1⟩, -, SC⟩ := hC'
  have nd := SC.1 (Int32.toNatClampNeg x) hx hx2
  have cy := gx_cl y hy
  have cx := gx_cl x hx3
  have cb := gx_cl (S.2.2 4) b0
  have hB : gp_Bs S = 160 * Int32.toNatClampNeg (S.2.2 4) := rfl
  have ix : vp_in x 320 := vp_in_iff.mpr (by omega)
  have n3 : (-3 : Int32).toInt = -3 := by decide
  have n1 : (-1 : Int32).toInt = -1 := by decide
  have z0 : (0 : Int32).toInt = 0 := by decide
  have z1 : (1 : Int32).toInt = 1 := by decide
  obtain ⟨a1, a2, a3⟩ := nd.2.1 (by omega)
  have c6 : (S.1 10 (Int32.toNatClampNeg x)).toInt = 6 → ∀ v w, ((gp_So S fed (Int32.toNatClampNeg (S.1 11 (Int32.toNatClampNeg x))) (Int32.toNatClampNeg y) ∧ v = 0 ∧ w = 0) ∨ (¬ gp_So S fed (Int32.toNatClampNeg (S.1 11 (Int32.toNatClampNeg x))) (Int32.toNatClampNeg y) ∧ gp_okc (gp_Bs S) P fed (S.1 34) rk t (Int32.toNatClampNeg (S.1 11 (Int32.toNatClampNeg x))) (Int32.toNatClampNeg y) ∧ w = 1 + gp_Tb (gp_Bs S) (S.1 35) (Int32.toNatClampNeg (S.1 11 (Int32.toNatClampNeg x))) (Int32.toNatClampNeg y) ∧ ((gp_Tb (gp_Bs S) (S.1 34) (Int32.toNatClampNeg (S.1 11 (Int32.toNatClampNeg x))) (Int32.toNatClampNeg y) = -1 ∧ v = 0) ∨ (¬ gp_Tb (gp_Bs S) (S.1 34) (Int32.toNatClampNeg (S.1 11 (Int32.toNatClampNeg x))) (Int32.toNatClampNeg y) = -1 ∧ v = gp_Tb (gp_Bs S) (S.1 34) (Int32.toNatClampNeg (S.1 11 (Int32.toNatClampNeg x))) (Int32.toNatClampNeg y))))) → gp_cell (S.1 10) (S.1 11) (S.1 12) (gp_Mz S) (gp_So S fed) (gp_Sr S fed) (gp_Tb (gp_Bs S) (S.1 34)) (gp_Tb (gp_Bs S) (S.1 35)) (gp_okc (gp_Bs S) P fed (S.1 34) rk t) (Int32.toNatClampNeg x) (Int32.toNatClampNeg y) v w := fun k6 v w h => ⟨fun k => by omega, fun k => by omega, fun k => by omega, fun k => by omega, fun k => by omega, fun k => by omega, fun _ => h, fun k => by omega, fun k => by omega, fun k => by omega, fun k => by omega⟩
  have c7 : (S.1 10 (Int32.toNatClampNeg x)).toInt = 7 → ∀ v w, ((gp_So S fed (Int32.toNatClampNeg (S.1 11 (Int32.toNatClampNeg x))) (Int32.toNatClampNeg y) ∧ v = 0 ∧ w = 0) ∨ (¬ gp_So S fed (Int32.toNatClampNeg (S.1 11 (Int32.toNatClampNeg x))) (Int32.toNatClampNeg y) ∧ gp_okc (gp_Bs S) P fed (S.1 34) rk t (Int32.toNatClampNeg (S.1 11 (Int32.toNatClampNeg x))) (Int32.toNatClampNeg y) ∧ ((gp_Tb (gp_Bs S) (S.1 34) (Int32.toNatClampNeg (S.1 11 (Int32.toNatClampNeg x))) (Int32.toNatClampNeg y) = -1 ∧ v = 0 ∧ w = 1 + gp_Tb (gp_Bs S) (S.1 35) (Int32.toNatClampNeg (S.1 11 (Int32.toNatClampNeg x))) (Int32.toNatClampNeg y)) ∨ (0 ≤ gp_Tb (gp_Bs S) (S.1 34) (Int32.toNatClampNeg (S.1 11 (Int32.toNatClampNeg x))) (Int32.toNatClampNeg y) ∧ gp_okc (gp_Bs S) P fed (S.1 34) rk t (Int32.toNatClampNeg x) ((Int32.toNatClampNeg y) + (gp_Tb (gp_Bs S) (S.1 34) (Int32.toNatClampNeg (S.1 11 (Int32.toNatClampNeg x))) (Int32.toNatClampNeg y)).toNat) ∧ v = gp_Tb (gp_Bs S) (S.1 34) (Int32.toNatClampNeg (S.1 11 (Int32.toNatClampNeg x))) (Int32.toNatClampNeg y) + gp_Tb (gp_Bs S) (S.1 34) (Int32.toNatClampNeg x) ((Int32.toNatClampNeg y) + (gp_Tb (gp_Bs S) (S.1 34) (Int32.toNatClampNeg (S.1 11 (Int32.toNatClampNeg x))) (Int32.toNatClampNeg y)).toNat) ∧ w = 1 + gp_Tb (gp_Bs S) (S.1 35) (Int32.toNatClampNeg (S.1 11 (Int32.toNatClampNeg x))) (Int32.toNatClampNeg y) + gp_Tb (gp_Bs S) (S.1 35) (Int32.toNatClampNeg x) ((Int32.toNatClampNeg y) + (gp_Tb (gp_Bs S) (S.1 34) (Int32.toNatClampNeg (S.1 11 (Int32.toNatClampNeg x))) (Int32.toNatClampNeg y)).toNat))))) → gp_cell (S.1 10) (S.1 11) (S.1 12) (gp_Mz S) (gp_So S fed) (gp_Sr S fed) (gp_Tb (gp_Bs S) (S.1 34)) (gp_Tb (gp_Bs S) (S.1 35)) (gp_okc (gp_Bs S) P fed (S.1 34) rk t) (Int32.toNatClampNeg x) (Int32.toNatClampNeg y) v w := fun k7 v w h => ⟨fun k => by omega, fun k => by omega, fun k => by omega, fun k => by omega, fun k => by omega, fun k => by omega, fun k => by omega, fun _ => h, fun k => by omega, fun k => by omega, fun k => by omega⟩
  unfold gm_p_MD_workLoop gm_f_MD_workLoop
  refine gx_in (Q := Q) ix ?_
  refine gx_ca (Q := Q) _ (gz_isOut (S.1 11 (Int32.toNatClampNeg x)) y S (fed := fed) (by omega) (by omega) f0 f1 hy hy2) ?_
  intro r u hr
  refine gx_if (Q := Q) (fun q => ?_) (fun q => ?_)
  · have no : ¬ gp_So S fed (Int32.toNatClampNeg (S.1 11 (Int32.toNatClampNeg x))) (Int32.toNatClampNeg y) := by
      rcases hr with ⟨-, hr⟩ | ⟨hr, -⟩
      · exact hr
      · have hr : r = 1 := hr
        rw [hr] at q; exact absurd q (by decide)
    refine gx_ca (Q := Q) _ (gz_taken _ y S hC a1 (by omega) (by omega) hy hy2) ?_
    intro r1 u1 hr1
    have hr1 : r1.toInt = gp_Tb (gp_Bs S) (S.1 34) (Int32.toNatClampNeg (S.1 11 (Int32.toNatClampNeg x))) (Int32.toNatClampNeg y) := hr1
    refine gx_if (Q := Q) (fun q => ⟨trivial, by rw [hQ]; exact Or.inl ⟨rfl, rfl, rfl, _, _, Or.inr (Or.inl ⟨by omega, rfl, rfl⟩), by omega, by have := gx_eq q; omega⟩⟩) (fun q => ?_)
    have q1 := gx_eqn q
    obtain ⟨ok, v, c0, c1⟩ := gp_FI_k hC hFI a1 (show (Int32.toNatClampNeg (S.1 11 (Int32.toNatClampNeg x))) < gp_Bs S + P by omega) (show Int32.toNatClampNeg y ≤ fed by omega) (by omega)
    refine gx_ca (Q := Q) _ (gz_costOf _ y S hC a1 (by omega) (by omega) hy hy2) ?_
    intro r2 u2 hr2
    have hr2 : r2.toInt = gp_Tb (gp_Bs S) (S.1 35) (Int32.toNatClampNeg (S.1 11 (Int32.toNatClampNeg x))) (Int32.toNatClampNeg y) := hr2
    have s := gx_ad 1 r2
    have s1 : (1 + r2).toInt = 1 + gp_Tb (gp_Bs S) (S.1 35) (Int32.toNatClampNeg (S.1 11 (Int32.toNatClampNeg x))) (Int32.toNatClampNeg y) := by omega
    refine gx_if (Q := Q) (fun w => ?_) (fun w => ?_)
    · have w1 := gx_eqr (k := -1) n1 w
      refine gx_ca (Q := Q) _ (gz_set x y 0 (1 + r2) S hC (rk := rk) (t := t) hx hx2 hx3 hy hy2 (by omega) (by omega) (by
        rcases k67 with k | k
        · exact c6 k _ _ (Or.inr ⟨no, ok, s1, Or.inl ⟨by omega, z0⟩⟩)
        · exact c7 k _ _ (Or.inr ⟨no, ok, Or.inl ⟨by omega, z0, s1⟩⟩))) ?_
      intro r4 u4 hr4
      rw [hQ]
      exact gp_wS_q hr4
    · have w1 := gx_eqnr (k := -1) n1 w
      refine gx_in (Q := Q) ix ?_
      refine gx_if (Q := Q) (fun e => ?_) (fun e => ?_)
      · have e1 := gx_eqr (k := 6) (gx_lit 6 (by decide)) e
        refine gx_ca (Q := Q) _ (gz_set x y r1 (1 + r2) S hC (rk := rk) (t := t) hx hx2 hx3 hy hy2 (by omega) (by omega) (c6 e1 _ _ (Or.inr ⟨no, ok, s1, Or.inr ⟨by omega, hr1⟩⟩))) ?_
        intro r4 u4 hr4
        rw [hQ]
        exact gp_wS_q hr4
      · have e1 := gx_eqnr (k := 6) (gx_lit 6 (by decide)) e
        have k7 : (S.1 10 (Int32.toNatClampNeg x)).toInt = 7 := by omega
        have c7 := c7 k7
        generalize hT : gp_Tb (gp_Bs S) (S.1 34) (Int32.toNatClampNeg (S.1 11 (Int32.toNatClampNeg x))) (Int32.toNatClampNeg y) = va at hr1 v c7
        generalize hCa : gp_Tb (gp_Bs S) (S.1 35) (Int32.toNatClampNeg (S.1 11 (Int32.toNatClampNeg x))) (Int32.toNatClampNeg y) = ca at hr2 c0 c1 c7 s1
        have va0 : 0 ≤ va ∧ (Int32.toNatClampNeg y : Int) + va ≤ fed := by
          rcases v with v | v
          · omega
          · exact v
        have sy := gx_ad y r1
        have sy1 : (y + r1).toInt = y.toInt + va := by omega
        have cs := gx_cl (y + r1) (by omega)
        have es : Int32.toNatClampNeg (y + r1) = Int32.toNatClampNeg y + va.toNat := by omega
        refine gx_ca (Q := Q) _ (gz_taken x (y + r1) S hC hx hx2 hx3 (by omega) (by omega)) ?_
        intro r5 u5 h5
        have h5 : r5.toInt = gp_Tb (gp_Bs S) (S.1 34) (Int32.toNatClampNeg x) (Int32.toNatClampNeg (y + r1)) := h5
        rw [es] at h5
        refine gx_if (Q := Q) (fun q => ⟨trivial, by rw [hQ]; exact Or.inl ⟨rfl, rfl, rfl, _, _, Or.inr (Or.inr (Or.inr (Or.inr ⟨k7, rfl, by rw [hT]; exact va0.1, by rw [hT]⟩))), by omega, by have := gx_eq q; omega⟩⟩) (fun q => ?_)
        have q2 := gx_eqn q
        obtain ⟨ok', v', d0, d1⟩ := gp_FI_k hC hFI hx hx2 (show Int32.toNatClampNeg y + va.toNat ≤ fed by omega) (by omega)
        refine gx_ca (Q := Q) _ (gz_costOf x (y + r1) S hC hx hx2 hx3 (by omega) (by omega)) ?_
        intro r6 u6 h6
        have h6 : r6.toInt = gp_Tb (gp_Bs S) (S.1 35) (Int32.toNatClampNeg x) (Int32.toNatClampNeg (y + r1)) := h6
        rw [es] at h6
        generalize hTb : gp_Tb (gp_Bs S) (S.1 34) (Int32.toNatClampNeg x) (Int32.toNatClampNeg y + va.toNat) = vb at h5 v' c7
        generalize hCb : gp_Tb (gp_Bs S) (S.1 35) (Int32.toNatClampNeg x) (Int32.toNatClampNeg y + va.toNat) = cb' at d0 d1 c7 h6
        have sv := gx_ad r1 r5
        have vbb : -1 ≤ vb ∧ vb ≤ 10 := by
          rcases v' with v' | v'
          · omega
          · omega
        have sv1 : (r1 + r5).toInt = va + vb := by omega
        have sw := gx_ad (1 + r2) r6
        have sw1 : ((1 + r2) + r6).toInt = 1 + ca + cb' := by omega
        refine gx_ca (Q := Q) _ (gz_set x y (r1 + r5) ((1 + r2) + r6) S hC (rk := rk) (t := t) hx hx2 hx3 hy hy2 (by omega) (by omega) (c7 _ _ (Or.inr ⟨no, ok, Or.inr ⟨va0.1, ok', sv1, sw1⟩⟩))) ?_
        intro r7 u7 h7
        rw [hQ]
        exact gp_wS_b h7
  · have yes : gp_So S fed (Int32.toNatClampNeg (S.1 11 (Int32.toNatClampNeg x))) (Int32.toNatClampNeg y) := by
      rcases hr with ⟨hr, -⟩ | ⟨-, hr⟩
      · exact absurd hr q
      · exact hr
    refine gx_ca (Q := Q) _ (gz_set x y 0 0 S hC (rk := rk) (t := t) hx hx2 hx3 hy hy2 (by omega) (by omega) (by
      rcases k67 with k | k
      · exact c6 k _ _ (Or.inl ⟨yes, z0, z0⟩)
      · exact c7 k _ _ (Or.inl ⟨yes, z0, z0⟩))) ?_
    intro r4 u4 hr4
    rw [hQ]
    exact gp_wS_q hr4
