def gp_gaQ (z : Int32 × gm_S) : Prop := 0 ≤ (z.2.2.2 41).toInt ∧ (z.2.2.2 41).toInt ≤ 200
theorem gz_gather17 (x : Int32) (S u14 : gm_S) {P fed : Nat} (hC : gp_WC S P fed) {rank : Nat → Nat} (RK : gp_RK (S.1 10) (S.1 11) (S.1 12) (gp_Mz S) (S.1 15) (gp_Bs S) P rank) {rk : Nat → Nat} {t : Nat} (hF : gp_FT S P fed rk t) {cp : Nat → Nat → Nat} (hcp : gp_CP S P fed rk cp) : ∀ (n : Nat) (U : gm_S) (h nd : Nat), (U.2.2 38).toInt = ((2 * h : Nat) : Int) → (U.2.2 41).toInt = (nd : Int) → gp_GI S P fed rk cp (U.1 37) h nd n → gm_p_MD_gather_17 x S u14 n U ∧ gp_gaQ (gm_f_MD_gather_17 x S u14 n U) := by
  obtain ⟨Q, hQ⟩ : ∃ Q, Q = gp_gaQ := ⟨_, rfl⟩
  rw [← hQ]
  have hC' := hC
  obtain ⟨⟨b0, b1⟩, ⟨p0, p1⟩, ⟨f0, f1⟩, ⟨ty, hU⟩, SC⟩ := hC'
  have r1 := hU.2.2.1.2
  have cb := gx_cl (S.2.2 4) b0
  have hB : gp_Bs S = 160 * Int32.toNatClampNeg (S.2.2 4) := rfl
  have z0 : (0 : Int32).toInt = 0 := by decide
  have n1 : (-1 : Int32).toInt = -1 := by decide
  obtain ⟨wt, hwt⟩ : ∃ wt, wt = gp_wt P rk := ⟨_, rfl⟩
  obtain ⟨ei, hei⟩ : ∃ ei, ei = gp_ei S cp := ⟨_, rfl⟩
  obtain ⟨dd, hdd⟩ : ∃ dd, dd = gp_dd (S.1 10) (gp_Bs S) P rk := ⟨_, rfl⟩
  obtain ⟨ev, hev⟩ : ∃ ev, ev = gp_ev cp (gp_Tb (gp_Bs S) (S.1 34)) := ⟨_, rfl⟩
  have Wpos : ∀ c, 1 ≤ wt c := fun c => by rw [hwt]; exact gp_wt_pos P rk c
  have W1 : ∀ c c1, rk c1 < rk c → c1 < 11 * P → wt c1 + 1 ≤ wt c := fun c c1 h1 h2 => by rw [hwt]; exact gp_wt_1 h1 h2
  have W2 : ∀ c c1 c2, rk c1 < rk c → c1 < 11 * P → rk c2 < rk c → c2 < 11 * P → wt c1 + wt c2 + 1 ≤ wt c := fun c c1 c2 h1 h2 h3 h4 => by rw [hwt]; exact gp_wt_2 h1 h2 h3 h4
  have Dle : ∀ c c1, rk c1 < rk c → dd c1 ≤ dd c := fun c c1 h1 => by rw [hdd]; exact gp_dd_le h1
  have Dlt : ∀ c c1, rk c1 < rk c → c < 11 * P → ((S.1 10 (gp_Bs S + c / 11)).toInt = 4 ∨ (S.1 10 (gp_Bs S + c / 11)).toInt = 7) → dd c1 + 1 ≤ dd c := fun c c1 h1 h2 h3 => by rw [hdd]; exact gp_dd_lt h1 h2 h3
  have Eic : ∀ m q, gp_Bs S ≤ m → q ≤ 10 → ei (11 * (m - gp_Bs S) + q) = ev m q := fun m q h1 h2 => by rw [hei, hev]; exact gp_ei_c h1 h2
  intro n
  induction n with
  | zero => intro U h nd _ _ hG; exact absurd hG.2.1 (by omega)
  | succ n ih =>
    intro U h nd hw hnd hG
    obtain ⟨G1, G2, G3⟩ := hG
    rw [← hwt] at G2
    rw [← hei] at G3
    rw [gm_p_MD_gather_17, gm_f_MD_gather_17]
    refine gx_if (Q := Q) (fun q => ⟨trivial, ?_⟩) (fun q => ?_)
    · rw [hQ]
      show 0 ≤ (U.2.2 41).toInt ∧ (U.2.2 41).toInt ≤ 200
      omega
    have q1 := gx_lenr (k := 0) z0 q
    obtain ⟨g, hg⟩ : ∃ g, h = g + 1 := ⟨h - 1, by omega⟩
    subst hg
    obtain ⟨m, p, hv, hc, hd⟩ := G1 g (by omega)
    rw [← hdd] at hd
    have hgb : g ≤ 825 := by omega
    have s2 := gx_sk (U.2.2 38) 2 2 (gx_lit 2 (by decide))
    have s3 : ((U.2.2 38) - 2).toInt = ((2 * g : Nat) : Int) := by omega
    have s4 := gx_ak ((U.2.2 38) - 2) 1 1 (by decide)
    have e2 : Int32.toNatClampNeg ((U.2.2 38) - 2) = 2 * g := gp_cl_n s3
    have su : ∀ f, gp_su f (U.1 37) (g + 1) = gp_su f (U.1 37) g + f (11 * (m - gp_Bs S) + p) := fun f => by
      have e : gp_su f (U.1 37) (g + 1) = gp_su f (U.1 37) g + f (Int32.toNatClampNeg (U.1 37 (2 * g))) := rfl
      rw [e, gp_cl_n hc]
    rw [su] at G2 G3
    have v1 := hv.1
    have v2 := hv.2.1
    have v3 := hv.2.2.1
    have v4 := hv.2.2.2
    rw [Eic m p v1 (by omega)] at G3
    have d11 := gx_d11 (U.1 37 (2 * g)) (by omega) (by omega)
    have mm := gx_mk 160 (S.2.2 4) 160 (gx_lit 160 (by decide))
    have ma := gx_ad (160 * (S.2.2 4)) ((U.1 37 (2 * g)) / 11)
    have X0 : ((160 * (S.2.2 4)) + (((U.1 37) (Int32.toNatClampNeg ((U.2.2 38) - 2))) / 11)).toInt = (m : Int) := by rw [e2]; omega
    have Y0 : (((U.1 37) (Int32.toNatClampNeg ((U.2.2 38) - 2))) - ((U.1 37) (Int32.toNatClampNeg ((U.2.2 38) - 2))) / 11 * 11).toInt = (p : Int) := by rw [e2]; omega
    have i38 : vp_in ((U.2.2 38) - 2) 1760 := vp_in_iff.mpr (by omega)
    have i39 : vp_in (((U.2.2 38) - 2) + 1) 1760 := vp_in_iff.mpr (by omega)
    clear mm ma d11
    generalize ((160 * (S.2.2 4)) + (((U.1 37) (Int32.toNatClampNeg ((U.2.2 38) - 2))) / 11)) = X at X0 ⊢
    generalize (((U.1 37) (Int32.toNatClampNeg ((U.2.2 38) - 2))) - ((U.1 37) (Int32.toNatClampNeg ((U.2.2 38) - 2))) / 11 * 11) = Y at Y0 ⊢
    generalize ((U.1 37) (Int32.toNatClampNeg (((U.2.2 38) - 2) + 1))) = I
    have cX : Int32.toNatClampNeg X = m := gp_cl_n X0
    have cY : Int32.toNatClampNeg Y = p := gp_cl_n Y0
    have iX : vp_in X 320 := vp_in_iff.mpr (by omega)
    refine gx_in (Q := Q) i38 (gx_in (Q := Q) i38 (gx_in (Q := Q) i39 (gx_in (Q := Q) iX (gx_in (Q := Q) iX ?_))))
    rw [cX]
    have D3 := fun (_ : Unit) => (gp_down hC RK hF hv).1
    have D4 := fun (_ : Unit) => (gp_down hC RK hF hv).2.1
    have D5 := fun (_ : Unit) => (gp_down hC RK hF hv).2.2.1
    have D6 := fun (_ : Unit) => (gp_down hC RK hF hv).2.2.2.1
    have D7 := fun (_ : Unit) => (gp_down hC RK hF hv).2.2.2.2.1
    have D10 := fun (_ : Unit) => (gp_down hC RK hF hv).2.2.2.2.2
    have C3 := fun (_ : Unit) => (hcp m p hv).2.1
    have C4 := fun (_ : Unit) => (hcp m p hv).2.2.1
    have C45 := fun (_ : Unit) => (hcp m p hv).2.2.2.1
    have C10 := fun (_ : Unit) => (hcp m p hv).2.2.2.2
    have n4 := fun (_ : Unit) => (SC.1 m v1 v2).2.1
    have n45 := fun (_ : Unit) => (SC.1 m v1 v2).2.2.1
    have n3 := fun (_ : Unit) => (SC.1 m v1 v2).2.2.2.2
    have wp := Wpos (11 * (m - gp_Bs S) + p)
    have ci : 11 * (m - gp_Bs S) + p < 11 * P := by omega
    have cin : ∀ m' q', gp_vc S P fed m' q' → 11 * (m' - gp_Bs S) + q' < 11 * P := by
      rintro m' q' ⟨a1, a2, a3, -⟩
      omega
    have none : gm_p_MD_gather_17 x S u14 n ((va_up (va_up (va_up (va_up S.1 37 (U.1 37)) 42 (U.1 42)) 43 (U.1 43)) 44 (U.1 44)), S.2.1, (va_up (va_up S.2.2 38 ((U.2.2 38) - 2)) 41 (U.2.2 41))) ∧ Q (gm_f_MD_gather_17 x S u14 n ((va_up (va_up (va_up (va_up S.1 37 (U.1 37)) 42 (U.1 42)) 43 (U.1 43)) 44 (U.1 44)), S.2.1, (va_up (va_up S.2.2 38 ((U.2.2 38) - 2)) 41 (U.2.2 41)))) := ih _ g nd s3 hnd ⟨fun i hi => G1 i (by omega), by rw [← hwt]; show gp_su wt (U.1 37) g < n; omega, by rw [← hei]; show nd + gp_su ei (U.1 37) g ≤ 200; omega⟩
    have one : ∀ (W : gm_S) (m' : Nat) (dn : Nat), gp_kid S P fed rk m p m' p → gp_Tb (gp_Bs S) (S.1 34) m p = gp_Tb (gp_Bs S) (S.1 34) m' p → (1 ≤ dn → 0 < gp_Tb (gp_Bs S) (S.1 34) m p) → cp m' p + dn ≤ cp m p → (W.2.2 38).toInt = ((2 * (g + 1) : Nat) : Int) → (W.2.2 41).toInt = ((nd + dn : Nat) : Int) → (∃ (r y : Int32), r.toInt = ((11 * (m' - gp_Bs S) + p : Nat) : Int) ∧ W.1 37 = upd (upd (U.1 37) (2 * g) r) (2 * g + 1) y) → gm_p_MD_gather_17 x S u14 n W ∧ Q (gm_f_MD_gather_17 x S u14 n W) := by
      intro W m' dn hk hT h0 hc' w38 w41 hr
      obtain ⟨r, y, hr1, hr2⟩ := hr
      have wt1 := W1 _ _ hk.2.1 (cin _ _ hk.1)
      have dl := Dle _ _ hk.2.1
      have ev1 := gp_ev_1 (cp := cp) (T := gp_Tb (gp_Bs S) (S.1 34)) hT h0 hc'
      rw [← hev] at ev1
      have pu := gp_GI_push (cp := cp) (nd := 0) (fun i hi => G1 i (by omega)) hk.1 f1 (show g + gp_dd (S.1 10) (gp_Bs S) P rk (11 * (m' - gp_Bs S) + p) ≤ 825 by rw [← hdd]; omega) (y := y) hr1
      refine ih W (g + 1) (nd + dn) w38 w41 ?_
      rw [hr2]
      refine ⟨pu.1, ?_, ?_⟩
      · rw [pu.2, ← hwt]; omega
      · rw [pu.2, ← hei, Eic _ _ hk.1.1 (by omega)]; omega
    have two : ∀ (W : gm_S) (m1 m2 q2 : Nat), ((S.1 10 m).toInt = 4 ∨ (S.1 10 m).toInt = 7) → gp_kid S P fed rk m p m1 p → gp_kid S P fed rk m p m2 q2 → ev m1 p + ev m2 q2 ≤ ev m p → (W.2.2 38).toInt = ((2 * (g + 1 + 1) : Nat) : Int) → (W.2.2 41).toInt = (nd : Int) → (∃ (r y r' y' : Int32), r.toInt = ((11 * (m2 - gp_Bs S) + q2 : Nat) : Int) ∧ r'.toInt = ((11 * (m1 - gp_Bs S) + p : Nat) : Int) ∧ W.1 37 = upd (upd (upd (upd (U.1 37) (2 * g) r) (2 * g + 1) y) (2 * (g + 1)) r') (2 * (g + 1) + 1) y') → gm_p_MD_gather_17 x S u14 n W ∧ Q (gm_f_MD_gather_17 x S u14 n W) := by
      intro W m1 m2 q2 k47 hk1 hk2 hevs w38 w41 hr
      obtain ⟨r, y, r', y', hr1, hr1', hr2⟩ := hr
      have wt2 := W2 _ _ _ hk1.2.1 (cin _ _ hk1.1) hk2.2.1 (cin _ _ hk2.1)
      have e1 : gp_Bs S + (11 * (m - gp_Bs S) + p) / 11 = m := by omega
      have k47' : (S.1 10 (gp_Bs S + (11 * (m - gp_Bs S) + p) / 11)).toInt = 4 ∨ (S.1 10 (gp_Bs S + (11 * (m - gp_Bs S) + p) / 11)).toInt = 7 := by rw [e1]; exact k47
      have dl1 := Dlt _ _ hk1.2.1 ci k47'
      have dl2 := Dle _ _ hk2.2.1
      have pu := gp_GI_push (cp := cp) (nd := 0) (fun i hi => G1 i (by omega)) hk2.1 f1 (show g + gp_dd (S.1 10) (gp_Bs S) P rk (11 * (m2 - gp_Bs S) + q2) ≤ 825 by rw [← hdd]; omega) (y := y) hr1
      have pu' := gp_GI_push (cp := cp) (nd := 0) pu.1 hk1.1 f1 (show g + 1 + gp_dd (S.1 10) (gp_Bs S) P rk (11 * (m1 - gp_Bs S) + p) ≤ 825 by rw [← hdd]; omega) (y := y') hr1'
      refine ih W (g + 1 + 1) nd w38 w41 ?_
      rw [hr2]
      have q2f := hk2.1.2.2.1
      refine ⟨pu'.1, ?_, ?_⟩
      · rw [pu'.2, pu.2, ← hwt]; omega
      · rw [pu'.2, pu.2, ← hei, Eic _ _ hk1.1.1 (by omega), Eic _ _ hk2.1.1 (by omega)]; omega
    refine gx_if (Q := Q) (fun k => ?_) (fun k => ?_)
    · have kk := gx_eqr (k := 3) (gx_lit 3 (by decide)) k
      obtain ⟨hk, hT⟩ := D3 () kk
      have x3 := n3 () kk
      refine gx_ca (Q := Q) (fun z : Int32 × gm_S => gp_me (S.1 6) (S.1 7) (S.1 8) (S.2.2 4) (S.1 11 (Int32.toNatClampNeg X)) z.1) (gy_s_MD_meant X (S.2.2 4) _ b0 b1 r1 (by omega) (by omega)) ?_
      intro r u hr
      have hr : gp_me (S.1 6) (S.1 7) (S.1 8) (S.2.2 4) (S.1 11 (Int32.toNatClampNeg X)) r := hr
      rw [cX] at hr
      have er : r = gp_Mz S m := gp_mz_eq b0 hr
      rw [er]
      refine gx_ca (Q := Q) _ (gz_hold (gp_Mz S m) Y I (va_up (va_up (va_up (va_up S.1 37 (U.1 37)) 42 (U.1 42)) 43 (U.1 43)) 44 (U.1 44), S.2.1, va_up (va_up S.2.2 38 ((U.2.2 38) - 2)) 41 (U.2.2 41)) hC (h := g) hk.1.1 hk.1.2.1 (by omega) (by omega) (by omega) s3 (by omega)) ?_
      intro r2 u2 hu2
      obtain ⟨w1, r3, w2, w3⟩ := hu2
      rw [cY] at w2
      exact one _ _ 0 hk hT (fun h => by omega) (C3 () kk hk) w1 hnd ⟨r3, I, w2, w3⟩
    have k3 := gx_eqnr (k := 3) (gx_lit 3 (by decide)) k
    refine gx_if (Q := Q) (fun k => ?_) (fun k => ?_)
    · have kk := gx_eqr (k := 4) (gx_lit 4 (by decide)) k
      obtain ⟨hk1, hk2, hT⟩ := D4 () kk
      have x1 := n4 () (by omega)
      have x2 := n45 () (Or.inl kk)
      refine gx_in (Q := Q) iX ?_
      refine gx_ca (Q := Q) _ (gz_taken (S.1 11 m) Y _ hC hk1.1.1 hk1.1.2.1 (by omega) (by omega) (by omega)) ?_
      intro r u hr
      have hr : r.toInt = gp_Tb (gp_Bs S) (S.1 34) (Int32.toNatClampNeg (S.1 11 m)) (Int32.toNatClampNeg Y) := hr
      rw [cY] at hr
      have ta := hk1.1.2.2.2
      have tq := hk2.1.2.2.1
      have sy := gx_ad Y r
      have cyr : Int32.toNatClampNeg (Y + r) = p + (gp_Tb (gp_Bs S) (S.1 34) (Int32.toNatClampNeg (S.1 11 m)) p).toNat := gp_cl_n (by omega)
      refine gx_ca (Q := Q) _ (gz_hold (S.1 12 m) (Y + r) I (va_up (va_up (va_up (va_up S.1 37 (U.1 37)) 42 (U.1 42)) 43 (U.1 43)) 44 (U.1 44), S.2.1, va_up (va_up S.2.2 38 ((U.2.2 38) - 2)) 41 (U.2.2 41)) hC (h := g) hk2.1.1 hk2.1.2.1 (by omega) (by omega) (by omega) s3 (by omega)) ?_
      intro r2 u2 hu2
      obtain ⟨w1, r3, w2, w3⟩ := hu2
      rw [cyr] at w2
      refine gx_ca (Q := Q) _ (gz_hold (S.1 11 m) Y I (va_up (va_up (va_up (va_up S.1 37 (u2.1 37)) 42 (U.1 42)) 43 (U.1 43)) 44 (U.1 44), S.2.1, va_up (va_up S.2.2 38 (u2.2.2 38)) 41 (U.2.2 41)) hC (h := g + 1) hk1.1.1 hk1.1.2.1 (by omega) (by omega) (by omega) w1 (by omega)) ?_
      intro r4 u4 hu4
      obtain ⟨y1, r5, y2, y3⟩ := hu4
      rw [cY] at y2
      have w3 : u2.1 37 = upd (upd (U.1 37) (2 * g) r3) (2 * g + 1) I := w3
      have y3 : u4.1 37 = upd (upd (u2.1 37) (2 * (g + 1)) r5) (2 * (g + 1) + 1) I := y3
      rw [w3] at y3
      refine two _ _ _ _ (Or.inl kk) hk1 hk2 ?_ y1 hnd ⟨r3, I, r5, I, w2, y2, y3⟩
      rw [hev]
      refine gp_ev_2 ta hk2.1.2.2.2 hT rfl (C4 () (by omega) hk1) (fun z => ?_) (hcp _ _ hk2.1).1
      refine C45 () (Or.inl kk) ?_
      rw [z, show p + (0 : Int).toNat = p by omega] at hk2
      exact hk2
    have k4 := gx_eqnr (k := 4) (gx_lit 4 (by decide)) k
    refine gx_if (Q := Q) (fun k => ?_) (fun k => ?_)
    · have kk := gx_eqr (k := 5) (gx_lit 5 (by decide)) k
      have x1 := n4 () (by omega)
      have x2 := n45 () (Or.inr kk)
      refine gx_ca (Q := Q) _ (gz_taken (S.1 11 m) Y _ hC x1.1 (show Int32.toNatClampNeg (S.1 11 m) < gp_Bs S + P by omega) (by omega) (by omega) (by omega)) ?_
      intro r u hr
      have hr : r.toInt = gp_Tb (gp_Bs S) (S.1 34) (Int32.toNatClampNeg (S.1 11 m)) (Int32.toNatClampNeg Y) := hr
      rw [cY] at hr
      refine gx_if (Q := Q) (fun w => gx_in (Q := Q) iX ?_) (fun w => ?_)
      · have w0 := gx_eqr (k := -1) n1 w
        rcases D5 () kk with ⟨-, hk, hT⟩ | ⟨hn, -⟩
        · refine gx_ca (Q := Q) _ (gz_hold (S.1 12 m) Y I (va_up (va_up (va_up (va_up S.1 37 (U.1 37)) 42 (U.1 42)) 43 (U.1 43)) 44 (U.1 44), S.2.1, va_up (va_up S.2.2 38 ((U.2.2 38) - 2)) 41 (U.2.2 41)) hC (h := g) hk.1.1 hk.1.2.1 (by omega) (by omega) (by omega) s3 (by omega)) ?_
          intro r2 u2 hu2
          obtain ⟨w1, r3, w2, w3⟩ := hu2
          rw [cY] at w2
          exact one _ _ 0 hk hT (fun h => by omega) (C45 () (Or.inr kk) hk) w1 hnd ⟨r3, I, w2, w3⟩
        · exact absurd (by omega) hn
      · have w0 := gx_eqnr (k := -1) n1 w
        rcases D5 () kk with ⟨hn, -⟩ | ⟨-, hk, hT⟩
        · exact absurd (by omega) w0
        · refine gx_ca (Q := Q) _ (gz_hold (S.1 11 m) Y I (va_up (va_up (va_up (va_up S.1 37 (U.1 37)) 42 (U.1 42)) 43 (U.1 43)) 44 (U.1 44), S.2.1, va_up (va_up S.2.2 38 ((U.2.2 38) - 2)) 41 (U.2.2 41)) hC (h := g) hk.1.1 hk.1.2.1 (by omega) (by omega) (by omega) s3 (by omega)) ?_
          intro r2 u2 hu2
          obtain ⟨w1, r3, w2, w3⟩ := hu2
          rw [cY] at w2
          exact one _ _ 0 hk hT (fun h => by omega) (C4 () (by omega) hk) w1 hnd ⟨r3, I, w2, w3⟩
    have k5 := gx_eqnr (k := 5) (gx_lit 5 (by decide)) k
    refine gx_if (Q := Q) (fun k => ?_) (fun k => ?_)
    · have kk := gx_eqr (k := 6) (gx_lit 6 (by decide)) k
      have x1 := n4 () (by omega)
      refine gx_ca (Q := Q) _ (gz_taken (S.1 11 m) Y _ hC x1.1 (show Int32.toNatClampNeg (S.1 11 m) < gp_Bs S + P by omega) (by omega) (by omega) (by omega)) ?_
      intro r u hr
      have hr : r.toInt = gp_Tb (gp_Bs S) (S.1 34) (Int32.toNatClampNeg (S.1 11 m)) (Int32.toNatClampNeg Y) := hr
      rw [cY] at hr
      refine gx_if (Q := Q) (fun w => none) (fun w => ?_)
      have w0 := gx_ltnr (k := 0) z0 w
      obtain ⟨hk, hT⟩ := D6 () kk (by omega)
      refine gx_ca (Q := Q) _ (gz_hold (S.1 11 m) Y I (va_up (va_up (va_up (va_up S.1 37 (U.1 37)) 42 (U.1 42)) 43 (U.1 43)) 44 (U.1 44), S.2.1, va_up (va_up S.2.2 38 ((U.2.2 38) - 2)) 41 (U.2.2 41)) hC (h := g) hk.1.1 hk.1.2.1 (by omega) (by omega) (by omega) s3 (by omega)) ?_
      intro r2 u2 hu2
      obtain ⟨w1, r3, w2, w3⟩ := hu2
      rw [cY] at w2
      exact one _ _ 0 hk hT (fun h => by omega) (C4 () (by omega) hk) w1 hnd ⟨r3, I, w2, w3⟩
    have k6 := gx_eqnr (k := 6) (gx_lit 6 (by decide)) k
    refine gx_if (Q := Q) (fun k => ?_) (fun k => ?_)
    · have kk := gx_eqr (k := 7) (gx_lit 7 (by decide)) k
      have x1 := n4 () (by omega)
      have tk := gz_taken (S.1 11 m) Y ((va_up (va_up (va_up (va_up S.1 37 (U.1 37)) 42 (U.1 42)) 43 (U.1 43)) 44 (U.1 44)), S.2.1, (va_up (va_up S.2.2 38 ((U.2.2 38) - 2)) 41 (U.2.2 41))) (P := P) (fed := fed) hC x1.1 (show Int32.toNatClampNeg (S.1 11 m) < gp_Bs S + P by omega) (by omega) (by omega) (by omega)
      refine gx_ca (Q := Q) _ tk ?_
      intro r u hr
      have hr : r.toInt = gp_Tb (gp_Bs S) (S.1 34) (Int32.toNatClampNeg (S.1 11 m)) (Int32.toNatClampNeg Y) := hr
      rw [cY] at hr
      refine gx_if (Q := Q) (fun w => ?_) (fun w => none)
      have w0 := gx_ltl (k := 0) z0 w
      obtain ⟨hk1, hk2, hT⟩ := D7 () kk (by omega)
      refine gx_ca (Q := Q) _ tk ?_
      intro r' u' hr'
      have hr' : r'.toInt = gp_Tb (gp_Bs S) (S.1 34) (Int32.toNatClampNeg (S.1 11 m)) (Int32.toNatClampNeg Y) := hr'
      rw [cY] at hr'
      have ta := hk1.1.2.2.2
      have tq := hk2.1.2.2.1
      have sy := gx_ad Y r'
      have cyr : Int32.toNatClampNeg (Y + r') = p + (gp_Tb (gp_Bs S) (S.1 34) (Int32.toNatClampNeg (S.1 11 m)) p).toNat := gp_cl_n (by omega)
      refine gx_ca (Q := Q) _ (gz_hold X (Y + r') I (va_up (va_up (va_up (va_up S.1 37 (U.1 37)) 42 (U.1 42)) 43 (U.1 43)) 44 (U.1 44), S.2.1, va_up (va_up S.2.2 38 ((U.2.2 38) - 2)) 41 (U.2.2 41)) hC (h := g) (show gp_Bs S ≤ Int32.toNatClampNeg X by omega) (show Int32.toNatClampNeg X < gp_Bs S + P by omega) (by omega) (by omega) (by omega) s3 (by omega)) ?_
      intro r2 u2 hu2
      obtain ⟨w1, r3, w2, w3⟩ := hu2
      rw [cyr, cX] at w2
      refine gx_ca (Q := Q) _ (gz_hold (S.1 11 m) Y I (va_up (va_up (va_up (va_up S.1 37 (u2.1 37)) 42 (U.1 42)) 43 (U.1 43)) 44 (U.1 44), S.2.1, va_up (va_up S.2.2 38 (u2.2.2 38)) 41 (U.2.2 41)) hC (h := g + 1) hk1.1.1 hk1.1.2.1 (by omega) (by omega) (by omega) w1 (by omega)) ?_
      intro r4 u4 hu4
      obtain ⟨y1, r5, y2, y3⟩ := hu4
      rw [cY] at y2
      have w3 : u2.1 37 = upd (upd (U.1 37) (2 * g) r3) (2 * g + 1) I := w3
      have y3 : u4.1 37 = upd (upd (u2.1 37) (2 * (g + 1)) r5) (2 * (g + 1) + 1) I := y3
      rw [w3] at y3
      refine two _ _ _ _ (Or.inr kk) hk1 hk2 ?_ y1 hnd ⟨r3, I, r5, I, w2, y2, y3⟩
      rw [hev]
      exact gp_ev_2 ta hk2.1.2.2.2 hT rfl (C4 () (by omega) hk1) (fun z => by omega) (hcp _ _ hk2.1).1
    have k7 := gx_eqnr (k := 7) (gx_lit 7 (by decide)) k
    refine gx_if (Q := Q) (fun k => none) (fun k => ?_)
    have k8 := gx_eqnr (k := 8) (gx_lit 8 (by decide)) k
    refine gx_if (Q := Q) (fun k => none) (fun k => ?_)
    have k9 := gx_eqnr (k := 9) (gx_lit 9 (by decide)) k
    refine gx_if (Q := Q) (fun k => ?_) (fun k => none)
    have kk := gx_eqr (k := 10) (gx_lit 10 (by decide)) k
    obtain ⟨hk, hT, hpos⟩ := D10 () kk
    have x1 := n4 () (by omega)
    have c10 := C10 () kk hk
    have evp : 1 ≤ ev m p := by
      rw [hev]
      unfold gp_ev
      rw [if_neg (by omega)]
      omega
    have i41 : vp_in (U.2.2 41) 200 := vp_in_iff.mpr (by omega)
    have a41 := gx_ak (U.2.2 41) 1 1 (by decide)
    refine gx_in (Q := Q) i41 ?_
    refine gx_ca (Q := Q) _ (gz_taken X Y _ hC (show gp_Bs S ≤ Int32.toNatClampNeg X by omega) (show Int32.toNatClampNeg X < gp_Bs S + P by omega) (by omega) (by omega) (by omega)) ?_
    intro r u hr
    refine gx_in (Q := Q) i41 (gx_in (Q := Q) i41 ?_)
    refine gx_ca (Q := Q) _ (gz_hold (S.1 11 m) Y (((U.2.2 41) + 1) - 1) (va_up (va_up (va_up (va_up S.1 37 (U.1 37)) 42 (upd (U.1 42) (Int32.toNatClampNeg (U.2.2 41)) Y)) 43 (upd (U.1 43) (Int32.toNatClampNeg (U.2.2 41)) (Y + r))) 44 (upd (U.1 44) (Int32.toNatClampNeg (U.2.2 41)) I), S.2.1, va_up (va_up S.2.2 38 ((U.2.2 38) - 2)) 41 ((U.2.2 41) + 1)) hC (h := g) hk.1.1 hk.1.2.1 (by omega) (by omega) (by omega) s3 (by omega)) ?_
    intro r2 u2 hu2
    obtain ⟨w1, r3, w2, w3⟩ := hu2
    rw [cY] at w2
    exact one _ _ 1 hk hT (fun _ => hpos) c10 w1 (show ((U.2.2 41) + 1).toInt = ((nd + 1 : Nat) : Int) by omega) ⟨r3, _, w2, w3⟩
theorem gz_gather (x : Int32) (S : gm_S) {P fed : Nat} (hC : gp_WC S P fed) {rank : Nat → Nat} (RK : gp_RK (S.1 10) (S.1 11) (S.1 12) (gp_Mz S) (S.1 15) (gp_Bs S) P rank) {rk : Nat → Nat} {t : Nat} (hF : gp_FT S P fed rk t) {cp : Nat → Nat → Nat} (hcp : gp_CP S P fed rk cp) (hka : gp_ka (S.1 10) (gp_Bs S) P ≤ 75) (hx : gp_vc S P fed (Int32.toNatClampNeg x) 0) (hx3 : 0 ≤ x.toInt) : gm_p_MD_gather x S ∧ gp_gaQ (gm_f_MD_gather x S) := by
  have f1 := hC.2.2.1.2
  have p1 := hC.2.1.2
  have z0 : (0 : Int32).toInt = 0 := by decide
  have c0 : Int32.toNatClampNeg 0 = 0 := by decide
  unfold gm_p_MD_gather gm_f_MD_gather
  refine gx_ca (Q := gp_gaQ) _ (gz_hold x 0 (-1) (S.1, S.2.1, va_up (va_up S.2.2 41 0) 38 0) hC (h := 0) hx.1 hx.2.1 hx3 (by omega) (by omega) z0 (by omega)) ?_
  intro r u hu
  obtain ⟨w1, r3, w2, w3⟩ := hu
  rw [c0] at w2
  have w3 : u.1 37 = upd (upd (S.1 37) (2 * 0) r3) (2 * 0 + 1) (-1) := w3
  have db := gp_dd_b (S.1 10) (gp_Bs S) P rk (11 * (Int32.toNatClampNeg x - gp_Bs S) + 0)
  have pu := gp_GI_push (S := S) (P := P) (fed := fed) (rk := rk) (cp := cp) (a := S.1 37) (h := 0) (nd := 0) (fun i hi => absurd hi (by omega)) hx f1 (by omega) (y := -1) w2
  refine gz_gather17 x S u hC RK hF hcp (gm_pw 500000) _ 1 0 w1 z0 ?_
  show gp_GI S P fed rk cp (u.1 37) 1 0 (gm_pw 500000)
  rw [w3]
  refine ⟨pu.1, ?_, ?_⟩
  · rw [pu.2]
    have rl : gp_rr P rk (11 * (Int32.toNatClampNeg x - gp_Bs S) + 0) ≤ 11 * P := gp_c_le _ _
    have mo := gm_pw_mono (show gp_rr P rk (11 * (Int32.toNatClampNeg x - gp_Bs S) + 0) + 1 ≤ 500000 by omega)
    have po := gm_pw_pos (gp_rr P rk (11 * (Int32.toNatClampNeg x - gp_Bs S) + 0) + 1)
    show 0 + gp_wt P rk (11 * (Int32.toNatClampNeg x - gp_Bs S) + 0) < gm_pw 500000
    unfold gp_wt
    omega
  · rw [pu.2, gp_ei_c hx.1 (by omega)]
    have c20 := (hcp _ _ hx).1
    have sd := gp_vc_sd hC hF hx.1 hx.2.1 hx.2.2.1
    have vx := hx.2.2.2
    show 0 + (0 + gp_ev cp (gp_Tb (gp_Bs S) (S.1 34)) (Int32.toNatClampNeg x) 0) ≤ 200
    unfold gp_ev
    rcases sd with sd | ⟨-, sd, -⟩
    · omega
    · split <;> omega
