/-! The machine that looks: pairs, choices, leaves; all of them. -/
/-- x and then y, where y's code stands from m to b -/
theorem gv_Ep {A : gv_A} {X : gt_X} {C : gv_C} {f : Nat → Int × Lean.ParserDescr} {fed k : Nat} {sub : Nat → Int} (h : gv_X A X C f fed sub) {x y : Lean.ParserDescr} (ihy : gv_E A X C fed k y) {q m b : Nat} {c0 : gv_Cf} {N : Nat} {fr : List gv_Fr} {K : List (Nat × Int)} {w : Nat} {M : gv_Mm} (hw : c0.2.2.2.2.1 = w) (hx : gv_P A c0 N (gv_c C k x q) (gv_G m q (gv_v C k x q) (gv_L C k x q) fr K (w + gv_c C k x q) M)) (hq : q ≤ fed) (hLy : gt_L X A.1 A.2.1 A.2.2.1 y m b) (hb : b ≤ A.2.2.2.2.1) (hdf : gv_df (fun c => X.2.2.2.2.2 c < A.2.2.2.2.2.1) y) (vx : gv_v C k x q ≠ -2) (vy : 0 ≤ gv_v C k x q → gv_v C k y (q + (gv_v C k x q).toNat) ≠ -2) (hd : 0 ≤ gv_v C k x q → fr.length + gv_d C k y (q + (gv_v C k x q).toNat) ≤ 550) (hp : 0 ≤ gv_v C k x q → K.length + ((gv_L C k x q).length + gv_p C k y (q + (gv_v C k x q).toNat)) ≤ 275) {v : Int} (hv : v = if gv_v C k x q < 0 then gv_v C k x q else if gv_v C k y (q + (gv_v C k x q).toNat) < 0 then gv_v C k y (q + (gv_v C k x q).toNat) else gv_v C k x q + gv_v C k y (q + (gv_v C k x q).toNat)) {t : Nat} (ht : t = if gv_v C k x q < 0 then gv_c C k x q else gv_c C k x q + gv_c C k y (q + (gv_v C k x q).toNat)) {N' : Nat} (hN : N' = if gv_v C k x q < 0 then N else N + gv_h (gv_c C k x q) (1000 - w) (gv_s C k y (q + (gv_v C k x q).toNat) (1000 - w - gv_c C k x q))) : gv_P A c0 N' t (gv_G b q v (gv_L C k x q ++ gv_L C k y (q + (gv_v C k x q).toNat)) fr K (w + t) M) := by
  have gx := gv_v_ge C k x q
  have lx := gv_v_le h k x q hq
  by_cases v0 : gv_v C k x q < 0
  · rw [if_pos v0] at hv ht hN
    subst hv ht hN
    exact gv_P_w hx (Nat.le_refl _) (fun s hs => gv_G_f hs (by omega))
  · rw [if_neg v0] at hv ht hN
    subst ht hN
    have v1 : 0 ≤ gv_v C k x q := by omega
    rw [← hw]
    refine gv_P_b2 hx (fun _ s hs => ?_)
    rw [hw]
    refine ⟨_, hs.1 v1, rfl, ?_⟩
    rw [Nat.sub_sub]
    have gy := gv_v_ge C k y (q + (gv_v C k x q).toNat)
    have ny := vy v1
    refine gv_P_w (ihy (q + (gv_v C k x q).toNat) ny m b hLy hb (by omega) hdf fr _ _ M (hd v1) (by have := hp v1; rw [List.length_append, gv_rv_l]; omega)) (Nat.le_refl _) (fun s hs => ?_)
    by_cases w0 : gv_v C k y (q + (gv_v C k x q).toNat) < 0
    · rw [if_pos w0] at hv
      refine ⟨fun w => absurd w (by omega), fun _ => ?_⟩
      obtain ⟨K', a', q', e⟩ := hs.2 (by omega)
      exact ⟨K' ++ gv_rv (gv_L C k x q), a', q', by rw [e, List.append_assoc, Nat.add_assoc w]⟩
    · rw [if_neg w0] at hv
      refine ⟨fun _ => ?_, fun w => absurd w (by omega)⟩
      rw [hs.1 (by omega), gv_rv_a, List.append_assoc, Nat.add_assoc w, hv, show q + (gv_v C k x q).toNat + (gv_v C k y (q + (gv_v C k x q).toNat)).toNat = q + (gv_v C k x q + gv_v C k y (q + (gv_v C k x q).toNat)).toNat by omega]
theorem gv_E4 {A : gv_A} {X : gt_X} {C : gv_C} {f : Nat → Int × Lean.ParserDescr} {fed k : Nat} {sub : Nat → Int} (h : gv_X A X C f fed sub) {nm : Lean.Name} {x y : Lean.ParserDescr} (ih : gv_E A X C fed k x) (ihy : gv_E A X C fed k y) (h4 : gp_n2 nm = 4) : gv_E A X C fed (k + 1) (.binary nm x y) := by
  intro q hv a b hL hb hq hdf fr K w M hfr hK
  obtain ⟨df1, df2, df3⟩ := hdf
  have ev : gv_v C (k + 1) (.binary nm x y) q = if gv_v C k x q < 0 then gv_v C k x q else if gv_v C k y (q + (gv_v C k x q).toNat) < 0 then gv_v C k y (q + (gv_v C k x q).toNat) else gv_v C k x q + gv_v C k y (q + (gv_v C k x q).toNat) := if_pos h4
  have ec : gv_c C (k + 1) (.binary nm x y) q = if gv_v C k x q < 0 then gv_c C k x q else gv_c C k x q + gv_c C k y (q + (gv_v C k x q).toNat) := if_pos h4
  have eL : gv_L C (k + 1) (.binary nm x y) q = gv_L C k x q ++ gv_L C k y (q + (gv_v C k x q).toNat) := if_pos h4
  have ed : gv_d C (k + 1) (.binary nm x y) q = if gv_v C k x q < 0 then (if gp_n1 nm = 1 then 1 else 0) + gv_d C k x q else max ((if gp_n1 nm = 1 then 1 else 0) + gv_d C k x q) (gv_d C k y (q + (gv_v C k x q).toNat)) := if_pos h4
  have ep : gv_p C (k + 1) (.binary nm x y) q = if gv_v C k x q < 0 then gv_p C k x q else max (gv_p C k x q) ((gv_L C k x q).length + gv_p C k y (q + (gv_v C k x q).toNat)) := if_pos h4
  have es : gv_s C (k + 1) (.binary nm x y) q (1000 - w) = if gv_v C k x q < 0 then (if gp_n1 nm = 1 then 3 else 0) + gv_s C k x q (1000 - w) else (if gp_n1 nm = 1 then 3 else 0) + gv_s C k x q (1000 - w) + gv_h (gv_c C k x q) (1000 - w) (gv_s C k y (q + (gv_v C k x q).toNat) (1000 - w - gv_c C k x q)) := if_pos h4
  have gx := gv_v_ge C k x q
  have vx : gv_v C k x q ≠ -2 := by
    intro e
    rw [e] at ev
    exact hv ev
  have vy : 0 ≤ gv_v C k x q → gv_v C k y (q + (gv_v C k x q).toNat) ≠ -2 := by
    intro v0 e
    rw [if_neg (by omega), e] at ev
    exact hv ev
  have dx : fr.length + ((if gp_n1 nm = 1 then 1 else 0) + gv_d C k x q) ≤ 550 := by
    rw [ed] at hfr
    by_cases v0 : gv_v C k x q < 0
    · rw [if_pos v0] at hfr; exact hfr
    · rw [if_neg v0] at hfr; omega
  have dy : 0 ≤ gv_v C k x q → fr.length + gv_d C k y (q + (gv_v C k x q).toNat) ≤ 550 := by
    intro v0
    rw [ed, if_neg (by omega)] at hfr
    omega
  have px : K.length + gv_p C k x q ≤ 275 := by
    rw [ep] at hK
    by_cases v0 : gv_v C k x q < 0
    · rw [if_pos v0] at hK; exact hK
    · rw [if_neg v0] at hK; omega
  have py : 0 ≤ gv_v C k x q → K.length + ((gv_L C k x q).length + gv_p C k y (q + (gv_v C k x q).toNat)) ≤ 275 := by
    intro v0
    rw [ep, if_neg (by omega)] at hK
    omega
  rw [eL]
  rcases hL with ⟨n1, -, l, m, l1, l2, l3, l4, l5, l6, l7, l8, l9, l10⟩ | ⟨n0, -, m, l1, l2⟩ | ⟨-, n5, -⟩
  · have ey := df3 n1 h4
    rw [if_pos n1] at dx es
    have lm := gt_L_le _ _ _ l7
    have lx := gt_lk_le l4
    have Ly : gt_L X A.1 A.2.1 A.2.2.1 y (a + 2) b := by
      rw [ey]
      exact Or.inl ⟨Or.inr rfl, l, m, l4, l5, l6, l7, l8, fun q => absurd q (by omega), fun _ => l9, l10⟩
    have st1 := gv_s3 (A := A) (a := a) (by omega) l1 q fr K w M
    unfold gv_pu at st1
    rw [if_pos (by omega), show (a : Int) + 1 = ((a + 1 : Nat) : Int) by omega] at st1
    have st2 := gv_s4 (A := A) (a := a + 1) (by omega) l2 q ((-1, q, K.length, -1) :: fr) K w M
    rw [l3] at st2
    have t := ih q vx (l + 1) m l7 (by omega) hq df1 ((-1, q, K.length, -1) :: fr) K w M (by show fr.length + 1 + _ ≤ 550; omega) px
    have t2 : gv_P A ((a : Nat), q, fr, K, w, M) (3 + gv_s C k x q (1000 - w)) (gv_c C k x q) (gv_G ((a + 2 : Nat) : Int) q (gv_v C k x q) (gv_L C k x q) fr K (w + gv_c C k x q) M) := by
      have t3 := gv_P_b (N2 := 1) (t2 := 0) (G2 := gv_G ((a + 2 : Nat) : Int) q (gv_v C k x q) (gv_L C k x q) fr K (w + gv_c C k x q) M)
        (gv_P_s st1 rfl (gv_P_s st2 rfl t))
      by_cases v0 : 0 ≤ gv_v C k x q
      · refine gv_P_w (t3 (fun _ s hs => ?_)) (by omega) (fun _ g => g)
        refine ⟨_, hs.1 v0, rfl, ?_⟩
        have st3 := gv_s5 (A := A) (a := m) (by omega) l8 (q + (gv_v C k x q).toNat) ((-1, q, K.length, -1) :: fr) (gv_rv (gv_L C k x q) ++ K) (w + gv_c C k x q) M
        rw [l9] at st3
        exact gv_P_1 st3 ⟨fun _ => rfl, fun w => absurd w (by omega)⟩
      · refine gv_P_w (gv_P_s st1 rfl (gv_P_s st2 rfl t)) (by omega) (fun s hs => ⟨fun w => absurd w v0, fun v1 => ?_⟩)
        obtain ⟨K', a', q', e⟩ := hs.2 v1
        rw [gv_fl_N] at e
        exact ⟨K', a', q', e⟩
    exact gv_Ep h ihy (c0 := ((a : Nat), q, fr, K, w, M)) rfl t2 hq Ly hb df2 vx vy dy py ev ec es
  · have nn : ¬ gp_n1 nm = 1 := by omega
    rw [if_neg nn] at dx es
    have l := gt_L_le _ _ _ l2
    have t := ih q vx a m l1 (by omega) hq df1 fr K w M (by omega) px
    refine gv_Ep h ihy (c0 := ((a : Nat), q, fr, K, w, M)) rfl t hq l2 hb df2 vx vy dy py ev ec ?_
    rw [es, Nat.zero_add]
  · omega
theorem gv_E5 {A : gv_A} (lo : A.2.2.2.2.2.2.2 = true) {X : gt_X} {C : gv_C} {f : Nat → Int × Lean.ParserDescr} {fed k : Nat} {sub : Nat → Int} (h : gv_X A X C f fed sub) {nm : Lean.Name} {x y : Lean.ParserDescr} (ih : gv_E A X C fed k x) (ihy : gv_E A X C fed k y) (h4 : ¬ gp_n2 nm = 4) : gv_E A X C fed (k + 1) (.binary nm x y) := by
  intro q hv a b hL hb hq hdf fr K w M hfr hK
  obtain ⟨df1, df2, -⟩ := hdf
  have ev : gv_v C (k + 1) (.binary nm x y) q = if C.2.2.2 x q = true then (if gv_v C k x q = -1 then gv_v C k y q else gv_v C k x q) else gv_v C k y q := if_neg h4
  have ec : gv_c C (k + 1) (.binary nm x y) q = if C.2.2.2 x q = true then (if gv_v C k x q = -1 then 1 + gv_c C k x q + gv_c C k y q else 1 + gv_c C k x q) else gv_c C k y q := if_neg h4
  have eL : gv_L C (k + 1) (.binary nm x y) q = if C.2.2.2 x q = true then (if gv_v C k x q = -1 then gv_L C k y q else gv_L C k x q) else gv_L C k y q := if_neg h4
  have ed : gv_d C (k + 1) (.binary nm x y) q = if C.2.2.2 x q = true then (if gv_v C k x q = -1 then max (1 + gv_d C k x q) (gv_d C k y q) else 1 + gv_d C k x q) else gv_d C k y q := if_neg h4
  have ep : gv_p C (k + 1) (.binary nm x y) q = if C.2.2.2 x q = true then (if gv_v C k x q = -1 then max (gv_p C k x q) (gv_p C k y q) else gv_p C k x q) else gv_p C k y q := if_neg h4
  have es : gv_s C (k + 1) (.binary nm x y) q (1000 - w) = if C.2.2.2 x q = true then (if gv_v C k x q = -1 then 3 + gv_g (1000 - w) (gv_s C k x q (1000 - (w + 1))) + gv_h (1 + gv_c C k x q) (1000 - w) (gv_s C k y q (1000 - w - (1 + gv_c C k x q))) else 3 + gv_g (1000 - w) (gv_s C k x q (1000 - (w + 1)))) else 1 + gv_s C k y q (1000 - w) := if_neg h4
  rcases hL with ⟨-, n4, -⟩ | ⟨-, n4, -⟩ | ⟨-, -, l, m, l1, l2, l3, l4, l5, l6, l7⟩
  · exact absurd n4 h4
  · exact absurd n4 h4
  · have lm := gt_L_le _ _ _ l4
    have lb := gt_L_le _ _ _ l7
    have gx := gv_v_ge C k x q
    by_cases z : C.2.2.2 x q = true
    · rw [if_pos z] at ev ec eL ed ep es
      by_cases v1 : gv_v C k x q = -1
      · rw [if_pos v1] at ev ec eL ed ep es
        rw [ev] at hv
        rw [ed] at hfr
        rw [ep] at hK
        have t := gv_try lo (t := ((m + 1 : Nat) : Int)) (by omega) l2 l3 (q := q) (fr := fr) (K := K) (w := w) (M := M) (by omega) (ih q (by omega) (l + 1) m l4 (by omega) hq df1 _ K (w + 1) M (by show fr.length + 1 + _ ≤ 550; omega) (by omega))
        have t2 := gv_P_b2 (N2 := gv_s C k y q (1000 - w - (1 + gv_c C k x q))) (t2 := gv_c C k y q) (G2 := gv_G b q (gv_v C k y q) (gv_L C k y q) fr K (w + (1 + gv_c C k x q + gv_c C k y q)) M) t (fun _ s hs => ?_)
        · rw [ev, ec, eL, es]
          refine gv_P_w (gv_lk_y h l1 (by omega) hq z t2) ?_ (fun _ g => g)
          show 1 + (1 + gv_g (1000 - w) (gv_s C k x q (1000 - (w + 1))) + gv_h (1 + gv_c C k x q) (1000 - w) (gv_s C k y q (1000 - w - (1 + gv_c C k x q)))) ≤ _
          omega
        · obtain ⟨K', a', q', e⟩ := hs.2 v1
          rw [gv_fl_F (by omega)] at e
          refine ⟨_, e, by show w + 1 + _ = w + (1 + _); omega, ?_⟩
          have ty := ihy q hv (m + 1) b l7 hb hq df2 fr K (w + 1 + gv_c C k x q) M (by omega) (by omega)
          rw [show 1000 - (w + 1 + gv_c C k x q) = 1000 - w - (1 + gv_c C k x q) by omega, show w + 1 + gv_c C k x q + gv_c C k y q = w + (1 + gv_c C k x q + gv_c C k y q) by omega] at ty
          exact ty
      · rw [if_neg v1] at ev ec eL ed ep es
        rw [ev] at hv
        rw [ed] at hfr
        rw [ep] at hK
        have v0 : 0 ≤ gv_v C k x q := by omega
        have t := gv_try lo (t := ((m + 1 : Nat) : Int)) (by omega) l2 l3 (q := q) (fr := fr) (K := K) (w := w) (M := M) (by omega) (ih q hv (l + 1) m l4 (by omega) hq df1 _ K (w + 1) M (by show fr.length + 1 + _ ≤ 550; omega) (by omega))
        have t2 := gv_P_b (N2 := 1) (t2 := 0) (G2 := gv_G b q (gv_v C k x q) (gv_L C k x q) fr K (w + (1 + gv_c C k x q)) M) t (fun _ s hs => ?_)
        · rw [ev, ec, eL, es]
          exact gv_P_w (gv_lk_y h l1 (by omega) hq z t2) (by omega) (fun _ g => g)
        · refine ⟨_, hs.1 v0, by show w + 1 + _ = w + (1 + _); omega, ?_⟩
          have st := gv_s5 (A := A) (a := m) (by omega) l5 (q + (gv_v C k x q).toNat) ((((m + 1 : Nat) : Int), q, K.length, -1) :: fr) (gv_rv (gv_L C k x q) ++ K) (w + 1 + gv_c C k x q) M
          rw [l6] at st
          refine gv_P_1 st ⟨fun _ => ?_, fun w => absurd w v1⟩
          rw [show w + 1 + gv_c C k x q = w + (1 + gv_c C k x q) by omega]
          rfl
    · rw [if_neg z] at ev ec eL ed ep es
      rw [ev] at hv
      rw [ed] at hfr
      rw [ep] at hK
      rw [ev, ec, eL, es]
      exact gv_lk_n lo h l1 (by omega) hq z (ihy q hv (m + 1) b l7 hb hq df2 fr K w M hfr hK)
/-- a leaf -/
theorem gv_E0 {A : gv_A} (lo : A.2.2.2.2.2.2.2 = true) {X : gt_X} {C : gv_C} {f : Nat → Int × Lean.ParserDescr} {fed k : Nat} {sub : Nat → Int} (h : gv_X A X C f fed sub) {nm : Lean.Name} {j : Nat} (ih : ∀ e, gv_E A X C fed k e) : gv_E A X C fed (k + 1) (.cat nm j) := by
  intro q hv a b hL hb hq hdf fr K w M hfr hK
  obtain ⟨j3, k0, k1, k2, k3⟩ := hL
  have : j = 0 ∨ j = 1 ∨ j = 2 ∨ j = 3 := by omega
  rcases this with e | e | e | e
  · subst e
    have e := k0 rfl
    subst e
    exact gv_P_r 0 ⟨fun _ => rfl, fun w => absurd (show (0 : Int) = -1 from w) (by omega)⟩
  · subst e
    obtain ⟨e1, e2⟩ := k1 rfl
    have hr := h.2.2.2.1 (gp_n1 nm) (gp_n2 nm) q hq
    have r := gv_row h.1 lo (a := a) (m := gp_n2 nm) (n1 := gp_n1 nm) (by omega) e2 (q := q) fr K w M (v := gv_v C (k + 1) (.cat nm 1) q) ?_ (gp_n2 nm) 0 (by omega) (by omega) (fun j hj => absurd hj (by omega))
    · rw [← e1, show (a : Int) + ((0 : Nat) : Int) = a by omega, Nat.add_zero] at r
      exact r
    · have ev : gv_v C (k + 1) (.cat nm 1) q = if C.2.1 (gp_n1 nm) (gp_n2 nm) q = true then (gp_n2 nm : Int) else -1 := rfl
      rw [ev]
      by_cases z : C.2.1 (gp_n1 nm) (gp_n2 nm) q = true
      · rw [if_pos z]
        exact ⟨by omega, fun _ => ⟨rfl, hr.mp z⟩, fun w => absurd w (by omega)⟩
      · rw [if_neg z]
        exact ⟨by omega, fun w => absurd w (by omega), fun _ => ⟨rfl, fun w => z (hr.mpr w)⟩⟩
  · subst e
    obtain ⟨e1, e2, e3⟩ := k2 rfl
    have hc := h.2.2.2.2.1 (gp_n1 nm) (gp_n2 nm) q hq
    have hd := h.1 _ _ q hq e3
    have ev : gv_v C (k + 1) (.cat nm 2) q = if C.2.2.1 (gp_n1 nm) (gp_n2 nm) q = true then 1 else -1 := rfl
    have st := gv_s0 (A := A) (a := a) (by omega) e2 q fr K w M
    rw [ev]
    by_cases z : C.2.2.1 (gp_n1 nm) (gp_n2 nm) q = true
    · rw [if_pos z]
      rw [if_pos (hd.mpr (hc.mp z))] at st
      refine gv_P_1 st ⟨fun _ => ?_, fun w => absurd w (by omega)⟩
      rw [e1]
      rfl
    · rw [if_neg z]
      rw [if_neg (fun w => z (hc.mpr (hd.mp w))), lo] at st
      exact gv_P_1 st ⟨fun w => absurd w (by omega), fun _ => ⟨[], _, _, rfl⟩⟩
  · subst e
    obtain ⟨e1, e2, e3⟩ := k3 rfl
    have hn : X.2.2.2.2.2 (gp_n1 nm) < A.2.2.2.2.2.1 := hdf rfl
    obtain ⟨hdr, a', b', s1, s2, s3, s4⟩ := h.2.2.2.2.2 _ hn
    have ev : gv_v C (k + 1) (.cat nm 3) q = gv_v C k (C.1 (gp_n1 nm)) q := rfl
    have ec : gv_c C (k + 1) (.cat nm 3) q = gv_c C k (C.1 (gp_n1 nm)) q := rfl
    have eL : gv_L C (k + 1) (.cat nm 3) q = gv_L C k (C.1 (gp_n1 nm)) q := rfl
    have ed : gv_d C (k + 1) (.cat nm 3) q = 1 + gv_d C k (C.1 (gp_n1 nm)) q := rfl
    have ep : gv_p C (k + 1) (.cat nm 3) q = gv_p C k (C.1 (gp_n1 nm)) q := rfl
    have es : gv_s C (k + 1) (.cat nm 3) q (1000 - w) = 2 + gv_s C k (C.1 (gp_n1 nm)) q (1000 - w) := rfl
    rw [h.2.2.1] at ev ec eL ed ep es
    rw [ev] at hv
    rw [ed] at hfr
    rw [ep] at hK
    have st := gv_s8 (A := A) (a := a) (by omega) e2 q fr K w M
    rw [lo, if_pos (Or.inl rfl), e3, if_pos rfl] at st
    unfold gv_pu at st
    have sta : gv_sta A ((X.2.2.2.2.2 (gp_n1 nm) : Nat) : Int) = (a' : Nat) := by
      unfold gv_sta
      rw [if_pos ⟨by omega, by omega⟩]
      exact s1
    rw [if_pos (by omega), sta] at st
    have t := ih _ q hv a' b' s2 (by omega) hq hdr (((a : Int) + 1, q, K.length, ((X.2.2.2.2.2 (gp_n1 nm) : Nat) : Int)) :: fr) K w M (by show fr.length + 1 + _ ≤ 550; omega) hK
    rw [ev, ec, eL, es]
    by_cases v0 : 0 ≤ gv_v C k (f (X.2.2.2.2.2 (gp_n1 nm))).2 q
    · have t2 := gv_P_b (N2 := 1) (t2 := 0) (G2 := gv_G b q (gv_v C k (f (X.2.2.2.2.2 (gp_n1 nm))).2 q) (gv_L C k (f (X.2.2.2.2.2 (gp_n1 nm))).2 q) fr K (w + gv_c C k (f (X.2.2.2.2.2 (gp_n1 nm))).2 q) M) t (fun _ s hs => ?_)
      · exact gv_P_w (gv_P_s st rfl t2) (by omega) (fun _ g => g)
      · refine ⟨_, hs.1 v0, rfl, ?_⟩
        have st2 := gv_s9 (A := A) (a := b') s4 s3 (q + (gv_v C k (f (X.2.2.2.2.2 (gp_n1 nm))).2 q).toNat) ((a : Int) + 1, q, K.length, ((X.2.2.2.2.2 (gp_n1 nm) : Nat) : Int)) (by show ¬ ((X.2.2.2.2.2 (gp_n1 nm) : Nat) : Int) = -1; omega) fr (gv_rv (gv_L C k (f (X.2.2.2.2.2 (gp_n1 nm))).2 q) ++ K) (w + gv_c C k (f (X.2.2.2.2.2 (gp_n1 nm))).2 q) M
        rw [lo, if_pos rfl] at st2
        refine gv_P_1 st2 ⟨fun _ => ?_, fun w => absurd w (by omega)⟩
        rw [e1]
        rfl
    · refine gv_P_w (gv_P_s st rfl t) (by omega) (fun s hs => ⟨fun w => absurd w v0, fun v1 => ?_⟩)
      obtain ⟨K', a', q', e⟩ := hs.2 v1
      rw [gv_fl_R (by omega)] at e
      exact ⟨K', a', q', e⟩
/-- the machine that looks does what the expressions do -/
theorem gv_sim {A : gv_A} (lo : A.2.2.2.2.2.2.2 = true) {X : gt_X} {C : gv_C} {f : Nat → Int × Lean.ParserDescr} {fed : Nat} {sub : Nat → Int} (h : gv_X A X C f fed sub) : ∀ (k : Nat) (e : Lean.ParserDescr), gv_E A X C fed k e := by
  intro k
  induction k with
  | zero => intro e q hv; exact absurd (show gv_v C 0 e q = -2 from rfl) hv
  | succ k ih =>
    intro e
    cases e with
    | cat nm j => exact gv_E0 lo h ih
    | node nm j x =>
      intro q hv a b hL
      have : j = 6 ∨ j = 7 ∨ j = 8 ∨ j = 9 ∨ j = 10 := by
        rcases hL with ⟨n, -⟩ | ⟨n, -⟩ | ⟨n, -⟩ | ⟨n, -⟩ <;> omega
      rcases this with e | e | e | e | e
      · subst e; exact gv_E6 lo h (ih x) q hv a b hL
      · subst e; exact gv_E7 lo h (ih x) (ih _) q hv a b hL
      · subst e; exact gv_E8 lo (ih x) q hv a b hL
      · subst e; exact gv_E9 lo (ih x) q hv a b hL
      · subst e; exact gv_E10 (ih x) q hv a b hL
    | binary nm x y =>
      by_cases h4 : gp_n2 nm = 4
      · exact gv_E4 h (ih x) (ih y) h4
      · exact gv_E5 lo h (ih x) (ih y) h4
    | _ => intro q hv a b hL; exact hL.elim
