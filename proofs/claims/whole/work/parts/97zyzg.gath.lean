/-! The reference gathers what the expressions capture. -/
/-- the cells that wait, the top first, and what they will bring -/
def gc_S (S : gm_S) (P fed : Nat) (Pg : Nat → Nat → Nat → Prop) (C : gv_C) (a : Nat → Int32) : Nat → Nat → List (Nat × Nat × Int) → Prop
  | 0, _, L => L = []
  | h + 1, n, L => ∃ m q l r, gp_vc S P fed m q ∧ (a (2 * h)).toInt = ((11 * (m - gp_Bs S) + q : Nat) : Int) ∧ gc_P Pg (S.1 10) (S.1 11) (S.1 12) (gp_Bs S) C m q (a (2 * h + 1)).toInt n l ∧ L = l ++ r ∧ gc_S S P fed Pg C a h (n + l.length) r
theorem gc_S_ext {S : gm_S} {P fed : Nat} {Pg : Nat → Nat → Nat → Prop} {C : gv_C} {a b : Nat → Int32} : ∀ {h : Nat}, (∀ i, i < 2 * h → b i = a i) → ∀ (n : Nat) (L : List (Nat × Nat × Int)), gc_S S P fed Pg C a h n L → gc_S S P fed Pg C b h n L := by
  intro h
  induction h with
  | zero => intro _ n L w; exact w
  | succ h ih =>
    intro e n L w
    obtain ⟨m, q, l, r, w1, w2, w3, w4, w5⟩ := w
    exact ⟨m, q, l, r, w1, by rw [e _ (by omega)]; exact w2, by rw [e _ (by omega)]; exact w3, w4, ih (fun i hi => e i (by omega)) _ _ w5⟩
/-- what has been made: nd nodes that were there, and those of L -/
def gc_Q (U : gm_S) (nd : Nat) (L : List (Nat × Nat × Int)) (z : Int32 × gm_S) : Prop := (z.2.2.2 41).toInt = ((nd + L.length : Nat) : Int) ∧ (∀ i, i < nd → z.2.1 42 i = U.1 42 i ∧ z.2.1 43 i = U.1 43 i ∧ z.2.1 44 i = U.1 44 i) ∧ ∀ i t, L[i]? = some t → (z.2.1 42 (nd + i)).toInt = (t.1 : Nat) ∧ (z.2.1 43 (nd + i)).toInt = (t.2.1 : Nat) ∧ (z.2.1 44 (nd + i)).toInt = t.2.2
theorem gc_gather17 (x : Int32) (S u14 : gm_S) {P fed : Nat} (hC : gp_WC S P fed) {rank : Nat → Nat} (RK : gp_RK (S.1 10) (S.1 11) (S.1 12) (gp_Mz S) (S.1 15) (gp_Bs S) P rank) {rk : Nat → Nat} {t : Nat} (hF : gp_FT S P fed rk t) {cp : Nat → Nat → Nat} (hcp : gp_CP S P fed rk cp) {Pg : Nat → Nat → Nat → Prop} {C : gv_C} (hTT : gy_T (S.1 10) (S.1 11) (S.1 12) (gp_Mz S) Pg (gp_So S fed) (gp_Sr S fed) (gp_Bs S) P fed (gp_Tb (gp_Bs S) (S.1 34)) (gp_Tb (gp_Bs S) (S.1 35)) C) : ∀ (n : Nat) (U : gm_S) (h nd : Nat) (L : List (Nat × Nat × Int)), (U.2.2 38).toInt = ((2 * h : Nat) : Int) → (U.2.2 41).toInt = (nd : Int) → gp_GI S P fed rk cp (U.1 37) h nd n → gc_S S P fed Pg C (U.1 37) h nd L → gm_p_MD_gather_17 x S u14 n U ∧ gc_Q U nd L (gm_f_MD_gather_17 x S u14 n U) := by
  have hC' := hC
  obtain ⟨⟨b0, b1⟩, ⟨p0, p1⟩, ⟨f0, f1⟩, ⟨ty, hU⟩, SC⟩ := hC'
  have r1 := hU.2.2.1.2
  have cb := gx_cl (S.2.2 4) b0
  have hB : gp_Bs S = 160 * Int32.toNatClampNeg (S.2.2 4) := rfl
  have z0 : (0 : Int32).toInt = 0 := by decide
  have n1 : (-1 : Int32).toInt = -1 := by decide
  obtain ⟨wt, hwt⟩ : ∃ wt, wt = gp_wt P rk := ⟨_, rfl⟩
  obtain ⟨ei, hei⟩ : ∃ ei, ei = gp_ei S cp := ⟨_, rfl⟩
  obtain ⟨dd, hdd⟩ : ∃ dd, dd = gp_dd (S.1 10) (gp_Bs S) P rk := ⟨_, rfl⟩
  obtain ⟨ev, hev⟩ : ∃ ev, ev = gp_ev cp (gp_Tb (gp_Bs S) (S.1 34)) := ⟨_, rfl⟩
  have Wpos : ∀ c, 1 ≤ wt c := fun c => by rw [hwt]; exact gp_wt_pos P rk c
  have W1 : ∀ c c1, rk c1 < rk c → c1 < 11 * P → wt c1 + 1 ≤ wt c := fun c c1 h1 h2 => by rw [hwt]; exact gp_wt_1 h1 h2
  have W2 : ∀ c c1 c2, rk c1 < rk c → c1 < 11 * P → rk c2 < rk c → c2 < 11 * P → wt c1 + wt c2 + 1 ≤ wt c := fun c c1 c2 h1 h2 h3 h4 => by rw [hwt]; exact gp_wt_2 h1 h2 h3 h4
  have Dle : ∀ c c1, rk c1 < rk c → dd c1 ≤ dd c := fun c c1 h1 => by rw [hdd]; exact gp_dd_le h1
  have Dlt : ∀ c c1, rk c1 < rk c → c < 11 * P → ((S.1 10 (gp_Bs S + c / 11)).toInt = 4 ∨ (S.1 10 (gp_Bs S + c / 11)).toInt = 7) → dd c1 + 1 ≤ dd c := fun c c1 h1 h2 h3 => by rw [hdd]; exact gp_dd_lt h1 h2 h3
  have Eic : ∀ m q, gp_Bs S ≤ m → q ≤ 10 → ei (11 * (m - gp_Bs S) + q) = ev m q := fun m q h1 h2 => by rw [hei, hev]; exact gp_ei_c h1 h2
  intro n
  induction n with
  | zero => intro U h nd L _ _ hG _; exact absurd hG.2.1 (by omega)
  | succ n ih =>
    intro U h nd L hw hnd hG hSt
    obtain ⟨Q, hQ⟩ : ∃ Q, Q = gc_Q U nd L := ⟨_, rfl⟩
    rw [← hQ]
    obtain ⟨G1, G2, G3⟩ := hG
    rw [← hwt] at G2
    rw [← hei] at G3
    rw [gm_p_MD_gather_17, gm_f_MD_gather_17]
    refine gx_if (Q := Q) (fun q => ⟨trivial, ?_⟩) (fun q => ?_)
    · rw [hQ]
      have q9 := gx_ler (k := 0) z0 q
      have h0 : h = 0 := by omega
      subst h0
      have hSt : L = [] := hSt
      subst hSt
      exact ⟨by show (U.2.2 41).toInt = ((nd + 0 : Nat) : Int); omega, fun i _ => ⟨rfl, rfl, rfl⟩, fun i t ht => absurd ht (by rw [List.getElem?_nil]; intro w; cases w)⟩
    have q1 := gx_lenr (k := 0) z0 q
    obtain ⟨g, hg⟩ : ∃ g, h = g + 1 := ⟨h - 1, by omega⟩
    subst hg
    obtain ⟨m, p, l, r0, hv, hc, hP, hL, hS⟩ := hSt
    obtain ⟨m9, p9, hv9, hc9, hd⟩ := G1 g (by omega)
    rw [show 11 * (m9 - gp_Bs S) + p9 = 11 * (m - gp_Bs S) + p by omega] at hd
    clear hv9 hc9
    rw [← hdd] at hd
    have hgb : g ≤ 825 := by omega
    have s2 := gx_sk (U.2.2 38) 2 2 (gx_lit 2 (by decide))
    have s3 : ((U.2.2 38) - 2).toInt = ((2 * g : Nat) : Int) := by omega
    have s4 := gx_ak ((U.2.2 38) - 2) 1 1 (by decide)
    have e2 : Int32.toNatClampNeg ((U.2.2 38) - 2) = 2 * g := gp_cl_n s3
    have su : ∀ f, gp_su f (U.1 37) (g + 1) = gp_su f (U.1 37) g + f (11 * (m - gp_Bs S) + p) := fun f => by
      have e : gp_su f (U.1 37) (g + 1) = gp_su f (U.1 37) g + f (Int32.toNatClampNeg (U.1 37 (2 * g))) := rfl
      rw [e, gp_cl_n hc]
    rw [su] at G2 G3
    have v1 := hv.1
    have v2 := hv.2.1
    have v3 := hv.2.2.1
    have v4 := hv.2.2.2
    rw [Eic m p v1 (by omega)] at G3
    have d11 := gx_d11 (U.1 37 (2 * g)) (by omega) (by omega)
    have mm := gx_mk 160 (S.2.2 4) 160 (gx_lit 160 (by decide))
    have ma := gx_ad (160 * (S.2.2 4)) ((U.1 37 (2 * g)) / 11)
    have X0 : ((160 * (S.2.2 4)) + (((U.1 37) (Int32.toNatClampNeg ((U.2.2 38) - 2))) / 11)).toInt = (m : Int) := by rw [e2]; omega
    have Y0 : (((U.1 37) (Int32.toNatClampNeg ((U.2.2 38) - 2))) - ((U.1 37) (Int32.toNatClampNeg ((U.2.2 38) - 2))) / 11 * 11).toInt = (p : Int) := by rw [e2]; omega
    have i38 : vp_in ((U.2.2 38) - 2) 1760 := vp_in_iff.mpr (by omega)
    have i39 : vp_in (((U.2.2 38) - 2) + 1) 1760 := vp_in_iff.mpr (by omega)
    clear mm ma d11
    generalize ((160 * (S.2.2 4)) + (((U.1 37) (Int32.toNatClampNeg ((U.2.2 38) - 2))) / 11)) = X at X0 ⊢
    generalize (((U.1 37) (Int32.toNatClampNeg ((U.2.2 38) - 2))) - ((U.1 37) (Int32.toNatClampNeg ((U.2.2 38) - 2))) / 11 * 11) = Y at Y0 ⊢
    have e3 : Int32.toNatClampNeg (((U.2.2 38) - 2) + 1) = 2 * g + 1 := gp_cl_n (by omega)
    have I0 : (U.1 37) (Int32.toNatClampNeg (((U.2.2 38) - 2) + 1)) = U.1 37 (2 * g + 1) := by rw [e3]
    generalize ((U.1 37) (Int32.toNatClampNeg (((U.2.2 38) - 2) + 1))) = I at I0 ⊢
    rw [← I0] at hP
    have cX : Int32.toNatClampNeg X = m := gp_cl_n X0
    have cY : Int32.toNatClampNeg Y = p := gp_cl_n Y0
    have iX : vp_in X 320 := vp_in_iff.mpr (by omega)
    refine gx_in (Q := Q) i38 (gx_in (Q := Q) i38 (gx_in (Q := Q) i39 (gx_in (Q := Q) iX (gx_in (Q := Q) iX ?_))))
    rw [cX]
    have DD := fun (_ : Unit) => gc_down hTT v1 v2 v3 hP
    have D3 := fun (_ : Unit) => (gp_down hC RK hF hv).1
    have D4 := fun (_ : Unit) => (gp_down hC RK hF hv).2.1
    have D5 := fun (_ : Unit) => (gp_down hC RK hF hv).2.2.1
    have D6 := fun (_ : Unit) => (gp_down hC RK hF hv).2.2.2.1
    have D7 := fun (_ : Unit) => (gp_down hC RK hF hv).2.2.2.2.1
    have D10 := fun (_ : Unit) => (gp_down hC RK hF hv).2.2.2.2.2
    have C3 := fun (_ : Unit) => (hcp m p hv).2.1
    have C4 := fun (_ : Unit) => (hcp m p hv).2.2.1
    have C45 := fun (_ : Unit) => (hcp m p hv).2.2.2.1
    have C10 := fun (_ : Unit) => (hcp m p hv).2.2.2.2
    have n4 := fun (_ : Unit) => (SC.1 m v1 v2).2.1
    have n45 := fun (_ : Unit) => (SC.1 m v1 v2).2.2.1
    have n3 := fun (_ : Unit) => (SC.1 m v1 v2).2.2.2.2
    have wp := Wpos (11 * (m - gp_Bs S) + p)
    have ci : 11 * (m - gp_Bs S) + p < 11 * P := by omega
    have cin : ∀ m' q', gp_vc S P fed m' q' → 11 * (m' - gp_Bs S) + q' < 11 * P := by
      rintro m' q' ⟨a1, a2, a3, -⟩
      omega
    have none : l = [] → gm_p_MD_gather_17 x S u14 n ((va_up (va_up (va_up (va_up S.1 37 (U.1 37)) 42 (U.1 42)) 43 (U.1 43)) 44 (U.1 44)), S.2.1, (va_up (va_up S.2.2 38 ((U.2.2 38) - 2)) 41 (U.2.2 41))) ∧ Q (gm_f_MD_gather_17 x S u14 n ((va_up (va_up (va_up (va_up S.1 37 (U.1 37)) 42 (U.1 42)) 43 (U.1 43)) 44 (U.1 44)), S.2.1, (va_up (va_up S.2.2 38 ((U.2.2 38) - 2)) 41 (U.2.2 41)))) := by
      intro hl
      have i := ih ((va_up (va_up (va_up (va_up S.1 37 (U.1 37)) 42 (U.1 42)) 43 (U.1 43)) 44 (U.1 44)), S.2.1, (va_up (va_up S.2.2 38 ((U.2.2 38) - 2)) 41 (U.2.2 41))) g nd r0 s3 hnd ⟨fun i hi => G1 i (by omega), by rw [← hwt]; show gp_su wt (U.1 37) g < n; omega, by rw [← hei]; show nd + gp_su ei (U.1 37) g ≤ 200; omega⟩ (by rw [hl] at hS; exact hS)
      refine ⟨i.1, ?_⟩
      rw [hQ, hL, hl]
      exact i.2
    have one : ∀ (W : gm_S) (m' : Nat) (dn : Nat), gp_kid S P fed rk m p m' p → gp_Tb (gp_Bs S) (S.1 34) m p = gp_Tb (gp_Bs S) (S.1 34) m' p → (1 ≤ dn → 0 < gp_Tb (gp_Bs S) (S.1 34) m p) → cp m' p + dn ≤ cp m p → (W.2.2 38).toInt = ((2 * (g + 1) : Nat) : Int) → (W.2.2 41).toInt = ((nd + dn : Nat) : Int) → (∃ (r y : Int32), r.toInt = ((11 * (m' - gp_Bs S) + p : Nat) : Int) ∧ W.1 37 = upd (upd (U.1 37) (2 * g) r) (2 * g + 1) y) → ∀ L', gc_S S P fed Pg C (W.1 37) (g + 1) (nd + dn) L' → (∀ z, gc_Q W (nd + dn) L' z → gc_Q U nd L z) → gm_p_MD_gather_17 x S u14 n W ∧ Q (gm_f_MD_gather_17 x S u14 n W) := by
      intro W m' dn hk hT h0 hc' w38 w41 hr L' hS' hQ'
      obtain ⟨r, y, hr1, hr2⟩ := hr
      have wt1 := W1 _ _ hk.2.1 (cin _ _ hk.1)
      have dl := Dle _ _ hk.2.1
      have ev1 := gp_ev_1 (cp := cp) (T := gp_Tb (gp_Bs S) (S.1 34)) hT h0 hc'
      rw [← hev] at ev1
      have pu := gp_GI_push (cp := cp) (nd := 0) (fun i hi => G1 i (by omega)) hk.1 f1 (show g + gp_dd (S.1 10) (gp_Bs S) P rk (11 * (m' - gp_Bs S) + p) ≤ 825 by rw [← hdd]; omega) (y := y) hr1
      rw [hQ]
      refine (fun i => ⟨i.1, hQ' _ i.2⟩) (ih W (g + 1) (nd + dn) L' w38 w41 ?_ hS')
      rw [hr2]
      refine ⟨pu.1, ?_, ?_⟩
      · rw [pu.2, ← hwt]; omega
      · rw [pu.2, ← hei, Eic _ _ hk.1.1 (by omega)]; omega
    have two : ∀ (W : gm_S) (m1 m2 q2 : Nat), ((S.1 10 m).toInt = 4 ∨ (S.1 10 m).toInt = 7) → gp_kid S P fed rk m p m1 p → gp_kid S P fed rk m p m2 q2 → ev m1 p + ev m2 q2 ≤ ev m p → (W.2.2 38).toInt = ((2 * (g + 1 + 1) : Nat) : Int) → (W.2.2 41).toInt = (nd : Int) → (∃ (r y r' y' : Int32), r.toInt = ((11 * (m2 - gp_Bs S) + q2 : Nat) : Int) ∧ r'.toInt = ((11 * (m1 - gp_Bs S) + p : Nat) : Int) ∧ W.1 37 = upd (upd (upd (upd (U.1 37) (2 * g) r) (2 * g + 1) y) (2 * (g + 1)) r') (2 * (g + 1) + 1) y') → ∀ L', gc_S S P fed Pg C (W.1 37) (g + 1 + 1) nd L' → (∀ z, gc_Q W nd L' z → gc_Q U nd L z) → gm_p_MD_gather_17 x S u14 n W ∧ Q (gm_f_MD_gather_17 x S u14 n W) := by
      intro W m1 m2 q2 k47 hk1 hk2 hevs w38 w41 hr L' hS' hQ'
      obtain ⟨r, y, r', y', hr1, hr1', hr2⟩ := hr
      have wt2 := W2 _ _ _ hk1.2.1 (cin _ _ hk1.1) hk2.2.1 (cin _ _ hk2.1)
      have e1 : gp_Bs S + (11 * (m - gp_Bs S) + p) / 11 = m := by omega
      have k47' : (S.1 10 (gp_Bs S + (11 * (m - gp_Bs S) + p) / 11)).toInt = 4 ∨ (S.1 10 (gp_Bs S + (11 * (m - gp_Bs S) + p) / 11)).toInt = 7 := by rw [e1]; exact k47
      have dl1 := Dlt _ _ hk1.2.1 ci k47'
      have dl2 := Dle _ _ hk2.2.1
      have pu := gp_GI_push (cp := cp) (nd := 0) (fun i hi => G1 i (by omega)) hk2.1 f1 (show g + gp_dd (S.1 10) (gp_Bs S) P rk (11 * (m2 - gp_Bs S) + q2) ≤ 825 by rw [← hdd]; omega) (y := y) hr1
      have pu' := gp_GI_push (cp := cp) (nd := 0) pu.1 hk1.1 f1 (show g + 1 + gp_dd (S.1 10) (gp_Bs S) P rk (11 * (m1 - gp_Bs S) + p) ≤ 825 by rw [← hdd]; omega) (y := y') hr1'
      rw [hQ]
      refine (fun i => ⟨i.1, hQ' _ i.2⟩) (ih W (g + 1 + 1) nd L' w38 w41 ?_ hS')
      rw [hr2]
      have q2f := hk2.1.2.2.1
      refine ⟨pu'.1, ?_, ?_⟩
      · rw [pu'.2, pu.2, ← hwt]; omega
      · rw [pu'.2, pu.2, ← hei, Eic _ _ hk1.1.1 (by omega), Eic _ _ hk2.1.1 (by omega)]; omega
    have mk1 : ∀ (a37 : Nat → Int32) (m' : Nat) (r y : Int32) (n' : Nat) (l' : List (Nat × Nat × Int)), gp_vc S P fed m' p → r.toInt = ((11 * (m' - gp_Bs S) + p : Nat) : Int) → a37 = upd (upd (U.1 37) (2 * g) r) (2 * g + 1) y → gc_P Pg (S.1 10) (S.1 11) (S.1 12) (gp_Bs S) C m' p y.toInt n' l' → n' + l'.length = nd + l.length → gc_S S P fed Pg C a37 (g + 1) n' (l' ++ r0) := by
      intro a37 m' r y n' l' a1 a2 a3 a4 a5
      refine ⟨m', p, l', r0, a1, ?_, ?_, rfl, ?_⟩
      · rw [a3, gx_un _ _ _ (by omega), gx_us]; exact a2
      · rw [a3, gx_us]; exact a4
      · rw [a5]
        exact gc_S_ext (fun i hi => by rw [a3, gx_un _ _ _ (by omega), gx_un _ _ _ (by omega)]) _ _ hS
    have mk2 : ∀ (a37 : Nat → Int32) (m1 m2 q2 : Nat) (r r' : Int32) (l1 l2 : List (Nat × Nat × Int)), gp_vc S P fed m1 p → gp_vc S P fed m2 q2 → r.toInt = ((11 * (m2 - gp_Bs S) + q2 : Nat) : Int) → r'.toInt = ((11 * (m1 - gp_Bs S) + p : Nat) : Int) → a37 = upd (upd (upd (upd (U.1 37) (2 * g) r) (2 * g + 1) I) (2 * (g + 1)) r') (2 * (g + 1) + 1) I → gc_P Pg (S.1 10) (S.1 11) (S.1 12) (gp_Bs S) C m1 p I.toInt nd l1 → gc_P Pg (S.1 10) (S.1 11) (S.1 12) (gp_Bs S) C m2 q2 I.toInt (nd + l1.length) l2 → l = l1 ++ l2 → gc_S S P fed Pg C a37 (g + 1 + 1) nd L := by
      intro a37 m1 m2 q2 r r' l1 l2 a1 a2 a3 a4 a5 a6 a7 a8
      refine ⟨m1, p, l1, l2 ++ r0, a1, ?_, ?_, by rw [hL, a8, List.append_assoc], m2, q2, l2, r0, a2, ?_, ?_, rfl, ?_⟩
      · rw [a5, gx_un _ _ _ (by omega), gx_us]; exact a4
      · rw [a5, gx_us]; exact a6
      · rw [a5, gx_un _ _ _ (by omega), gx_un _ _ _ (by omega), gx_un _ _ _ (by omega), gx_us]; exact a3
      · rw [a5, gx_un _ _ _ (by omega), gx_un _ _ _ (by omega), gx_us]; exact a7
      · rw [show nd + l1.length + l2.length = nd + l.length by rw [a8, List.length_append]; omega]
        exact gc_S_ext (fun i hi => by rw [a5, gx_un _ _ _ (by omega), gx_un _ _ _ (by omega), gx_un _ _ _ (by omega), gx_un _ _ _ (by omega)]) _ _ hS
    refine gx_if (Q := Q) (fun k => ?_) (fun k => ?_)
    · have kk := gx_eqr (k := 3) (gx_lit 3 (by decide)) k
      obtain ⟨hk, hT⟩ := D3 () kk
      have x3 := n3 () kk
      refine gx_ca (Q := Q) (fun z : Int32 × gm_S => gp_me (S.1 6) (S.1 7) (S.1 8) (S.2.2 4) (S.1 11 (Int32.toNatClampNeg X)) z.1) (gy_s_MD_meant X (S.2.2 4) _ b0 b1 r1 (by omega) (by omega)) ?_
      intro r u hr
      have hr : gp_me (S.1 6) (S.1 7) (S.1 8) (S.2.2 4) (S.1 11 (Int32.toNatClampNeg X)) r := hr
      rw [cX] at hr
      have er : r = gp_Mz S m := gp_mz_eq b0 hr
      rw [er]
      refine gx_ca (Q := Q) _ (gz_hold (gp_Mz S m) Y I (va_up (va_up (va_up (va_up S.1 37 (U.1 37)) 42 (U.1 42)) 43 (U.1 43)) 44 (U.1 44), S.2.1, va_up (va_up S.2.2 38 ((U.2.2 38) - 2)) 41 (U.2.2 41)) hC (h := g) hk.1.1 hk.1.2.1 (by omega) (by omega) (by omega) s3 (by omega)) ?_
      intro r2 u2 hu2
      obtain ⟨w1, r3, w2, w3⟩ := hu2
      rw [cY] at w2
      exact one _ _ 0 hk hT (fun h => by omega) (C3 () kk hk) w1 hnd ⟨r3, I, w2, w3⟩ L (by rw [hL]; exact mk1 _ _ r3 I nd l hk.1 w2 w3 ((DD ()).2.1 kk) rfl) (fun _ z => z)
    have k3 := gx_eqnr (k := 3) (gx_lit 3 (by decide)) k
    refine gx_if (Q := Q) (fun k => ?_) (fun k => ?_)
    · have kk := gx_eqr (k := 4) (gx_lit 4 (by decide)) k
      obtain ⟨hk1, hk2, hT⟩ := D4 () kk
      have x1 := n4 () (by omega)
      have x2 := n45 () (Or.inl kk)
      refine gx_in (Q := Q) iX ?_
      refine gx_ca (Q := Q) _ (gz_taken (S.1 11 m) Y _ hC hk1.1.1 hk1.1.2.1 (by omega) (by omega) (by omega)) ?_
      intro r u hr
      have hr : r.toInt = gp_Tb (gp_Bs S) (S.1 34) (Int32.toNatClampNeg (S.1 11 m)) (Int32.toNatClampNeg Y) := hr
      rw [cY] at hr
      have ta := hk1.1.2.2.2
      have tq := hk2.1.2.2.1
      have sy := gx_ad Y r
      have cyr : Int32.toNatClampNeg (Y + r) = p + (gp_Tb (gp_Bs S) (S.1 34) (Int32.toNatClampNeg (S.1 11 m)) p).toNat := gp_cl_n (by omega)
      refine gx_ca (Q := Q) _ (gz_hold (S.1 12 m) (Y + r) I (va_up (va_up (va_up (va_up S.1 37 (U.1 37)) 42 (U.1 42)) 43 (U.1 43)) 44 (U.1 44), S.2.1, va_up (va_up S.2.2 38 ((U.2.2 38) - 2)) 41 (U.2.2 41)) hC (h := g) hk2.1.1 hk2.1.2.1 (by omega) (by omega) (by omega) s3 (by omega)) ?_
      intro r2 u2 hu2
      obtain ⟨w1, r3, w2, w3⟩ := hu2
      rw [cyr] at w2
      refine gx_ca (Q := Q) _ (gz_hold (S.1 11 m) Y I (va_up (va_up (va_up (va_up S.1 37 (u2.1 37)) 42 (U.1 42)) 43 (U.1 43)) 44 (U.1 44), S.2.1, va_up (va_up S.2.2 38 (u2.2.2 38)) 41 (U.2.2 41)) hC (h := g + 1) hk1.1.1 hk1.1.2.1 (by omega) (by omega) (by omega) w1 (by omega)) ?_
      intro r4 u4 hu4
      obtain ⟨y1, r5, y2, y3⟩ := hu4
      rw [cY] at y2
      have w3 : u2.1 37 = upd (upd (U.1 37) (2 * g) r3) (2 * g + 1) I := w3
      have y3 : u4.1 37 = upd (upd (u2.1 37) (2 * (g + 1)) r5) (2 * (g + 1) + 1) I := y3
      rw [w3] at y3
      obtain ⟨l1, l2, e4, P1, P2⟩ := (DD ()).2.2.1 kk
      refine two _ _ _ _ (Or.inl kk) hk1 hk2 ?_ y1 hnd ⟨r3, I, r5, I, w2, y2, y3⟩ L (mk2 _ _ _ _ r3 r5 l1 l2 hk1.1 hk2.1 w2 y2 y3 P1 P2 e4) (fun _ z => z)
      rw [hev]
      refine gp_ev_2 ta hk2.1.2.2.2 hT rfl (C4 () (by omega) hk1) (fun z => ?_) (hcp _ _ hk2.1).1
      refine C45 () (Or.inl kk) ?_
      rw [z, show p + (0 : Int).toNat = p by omega] at hk2
      exact hk2
    have k4 := gx_eqnr (k := 4) (gx_lit 4 (by decide)) k
    refine gx_if (Q := Q) (fun k => ?_) (fun k => ?_)
    · have kk := gx_eqr (k := 5) (gx_lit 5 (by decide)) k
      have x1 := n4 () (by omega)
      have x2 := n45 () (Or.inr kk)
      refine gx_ca (Q := Q) _ (gz_taken (S.1 11 m) Y _ hC x1.1 (show Int32.toNatClampNeg (S.1 11 m) < gp_Bs S + P by omega) (by omega) (by omega) (by omega)) ?_
      intro r u hr
      have hr : r.toInt = gp_Tb (gp_Bs S) (S.1 34) (Int32.toNatClampNeg (S.1 11 m)) (Int32.toNatClampNeg Y) := hr
      rw [cY] at hr
      refine gx_if (Q := Q) (fun w => gx_in (Q := Q) iX ?_) (fun w => ?_)
      · have w0 := gx_eqr (k := -1) n1 w
        rcases D5 () kk with ⟨-, hk, hT⟩ | ⟨hn, -⟩
        · refine gx_ca (Q := Q) _ (gz_hold (S.1 12 m) Y I (va_up (va_up (va_up (va_up S.1 37 (U.1 37)) 42 (U.1 42)) 43 (U.1 43)) 44 (U.1 44), S.2.1, va_up (va_up S.2.2 38 ((U.2.2 38) - 2)) 41 (U.2.2 41)) hC (h := g) hk.1.1 hk.1.2.1 (by omega) (by omega) (by omega) s3 (by omega)) ?_
          intro r2 u2 hu2
          obtain ⟨w1, r3, w2, w3⟩ := hu2
          rw [cY] at w2
          exact one _ _ 0 hk hT (fun h => by omega) (C45 () (Or.inr kk) hk) w1 hnd ⟨r3, I, w2, w3⟩ L (by rw [hL]; exact mk1 _ _ r3 I nd l hk.1 w2 w3 (((DD ()).2.2.2.1 kk).1 (by omega)) rfl) (fun _ z => z)
        · exact absurd (by omega) hn
      · have w0 := gx_eqnr (k := -1) n1 w
        rcases D5 () kk with ⟨hn, -⟩ | ⟨-, hk, hT⟩
        · exact absurd (by omega) w0
        · refine gx_ca (Q := Q) _ (gz_hold (S.1 11 m) Y I (va_up (va_up (va_up (va_up S.1 37 (U.1 37)) 42 (U.1 42)) 43 (U.1 43)) 44 (U.1 44), S.2.1, va_up (va_up S.2.2 38 ((U.2.2 38) - 2)) 41 (U.2.2 41)) hC (h := g) hk.1.1 hk.1.2.1 (by omega) (by omega) (by omega) s3 (by omega)) ?_
          intro r2 u2 hu2
          obtain ⟨w1, r3, w2, w3⟩ := hu2
          rw [cY] at w2
          exact one _ _ 0 hk hT (fun h => by omega) (C4 () (by omega) hk) w1 hnd ⟨r3, I, w2, w3⟩ L (by rw [hL]; exact mk1 _ _ r3 I nd l hk.1 w2 w3 (((DD ()).2.2.2.1 kk).2 (by omega)) rfl) (fun _ z => z)
    have k5 := gx_eqnr (k := 5) (gx_lit 5 (by decide)) k
    refine gx_if (Q := Q) (fun k => ?_) (fun k => ?_)
    · have kk := gx_eqr (k := 6) (gx_lit 6 (by decide)) k
      have x1 := n4 () (by omega)
      refine gx_ca (Q := Q) _ (gz_taken (S.1 11 m) Y _ hC x1.1 (show Int32.toNatClampNeg (S.1 11 m) < gp_Bs S + P by omega) (by omega) (by omega) (by omega)) ?_
      intro r u hr
      have hr : r.toInt = gp_Tb (gp_Bs S) (S.1 34) (Int32.toNatClampNeg (S.1 11 m)) (Int32.toNatClampNeg Y) := hr
      rw [cY] at hr
      refine gx_if (Q := Q) (fun w => none (((DD ()).2.2.2.2.1 kk).2 (by have := gx_ltr (k := 0) z0 w; omega))) (fun w => ?_)
      have w0 := gx_ltnr (k := 0) z0 w
      obtain ⟨hk, hT⟩ := D6 () kk (by omega)
      refine gx_ca (Q := Q) _ (gz_hold (S.1 11 m) Y I (va_up (va_up (va_up (va_up S.1 37 (U.1 37)) 42 (U.1 42)) 43 (U.1 43)) 44 (U.1 44), S.2.1, va_up (va_up S.2.2 38 ((U.2.2 38) - 2)) 41 (U.2.2 41)) hC (h := g) hk.1.1 hk.1.2.1 (by omega) (by omega) (by omega) s3 (by omega)) ?_
      intro r2 u2 hu2
      obtain ⟨w1, r3, w2, w3⟩ := hu2
      rw [cY] at w2
      exact one _ _ 0 hk hT (fun h => by omega) (C4 () (by omega) hk) w1 hnd ⟨r3, I, w2, w3⟩ L (by rw [hL]; exact mk1 _ _ r3 I nd l hk.1 w2 w3 (((DD ()).2.2.2.2.1 kk).1 (by omega)) rfl) (fun _ z => z)
    have k6 := gx_eqnr (k := 6) (gx_lit 6 (by decide)) k
    refine gx_if (Q := Q) (fun k => ?_) (fun k => ?_)
    · have kk := gx_eqr (k := 7) (gx_lit 7 (by decide)) k
      have x1 := n4 () (by omega)
      have tk := gz_taken (S.1 11 m) Y ((va_up (va_up (va_up (va_up S.1 37 (U.1 37)) 42 (U.1 42)) 43 (U.1 43)) 44 (U.1 44)), S.2.1, (va_up (va_up S.2.2 38 ((U.2.2 38) - 2)) 41 (U.2.2 41))) (P := P) (fed := fed) hC x1.1 (show Int32.toNatClampNeg (S.1 11 m) < gp_Bs S + P by omega) (by omega) (by omega) (by omega)
      refine gx_ca (Q := Q) _ tk ?_
      intro r u hr
      have hr : r.toInt = gp_Tb (gp_Bs S) (S.1 34) (Int32.toNatClampNeg (S.1 11 m)) (Int32.toNatClampNeg Y) := hr
      rw [cY] at hr
      refine gx_if (Q := Q) (fun w => ?_) (fun w => none ?_)
      case refine_2 =>
        have w9 := gx_ltnl (k := 0) z0 w
        refine ((DD ()).2.2.2.2.2.1 kk).2 ?_
        have nz : ¬ gp_Tb (gp_Bs S) (S.1 34) (Int32.toNatClampNeg (S.1 11 m)) p = 0 := by
          intro e0
          rcases gp_vc_sd hC hF x1.1 (show Int32.toNatClampNeg (S.1 11 m) < gp_Bs S + P by omega) v3 with s9 | ⟨-, -, s9, -⟩
          · omega
          · have s9 := s9 e0
            rw [(RK m v1 v2).2.2.2.2 (Or.inl kk)] at s9
            exact absurd s9 (by decide)
        omega
      have w0 := gx_ltl (k := 0) z0 w
      obtain ⟨hk1, hk2, hT⟩ := D7 () kk (by omega)
      refine gx_ca (Q := Q) _ tk ?_
      intro r' u' hr'
      have hr' : r'.toInt = gp_Tb (gp_Bs S) (S.1 34) (Int32.toNatClampNeg (S.1 11 m)) (Int32.toNatClampNeg Y) := hr'
      rw [cY] at hr'
      have ta := hk1.1.2.2.2
      have tq := hk2.1.2.2.1
      have sy := gx_ad Y r'
      have cyr : Int32.toNatClampNeg (Y + r') = p + (gp_Tb (gp_Bs S) (S.1 34) (Int32.toNatClampNeg (S.1 11 m)) p).toNat := gp_cl_n (by omega)
      refine gx_ca (Q := Q) _ (gz_hold X (Y + r') I (va_up (va_up (va_up (va_up S.1 37 (U.1 37)) 42 (U.1 42)) 43 (U.1 43)) 44 (U.1 44), S.2.1, va_up (va_up S.2.2 38 ((U.2.2 38) - 2)) 41 (U.2.2 41)) hC (h := g) (show gp_Bs S ≤ Int32.toNatClampNeg X by omega) (show Int32.toNatClampNeg X < gp_Bs S + P by omega) (by omega) (by omega) (by omega) s3 (by omega)) ?_
      intro r2 u2 hu2
      obtain ⟨w1, r3, w2, w3⟩ := hu2
      rw [cyr, cX] at w2
      refine gx_ca (Q := Q) _ (gz_hold (S.1 11 m) Y I (va_up (va_up (va_up (va_up S.1 37 (u2.1 37)) 42 (U.1 42)) 43 (U.1 43)) 44 (U.1 44), S.2.1, va_up (va_up S.2.2 38 (u2.2.2 38)) 41 (U.2.2 41)) hC (h := g + 1) hk1.1.1 hk1.1.2.1 (by omega) (by omega) (by omega) w1 (by omega)) ?_
      intro r4 u4 hu4
      obtain ⟨y1, r5, y2, y3⟩ := hu4
      rw [cY] at y2
      have w3 : u2.1 37 = upd (upd (U.1 37) (2 * g) r3) (2 * g + 1) I := w3
      have y3 : u4.1 37 = upd (upd (u2.1 37) (2 * (g + 1)) r5) (2 * (g + 1) + 1) I := y3
      rw [w3] at y3
      obtain ⟨l1, l2, e4, P1, P2⟩ := ((DD ()).2.2.2.2.2.1 kk).1 (by omega)
      refine two _ _ _ _ (Or.inr kk) hk1 hk2 ?_ y1 hnd ⟨r3, I, r5, I, w2, y2, y3⟩ L (mk2 _ _ _ _ r3 r5 l1 l2 hk1.1 hk2.1 w2 y2 y3 P1 P2 e4) (fun _ z => z)
      rw [hev]
      exact gp_ev_2 ta hk2.1.2.2.2 hT rfl (C4 () (by omega) hk1) (fun z => by omega) (hcp _ _ hk2.1).1
    have k7 := gx_eqnr (k := 7) (gx_lit 7 (by decide)) k
    refine gx_if (Q := Q) (fun k => none ((DD ()).2.2.2.2.2.2.1 (Or.inl (gx_eqr (k := 8) (gx_lit 8 (by decide)) k)))) (fun k => ?_)
    have k8 := gx_eqnr (k := 8) (gx_lit 8 (by decide)) k
    refine gx_if (Q := Q) (fun k => none ((DD ()).2.2.2.2.2.2.1 (Or.inr (gx_eqr (k := 9) (gx_lit 9 (by decide)) k)))) (fun k => ?_)
    have k9 := gx_eqnr (k := 9) (gx_lit 9 (by decide)) k
    refine gx_if (Q := Q) (fun k => ?_) (fun k => none ((DD ()).1 (by have := gx_eqnr (k := 10) (gx_lit 10 (by decide)) k; have := (SC.1 m v1 v2).1; omega)))
    have kk := gx_eqr (k := 10) (gx_lit 10 (by decide)) k
    obtain ⟨hk, hT, hpos⟩ := D10 () kk
    have x1 := n4 () (by omega)
    have c10 := C10 () kk hk
    have evp : 1 ≤ ev m p := by
      rw [hev]
      unfold gp_ev
      rw [if_neg (by omega)]
      omega
    have i41 : vp_in (U.2.2 41) 200 := vp_in_iff.mpr (by omega)
    have a41 := gx_ak (U.2.2 41) 1 1 (by decide)
    refine gx_in (Q := Q) i41 ?_
    refine gx_ca (Q := Q) _ (gz_taken X Y _ hC (show gp_Bs S ≤ Int32.toNatClampNeg X by omega) (show Int32.toNatClampNeg X < gp_Bs S + P by omega) (by omega) (by omega) (by omega)) ?_
    intro r u hr
    have hr : r.toInt = gp_Tb (gp_Bs S) (S.1 34) (Int32.toNatClampNeg X) (Int32.toNatClampNeg Y) := hr
    rw [cX, cY] at hr
    refine gx_in (Q := Q) i41 (gx_in (Q := Q) i41 ?_)
    refine gx_ca (Q := Q) _ (gz_hold (S.1 11 m) Y (((U.2.2 41) + 1) - 1) (va_up (va_up (va_up (va_up S.1 37 (U.1 37)) 42 (upd (U.1 42) (Int32.toNatClampNeg (U.2.2 41)) Y)) 43 (upd (U.1 43) (Int32.toNatClampNeg (U.2.2 41)) (Y + r))) 44 (upd (U.1 44) (Int32.toNatClampNeg (U.2.2 41)) I), S.2.1, va_up (va_up S.2.2 38 ((U.2.2 38) - 2)) 41 ((U.2.2 41) + 1)) hC (h := g) hk.1.1 hk.1.2.1 (by omega) (by omega) (by omega) s3 (by omega)) ?_
    intro r2 u2 hu2
    obtain ⟨w1, r3, w2, w3⟩ := hu2
    rw [cY] at w2
    obtain ⟨l', el, P1⟩ := (DD ()).2.2.2.2.2.2.2 kk
    have s41 := gx_sk ((U.2.2 41) + 1) 1 1 (by decide)
    have nd1 : (((U.2.2 41) + 1) - 1).toInt = (nd : Int) := by omega
    have c41 : Int32.toNatClampNeg (U.2.2 41) = nd := gp_cl_n hnd
    have yr := gx_ad Y r
    have sd := gp_vc_sd hC hF v1 v2 v3
    have tb : (p : Int) + gp_Tb (gp_Bs S) (S.1 34) m p ≤ fed := by
      rcases sd with sd | ⟨-, sd, -⟩
      · omega
      · exact sd
    refine one _ _ 1 hk hT (fun _ => hpos) c10 w1 (show ((U.2.2 41) + 1).toInt = ((nd + 1 : Nat) : Int) by omega) ⟨r3, _, w2, w3⟩ (l' ++ r0) (mk1 _ _ r3 _ (nd + 1) l' hk.1 w2 w3 (by rw [nd1]; exact P1) (by rw [el, List.length_cons]; omega)) (fun z hz => ?_)
    obtain ⟨z1, z2, z3⟩ := hz
    have lL : L = (p, p + (gp_Tb (gp_Bs S) (S.1 34) m p).toNat, I.toInt) :: (l' ++ r0) := by rw [hL, el]; rfl
    rw [lL]
    refine ⟨by rw [z1, List.length_cons]; omega, fun i hi => ?_, fun i t ht => ?_⟩
    · obtain ⟨y1, y2, y3⟩ := z2 i (by omega)
      have y1 : z.2.1 42 i = upd (U.1 42) (Int32.toNatClampNeg (U.2.2 41)) Y i := y1
      have y2 : z.2.1 43 i = upd (U.1 43) (Int32.toNatClampNeg (U.2.2 41)) (Y + r) i := y2
      have y3 : z.2.1 44 i = upd (U.1 44) (Int32.toNatClampNeg (U.2.2 41)) I i := y3
      rw [c41, gx_un _ _ _ (by omega)] at y1 y2 y3
      exact ⟨y1, y2, y3⟩
    · cases i with
      | zero =>
        rw [List.getElem?_cons_zero] at ht
        injection ht with ht
        obtain ⟨y1, y2, y3⟩ := z2 nd (by omega)
        have y1 : z.2.1 42 nd = upd (U.1 42) (Int32.toNatClampNeg (U.2.2 41)) Y nd := y1
        have y2 : z.2.1 43 nd = upd (U.1 43) (Int32.toNatClampNeg (U.2.2 41)) (Y + r) nd := y2
        have y3 : z.2.1 44 nd = upd (U.1 44) (Int32.toNatClampNeg (U.2.2 41)) I nd := y3
        rw [c41, gx_us] at y1 y2 y3
        rw [Nat.add_zero, y1, y2, y3, ← ht]
        exact ⟨Y0, by show (Y + r).toInt = ((p + (gp_Tb (gp_Bs S) (S.1 34) m p).toNat : Nat) : Int); omega, rfl⟩
      | succ i =>
        rw [List.getElem?_cons_succ] at ht
        have y := z3 i t ht
        rw [show nd + 1 + i = nd + (i + 1) by omega] at y
        exact y
