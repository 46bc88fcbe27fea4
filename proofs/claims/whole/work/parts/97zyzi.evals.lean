/-! The reference's evaluations: the cells that are come to. -/
/-- the cells below a cell are in J -/
def gc_sj (S : gm_S) (J : Nat → Nat → Prop) (m p : Nat) : Prop :=
  ((S.1 10 m).toInt = 3 → J (Int32.toNatClampNeg (gp_Mz S m)) p) ∧ (4 ≤ (S.1 10 m).toInt → J (Int32.toNatClampNeg (S.1 11 m)) p) ∧ ((S.1 10 m).toInt = 4 → 0 ≤ gp_Tb (gp_Bs S) (S.1 34) (Int32.toNatClampNeg (S.1 11 m)) p → J (Int32.toNatClampNeg (S.1 12 m)) (p + (gp_Tb (gp_Bs S) (S.1 34) (Int32.toNatClampNeg (S.1 11 m)) p).toNat)) ∧ ((S.1 10 m).toInt = 5 → gp_Tb (gp_Bs S) (S.1 34) (Int32.toNatClampNeg (S.1 11 m)) p = -1 → J (Int32.toNatClampNeg (S.1 12 m)) p) ∧ ((S.1 10 m).toInt = 7 → 0 < gp_Tb (gp_Bs S) (S.1 34) (Int32.toNatClampNeg (S.1 11 m)) p → J m (p + (gp_Tb (gp_Bs S) (S.1 34) (Int32.toNatClampNeg (S.1 11 m)) p).toNat))
/-- they are met -/
def gc_su (S : gm_S) (a : Nat → Int32) (m p : Nat) : Prop := gc_sj S (fun m q => ¬ a (11 * (m - gp_Bs S) + q) = 0) m p
theorem gc_su_m {S : gm_S} {a b : Nat → Int32} (h : ∀ c, ¬ a c = 0 → ¬ b c = 0) {m p : Nat} (q : gc_su S a m p) : gc_su S b m p := ⟨fun x => h _ (q.1 x), fun x => h _ (q.2.1 x), fun x y => h _ (q.2.2.1 x y), fun x y => h _ (q.2.2.2.1 x y), fun x y => h _ (q.2.2.2.2 x y)⟩
/-- what is met is in J, and waits -/
def gc_EI (S : gm_S) (P fed : Nat) (J : Nat → Nat → Prop) (a36 a37 : Nat → Int32) (w : Nat) : Prop := gp_EI S P fed a36 a37 w ∧ (∀ m q, gp_Bs S ≤ m → m < gp_Bs S + P → q ≤ fed → ¬ a36 (11 * (m - gp_Bs S) + q) = 0 → J m q) ∧ (∀ m q, gp_Bs S ≤ m → m < gp_Bs S + P → q ≤ fed → ¬ a36 (11 * (m - gp_Bs S) + q) = 0 → ∃ i, i < w ∧ (a37 i).toInt = ((11 * (m - gp_Bs S) + q : Nat) : Int)) ∧ ∀ i, i < w → ∀ m q, gp_Bs S ≤ m → m < gp_Bs S + P → q ≤ fed → (a37 i).toInt = ((11 * (m - gp_Bs S) + q : Nat) : Int) → ¬ a36 (11 * (m - gp_Bs S) + q) = 0
/-- below the first k all is met -/
def gc_cl (S : gm_S) (P fed : Nat) (a36 a37 : Nat → Int32) (k : Nat) : Prop := ∀ i, i < k → ∀ m q, gp_Bs S ≤ m → m < gp_Bs S + P → q ≤ fed → (a37 i).toInt = ((11 * (m - gp_Bs S) + q : Nat) : Int) → gc_su S a36 m q
def gc_V (S : gm_S) (P fed : Nat) (J : Nat → Nat → Prop) (U : gm_S) (k st : Nat) (V : gm_S) : Prop := ∃ w : Nat, (V.2.2 38).toInt = (w : Int) ∧ k < w ∧ gc_EI S P fed J (V.1 36) (V.1 37) w ∧ (∀ c, ¬ U.1 36 c = 0 → ¬ V.1 36 c = 0) ∧ (∀ i, i ≤ k → V.1 37 i = U.1 37 i) ∧ ¬ V.1 36 st = 0
def gc_cV (S : gm_S) (P fed : Nat) (J : Nat → Nat → Prop) (U : gm_S) (k st : Nat) (V : gm_S) (m q : Nat) (z : Int32 × gm_S) : Prop := gc_V S P fed J U k st z.2 ∧ (∀ c, ¬ V.1 36 c = 0 → ¬ z.2.1 36 c = 0) ∧ ¬ z.2.1 36 (11 * (m - gp_Bs S) + q) = 0
/-- the rules are counted over the cells that were come to -/
def gc_vQ (x : Int32) (S : gm_S) (P fed : Nat) (J : Nat → Nat → Prop) (st : Nat) (z : Int32 × gm_S) : Prop := ∃ (a36 a37 : Nat → Int32) (w : Int32), z.1 = (gm_f_MD_ruled x (va_up (va_up S.1 36 a36) 37 a37, S.2.1, va_up S.2.2 38 w)).1 ∧ (∀ m q, gp_Bs S ≤ m → m < gp_Bs S + P → q ≤ fed → ¬ a36 (11 * (m - gp_Bs S) + q) = 0 → J m q) ∧ (∀ m q, gp_Bs S ≤ m → m < gp_Bs S + P → q ≤ fed → ¬ a36 (11 * (m - gp_Bs S) + q) = 0 → gc_su S a36 m q) ∧ ¬ a36 st = 0
def gc_coQ (S : gm_S) (P fed : Nat) (J : Nat → Nat → Prop) (w m q : Nat) (z : Int32 × gm_S) : Prop := ∃ w', w ≤ w' ∧ (z.2.2.2 38).toInt = (w' : Int) ∧ gc_EI S P fed J (z.2.1 36) (z.2.1 37) w' ∧ (∀ c, ¬ S.1 36 c = 0 → ¬ z.2.1 36 c = 0) ∧ ¬ z.2.1 36 (11 * (m - gp_Bs S) + q) = 0 ∧ ∀ i, i < w → z.2.1 37 i = S.1 37 i
theorem gc_come (x y : Int32) (S : gm_S) {P fed : Nat} (hC : gp_WC S P fed) (hx : gp_Bs S ≤ Int32.toNatClampNeg x) (hx2 : Int32.toNatClampNeg x < gp_Bs S + P) (hx3 : 0 ≤ x.toInt) (hy : 0 ≤ y.toInt) (hy2 : y.toInt ≤ fed) {J : Nat → Nat → Prop} (hj : J (Int32.toNatClampNeg x) (Int32.toNatClampNeg y)) {w : Nat} (hw : (S.2.2 38).toInt = (w : Int)) (hEE : gc_EI S P fed J (S.1 36) (S.1 37) w) : gm_p_MD_come x y S ∧ (gc_coQ S P fed J w (Int32.toNatClampNeg x) (Int32.toNatClampNeg y)) (gm_f_MD_come x y S) := by
  have base := gz_come x y S hC hx hx2 hx3 hy hy2 hw hEE.1
  refine ⟨base.1, ?_⟩
  have hE := hEE.1
  obtain ⟨⟨b0, b1⟩, ⟨p0, p1⟩, ⟨f0, f1⟩, -⟩ := hC
  have cx := gx_cl x hx3
  have cy := gx_cl y hy
  have cb := gx_cl (S.2.2 4) b0
  have hx' : 160 * Int32.toNatClampNeg (S.2.2 4) ≤ Int32.toNatClampNeg x := hx
  have hx2' : Int32.toNatClampNeg x < 160 * Int32.toNatClampNeg (S.2.2 4) + P := hx2
  have e0 : Int32.toNatClampNeg (S.2.2 38) = w := gp_cl_n hw
  have base := base.2
  obtain ⟨Q, hQ⟩ : ∃ Q, Q = (gc_coQ S P fed J w (Int32.toNatClampNeg x) (Int32.toNatClampNeg y)) := ⟨_, rfl⟩
  rw [← hQ]
  revert base
  unfold gm_f_MD_come
  have ce := gz_cell x y S b0 b1 (by omega) (by omega) hy (by omega)
  generalize gm_f_MD_cell x y S = ze at ce
  obtain ⟨r, u⟩ := ze
  have hr1 : vp_in r 1760 := ce.2.1
  have hr2 : Int32.toNatClampNeg r = 11 * (Int32.toNatClampNeg x - gp_Bs S) + Int32.toNatClampNeg y := ce.2.2
  have hr3 := vp_in_iff.mp hr1
  have cr := gx_cl r hr3.1
  show gp_coQ S P fed w (if S.1 36 (Int32.toNatClampNeg r) = 0 then _ else _) → Q (if S.1 36 (Int32.toNatClampNeg r) = 0 then _ else _)
  by_cases q : S.1 36 (Int32.toNatClampNeg r) = 0
  · rw [if_pos q]
    intro base
    obtain ⟨w', c1, c2, c3⟩ := base
    have c2 : ((S.2.2 38) + 1).toInt = (w' : Int) := c2
    have a1 := gx_ak (S.2.2 38) 1 1 (by decide)
    have le := gp_c_le (fun c => decide (¬ S.1 36 c = 0)) (11 * P)
    rw [hE.2] at le
    have ew : w' = w + 1 := by omega
    subst ew
    rw [hQ]
    have n1 : ¬ vp_nar .boolean 1 = 0 := by decide
    have mono : ∀ c, ¬ S.1 36 c = 0 → ¬ upd (S.1 36) (Int32.toNatClampNeg r) (vp_nar .boolean 1) c = 0 := by
      intro c h
      by_cases e : c = Int32.toNatClampNeg r
      · rw [e, gx_us]; exact n1
      · rw [gx_un _ _ _ e]; exact h
    have cell : ∀ m' q', gp_Bs S ≤ m' → q' ≤ fed → 11 * (m' - gp_Bs S) + q' = 11 * (Int32.toNatClampNeg x - gp_Bs S) + Int32.toNatClampNeg y → m' = Int32.toNatClampNeg x ∧ q' = Int32.toNatClampNeg y := by
      intro m' q' a b c
      have hx : gp_Bs S ≤ Int32.toNatClampNeg x := hx
      exact ⟨by omega, by omega⟩
    refine ⟨w + 1, by omega, c2, ⟨c3, fun m' q' b1 b2 b3 h => ?_, fun m' q' b1 b2 b3 h => ?_, fun i hi m' q' b1 b2 b3 h => ?_⟩, mono, ?_, fun i hi => ?_⟩
    · have h : ¬ upd (S.1 36) (Int32.toNatClampNeg r) (vp_nar .boolean 1) (11 * (m' - gp_Bs S) + q') = 0 := h
      by_cases e : 11 * (m' - gp_Bs S) + q' = Int32.toNatClampNeg r
      · obtain ⟨em, eq⟩ := cell m' q' b1 b3 (by omega)
        rw [em, eq]; exact hj
      · rw [gx_un _ _ _ e] at h
        exact hEE.2.1 m' q' b1 b2 b3 h
    · have h : ¬ upd (S.1 36) (Int32.toNatClampNeg r) (vp_nar .boolean 1) (11 * (m' - gp_Bs S) + q') = 0 := h
      show ∃ i, i < w + 1 ∧ (upd (S.1 37) (Int32.toNatClampNeg (S.2.2 38)) r i).toInt = _
      rw [e0]
      by_cases e : 11 * (m' - gp_Bs S) + q' = Int32.toNatClampNeg r
      · exact ⟨w, by omega, by rw [gx_us]; omega⟩
      · rw [gx_un _ _ _ e] at h
        obtain ⟨i, i1, i2⟩ := hEE.2.2.1 m' q' b1 b2 b3 h
        exact ⟨i, by omega, by rw [gx_un _ _ _ (by omega)]; exact i2⟩
    · have h : (upd (S.1 37) (Int32.toNatClampNeg (S.2.2 38)) r i).toInt = ((11 * (m' - gp_Bs S) + q' : Nat) : Int) := h
      rw [e0] at h
      by_cases e : i = w
      · rw [e, gx_us] at h
        show ¬ upd (S.1 36) (Int32.toNatClampNeg r) (vp_nar .boolean 1) (11 * (m' - gp_Bs S) + q') = 0
        rw [show 11 * (m' - gp_Bs S) + q' = Int32.toNatClampNeg r by omega, gx_us]
        exact n1
      · rw [gx_un _ _ _ e] at h
        exact mono _ (hEE.2.2.2 i (by omega) m' q' b1 b2 b3 h)
    · show ¬ upd (S.1 36) (Int32.toNatClampNeg r) (vp_nar .boolean 1) (11 * (Int32.toNatClampNeg x - gp_Bs S) + Int32.toNatClampNeg y) = 0
      rw [← hr2, gx_us]
      exact n1
    · show upd (S.1 37) (Int32.toNatClampNeg (S.2.2 38)) r i = S.1 37 i
      rw [e0, gx_un _ _ _ (by omega)]
  · rw [if_neg q]
    intro _
    rw [hQ]
    refine ⟨w, Nat.le_refl w, hw, hEE, fun _ h => h, ?_, fun _ _ => rfl⟩
    show ¬ S.1 36 (11 * (Int32.toNatClampNeg x - gp_Bs S) + Int32.toNatClampNeg y) = 0
    rw [← hr2]
    exact q
theorem gc_eval44 (x : Int32) (S : gm_S) (c1 : Int32) (C2 C3 : gm_S) {P fed : Nat} (hC : gp_WC S P fed) {rk : Nat → Nat} {t : Nat} (hF : gp_FT S P fed rk t) {J : Nat → Nat → Prop} (hJ : ∀ m q, gp_Bs S ≤ m → m < gp_Bs S + P → q ≤ fed → J m q → gc_sj S J m q) {st : Nat} : ∀ (n : Nat) (v : Int32) (U : gm_S) (w : Nat), (U.2.2 38).toInt = (w : Int) → 0 ≤ v.toInt → v.toInt ≤ w → 11 * (P : Int) < v.toInt + n → gc_EI S P fed J (U.1 36) (U.1 37) w → gc_cl S P fed (U.1 36) (U.1 37) (Int32.toNatClampNeg v) → ¬ U.1 36 st = 0 → gm_p_MD_evaluations_44 x S c1 C2 C3 n v U ∧ gc_vQ x S P fed J st (gm_f_MD_evaluations_44 x S c1 C2 C3 n v U) := by
  have hC' := hC
  obtain ⟨⟨b0, b1⟩, ⟨p0, p1⟩, ⟨f0, f1⟩, ⟨ty, hU⟩, SC⟩ := hC'
  have r1 := hU.2.2.1.2
  have cb := gx_cl (S.2.2 4) b0
  have hB : gp_Bs S = 160 * Int32.toNatClampNeg (S.2.2 4) := rfl
  have z0 : (0 : Int32).toInt = 0 := by decide
  have n1 : (-1 : Int32).toInt = -1 := by decide
  obtain ⟨Q, hQ⟩ : ∃ Q, Q = gc_vQ x S P fed J st := ⟨_, rfl⟩
  rw [← hQ]
  intro n
  induction n with
  | zero =>
    intro v U w _ h0 h1 h2 hEE _ _
    have hE := hEE.1
    have le := gp_c_le (fun c => decide (¬ U.1 36 c = 0)) (11 * P)
    rw [hE.2] at le
    exfalso
    omega
  | succ n ih =>
    intro v U w hw h0 h1 h2 hEE hCl hSt
    have hE := hEE.1
    have le := gp_c_le (fun c => decide (¬ U.1 36 c = 0)) (11 * P)
    rw [hE.2] at le
    rw [gm_p_MD_evaluations_44, gm_f_MD_evaluations_44]
    refine gx_if (Q := Q) (fun q => ?_) (fun q => ?_)
    · refine gx_ca (Q := Q) (fun z => z.1 = (gm_f_MD_ruled x (va_up (va_up S.1 36 (U.1 36)) 37 (U.1 37), S.2.1, va_up S.2.2 38 (U.2.2 38))).1) ⟨(gz_ruled x (va_up (va_up S.1 36 (U.1 36)) 37 (U.1 37), S.2.1, va_up S.2.2 38 (U.2.2 38)) (P := P) (fed := fed) hC).1, rfl⟩ ?_
      intro r u hr
      refine ⟨trivial, ?_⟩
      have q1 := gx_le q
      have cv := gx_cl v h0
      rw [hQ]
      refine ⟨U.1 36, U.1 37, U.2.2 38, hr, hEE.2.1, fun m p v1 v2 v3 hm => ?_, hSt⟩
      obtain ⟨i, i1, i2⟩ := hEE.2.2.1 m p v1 v2 v3 hm
      exact hCl i (by omega) m p v1 v2 v3 i2
    have q1 := gx_len q
    have cv := gx_cl v h0
    obtain ⟨m, p, v1, v2, v3, hc⟩ := hE.1 (Int32.toNatClampNeg v) (by omega)
    have d11 := gx_d11 (U.1 37 (Int32.toNatClampNeg v)) (by omega) (by omega)
    have mm := gx_mk 160 (S.2.2 4) 160 (gx_lit 160 (by decide))
    have ma := gx_ad (160 * (S.2.2 4)) ((U.1 37 (Int32.toNatClampNeg v)) / 11)
    have X0 : ((160 * (S.2.2 4)) + (((U.1 37) (Int32.toNatClampNeg v)) / 11)).toInt = (m : Int) := by omega
    have Y0 : (((U.1 37) (Int32.toNatClampNeg v)) - ((U.1 37) (Int32.toNatClampNeg v)) / 11 * 11).toInt = (p : Int) := by omega
    have iv : vp_in v 1760 := vp_in_iff.mpr (by omega)
    have b := gx_ak v 1 1 (by decide)
    clear mm ma d11
    generalize ((160 * (S.2.2 4)) + (((U.1 37) (Int32.toNatClampNeg v)) / 11)) = X at X0 ⊢
    generalize (((U.1 37) (Int32.toNatClampNeg v)) - ((U.1 37) (Int32.toNatClampNeg v)) / 11 * 11) = Y at Y0 ⊢
    have cX : Int32.toNatClampNeg X = m := gp_cl_n X0
    have cY : Int32.toNatClampNeg Y = p := gp_cl_n Y0
    have iX : vp_in X 320 := vp_in_iff.mpr (by omega)
    obtain ⟨-, n4, n45, -, n3⟩ := SC.1 m v1 v2
    have hJm : J m p := hEE.2.1 m p v1 v2 v3 (by
      have := hEE.2.2.2 (Int32.toNatClampNeg v) (by omega) m p v1 v2 v3 hc
      exact this)
    have hJs := hJ m p v1 v2 v3 hJm
    have hV0 : gc_V S P fed J U (Int32.toNatClampNeg v) st U := ⟨w, hw, by omega, hEE, fun _ h => h, fun _ _ => rfl, hSt⟩
    have cm : ∀ (V : gm_S) (k y' : Int32), gc_V S P fed J U (Int32.toNatClampNeg v) st V → gp_Bs S ≤ Int32.toNatClampNeg k → Int32.toNatClampNeg k < gp_Bs S + P → 0 ≤ k.toInt → 0 ≤ y'.toInt → y'.toInt ≤ fed → J (Int32.toNatClampNeg k) (Int32.toNatClampNeg y') → gm_p_MD_come k y' ((va_up (va_up S.1 36 (V.1 36)) 37 (V.1 37)), S.2.1, (va_up S.2.2 38 (V.2.2 38))) ∧ gc_cV S P fed J U (Int32.toNatClampNeg v) st V (Int32.toNatClampNeg k) (Int32.toNatClampNeg y') (gm_f_MD_come k y' ((va_up (va_up S.1 36 (V.1 36)) 37 (V.1 37)), S.2.1, (va_up S.2.2 38 (V.2.2 38)))) := by
      intro V k y' hV e4 e5 e6 e7 e8 hj
      obtain ⟨w', e1, e2, e3, d1, d2, d3⟩ := hV
      have z := gc_come k y' ((va_up (va_up S.1 36 (V.1 36)) 37 (V.1 37)), S.2.1, (va_up S.2.2 38 (V.2.2 38))) (P := P) (fed := fed) (J := J) hC e4 e5 e6 e7 e8 hj (w := w') e1 e3
      refine ⟨z.1, ?_⟩
      obtain ⟨w2, a1, a2, a3, a4, a5, a6⟩ := z.2
      exact ⟨⟨w2, a2, by omega, a3, fun c h => a4 c (d1 c h), fun i hi => (a6 i (by omega)).trans (d2 i hi), a4 _ d3⟩, a4, a5⟩
    have tkn : ∀ V : gm_S, 4 ≤ (S.1 10 m).toInt → gm_p_MD_taken (S.1 11 (Int32.toNatClampNeg X)) Y ((va_up (va_up S.1 36 (V.1 36)) 37 (V.1 37)), S.2.1, (va_up S.2.2 38 (V.2.2 38))) ∧ gp_evT S m p (gm_f_MD_taken (S.1 11 (Int32.toNatClampNeg X)) Y ((va_up (va_up S.1 36 (V.1 36)) 37 (V.1 37)), S.2.1, (va_up S.2.2 38 (V.2.2 38)))) := by
      intro V k4
      have x1 := n4 k4
      have z := gz_taken (S.1 11 m) Y ((va_up (va_up S.1 36 (V.1 36)) 37 (V.1 37)), S.2.1, (va_up S.2.2 38 (V.2.2 38))) (P := P) (fed := fed) hC x1.1 (show Int32.toNatClampNeg (S.1 11 m) < gp_Bs S + P by omega) (by omega) (by omega) (by omega)
      rw [cX]
      refine ⟨z.1, ?_⟩
      have z2 : (gm_f_MD_taken (S.1 11 m) Y ((va_up (va_up S.1 36 (V.1 36)) 37 (V.1 37)), S.2.1, (va_up S.2.2 38 (V.2.2 38)))).1.toInt = gp_Tb (gp_Bs S) (S.1 34) (Int32.toNatClampNeg (S.1 11 m)) (Int32.toNatClampNeg Y) := z.2
      rw [cY] at z2
      exact z2
    have kk : ∀ V : gm_S, 4 ≤ (S.1 10 m).toInt → gp_sd (S.1 15) (S.1 33) (S.2.1 17) (S.2.1 18) fed (gp_Tb (gp_Bs S) (S.1 34) (Int32.toNatClampNeg (S.1 11 m)) p) (Int32.toNatClampNeg (S.1 11 m)) p := fun V k4 => by
      have x1 := n4 k4
      exact gp_vc_sd hC hF x1.1 (by omega) v3
    have k243 : ∀ V : gm_S, (gc_V S P fed J U (Int32.toNatClampNeg v) st V ∧ (Unit → ((S.1 10 m).toInt = 3 → ¬ V.1 36 (11 * (Int32.toNatClampNeg (gp_Mz S m) - gp_Bs S) + p) = 0) ∧ (4 ≤ (S.1 10 m).toInt → ¬ V.1 36 (11 * (Int32.toNatClampNeg (S.1 11 m) - gp_Bs S) + p) = 0) ∧ ((S.1 10 m).toInt = 4 → 0 ≤ gp_Tb (gp_Bs S) (S.1 34) (Int32.toNatClampNeg (S.1 11 m)) p → ¬ V.1 36 (11 * (Int32.toNatClampNeg (S.1 12 m) - gp_Bs S) + (p + (gp_Tb (gp_Bs S) (S.1 34) (Int32.toNatClampNeg (S.1 11 m)) p).toNat)) = 0) ∧ ((S.1 10 m).toInt = 5 → gp_Tb (gp_Bs S) (S.1 34) (Int32.toNatClampNeg (S.1 11 m)) p = -1 → ¬ V.1 36 (11 * (Int32.toNatClampNeg (S.1 12 m) - gp_Bs S) + p) = 0) ∧ ((S.1 10 m).toInt = 7 → 0 < gp_Tb (gp_Bs S) (S.1 34) (Int32.toNatClampNeg (S.1 11 m)) p → ¬ V.1 36 (11 * (m - gp_Bs S) + (p + (gp_Tb (gp_Bs S) (S.1 34) (Int32.toNatClampNeg (S.1 11 m)) p).toNat)) = 0))) → (gm_p_MD_evaluations_44 x S c1 C2 C3 n (v + 1) (va_up (va_up S.1 36 (V.1 36)) 37 (V.1 37), S.2.1, va_up S.2.2 38 (V.2.2 38))) ∧ Q (gm_f_MD_evaluations_44 x S c1 C2 C3 n (v + 1) (va_up (va_up S.1 36 (V.1 36)) 37 (V.1 37), S.2.1, va_up S.2.2 38 (V.2.2 38))) := by
      rintro V ⟨⟨w', e1, e2, e3, d1, d2, d3⟩, ff⟩
      have cv1 : Int32.toNatClampNeg (v + 1) = Int32.toNatClampNeg v + 1 := gp_cl_n (by omega)
      refine ih _ _ w' e1 (by omega) (by omega) (by omega) e3 ?_ d3
      intro i hi m' p' u1 u2 u3 hc'
      rw [cv1] at hi
      have hc' : (V.1 37 i).toInt = ((11 * (m' - gp_Bs S) + p' : Nat) : Int) := hc'
      rw [d2 i (by omega)] at hc'
      by_cases ei : i = Int32.toNatClampNeg v
      · rw [ei, hc] at hc'
        have em : m' = m := by omega
        have ep : p' = p := by omega
        subst em
        subst ep
        exact ff ()
      · exact gc_su_m d1 (hCl i (by omega) m' p' u1 u2 u3 hc')
    have k205 : ∀ V : gm_S, (gc_V S P fed J U (Int32.toNatClampNeg v) st V ∧ (Unit → ((S.1 10 m).toInt = 3 → ¬ V.1 36 (11 * (Int32.toNatClampNeg (gp_Mz S m) - gp_Bs S) + p) = 0) ∧ (4 ≤ (S.1 10 m).toInt → ¬ V.1 36 (11 * (Int32.toNatClampNeg (S.1 11 m) - gp_Bs S) + p) = 0) ∧ ((S.1 10 m).toInt = 4 → 0 ≤ gp_Tb (gp_Bs S) (S.1 34) (Int32.toNatClampNeg (S.1 11 m)) p → ¬ V.1 36 (11 * (Int32.toNatClampNeg (S.1 12 m) - gp_Bs S) + (p + (gp_Tb (gp_Bs S) (S.1 34) (Int32.toNatClampNeg (S.1 11 m)) p).toNat)) = 0) ∧ ((S.1 10 m).toInt = 5 → gp_Tb (gp_Bs S) (S.1 34) (Int32.toNatClampNeg (S.1 11 m)) p = -1 → ¬ V.1 36 (11 * (Int32.toNatClampNeg (S.1 12 m) - gp_Bs S) + p) = 0))) → ((vp_in X 320) ∧ ((fun (kp243 : gm_S → Prop) => (((S.1 10 (Int32.toNatClampNeg X)) = 7) → ((gm_p_MD_taken (S.1 11 (Int32.toNatClampNeg X)) Y (va_up (va_up S.1 36 (V.1 36)) 37 (V.1 37), S.2.1, va_up S.2.2 38 (V.2.2 38))) ∧ (gm_bd (gm_f_MD_taken (S.1 11 (Int32.toNatClampNeg X)) Y (va_up (va_up S.1 36 (V.1 36)) 37 (V.1 37), S.2.1, va_up S.2.2 38 (V.2.2 38))) (fun r221 u221 => ((r221 ≤ 0) → (kp243 (va_up (va_up S.1 36 (V.1 36)) 37 (V.1 37), S.2.1, va_up S.2.2 38 (V.2.2 38)))) ∧ ((¬ (r221 ≤ 0)) → ((gm_p_MD_taken (S.1 11 (Int32.toNatClampNeg X)) Y (va_up (va_up S.1 36 (V.1 36)) 37 (V.1 37), S.2.1, va_up S.2.2 38 (V.2.2 38))) ∧ (gm_bd (gm_f_MD_taken (S.1 11 (Int32.toNatClampNeg X)) Y (va_up (va_up S.1 36 (V.1 36)) 37 (V.1 37), S.2.1, va_up S.2.2 38 (V.2.2 38))) (fun r236 u236 => (gm_p_MD_come X (Y + r236) (va_up (va_up S.1 36 (V.1 36)) 37 (V.1 37), S.2.1, va_up S.2.2 38 (V.2.2 38))) ∧ (gm_bd (gm_f_MD_come X (Y + r236) (va_up (va_up S.1 36 (V.1 36)) 37 (V.1 37), S.2.1, va_up S.2.2 38 (V.2.2 38))) (fun _ u240 => kp243 (va_up (va_up S.1 36 (u240.1 36)) 37 (u240.1 37), S.2.1, va_up S.2.2 38 (u240.2.2 38)))))))))))) ∧ ((¬ ((S.1 10 (Int32.toNatClampNeg X)) = 7)) → (kp243 (va_up (va_up S.1 36 (V.1 36)) 37 (V.1 37), S.2.1, va_up S.2.2 38 (V.2.2 38))))) (fun (S_j243 : gm_S) => gm_p_MD_evaluations_44 x S c1 C2 C3 n (v + 1) (va_up (va_up S.1 36 (S_j243.1 36)) 37 (S_j243.1 37), S.2.1, va_up S.2.2 38 (S_j243.2.2 38))))) ∧ Q ((fun (kf243 : gm_S → (Int32 × gm_S)) => if (S.1 10 (Int32.toNatClampNeg X)) = 7 then gm_bd (gm_f_MD_taken (S.1 11 (Int32.toNatClampNeg X)) Y (va_up (va_up S.1 36 (V.1 36)) 37 (V.1 37), S.2.1, va_up S.2.2 38 (V.2.2 38))) (fun r221 u221 => if r221 ≤ 0 then kf243 (va_up (va_up S.1 36 (V.1 36)) 37 (V.1 37), S.2.1, va_up S.2.2 38 (V.2.2 38)) else gm_bd (gm_f_MD_taken (S.1 11 (Int32.toNatClampNeg X)) Y (va_up (va_up S.1 36 (V.1 36)) 37 (V.1 37), S.2.1, va_up S.2.2 38 (V.2.2 38))) (fun r236 u236 => gm_bd (gm_f_MD_come X (Y + r236) (va_up (va_up S.1 36 (V.1 36)) 37 (V.1 37), S.2.1, va_up S.2.2 38 (V.2.2 38))) (fun _ u240 => kf243 (va_up (va_up S.1 36 (u240.1 36)) 37 (u240.1 37), S.2.1, va_up S.2.2 38 (u240.2.2 38))))) else kf243 (va_up (va_up S.1 36 (V.1 36)) 37 (V.1 37), S.2.1, va_up S.2.2 38 (V.2.2 38))) (fun (S_j243 : gm_S) => gm_f_MD_evaluations_44 x S c1 C2 C3 n (v + 1) (va_up (va_up S.1 36 (S_j243.1 36)) 37 (S_j243.1 37), S.2.1, va_up S.2.2 38 (S_j243.2.2 38)))) := by
      intro V hV
      have hV1 := hV.1
      have ff := hV.2
      refine gx_in (Q := Q) iX ?_
      refine gx_if (Q := Q) (fun k => ?_) (fun k => k243 _ ⟨hV1, fun _ => ⟨(ff ()).1, (ff ()).2.1, (ff ()).2.2.1, (ff ()).2.2.2, fun k7 => absurd k7 (by rw [cX] at k; have := gx_eqnr (k := 7) (gx_lit 7 (by decide)) k; omega)⟩⟩)
      rw [cX] at k
      have k7 := gx_eqr (k := 7) (gx_lit 7 (by decide)) k
      refine gx_ca (Q := Q) _ (tkn V (by omega)) (fun r u hr => ?_)
      have hr : r.toInt = gp_Tb (gp_Bs S) (S.1 34) (Int32.toNatClampNeg (S.1 11 m)) p := hr
      refine gx_if (Q := Q) (fun q => k243 _ ⟨hV1, fun _ => ⟨(ff ()).1, (ff ()).2.1, (ff ()).2.2.1, (ff ()).2.2.2, fun _ q0 => absurd q0 (by have := gx_ler (k := 0) z0 q; omega)⟩⟩) (fun q => ?_)
      have q0 := gx_lenr (k := 0) z0 q
      refine gx_ca (Q := Q) _ (tkn V (by omega)) (fun r' u' hr' => ?_)
      have hr' : r'.toInt = gp_Tb (gp_Bs S) (S.1 34) (Int32.toNatClampNeg (S.1 11 m)) p := hr'
      have s := kk V (by omega)
      rcases s with s | ⟨s1, s2, -⟩
      · omega
      have sy := gx_ad Y r'
      have cyr : Int32.toNatClampNeg (Y + r') = p + (gp_Tb (gp_Bs S) (S.1 34) (Int32.toNatClampNeg (S.1 11 m)) p).toNat := gp_cl_n (by omega)
      refine gx_ca (Q := Q) _ (cm V X (Y + r') hV1 (by omega) (by omega) (by omega) (by omega) (by omega) (by rw [cX, cyr]; exact hJs.2.2.2.2 k7 (by omega))) (fun _ u2 h2 => k243 _ ?_)
      obtain ⟨g1, g2, g3⟩ := h2
      rw [cX, cyr] at g3
      exact ⟨g1, fun _ => ⟨fun a => g2 _ ((ff ()).1 a), fun a => g2 _ ((ff ()).2.1 a), fun a b => g2 _ ((ff ()).2.2.1 a b), fun a b => g2 _ ((ff ()).2.2.2 a b), fun _ _ => g3⟩⟩
    have k171 : ∀ V : gm_S, (gc_V S P fed J U (Int32.toNatClampNeg v) st V ∧ (Unit → ((S.1 10 m).toInt = 3 → ¬ V.1 36 (11 * (Int32.toNatClampNeg (gp_Mz S m) - gp_Bs S) + p) = 0) ∧ (4 ≤ (S.1 10 m).toInt → ¬ V.1 36 (11 * (Int32.toNatClampNeg (S.1 11 m) - gp_Bs S) + p) = 0) ∧ ((S.1 10 m).toInt = 4 → 0 ≤ gp_Tb (gp_Bs S) (S.1 34) (Int32.toNatClampNeg (S.1 11 m)) p → ¬ V.1 36 (11 * (Int32.toNatClampNeg (S.1 12 m) - gp_Bs S) + (p + (gp_Tb (gp_Bs S) (S.1 34) (Int32.toNatClampNeg (S.1 11 m)) p).toNat)) = 0))) → ((vp_in X 320) ∧ ((fun (kp205 : gm_S → Prop) => (((S.1 10 (Int32.toNatClampNeg X)) = 5) → ((gm_p_MD_taken (S.1 11 (Int32.toNatClampNeg X)) Y (va_up (va_up S.1 36 (V.1 36)) 37 (V.1 37), S.2.1, va_up S.2.2 38 (V.2.2 38))) ∧ (gm_bd (gm_f_MD_taken (S.1 11 (Int32.toNatClampNeg X)) Y (va_up (va_up S.1 36 (V.1 36)) 37 (V.1 37), S.2.1, va_up S.2.2 38 (V.2.2 38))) (fun r186 u186 => ((r186 = (-1)) → ((vp_in X 320) ∧ ((gm_p_MD_come (S.1 12 (Int32.toNatClampNeg X)) Y (va_up (va_up S.1 36 (V.1 36)) 37 (V.1 37), S.2.1, va_up S.2.2 38 (V.2.2 38))) ∧ (gm_bd (gm_f_MD_come (S.1 12 (Int32.toNatClampNeg X)) Y (va_up (va_up S.1 36 (V.1 36)) 37 (V.1 37), S.2.1, va_up S.2.2 38 (V.2.2 38))) (fun _ u202 => kp205 (va_up (va_up S.1 36 (u202.1 36)) 37 (u202.1 37), S.2.1, va_up S.2.2 38 (u202.2.2 38))))))) ∧ ((¬ (r186 = (-1))) → (kp205 (va_up (va_up S.1 36 (V.1 36)) 37 (V.1 37), S.2.1, va_up S.2.2 38 (V.2.2 38)))))))) ∧ ((¬ ((S.1 10 (Int32.toNatClampNeg X)) = 5)) → (kp205 (va_up (va_up S.1 36 (V.1 36)) 37 (V.1 37), S.2.1, va_up S.2.2 38 (V.2.2 38))))) (fun (S_j205 : gm_S) => (vp_in X 320) ∧ ((fun (kp243 : gm_S → Prop) => (((S.1 10 (Int32.toNatClampNeg X)) = 7) → ((gm_p_MD_taken (S.1 11 (Int32.toNatClampNeg X)) Y (va_up (va_up S.1 36 (S_j205.1 36)) 37 (S_j205.1 37), S.2.1, va_up S.2.2 38 (S_j205.2.2 38))) ∧ (gm_bd (gm_f_MD_taken (S.1 11 (Int32.toNatClampNeg X)) Y (va_up (va_up S.1 36 (S_j205.1 36)) 37 (S_j205.1 37), S.2.1, va_up S.2.2 38 (S_j205.2.2 38))) (fun r221 u221 => ((r221 ≤ 0) → (kp243 (va_up (va_up S.1 36 (S_j205.1 36)) 37 (S_j205.1 37), S.2.1, va_up S.2.2 38 (S_j205.2.2 38)))) ∧ ((¬ (r221 ≤ 0)) → ((gm_p_MD_taken (S.1 11 (Int32.toNatClampNeg X)) Y (va_up (va_up S.1 36 (S_j205.1 36)) 37 (S_j205.1 37), S.2.1, va_up S.2.2 38 (S_j205.2.2 38))) ∧ (gm_bd (gm_f_MD_taken (S.1 11 (Int32.toNatClampNeg X)) Y (va_up (va_up S.1 36 (S_j205.1 36)) 37 (S_j205.1 37), S.2.1, va_up S.2.2 38 (S_j205.2.2 38))) (fun r236 u236 => (gm_p_MD_come X (Y + r236) (va_up (va_up S.1 36 (S_j205.1 36)) 37 (S_j205.1 37), S.2.1, va_up S.2.2 38 (S_j205.2.2 38))) ∧ (gm_bd (gm_f_MD_come X (Y + r236) (va_up (va_up S.1 36 (S_j205.1 36)) 37 (S_j205.1 37), S.2.1, va_up S.2.2 38 (S_j205.2.2 38))) (fun _ u240 => kp243 (va_up (va_up S.1 36 (u240.1 36)) 37 (u240.1 37), S.2.1, va_up S.2.2 38 (u240.2.2 38)))))))))))) ∧ ((¬ ((S.1 10 (Int32.toNatClampNeg X)) = 7)) → (kp243 (va_up (va_up S.1 36 (S_j205.1 36)) 37 (S_j205.1 37), S.2.1, va_up S.2.2 38 (S_j205.2.2 38))))) (fun (S_j243 : gm_S) => gm_p_MD_evaluations_44 x S c1 C2 C3 n (v + 1) (va_up (va_up S.1 36 (S_j243.1 36)) 37 (S_j243.1 37), S.2.1, va_up S.2.2 38 (S_j243.2.2 38))))))) ∧ Q ((fun (kf205 : gm_S → (Int32 × gm_S)) => if (S.1 10 (Int32.toNatClampNeg X)) = 5 then gm_bd (gm_f_MD_taken (S.1 11 (Int32.toNatClampNeg X)) Y (va_up (va_up S.1 36 (V.1 36)) 37 (V.1 37), S.2.1, va_up S.2.2 38 (V.2.2 38))) (fun r186 u186 => if r186 = (-1) then gm_bd (gm_f_MD_come (S.1 12 (Int32.toNatClampNeg X)) Y (va_up (va_up S.1 36 (V.1 36)) 37 (V.1 37), S.2.1, va_up S.2.2 38 (V.2.2 38))) (fun _ u202 => kf205 (va_up (va_up S.1 36 (u202.1 36)) 37 (u202.1 37), S.2.1, va_up S.2.2 38 (u202.2.2 38))) else kf205 (va_up (va_up S.1 36 (V.1 36)) 37 (V.1 37), S.2.1, va_up S.2.2 38 (V.2.2 38))) else kf205 (va_up (va_up S.1 36 (V.1 36)) 37 (V.1 37), S.2.1, va_up S.2.2 38 (V.2.2 38))) (fun (S_j205 : gm_S) => (fun (kf243 : gm_S → (Int32 × gm_S)) => if (S.1 10 (Int32.toNatClampNeg X)) = 7 then gm_bd (gm_f_MD_taken (S.1 11 (Int32.toNatClampNeg X)) Y (va_up (va_up S.1 36 (S_j205.1 36)) 37 (S_j205.1 37), S.2.1, va_up S.2.2 38 (S_j205.2.2 38))) (fun r221 u221 => if r221 ≤ 0 then kf243 (va_up (va_up S.1 36 (S_j205.1 36)) 37 (S_j205.1 37), S.2.1, va_up S.2.2 38 (S_j205.2.2 38)) else gm_bd (gm_f_MD_taken (S.1 11 (Int32.toNatClampNeg X)) Y (va_up (va_up S.1 36 (S_j205.1 36)) 37 (S_j205.1 37), S.2.1, va_up S.2.2 38 (S_j205.2.2 38))) (fun r236 u236 => gm_bd (gm_f_MD_come X (Y + r236) (va_up (va_up S.1 36 (S_j205.1 36)) 37 (S_j205.1 37), S.2.1, va_up S.2.2 38 (S_j205.2.2 38))) (fun _ u240 => kf243 (va_up (va_up S.1 36 (u240.1 36)) 37 (u240.1 37), S.2.1, va_up S.2.2 38 (u240.2.2 38))))) else kf243 (va_up (va_up S.1 36 (S_j205.1 36)) 37 (S_j205.1 37), S.2.1, va_up S.2.2 38 (S_j205.2.2 38))) (fun (S_j243 : gm_S) => gm_f_MD_evaluations_44 x S c1 C2 C3 n (v + 1) (va_up (va_up S.1 36 (S_j243.1 36)) 37 (S_j243.1 37), S.2.1, va_up S.2.2 38 (S_j243.2.2 38))))) := by
      intro V hV
      have hV1 := hV.1
      have ff := hV.2
      refine gx_in (Q := Q) iX ?_
      refine gx_if (Q := Q) (fun k => ?_) (fun k => k205 _ ⟨hV1, fun _ => ⟨(ff ()).1, (ff ()).2.1, (ff ()).2.2, fun k5 => absurd k5 (by rw [cX] at k; have := gx_eqnr (k := 5) (gx_lit 5 (by decide)) k; omega)⟩⟩)
      rw [cX] at k
      have k5 := gx_eqr (k := 5) (gx_lit 5 (by decide)) k
      have x2 := n45 (Or.inr k5)
      refine gx_ca (Q := Q) _ (tkn V (by omega)) (fun r u hr => ?_)
      have hr : r.toInt = gp_Tb (gp_Bs S) (S.1 34) (Int32.toNatClampNeg (S.1 11 m)) p := hr
      refine gx_if (Q := Q) (fun q => gx_in (Q := Q) iX ?_) (fun q => k205 _ ⟨hV1, fun _ => ⟨(ff ()).1, (ff ()).2.1, (ff ()).2.2, fun _ q0 => absurd q0 (by have := gx_eqnr (k := -1) n1 q; omega)⟩⟩)
      have q0 := gx_eqr (k := -1) n1 q
      refine gx_ca (Q := Q) _ (cm V (S.1 12 (Int32.toNatClampNeg X)) Y hV1 (by rw [cX]; exact x2.1) (by rw [cX]; omega) (by rw [cX]; omega) (by omega) (by omega) (by rw [cX, cY]; exact hJs.2.2.2.1 k5 (by omega))) (fun _ u2 h2 => k205 _ ?_)
      obtain ⟨g1, g2, g3⟩ := h2
      rw [cX, cY] at g3
      exact ⟨g1, fun _ => ⟨fun a => g2 _ ((ff ()).1 a), fun a => g2 _ ((ff ()).2.1 a), fun a b => g2 _ ((ff ()).2.2 a b), fun _ _ => g3⟩⟩
    have k129 : ∀ V : gm_S, (gc_V S P fed J U (Int32.toNatClampNeg v) st V ∧ (Unit → ((S.1 10 m).toInt = 3 → ¬ V.1 36 (11 * (Int32.toNatClampNeg (gp_Mz S m) - gp_Bs S) + p) = 0) ∧ (4 ≤ (S.1 10 m).toInt → ¬ V.1 36 (11 * (Int32.toNatClampNeg (S.1 11 m) - gp_Bs S) + p) = 0))) → ((vp_in X 320) ∧ ((fun (kp171 : gm_S → Prop) => (((S.1 10 (Int32.toNatClampNeg X)) = 4) → ((gm_p_MD_taken (S.1 11 (Int32.toNatClampNeg X)) Y (va_up (va_up S.1 36 (V.1 36)) 37 (V.1 37), S.2.1, va_up S.2.2 38 (V.2.2 38))) ∧ (gm_bd (gm_f_MD_taken (S.1 11 (Int32.toNatClampNeg X)) Y (va_up (va_up S.1 36 (V.1 36)) 37 (V.1 37), S.2.1, va_up S.2.2 38 (V.2.2 38))) (fun r144 u144 => ((r144 < 0) → (kp171 (va_up (va_up S.1 36 (V.1 36)) 37 (V.1 37), S.2.1, va_up S.2.2 38 (V.2.2 38)))) ∧ ((¬ (r144 < 0)) → ((vp_in X 320) ∧ ((gm_p_MD_taken (S.1 11 (Int32.toNatClampNeg X)) Y (va_up (va_up S.1 36 (V.1 36)) 37 (V.1 37), S.2.1, va_up S.2.2 38 (V.2.2 38))) ∧ (gm_bd (gm_f_MD_taken (S.1 11 (Int32.toNatClampNeg X)) Y (va_up (va_up S.1 36 (V.1 36)) 37 (V.1 37), S.2.1, va_up S.2.2 38 (V.2.2 38))) (fun r164 u164 => (gm_p_MD_come (S.1 12 (Int32.toNatClampNeg X)) (Y + r164) (va_up (va_up S.1 36 (V.1 36)) 37 (V.1 37), S.2.1, va_up S.2.2 38 (V.2.2 38))) ∧ (gm_bd (gm_f_MD_come (S.1 12 (Int32.toNatClampNeg X)) (Y + r164) (va_up (va_up S.1 36 (V.1 36)) 37 (V.1 37), S.2.1, va_up S.2.2 38 (V.2.2 38))) (fun _ u168 => kp171 (va_up (va_up S.1 36 (u168.1 36)) 37 (u168.1 37), S.2.1, va_up S.2.2 38 (u168.2.2 38))))))))))))) ∧ ((¬ ((S.1 10 (Int32.toNatClampNeg X)) = 4)) → (kp171 (va_up (va_up S.1 36 (V.1 36)) 37 (V.1 37), S.2.1, va_up S.2.2 38 (V.2.2 38))))) (fun (S_j171 : gm_S) => (vp_in X 320) ∧ ((fun (kp205 : gm_S → Prop) => (((S.1 10 (Int32.toNatClampNeg X)) = 5) → ((gm_p_MD_taken (S.1 11 (Int32.toNatClampNeg X)) Y (va_up (va_up S.1 36 (S_j171.1 36)) 37 (S_j171.1 37), S.2.1, va_up S.2.2 38 (S_j171.2.2 38))) ∧ (gm_bd (gm_f_MD_taken (S.1 11 (Int32.toNatClampNeg X)) Y (va_up (va_up S.1 36 (S_j171.1 36)) 37 (S_j171.1 37), S.2.1, va_up S.2.2 38 (S_j171.2.2 38))) (fun r186 u186 => ((r186 = (-1)) → ((vp_in X 320) ∧ ((gm_p_MD_come (S.1 12 (Int32.toNatClampNeg X)) Y (va_up (va_up S.1 36 (S_j171.1 36)) 37 (S_j171.1 37), S.2.1, va_up S.2.2 38 (S_j171.2.2 38))) ∧ (gm_bd (gm_f_MD_come (S.1 12 (Int32.toNatClampNeg X)) Y (va_up (va_up S.1 36 (S_j171.1 36)) 37 (S_j171.1 37), S.2.1, va_up S.2.2 38 (S_j171.2.2 38))) (fun _ u202 => kp205 (va_up (va_up S.1 36 (u202.1 36)) 37 (u202.1 37), S.2.1, va_up S.2.2 38 (u202.2.2 38))))))) ∧ ((¬ (r186 = (-1))) → (kp205 (va_up (va_up S.1 36 (S_j171.1 36)) 37 (S_j171.1 37), S.2.1, va_up S.2.2 38 (S_j171.2.2 38)))))))) ∧ ((¬ ((S.1 10 (Int32.toNatClampNeg X)) = 5)) → (kp205 (va_up (va_up S.1 36 (S_j171.1 36)) 37 (S_j171.1 37), S.2.1, va_up S.2.2 38 (S_j171.2.2 38))))) (fun (S_j205 : gm_S) => (vp_in X 320) ∧ ((fun (kp243 : gm_S → Prop) => (((S.1 10 (Int32.toNatClampNeg X)) = 7) → ((gm_p_MD_taken (S.1 11 (Int32.toNatClampNeg X)) Y (va_up (va_up S.1 36 (S_j205.1 36)) 37 (S_j205.1 37), S.2.1, va_up S.2.2 38 (S_j205.2.2 38))) ∧ (gm_bd (gm_f_MD_taken (S.1 11 (Int32.toNatClampNeg X)) Y (va_up (va_up S.1 36 (S_j205.1 36)) 37 (S_j205.1 37), S.2.1, va_up S.2.2 38 (S_j205.2.2 38))) (fun r221 u221 => ((r221 ≤ 0) → (kp243 (va_up (va_up S.1 36 (S_j205.1 36)) 37 (S_j205.1 37), S.2.1, va_up S.2.2 38 (S_j205.2.2 38)))) ∧ ((¬ (r221 ≤ 0)) → ((gm_p_MD_taken (S.1 11 (Int32.toNatClampNeg X)) Y (va_up (va_up S.1 36 (S_j205.1 36)) 37 (S_j205.1 37), S.2.1, va_up S.2.2 38 (S_j205.2.2 38))) ∧ (gm_bd (gm_f_MD_taken (S.1 11 (Int32.toNatClampNeg X)) Y (va_up (va_up S.1 36 (S_j205.1 36)) 37 (S_j205.1 37), S.2.1, va_up S.2.2 38 (S_j205.2.2 38))) (fun r236 u236 => (gm_p_MD_come X (Y + r236) (va_up (va_up S.1 36 (S_j205.1 36)) 37 (S_j205.1 37), S.2.1, va_up S.2.2 38 (S_j205.2.2 38))) ∧ (gm_bd (gm_f_MD_come X (Y + r236) (va_up (va_up S.1 36 (S_j205.1 36)) 37 (S_j205.1 37), S.2.1, va_up S.2.2 38 (S_j205.2.2 38))) (fun _ u240 => kp243 (va_up (va_up S.1 36 (u240.1 36)) 37 (u240.1 37), S.2.1, va_up S.2.2 38 (u240.2.2 38)))))))))))) ∧ ((¬ ((S.1 10 (Int32.toNatClampNeg X)) = 7)) → (kp243 (va_up (va_up S.1 36 (S_j205.1 36)) 37 (S_j205.1 37), S.2.1, va_up S.2.2 38 (S_j205.2.2 38))))) (fun (S_j243 : gm_S) => gm_p_MD_evaluations_44 x S c1 C2 C3 n (v + 1) (va_up (va_up S.1 36 (S_j243.1 36)) 37 (S_j243.1 37), S.2.1, va_up S.2.2 38 (S_j243.2.2 38))))))))) ∧ Q ((fun (kf171 : gm_S → (Int32 × gm_S)) => if (S.1 10 (Int32.toNatClampNeg X)) = 4 then gm_bd (gm_f_MD_taken (S.1 11 (Int32.toNatClampNeg X)) Y (va_up (va_up S.1 36 (V.1 36)) 37 (V.1 37), S.2.1, va_up S.2.2 38 (V.2.2 38))) (fun r144 u144 => if r144 < 0 then kf171 (va_up (va_up S.1 36 (V.1 36)) 37 (V.1 37), S.2.1, va_up S.2.2 38 (V.2.2 38)) else gm_bd (gm_f_MD_taken (S.1 11 (Int32.toNatClampNeg X)) Y (va_up (va_up S.1 36 (V.1 36)) 37 (V.1 37), S.2.1, va_up S.2.2 38 (V.2.2 38))) (fun r164 u164 => gm_bd (gm_f_MD_come (S.1 12 (Int32.toNatClampNeg X)) (Y + r164) (va_up (va_up S.1 36 (V.1 36)) 37 (V.1 37), S.2.1, va_up S.2.2 38 (V.2.2 38))) (fun _ u168 => kf171 (va_up (va_up S.1 36 (u168.1 36)) 37 (u168.1 37), S.2.1, va_up S.2.2 38 (u168.2.2 38))))) else kf171 (va_up (va_up S.1 36 (V.1 36)) 37 (V.1 37), S.2.1, va_up S.2.2 38 (V.2.2 38))) (fun (S_j171 : gm_S) => (fun (kf205 : gm_S → (Int32 × gm_S)) => if (S.1 10 (Int32.toNatClampNeg X)) = 5 then gm_bd (gm_f_MD_taken (S.1 11 (Int32.toNatClampNeg X)) Y (va_up (va_up S.1 36 (S_j171.1 36)) 37 (S_j171.1 37), S.2.1, va_up S.2.2 38 (S_j171.2.2 38))) (fun r186 u186 => if r186 = (-1) then gm_bd (gm_f_MD_come (S.1 12 (Int32.toNatClampNeg X)) Y (va_up (va_up S.1 36 (S_j171.1 36)) 37 (S_j171.1 37), S.2.1, va_up S.2.2 38 (S_j171.2.2 38))) (fun _ u202 => kf205 (va_up (va_up S.1 36 (u202.1 36)) 37 (u202.1 37), S.2.1, va_up S.2.2 38 (u202.2.2 38))) else kf205 (va_up (va_up S.1 36 (S_j171.1 36)) 37 (S_j171.1 37), S.2.1, va_up S.2.2 38 (S_j171.2.2 38))) else kf205 (va_up (va_up S.1 36 (S_j171.1 36)) 37 (S_j171.1 37), S.2.1, va_up S.2.2 38 (S_j171.2.2 38))) (fun (S_j205 : gm_S) => (fun (kf243 : gm_S → (Int32 × gm_S)) => if (S.1 10 (Int32.toNatClampNeg X)) = 7 then gm_bd (gm_f_MD_taken (S.1 11 (Int32.toNatClampNeg X)) Y (va_up (va_up S.1 36 (S_j205.1 36)) 37 (S_j205.1 37), S.2.1, va_up S.2.2 38 (S_j205.2.2 38))) (fun r221 u221 => if r221 ≤ 0 then kf243 (va_up (va_up S.1 36 (S_j205.1 36)) 37 (S_j205.1 37), S.2.1, va_up S.2.2 38 (S_j205.2.2 38)) else gm_bd (gm_f_MD_taken (S.1 11 (Int32.toNatClampNeg X)) Y (va_up (va_up S.1 36 (S_j205.1 36)) 37 (S_j205.1 37), S.2.1, va_up S.2.2 38 (S_j205.2.2 38))) (fun r236 u236 => gm_bd (gm_f_MD_come X (Y + r236) (va_up (va_up S.1 36 (S_j205.1 36)) 37 (S_j205.1 37), S.2.1, va_up S.2.2 38 (S_j205.2.2 38))) (fun _ u240 => kf243 (va_up (va_up S.1 36 (u240.1 36)) 37 (u240.1 37), S.2.1, va_up S.2.2 38 (u240.2.2 38))))) else kf243 (va_up (va_up S.1 36 (S_j205.1 36)) 37 (S_j205.1 37), S.2.1, va_up S.2.2 38 (S_j205.2.2 38))) (fun (S_j243 : gm_S) => gm_f_MD_evaluations_44 x S c1 C2 C3 n (v + 1) (va_up (va_up S.1 36 (S_j243.1 36)) 37 (S_j243.1 37), S.2.1, va_up S.2.2 38 (S_j243.2.2 38)))))) := by
      intro V hV
      have hV1 := hV.1
      have ff := hV.2
      refine gx_in (Q := Q) iX ?_
      refine gx_if (Q := Q) (fun k => ?_) (fun k => k171 _ ⟨hV1, fun _ => ⟨(ff ()).1, (ff ()).2, fun k5 => absurd k5 (by rw [cX] at k; have := gx_eqnr (k := 4) (gx_lit 4 (by decide)) k; omega)⟩⟩)
      rw [cX] at k
      have k4 := gx_eqr (k := 4) (gx_lit 4 (by decide)) k
      have x2 := n45 (Or.inl k4)
      refine gx_ca (Q := Q) _ (tkn V (by omega)) (fun r u hr => ?_)
      have hr : r.toInt = gp_Tb (gp_Bs S) (S.1 34) (Int32.toNatClampNeg (S.1 11 m)) p := hr
      refine gx_if (Q := Q) (fun q => k171 _ ⟨hV1, fun _ => ⟨(ff ()).1, (ff ()).2, fun _ q0 => absurd q0 (by have := gx_ltr (k := 0) z0 q; omega)⟩⟩) (fun q => gx_in (Q := Q) iX ?_)
      refine gx_ca (Q := Q) _ (tkn V (by omega)) (fun r' u' hr' => ?_)
      have hr : r.toInt = gp_Tb (gp_Bs S) (S.1 34) (Int32.toNatClampNeg (S.1 11 m)) p := hr
      have hr' : r'.toInt = gp_Tb (gp_Bs S) (S.1 34) (Int32.toNatClampNeg (S.1 11 m)) p := hr'
      have q0 := gx_ltnr (k := 0) z0 q
      have s := kk V (by omega)
      rcases s with s | ⟨s1, s2, -⟩
      · omega
      have sy := gx_ad Y r'
      have cyr : Int32.toNatClampNeg (Y + r') = p + (gp_Tb (gp_Bs S) (S.1 34) (Int32.toNatClampNeg (S.1 11 m)) p).toNat := gp_cl_n (by omega)
      refine gx_ca (Q := Q) _ (cm V (S.1 12 (Int32.toNatClampNeg X)) (Y + r') hV1 (by rw [cX]; exact x2.1) (by rw [cX]; omega) (by rw [cX]; omega) (by omega) (by omega) (by rw [cX, cyr]; exact hJs.2.2.1 k4 (by omega))) (fun _ u2 h2 => k171 _ ?_)
      obtain ⟨g1, g2, g3⟩ := h2
      rw [cX, cyr] at g3
      exact ⟨g1, fun _ => ⟨fun a => g2 _ ((ff ()).1 a), fun a => g2 _ ((ff ()).2 a), fun _ _ => g3⟩⟩
    have k111 : ∀ V : gm_S, (gc_V S P fed J U (Int32.toNatClampNeg v) st V ∧ (Unit → ((S.1 10 m).toInt = 3 → ¬ V.1 36 (11 * (Int32.toNatClampNeg (gp_Mz S m) - gp_Bs S) + p) = 0))) → ((vp_in X 320) ∧ ((fun (kp129 : gm_S → Prop) => (((S.1 10 (Int32.toNatClampNeg X)) ≤ 3) → (kp129 (va_up (va_up S.1 36 (V.1 36)) 37 (V.1 37), S.2.1, va_up S.2.2 38 (V.2.2 38)))) ∧ ((¬ ((S.1 10 (Int32.toNatClampNeg X)) ≤ 3)) → ((gm_p_MD_come (S.1 11 (Int32.toNatClampNeg X)) Y (va_up (va_up S.1 36 (V.1 36)) 37 (V.1 37), S.2.1, va_up S.2.2 38 (V.2.2 38))) ∧ (gm_bd (gm_f_MD_come (S.1 11 (Int32.toNatClampNeg X)) Y (va_up (va_up S.1 36 (V.1 36)) 37 (V.1 37), S.2.1, va_up S.2.2 38 (V.2.2 38))) (fun _ u126 => kp129 (va_up (va_up S.1 36 (u126.1 36)) 37 (u126.1 37), S.2.1, va_up S.2.2 38 (u126.2.2 38))))))) (fun (S_j129 : gm_S) => (vp_in X 320) ∧ ((fun (kp171 : gm_S → Prop) => (((S.1 10 (Int32.toNatClampNeg X)) = 4) → ((gm_p_MD_taken (S.1 11 (Int32.toNatClampNeg X)) Y (va_up (va_up S.1 36 (S_j129.1 36)) 37 (S_j129.1 37), S.2.1, va_up S.2.2 38 (S_j129.2.2 38))) ∧ (gm_bd (gm_f_MD_taken (S.1 11 (Int32.toNatClampNeg X)) Y (va_up (va_up S.1 36 (S_j129.1 36)) 37 (S_j129.1 37), S.2.1, va_up S.2.2 38 (S_j129.2.2 38))) (fun r144 u144 => ((r144 < 0) → (kp171 (va_up (va_up S.1 36 (S_j129.1 36)) 37 (S_j129.1 37), S.2.1, va_up S.2.2 38 (S_j129.2.2 38)))) ∧ ((¬ (r144 < 0)) → ((vp_in X 320) ∧ ((gm_p_MD_taken (S.1 11 (Int32.toNatClampNeg X)) Y (va_up (va_up S.1 36 (S_j129.1 36)) 37 (S_j129.1 37), S.2.1, va_up S.2.2 38 (S_j129.2.2 38))) ∧ (gm_bd (gm_f_MD_taken (S.1 11 (Int32.toNatClampNeg X)) Y (va_up (va_up S.1 36 (S_j129.1 36)) 37 (S_j129.1 37), S.2.1, va_up S.2.2 38 (S_j129.2.2 38))) (fun r164 u164 => (gm_p_MD_come (S.1 12 (Int32.toNatClampNeg X)) (Y + r164) (va_up (va_up S.1 36 (S_j129.1 36)) 37 (S_j129.1 37), S.2.1, va_up S.2.2 38 (S_j129.2.2 38))) ∧ (gm_bd (gm_f_MD_come (S.1 12 (Int32.toNatClampNeg X)) (Y + r164) (va_up (va_up S.1 36 (S_j129.1 36)) 37 (S_j129.1 37), S.2.1, va_up S.2.2 38 (S_j129.2.2 38))) (fun _ u168 => kp171 (va_up (va_up S.1 36 (u168.1 36)) 37 (u168.1 37), S.2.1, va_up S.2.2 38 (u168.2.2 38))))))))))))) ∧ ((¬ ((S.1 10 (Int32.toNatClampNeg X)) = 4)) → (kp171 (va_up (va_up S.1 36 (S_j129.1 36)) 37 (S_j129.1 37), S.2.1, va_up S.2.2 38 (S_j129.2.2 38))))) (fun (S_j171 : gm_S) => (vp_in X 320) ∧ ((fun (kp205 : gm_S → Prop) => (((S.1 10 (Int32.toNatClampNeg X)) = 5) → ((gm_p_MD_taken (S.1 11 (Int32.toNatClampNeg X)) Y (va_up (va_up S.1 36 (S_j171.1 36)) 37 (S_j171.1 37), S.2.1, va_up S.2.2 38 (S_j171.2.2 38))) ∧ (gm_bd (gm_f_MD_taken (S.1 11 (Int32.toNatClampNeg X)) Y (va_up (va_up S.1 36 (S_j171.1 36)) 37 (S_j171.1 37), S.2.1, va_up S.2.2 38 (S_j171.2.2 38))) (fun r186 u186 => ((r186 = (-1)) → ((vp_in X 320) ∧ ((gm_p_MD_come (S.1 12 (Int32.toNatClampNeg X)) Y (va_up (va_up S.1 36 (S_j171.1 36)) 37 (S_j171.1 37), S.2.1, va_up S.2.2 38 (S_j171.2.2 38))) ∧ (gm_bd (gm_f_MD_come (S.1 12 (Int32.toNatClampNeg X)) Y (va_up (va_up S.1 36 (S_j171.1 36)) 37 (S_j171.1 37), S.2.1, va_up S.2.2 38 (S_j171.2.2 38))) (fun _ u202 => kp205 (va_up (va_up S.1 36 (u202.1 36)) 37 (u202.1 37), S.2.1, va_up S.2.2 38 (u202.2.2 38))))))) ∧ ((¬ (r186 = (-1))) → (kp205 (va_up (va_up S.1 36 (S_j171.1 36)) 37 (S_j171.1 37), S.2.1, va_up S.2.2 38 (S_j171.2.2 38)))))))) ∧ ((¬ ((S.1 10 (Int32.toNatClampNeg X)) = 5)) → (kp205 (va_up (va_up S.1 36 (S_j171.1 36)) 37 (S_j171.1 37), S.2.1, va_up S.2.2 38 (S_j171.2.2 38))))) (fun (S_j205 : gm_S) => (vp_in X 320) ∧ ((fun (kp243 : gm_S → Prop) => (((S.1 10 (Int32.toNatClampNeg X)) = 7) → ((gm_p_MD_taken (S.1 11 (Int32.toNatClampNeg X)) Y (va_up (va_up S.1 36 (S_j205.1 36)) 37 (S_j205.1 37), S.2.1, va_up S.2.2 38 (S_j205.2.2 38))) ∧ (gm_bd (gm_f_MD_taken (S.1 11 (Int32.toNatClampNeg X)) Y (va_up (va_up S.1 36 (S_j205.1 36)) 37 (S_j205.1 37), S.2.1, va_up S.2.2 38 (S_j205.2.2 38))) (fun r221 u221 => ((r221 ≤ 0) → (kp243 (va_up (va_up S.1 36 (S_j205.1 36)) 37 (S_j205.1 37), S.2.1, va_up S.2.2 38 (S_j205.2.2 38)))) ∧ ((¬ (r221 ≤ 0)) → ((gm_p_MD_taken (S.1 11 (Int32.toNatClampNeg X)) Y (va_up (va_up S.1 36 (S_j205.1 36)) 37 (S_j205.1 37), S.2.1, va_up S.2.2 38 (S_j205.2.2 38))) ∧ (gm_bd (gm_f_MD_taken (S.1 11 (Int32.toNatClampNeg X)) Y (va_up (va_up S.1 36 (S_j205.1 36)) 37 (S_j205.1 37), S.2.1, va_up S.2.2 38 (S_j205.2.2 38))) (fun r236 u236 => (gm_p_MD_come X (Y + r236) (va_up (va_up S.1 36 (S_j205.1 36)) 37 (S_j205.1 37), S.2.1, va_up S.2.2 38 (S_j205.2.2 38))) ∧ (gm_bd (gm_f_MD_come X (Y + r236) (va_up (va_up S.1 36 (S_j205.1 36)) 37 (S_j205.1 37), S.2.1, va_up S.2.2 38 (S_j205.2.2 38))) (fun _ u240 => kp243 (va_up (va_up S.1 36 (u240.1 36)) 37 (u240.1 37), S.2.1, va_up S.2.2 38 (u240.2.2 38)))))))))))) ∧ ((¬ ((S.1 10 (Int32.toNatClampNeg X)) = 7)) → (kp243 (va_up (va_up S.1 36 (S_j205.1 36)) 37 (S_j205.1 37), S.2.1, va_up S.2.2 38 (S_j205.2.2 38))))) (fun (S_j243 : gm_S) => gm_p_MD_evaluations_44 x S c1 C2 C3 n (v + 1) (va_up (va_up S.1 36 (S_j243.1 36)) 37 (S_j243.1 37), S.2.1, va_up S.2.2 38 (S_j243.2.2 38))))))))))) ∧ Q ((fun (kf129 : gm_S → (Int32 × gm_S)) => if (S.1 10 (Int32.toNatClampNeg X)) ≤ 3 then kf129 (va_up (va_up S.1 36 (V.1 36)) 37 (V.1 37), S.2.1, va_up S.2.2 38 (V.2.2 38)) else gm_bd (gm_f_MD_come (S.1 11 (Int32.toNatClampNeg X)) Y (va_up (va_up S.1 36 (V.1 36)) 37 (V.1 37), S.2.1, va_up S.2.2 38 (V.2.2 38))) (fun _ u126 => kf129 (va_up (va_up S.1 36 (u126.1 36)) 37 (u126.1 37), S.2.1, va_up S.2.2 38 (u126.2.2 38)))) (fun (S_j129 : gm_S) => (fun (kf171 : gm_S → (Int32 × gm_S)) => if (S.1 10 (Int32.toNatClampNeg X)) = 4 then gm_bd (gm_f_MD_taken (S.1 11 (Int32.toNatClampNeg X)) Y (va_up (va_up S.1 36 (S_j129.1 36)) 37 (S_j129.1 37), S.2.1, va_up S.2.2 38 (S_j129.2.2 38))) (fun r144 u144 => if r144 < 0 then kf171 (va_up (va_up S.1 36 (S_j129.1 36)) 37 (S_j129.1 37), S.2.1, va_up S.2.2 38 (S_j129.2.2 38)) else gm_bd (gm_f_MD_taken (S.1 11 (Int32.toNatClampNeg X)) Y (va_up (va_up S.1 36 (S_j129.1 36)) 37 (S_j129.1 37), S.2.1, va_up S.2.2 38 (S_j129.2.2 38))) (fun r164 u164 => gm_bd (gm_f_MD_come (S.1 12 (Int32.toNatClampNeg X)) (Y + r164) (va_up (va_up S.1 36 (S_j129.1 36)) 37 (S_j129.1 37), S.2.1, va_up S.2.2 38 (S_j129.2.2 38))) (fun _ u168 => kf171 (va_up (va_up S.1 36 (u168.1 36)) 37 (u168.1 37), S.2.1, va_up S.2.2 38 (u168.2.2 38))))) else kf171 (va_up (va_up S.1 36 (S_j129.1 36)) 37 (S_j129.1 37), S.2.1, va_up S.2.2 38 (S_j129.2.2 38))) (fun (S_j171 : gm_S) => (fun (kf205 : gm_S → (Int32 × gm_S)) => if (S.1 10 (Int32.toNatClampNeg X)) = 5 then gm_bd (gm_f_MD_taken (S.1 11 (Int32.toNatClampNeg X)) Y (va_up (va_up S.1 36 (S_j171.1 36)) 37 (S_j171.1 37), S.2.1, va_up S.2.2 38 (S_j171.2.2 38))) (fun r186 u186 => if r186 = (-1) then gm_bd (gm_f_MD_come (S.1 12 (Int32.toNatClampNeg X)) Y (va_up (va_up S.1 36 (S_j171.1 36)) 37 (S_j171.1 37), S.2.1, va_up S.2.2 38 (S_j171.2.2 38))) (fun _ u202 => kf205 (va_up (va_up S.1 36 (u202.1 36)) 37 (u202.1 37), S.2.1, va_up S.2.2 38 (u202.2.2 38))) else kf205 (va_up (va_up S.1 36 (S_j171.1 36)) 37 (S_j171.1 37), S.2.1, va_up S.2.2 38 (S_j171.2.2 38))) else kf205 (va_up (va_up S.1 36 (S_j171.1 36)) 37 (S_j171.1 37), S.2.1, va_up S.2.2 38 (S_j171.2.2 38))) (fun (S_j205 : gm_S) => (fun (kf243 : gm_S → (Int32 × gm_S)) => if (S.1 10 (Int32.toNatClampNeg X)) = 7 then gm_bd (gm_f_MD_taken (S.1 11 (Int32.toNatClampNeg X)) Y (va_up (va_up S.1 36 (S_j205.1 36)) 37 (S_j205.1 37), S.2.1, va_up S.2.2 38 (S_j205.2.2 38))) (fun r221 u221 => if r221 ≤ 0 then kf243 (va_up (va_up S.1 36 (S_j205.1 36)) 37 (S_j205.1 37), S.2.1, va_up S.2.2 38 (S_j205.2.2 38)) else gm_bd (gm_f_MD_taken (S.1 11 (Int32.toNatClampNeg X)) Y (va_up (va_up S.1 36 (S_j205.1 36)) 37 (S_j205.1 37), S.2.1, va_up S.2.2 38 (S_j205.2.2 38))) (fun r236 u236 => gm_bd (gm_f_MD_come X (Y + r236) (va_up (va_up S.1 36 (S_j205.1 36)) 37 (S_j205.1 37), S.2.1, va_up S.2.2 38 (S_j205.2.2 38))) (fun _ u240 => kf243 (va_up (va_up S.1 36 (u240.1 36)) 37 (u240.1 37), S.2.1, va_up S.2.2 38 (u240.2.2 38))))) else kf243 (va_up (va_up S.1 36 (S_j205.1 36)) 37 (S_j205.1 37), S.2.1, va_up S.2.2 38 (S_j205.2.2 38))) (fun (S_j243 : gm_S) => gm_f_MD_evaluations_44 x S c1 C2 C3 n (v + 1) (va_up (va_up S.1 36 (S_j243.1 36)) 37 (S_j243.1 37), S.2.1, va_up S.2.2 38 (S_j243.2.2 38))))))) := by
      intro V hV
      have hV1 := hV.1
      have ff := hV.2
      refine gx_in (Q := Q) iX ?_
      refine gx_if (Q := Q) (fun k => k129 _ ⟨hV1, fun _ => ⟨ff (), fun k4 => absurd k4 (by rw [cX] at k; have := gx_ler (k := 3) (gx_lit 3 (by decide)) k; omega)⟩⟩) (fun k => ?_)
      rw [cX] at k
      have k4 := gx_lenr (k := 3) (gx_lit 3 (by decide)) k
      have x1 := n4 (by omega)
      refine gx_ca (Q := Q) _ (cm V (S.1 11 (Int32.toNatClampNeg X)) Y hV1 (by rw [cX]; exact x1.1) (by rw [cX]; omega) (by rw [cX]; omega) (by omega) (by omega) (by rw [cX, cY]; exact hJs.2.1 (by omega))) (fun _ u2 h2 => k129 _ ?_)
      obtain ⟨g1, g2, g3⟩ := h2
      rw [cX, cY] at g3
      exact ⟨g1, fun _ => ⟨fun a => g2 _ (ff () a), fun _ => g3⟩⟩
    refine gx_in (Q := Q) iv (gx_in (Q := Q) iv (gx_in (Q := Q) iX (gx_in (Q := Q) iX ?_)))
    refine gx_if (Q := Q) (fun k => ?_) (fun k => k111 _ ⟨hV0, fun _ k3 => absurd k3 (by rw [cX] at k; have := gx_eqnr (k := 3) (gx_lit 3 (by decide)) k; omega)⟩)
    rw [cX] at k
    have k3 := gx_eqr (k := 3) (gx_lit 3 (by decide)) k
    have x3 := n3 k3
    refine gx_ca (Q := Q) (fun z : Int32 × gm_S => gp_me (S.1 6) (S.1 7) (S.1 8) (S.2.2 4) (S.1 11 (Int32.toNatClampNeg X)) z.1) (gy_s_MD_meant X (S.2.2 4) _ b0 b1 r1 (by omega) (by omega)) (fun r u hr => ?_)
    have hr : gp_me (S.1 6) (S.1 7) (S.1 8) (S.2.2 4) (S.1 11 (Int32.toNatClampNeg X)) r := hr
    rw [cX] at hr
    have er : r = gp_Mz S m := gp_mz_eq b0 hr
    rw [er]
    refine gx_ca (Q := Q) _ (cm U (gp_Mz S m) Y hV0 x3.1 x3.2.1 (by omega) (by omega) (by omega) (by rw [cY]; exact hJs.1 k3)) (fun _ u2 h2 => k111 _ ?_)
    obtain ⟨g1, g2, g3⟩ := h2
    rw [cY] at g3
    exact ⟨g1, fun _ _ => g3⟩
