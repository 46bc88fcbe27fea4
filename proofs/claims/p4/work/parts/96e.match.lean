/-! The reference counts evaluations: its row of waiting cells suffices. -/
def gp_EI (S : gm_S) (P fed : Nat) (a36 a37 : Nat → Int32) (w : Nat) : Prop := (∀ i, i < w → ∃ m q, gp_Bs S ≤ m ∧ m < gp_Bs S + P ∧ q ≤ fed ∧ (a37 i).toInt = ((11 * (m - gp_Bs S) + q : Nat) : Int)) ∧ gp_c (fun c => decide (¬ a36 c = 0)) (11 * P) = w
theorem gp_c_one {x y : Nat → Bool} {c : Nat} (hy : ∀ k, k ≠ c → y k = x k) (h1 : y c = true) (h0 : ¬ x c = true) : ∀ n, gp_c y n = gp_c x n + (if c < n then 1 else 0) := by
  intro n
  induction n with
  | zero => rw [if_neg (by omega)]; rfl
  | succ n ih =>
    unfold gp_c
    rw [ih]
    by_cases e : n = c
    · rw [e, if_neg (Nat.lt_irrefl c), if_pos h1, if_neg h0, if_pos (by omega)]
    · rw [hy n e]
      by_cases l : c < n
      · rw [if_pos l, if_pos (show c < n + 1 by omega)]; omega
      · rw [if_neg l, if_neg (show ¬ c < n + 1 by omega)]; omega
def gp_coQ (S : gm_S) (P fed w : Nat) (z : Int32 × gm_S) : Prop := ∃ w', w ≤ w' ∧ (z.2.2.2 38).toInt = (w' : Int) ∧ gp_EI S P fed (z.2.1 36) (z.2.1 37) w'
theorem gz_come (x y : Int32) (S : gm_S) {P fed : Nat} (hC : gp_WC S P fed) (hx : gp_Bs S ≤ Int32.toNatClampNeg x) (hx2 : Int32.toNatClampNeg x < gp_Bs S + P) (hx3 : 0 ≤ x.toInt) (hy : 0 ≤ y.toInt) (hy2 : y.toInt ≤ fed) {w : Nat} (hw : (S.2.2 38).toInt = (w : Int)) (hE : gp_EI S P fed (S.1 36) (S.1 37) w) : gm_p_MD_come x y S ∧ (gp_coQ S P fed w) (gm_f_MD_come x y S) := by
  obtain ⟨⟨b0, b1⟩, ⟨p0, p1⟩, ⟨f0, f1⟩, -⟩ := hC
  have cx := gx_cl x hx3
  have cy := gx_cl y hy
  have cb := gx_cl (S.2.2 4) b0
  have hx' : 160 * Int32.toNatClampNeg (S.2.2 4) ≤ Int32.toNatClampNeg x := hx
  have hx2' : Int32.toNatClampNeg x < 160 * Int32.toNatClampNeg (S.2.2 4) + P := hx2
  have e0 : Int32.toNatClampNeg (S.2.2 38) = w := gp_cl_n hw
  obtain ⟨Q, hQ⟩ : ∃ Q, Q = (gp_coQ S P fed w) := ⟨_, rfl⟩
  rw [← hQ]
  unfold gm_p_MD_come gm_f_MD_come
  refine gx_ca (Q := Q) _ (gz_cell x y S b0 b1 (by omega) (by omega) hy (by omega)) ?_
  intro r u hr
  have hr1 : vp_in r 1760 := hr.1
  have hr2 : Int32.toNatClampNeg r = 11 * (Int32.toNatClampNeg x - gp_Bs S) + Int32.toNatClampNeg y := hr.2
  have hr3 := vp_in_iff.mp hr1
  have cr := gx_cl r hr3.1
  have hB : gp_Bs S = 160 * Int32.toNatClampNeg (S.2.2 4) := rfl
  have rl : Int32.toNatClampNeg r < 11 * P := by omega
  refine gx_in (Q := Q) hr1 ?_
  refine gx_if (Q := Q) (fun q => ?_) (fun q => ⟨trivial, by rw [hQ]; exact ⟨w, Nat.le_refl w, hw, hE⟩⟩)
  have wl : w < 11 * P := by
    have le := gp_c_le (fun c => decide (¬ S.1 36 c = 0)) (11 * P)
    rw [hE.2] at le
    rcases Nat.lt_or_ge w (11 * P) with h | h
    · exact h
    · have := gp_c_all (x := fun c => decide (¬ S.1 36 c = 0)) (n := 11 * P) (by rw [hE.2]; exact h) (Int32.toNatClampNeg r) rl
      exact absurd q (of_decide_eq_true this)
  have a1 := gx_ak (S.2.2 38) 1 1 (by decide)
  refine ⟨⟨hr1, vp_in_iff.mpr (by omega), trivial⟩, ?_⟩
  rw [hQ]
  refine ⟨w + 1, by omega, ?_, fun i hi => ?_, ?_⟩
  · show ((S.2.2 38) + 1).toInt = ((w + 1 : Nat) : Int)
    omega
  · show ∃ m q, gp_Bs S ≤ m ∧ m < gp_Bs S + P ∧ q ≤ fed ∧ (upd (S.1 37) (Int32.toNatClampNeg (S.2.2 38)) r i).toInt = ((11 * (m - gp_Bs S) + q : Nat) : Int)
    rw [e0]
    by_cases e : i = w
    · rw [e, gx_us]
      exact ⟨Int32.toNatClampNeg x, Int32.toNatClampNeg y, hx, hx2, by omega, by omega⟩
    · rw [gx_un _ _ _ e]
      exact hE.1 i (by omega)
  · show gp_c (fun c => decide (¬ upd (S.1 36) (Int32.toNatClampNeg r) (vp_nar .boolean 1) c = 0)) (11 * P) = w + 1
    have one := gp_c_one (x := fun c => decide (¬ S.1 36 c = 0)) (y := fun c => decide (¬ upd (S.1 36) (Int32.toNatClampNeg r) (vp_nar .boolean 1) c = 0)) (c := Int32.toNatClampNeg r) (fun k hk => by rw [gx_un _ _ _ hk]) (by rw [gx_us]; decide) (fun h => of_decide_eq_true h q) (11 * P)
    rw [one, hE.2, if_pos rl]
theorem gz_isRuled12 (x y : Int32) (S : gm_S) {P fed : Nat} (hC : gp_WC S P fed) (hy : 0 ≤ y.toInt) (hy2 : y.toInt ≤ fed) : ∀ (n : Nat) (v4 v3 : Int32) (U : gm_S), 160 * (S.2.2 4).toInt ≤ v4.toInt → v4.toInt ≤ 160 * (S.2.2 4).toInt + P → 160 * (S.2.2 4).toInt + P < v4.toInt + n → (v3 = 0 ∨ v3 = 1) → gm_p_MD_isRuled_12 x y S n v4 v3 U ∧ (fun z : Int32 × gm_S => True) (gm_f_MD_isRuled_12 x y S n v4 v3 U) := by
  obtain ⟨⟨b0, b1⟩, ⟨p0, p1⟩, ⟨f0, f1⟩, ⟨ty, hU⟩, -⟩ := hC
  have r1 := hU.2.2.1.2
  have m := gx_mk 160 (S.2.2 4) 160 (gx_lit 160 (by decide))
  have s := gx_ad (160 * (S.2.2 4)) ((S.1 9) (Int32.toNatClampNeg (S.2.2 4)))
  have T : (160 * (S.2.2 4) + (S.1 9) (Int32.toNatClampNeg (S.2.2 4))).toInt = 160 * (S.2.2 4).toInt + P := by omega
  clear m s
  obtain ⟨Q, hQ⟩ : ∃ Q, Q = (fun z : Int32 × gm_S => True) := ⟨_, rfl⟩
  rw [← hQ]
  intro n
  induction n with
  | zero => intro v4 v3 U _ _ h; exfalso; omega
  | succ n ih =>
    intro v4 v3 U h0 h1 h2 h3
    rw [gm_p_MD_isRuled_12, gm_f_MD_isRuled_12]
    refine gx_in (Q := Q) (vp_in_iff.mpr (by omega)) ?_
    refine gx_if (Q := Q) (fun q => gx_in (Q := Q) h3 ⟨trivial, by rw [hQ]; trivial⟩) (fun q => ?_)
    have q1 := gx_len q
    rw [T] at q1
    have b := gx_ak v4 1 1 (by decide)
    have nx : ∀ j : Int32, (j = 0 ∨ j = 1) → gm_p_MD_isRuled_12 x y S n (v4 + 1) j S ∧ Q (gm_f_MD_isRuled_12 x y S n (v4 + 1) j S) := fun j hj => ih (v4 + 1) j S (by omega) (by omega) (by omega) hj
    have iv : vp_in v4 320 := vp_in_iff.mpr (by omega)
    refine gx_if (Q := Q) (fun q => gx_in (Q := Q) iv ?_) (fun q => nx 1 (Or.inr rfl))
    refine gx_if (Q := Q) (fun q => gx_in (Q := Q) iv ?_) (fun q => nx 0 (Or.inl rfl))
    refine gx_ca (Q := Q) (fun z : Int32 × gm_S => gp_ru (S.1 6) (S.1 7) (S.2.2 4) ((S.1 11) (Int32.toNatClampNeg v4)) z.1) (gy_s_MD_ruleOf (S.2.2 4) _ S b0 b1 r1) (fun r u _ => ?_)
    refine gx_if (Q := Q) (fun q => ?_) (fun q => nx 0 (Or.inl rfl))
    refine gx_ca (Q := Q) _ (gz_cell v4 y S b0 b1 (by omega) (by omega) hy (by omega)) (fun r2 u2 h2 => ?_)
    exact gx_in (Q := Q) h2.1 (gx_if (Q := Q) (fun q => nx 0 (Or.inl rfl)) (fun q => nx 1 (Or.inr rfl)))
theorem gz_ruled20 (x : Int32) (S : gm_S) (c3 c2 : Int32) (C4 : gm_S) {P fed : Nat} (hC : gp_WC S P fed) (hc : 0 ≤ c3.toInt) (hc2 : c3.toInt ≤ 7) {Q : Int32 × gm_S → Prop} (kp : Int32 → Int32 → gm_S → Prop) (kf : Int32 → Int32 → gm_S → Int32 × gm_S) (hk : ∀ a b, kp a b S ∧ Q (kf a b S)) : ∀ (n : Nat) (v4 v2 : Int32) (U : gm_S), 0 ≤ v4.toInt → v4.toInt ≤ fed + 1 → (fed : Int) + 1 < v4.toInt + n → gm_p_MD_ruled_20 x S c3 c2 C4 n v4 v2 U kp ∧ Q (gm_f_MD_ruled_20 x S c3 c2 C4 n v4 v2 U kf) := by
  have hC' := hC
  obtain ⟨⟨b0, b1⟩, ⟨p0, p1⟩, ⟨f0, f1⟩, -⟩ := hC'
  have m8 := gx_mk 8 (S.2.2 4) 8 (gx_lit 8 (by decide))
  have s8 := gx_ad (8 * (S.2.2 4)) c3
  have m160 := gx_mk 160 (S.2.2 4) 160 (gx_lit 160 (by decide))
  intro n
  induction n with
  | zero => intro v4 v2 U _ _ h; exfalso; omega
  | succ n ih =>
    intro v4 v2 U h0 h1 h2
    rw [gm_p_MD_ruled_20, gm_f_MD_ruled_20]
    refine gx_if (Q := Q) (fun q => hk _ _) (fun q => ?_)
    have q1 := gx_ltn q
    have b := gx_ak v4 1 1 (by decide)
    have nx : ∀ j : Int32, gm_p_MD_ruled_20 x S c3 c2 C4 n (v4 + 1) j S kp ∧ Q (gm_f_MD_ruled_20 x S c3 c2 C4 n (v4 + 1) j S kf) := fun j => ih (v4 + 1) j S (by omega) (by omega) (by omega)
    refine gx_ca (Q := Q) (fun _ => True) (gz_isRuled12 c3 v4 S hC h0 (by omega) 200 (160 * (S.2.2 4)) 0 S (by omega) (by omega) (by omega) (Or.inl rfl)) (fun r u _ => ?_)
    refine gx_if (Q := Q) (fun q => gx_in (Q := Q) (vp_in_iff.mpr (by omega)) ?_) (fun q => nx _)
    exact gx_if (Q := Q) (fun q => gx_if (Q := Q) (fun q => nx _) (fun q => nx _)) (fun q => nx _)
theorem gz_ruled4 (x : Int32) (S : gm_S) {P fed : Nat} (hC : gp_WC S P fed) : ∀ (n : Nat) (v3 v2 : Int32) (U : gm_S), 0 ≤ v3.toInt → v3.toInt ≤ 8 → 8 < v3.toInt + n → gm_p_MD_ruled_4 x S n v3 v2 U ∧ (fun z : Int32 × gm_S => True) (gm_f_MD_ruled_4 x S n v3 v2 U) := by
  have hC' := hC
  obtain ⟨⟨b0, b1⟩, ⟨p0, p1⟩, ⟨f0, f1⟩, ⟨ty, hU⟩, -⟩ := hC'
  have r1 := hU.2.2.1.2
  have z0 : (0 : Int32).toInt = 0 := by decide
  obtain ⟨Q, hQ⟩ : ∃ Q, Q = (fun z : Int32 × gm_S => True) := ⟨_, rfl⟩
  rw [← hQ]
  intro n
  induction n with
  | zero => intro v3 v2 U _ _ h; exfalso; omega
  | succ n ih =>
    intro v3 v2 U h0 h1 h2
    rw [gm_p_MD_ruled_4, gm_f_MD_ruled_4]
    refine gx_in (Q := Q) (vp_in_iff.mpr (by omega)) ?_
    refine gx_if (Q := Q) (fun q => ⟨trivial, by rw [hQ]; trivial⟩) (fun q => ?_)
    have q1 := gx_len q
    have b := gx_ak v3 1 1 (by decide)
    exact gz_ruled20 x S v3 v2 U hC h0 (by omega) (Q := Q) (fun _ c _ => gm_p_MD_ruled_4 x S n (v3 + 1) c S) (fun _ c _ => gm_f_MD_ruled_4 x S n (v3 + 1) c S) (fun a c => ih (v3 + 1) c S (by omega) (by omega) (by omega)) 200 0 v2 S (by omega) (by omega) (by omega)
theorem gz_ruled (x : Int32) (S : gm_S) {P fed : Nat} (hC : gp_WC S P fed) : gm_p_MD_ruled x S ∧ (fun z : Int32 × gm_S => True) (gm_f_MD_ruled x S) := by
  have z0 : (0 : Int32).toInt = 0 := by decide
  unfold gm_p_MD_ruled gm_f_MD_ruled
  exact gz_ruled4 x S hC 200 0 0 S (by omega) (by omega) (by omega)
def gp_evJ (S : gm_S) (P fed : Nat) (v : Int32) (z : Int32 × gm_S) : Prop := ∃ w : Nat, (z.2.2.2 38).toInt = (w : Int) ∧ v.toInt < w ∧ gp_EI S P fed (z.2.1 36) (z.2.1 37) w
def gp_evT (S : gm_S) (m p : Nat) (z : Int32 × gm_S) : Prop := z.1.toInt = gp_Tb (gp_Bs S) (S.1 34) (Int32.toNatClampNeg (S.1 11 m)) p
theorem gz_eval44 (x : Int32) (S : gm_S) (c1 : Int32) (C2 C3 : gm_S) {P fed : Nat} (hC : gp_WC S P fed) {rk : Nat → Nat} {t : Nat} (hF : gp_FT S P fed rk t) : ∀ (n : Nat) (v : Int32) (U : gm_S) (w : Nat), (U.2.2 38).toInt = (w : Int) → 0 ≤ v.toInt → v.toInt ≤ w → 11 * (P : Int) < v.toInt + n → gp_EI S P fed (U.1 36) (U.1 37) w → gm_p_MD_evaluations_44 x S c1 C2 C3 n v U ∧ (fun z : Int32 × gm_S => True) (gm_f_MD_evaluations_44 x S c1 C2 C3 n v U) := by
  have hC' := hC
  obtain ⟨⟨b0, b1⟩, ⟨p0, p1⟩, ⟨f0, f1⟩, ⟨ty, hU⟩, SC⟩ := hC'
  have r1 := hU.2.2.1.2
  have cb := gx_cl (S.2.2 4) b0
  have hB : gp_Bs S = 160 * Int32.toNatClampNeg (S.2.2 4) := rfl
  have z0 : (0 : Int32).toInt = 0 := by decide
  have n1 : (-1 : Int32).toInt = -1 := by decide
  obtain ⟨Q, hQ⟩ : ∃ Q, Q = (fun z : Int32 × gm_S => True) := ⟨_, rfl⟩
  rw [← hQ]
  intro n
  induction n with
  | zero =>
    intro v U w _ h0 h1 h2 hE
    have le := gp_c_le (fun c => decide (¬ U.1 36 c = 0)) (11 * P)
    rw [hE.2] at le
    exfalso
    omega
  | succ n ih =>
    intro v U w hw h0 h1 h2 hE
    have le := gp_c_le (fun c => decide (¬ U.1 36 c = 0)) (11 * P)
    rw [hE.2] at le
    rw [gm_p_MD_evaluations_44, gm_f_MD_evaluations_44]
    refine gx_if (Q := Q) (fun q => ?_) (fun q => ?_)
    · refine gx_ca (Q := Q) (fun _ => True) (gz_ruled x (va_up (va_up S.1 36 (U.1 36)) 37 (U.1 37), S.2.1, va_up S.2.2 38 (U.2.2 38)) (P := P) (fed := fed) hC) (fun r u _ => ⟨trivial, by rw [hQ]; trivial⟩)
    have q1 := gx_len q
    have cv := gx_cl v h0
    obtain ⟨m, p, v1, v2, v3, hc⟩ := hE.1 (Int32.toNatClampNeg v) (by omega)
    have d11 := gx_d11 (U.1 37 (Int32.toNatClampNeg v)) (by omega) (by omega)
    have mm := gx_mk 160 (S.2.2 4) 160 (gx_lit 160 (by decide))
    have ma := gx_ad (160 * (S.2.2 4)) ((U.1 37 (Int32.toNatClampNeg v)) / 11)
    have X0 : ((160 * (S.2.2 4)) + (((U.1 37) (Int32.toNatClampNeg v)) / 11)).toInt = (m : Int) := by omega
    have Y0 : (((U.1 37) (Int32.toNatClampNeg v)) - ((U.1 37) (Int32.toNatClampNeg v)) / 11 * 11).toInt = (p : Int) := by omega
    have iv : vp_in v 1760 := vp_in_iff.mpr (by omega)
    have b := gx_ak v 1 1 (by decide)
    clear mm ma d11
    generalize ((160 * (S.2.2 4)) + (((U.1 37) (Int32.toNatClampNeg v)) / 11)) = X at X0 ⊢
    generalize (((U.1 37) (Int32.toNatClampNeg v)) - ((U.1 37) (Int32.toNatClampNeg v)) / 11 * 11) = Y at Y0 ⊢
    have cX : Int32.toNatClampNeg X = m := gp_cl_n X0
    have cY : Int32.toNatClampNeg Y = p := gp_cl_n Y0
    have iX : vp_in X 320 := vp_in_iff.mpr (by omega)
    obtain ⟨-, n4, n45, -, n3⟩ := SC.1 m v1 v2
    have cm : ∀ (V : gm_S) (k y' : Int32) (w' : Nat), (V.2.2 38).toInt = (w' : Int) → v.toInt < w' → gp_EI S P fed (V.1 36) (V.1 37) w' → gp_Bs S ≤ Int32.toNatClampNeg k → Int32.toNatClampNeg k < gp_Bs S + P → 0 ≤ k.toInt → 0 ≤ y'.toInt → y'.toInt ≤ fed → gm_p_MD_come k y' ((va_up (va_up S.1 36 (V.1 36)) 37 (V.1 37)), S.2.1, (va_up S.2.2 38 (V.2.2 38))) ∧ gp_evJ S P fed v (gm_f_MD_come k y' ((va_up (va_up S.1 36 (V.1 36)) 37 (V.1 37)), S.2.1, (va_up S.2.2 38 (V.2.2 38)))) := by
      intro V k y' w' e1 e2 e3 e4 e5 e6 e7 e8
      have z := gz_come k y' ((va_up (va_up S.1 36 (V.1 36)) 37 (V.1 37)), S.2.1, (va_up S.2.2 38 (V.2.2 38))) (P := P) (fed := fed) hC e4 e5 e6 e7 e8 (w := w') e1 e3
      refine ⟨z.1, ?_⟩
      obtain ⟨w2, a1, a2, a3⟩ := z.2
      exact ⟨w2, a2, by omega, a3⟩
    have tkn : ∀ V : gm_S, 4 ≤ (S.1 10 m).toInt → gm_p_MD_taken (S.1 11 (Int32.toNatClampNeg X)) Y ((va_up (va_up S.1 36 (V.1 36)) 37 (V.1 37)), S.2.1, (va_up S.2.2 38 (V.2.2 38))) ∧ gp_evT S m p (gm_f_MD_taken (S.1 11 (Int32.toNatClampNeg X)) Y ((va_up (va_up S.1 36 (V.1 36)) 37 (V.1 37)), S.2.1, (va_up S.2.2 38 (V.2.2 38)))) := by
      intro V k4
      have x1 := n4 k4
      have z := gz_taken (S.1 11 m) Y ((va_up (va_up S.1 36 (V.1 36)) 37 (V.1 37)), S.2.1, (va_up S.2.2 38 (V.2.2 38))) (P := P) (fed := fed) hC x1.1 (show Int32.toNatClampNeg (S.1 11 m) < gp_Bs S + P by omega) (by omega) (by omega) (by omega)
      rw [cX]
      refine ⟨z.1, ?_⟩
      have z2 : (gm_f_MD_taken (S.1 11 m) Y ((va_up (va_up S.1 36 (V.1 36)) 37 (V.1 37)), S.2.1, (va_up S.2.2 38 (V.2.2 38)))).1.toInt = gp_Tb (gp_Bs S) (S.1 34) (Int32.toNatClampNeg (S.1 11 m)) (Int32.toNatClampNeg Y) := z.2
      rw [cY] at z2
      exact z2
    have kk : ∀ V : gm_S, 4 ≤ (S.1 10 m).toInt → gp_sd (S.1 15) (S.1 33) (S.2.1 17) (S.2.1 18) fed (gp_Tb (gp_Bs S) (S.1 34) (Int32.toNatClampNeg (S.1 11 m)) p) (Int32.toNatClampNeg (S.1 11 m)) p := fun V k4 => by
      have x1 := n4 k4
      exact gp_vc_sd hC hF x1.1 (by omega) v3
    have k243 : ∀ V : gm_S, (∃ w : Nat, (V.2.2 38).toInt = (w : Int) ∧ v.toInt < w ∧ gp_EI S P fed (V.1 36) (V.1 37) w) → (gm_p_MD_evaluations_44 x S c1 C2 C3 n (v + 1) (va_up (va_up S.1 36 (V.1 36)) 37 (V.1 37), S.2.1, va_up S.2.2 38 (V.2.2 38))) ∧ Q (gm_f_MD_evaluations_44 x S c1 C2 C3 n (v + 1) (va_up (va_up S.1 36 (V.1 36)) 37 (V.1 37), S.2.1, va_up S.2.2 38 (V.2.2 38))) := by
      rintro V ⟨w', e1, e2, e3⟩
      exact ih _ _ w' e1 (by omega) (by omega) (by omega) e3
    have k205 : ∀ V : gm_S, (∃ w : Nat, (V.2.2 38).toInt = (w : Int) ∧ v.toInt < w ∧ gp_EI S P fed (V.1 36) (V.1 37) w) → ((vp_in X 320) ∧ ((fun (kp243 : gm_S → Prop) => (((S.1 10 (Int32.toNatClampNeg X)) = 7) → ((gm_p_MD_taken (S.1 11 (Int32.toNatClampNeg X)) Y (va_up (va_up S.1 36 (V.1 36)) 37 (V.1 37), S.2.1, va_up S.2.2 38 (V.2.2 38))) ∧ (gm_bd (gm_f_MD_taken (S.1 11 (Int32.toNatClampNeg X)) Y (va_up (va_up S.1 36 (V.1 36)) 37 (V.1 37), S.2.1, va_up S.2.2 38 (V.2.2 38))) (fun r221 u221 => ((r221 ≤ 0) → (kp243 (va_up (va_up S.1 36 (V.1 36)) 37 (V.1 37), S.2.1, va_up S.2.2 38 (V.2.2 38)))) ∧ ((¬ (r221 ≤ 0)) → ((gm_p_MD_taken (S.1 11 (Int32.toNatClampNeg X)) Y (va_up (va_up S.1 36 (V.1 36)) 37 (V.1 37), S.2.1, va_up S.2.2 38 (V.2.2 38))) ∧ (gm_bd (gm_f_MD_taken (S.1 11 (Int32.toNatClampNeg X)) Y (va_up (va_up S.1 36 (V.1 36)) 37 (V.1 37), S.2.1, va_up S.2.2 38 (V.2.2 38))) (fun r236 u236 => (gm_p_MD_come X (Y + r236) (va_up (va_up S.1 36 (V.1 36)) 37 (V.1 37), S.2.1, va_up S.2.2 38 (V.2.2 38))) ∧ (gm_bd (gm_f_MD_come X (Y + r236) (va_up (va_up S.1 36 (V.1 36)) 37 (V.1 37), S.2.1, va_up S.2.2 38 (V.2.2 38))) (fun _ u240 => kp243 (va_up (va_up S.1 36 (u240.1 36)) 37 (u240.1 37), S.2.1, va_up S.2.2 38 (u240.2.2 38)))))))))))) ∧ ((¬ ((S.1 10 (Int32.toNatClampNeg X)) = 7)) → (kp243 (va_up (va_up S.1 36 (V.1 36)) 37 (V.1 37), S.2.1, va_up S.2.2 38 (V.2.2 38))))) (fun (S_j243 : gm_S) => gm_p_MD_evaluations_44 x S c1 C2 C3 n (v + 1) (va_up (va_up S.1 36 (S_j243.1 36)) 37 (S_j243.1 37), S.2.1, va_up S.2.2 38 (S_j243.2.2 38))))) ∧ Q ((fun (kf243 : gm_S → (Int32 × gm_S)) => if (S.1 10 (Int32.toNatClampNeg X)) = 7 then gm_bd (gm_f_MD_taken (S.1 11 (Int32.toNatClampNeg X)) Y (va_up (va_up S.1 36 (V.1 36)) 37 (V.1 37), S.2.1, va_up S.2.2 38 (V.2.2 38))) (fun r221 u221 => if r221 ≤ 0 then kf243 (va_up (va_up S.1 36 (V.1 36)) 37 (V.1 37), S.2.1, va_up S.2.2 38 (V.2.2 38)) else gm_bd (gm_f_MD_taken (S.1 11 (Int32.toNatClampNeg X)) Y (va_up (va_up S.1 36 (V.1 36)) 37 (V.1 37), S.2.1, va_up S.2.2 38 (V.2.2 38))) (fun r236 u236 => gm_bd (gm_f_MD_come X (Y + r236) (va_up (va_up S.1 36 (V.1 36)) 37 (V.1 37), S.2.1, va_up S.2.2 38 (V.2.2 38))) (fun _ u240 => kf243 (va_up (va_up S.1 36 (u240.1 36)) 37 (u240.1 37), S.2.1, va_up S.2.2 38 (u240.2.2 38))))) else kf243 (va_up (va_up S.1 36 (V.1 36)) 37 (V.1 37), S.2.1, va_up S.2.2 38 (V.2.2 38))) (fun (S_j243 : gm_S) => gm_f_MD_evaluations_44 x S c1 C2 C3 n (v + 1) (va_up (va_up S.1 36 (S_j243.1 36)) 37 (S_j243.1 37), S.2.1, va_up S.2.2 38 (S_j243.2.2 38)))) := by
      intro V hV
      have hV' := hV
      obtain ⟨w', e1, e2, e3⟩ := hV'
      refine gx_in (Q := Q) iX ?_
      refine gx_if (Q := Q) (fun k => ?_) (fun k => k243 _ hV)
      rw [cX] at k
      have k7 := gx_eqr (k := 7) (gx_lit 7 (by decide)) k
      refine gx_ca (Q := Q) _ (tkn V (by omega)) (fun r u hr => ?_)
      have hr : r.toInt = gp_Tb (gp_Bs S) (S.1 34) (Int32.toNatClampNeg (S.1 11 m)) p := hr
      refine gx_if (Q := Q) (fun q => k243 _ hV) (fun q => ?_)
      have q0 := gx_lenr (k := 0) z0 q
      refine gx_ca (Q := Q) _ (tkn V (by omega)) (fun r' u' hr' => ?_)
      have hr' : r'.toInt = gp_Tb (gp_Bs S) (S.1 34) (Int32.toNatClampNeg (S.1 11 m)) p := hr'
      have s := kk V (by omega)
      rcases s with s | ⟨s1, s2, -⟩
      · omega
      have sy := gx_ad Y r'
      refine gx_ca (Q := Q) _ (cm V X (Y + r') w' e1 e2 e3 (by omega) (by omega) (by omega) (by omega) (by omega)) (fun _ u2 h2 => k243 _ h2)
    have k171 : ∀ V : gm_S, (∃ w : Nat, (V.2.2 38).toInt = (w : Int) ∧ v.toInt < w ∧ gp_EI S P fed (V.1 36) (V.1 37) w) → ((vp_in X 320) ∧ ((fun (kp205 : gm_S → Prop) => (((S.1 10 (Int32.toNatClampNeg X)) = 5) → ((gm_p_MD_taken (S.1 11 (Int32.toNatClampNeg X)) Y (va_up (va_up S.1 36 (V.1 36)) 37 (V.1 37), S.2.1, va_up S.2.2 38 (V.2.2 38))) ∧ (gm_bd (gm_f_MD_taken (S.1 11 (Int32.toNatClampNeg X)) Y (va_up (va_up S.1 36 (V.1 36)) 37 (V.1 37), S.2.1, va_up S.2.2 38 (V.2.2 38))) (fun r186 u186 => ((r186 = (-1)) → ((vp_in X 320) ∧ ((gm_p_MD_come (S.1 12 (Int32.toNatClampNeg X)) Y (va_up (va_up S.1 36 (V.1 36)) 37 (V.1 37), S.2.1, va_up S.2.2 38 (V.2.2 38))) ∧ (gm_bd (gm_f_MD_come (S.1 12 (Int32.toNatClampNeg X)) Y (va_up (va_up S.1 36 (V.1 36)) 37 (V.1 37), S.2.1, va_up S.2.2 38 (V.2.2 38))) (fun _ u202 => kp205 (va_up (va_up S.1 36 (u202.1 36)) 37 (u202.1 37), S.2.1, va_up S.2.2 38 (u202.2.2 38))))))) ∧ ((¬ (r186 = (-1))) → (kp205 (va_up (va_up S.1 36 (V.1 36)) 37 (V.1 37), S.2.1, va_up S.2.2 38 (V.2.2 38)))))))) ∧ ((¬ ((S.1 10 (Int32.toNatClampNeg X)) = 5)) → (kp205 (va_up (va_up S.1 36 (V.1 36)) 37 (V.1 37), S.2.1, va_up S.2.2 38 (V.2.2 38))))) (fun (S_j205 : gm_S) => (vp_in X 320) ∧ ((fun (kp243 : gm_S → Prop) => (((S.1 10 (Int32.toNatClampNeg X)) = 7) → ((gm_p_MD_taken (S.1 11 (Int32.toNatClampNeg X)) Y (va_up (va_up S.1 36 (S_j205.1 36)) 37 (S_j205.1 37), S.2.1, va_up S.2.2 38 (S_j205.2.2 38))) ∧ (gm_bd (gm_f_MD_taken (S.1 11 (Int32.toNatClampNeg X)) Y (va_up (va_up S.1 36 (S_j205.1 36)) 37 (S_j205.1 37), S.2.1, va_up S.2.2 38 (S_j205.2.2 38))) (fun r221 u221 => ((r221 ≤ 0) → (kp243 (va_up (va_up S.1 36 (S_j205.1 36)) 37 (S_j205.1 37), S.2.1, va_up S.2.2 38 (S_j205.2.2 38)))) ∧ ((¬ (r221 ≤ 0)) → ((gm_p_MD_taken (S.1 11 (Int32.toNatClampNeg X)) Y (va_up (va_up S.1 36 (S_j205.1 36)) 37 (S_j205.1 37), S.2.1, va_up S.2.2 38 (S_j205.2.2 38))) ∧ (gm_bd (gm_f_MD_taken (S.1 11 (Int32.toNatClampNeg X)) Y (va_up (va_up S.1 36 (S_j205.1 36)) 37 (S_j205.1 37), S.2.1, va_up S.2.2 38 (S_j205.2.2 38))) (fun r236 u236 => (gm_p_MD_come X (Y + r236) (va_up (va_up S.1 36 (S_j205.1 36)) 37 (S_j205.1 37), S.2.1, va_up S.2.2 38 (S_j205.2.2 38))) ∧ (gm_bd (gm_f_MD_come X (Y + r236) (va_up (va_up S.1 36 (S_j205.1 36)) 37 (S_j205.1 37), S.2.1, va_up S.2.2 38 (S_j205.2.2 38))) (fun _ u240 => kp243 (va_up (va_up S.1 36 (u240.1 36)) 37 (u240.1 37), S.2.1, va_up S.2.2 38 (u240.2.2 38)))))))))))) ∧ ((¬ ((S.1 10 (Int32.toNatClampNeg X)) = 7)) → (kp243 (va_up (va_up S.1 36 (S_j205.1 36)) 37 (S_j205.1 37), S.2.1, va_up S.2.2 38 (S_j205.2.2 38))))) (fun (S_j243 : gm_S) => gm_p_MD_evaluations_44 x S c1 C2 C3 n (v + 1) (va_up (va_up S.1 36 (S_j243.1 36)) 37 (S_j243.1 37), S.2.1, va_up S.2.2 38 (S_j243.2.2 38))))))) ∧ Q ((fun (kf205 : gm_S → (Int32 × gm_S)) => if (S.1 10 (Int32.toNatClampNeg X)) = 5 then gm_bd (gm_f_MD_taken (S.1 11 (Int32.toNatClampNeg X)) Y (va_up (va_up S.1 36 (V.1 36)) 37 (V.1 37), S.2.1, va_up S.2.2 38 (V.2.2 38))) (fun r186 u186 => if r186 = (-1) then gm_bd (gm_f_MD_come (S.1 12 (Int32.toNatClampNeg X)) Y (va_up (va_up S.1 36 (V.1 36)) 37 (V.1 37), S.2.1, va_up S.2.2 38 (V.2.2 38))) (fun _ u202 => kf205 (va_up (va_up S.1 36 (u202.1 36)) 37 (u202.1 37), S.2.1, va_up S.2.2 38 (u202.2.2 38))) else kf205 (va_up (va_up S.1 36 (V.1 36)) 37 (V.1 37), S.2.1, va_up S.2.2 38 (V.2.2 38))) else kf205 (va_up (va_up S.1 36 (V.1 36)) 37 (V.1 37), S.2.1, va_up S.2.2 38 (V.2.2 38))) (fun (S_j205 : gm_S) => (fun (kf243 : gm_S → (Int32 × gm_S)) => if (S.1 10 (Int32.toNatClampNeg X)) = 7 then gm_bd (gm_f_MD_taken (S.1 11 (Int32.toNatClampNeg X)) Y (va_up (va_up S.1 36 (S_j205.1 36)) 37 (S_j205.1 37), S.2.1, va_up S.2.2 38 (S_j205.2.2 38))) (fun r221 u221 => if r221 ≤ 0 then kf243 (va_up (va_up S.1 36 (S_j205.1 36)) 37 (S_j205.1 37), S.2.1, va_up S.2.2 38 (S_j205.2.2 38)) else gm_bd (gm_f_MD_taken (S.1 11 (Int32.toNatClampNeg X)) Y (va_up (va_up S.1 36 (S_j205.1 36)) 37 (S_j205.1 37), S.2.1, va_up S.2.2 38 (S_j205.2.2 38))) (fun r236 u236 => gm_bd (gm_f_MD_come X (Y + r236) (va_up (va_up S.1 36 (S_j205.1 36)) 37 (S_j205.1 37), S.2.1, va_up S.2.2 38 (S_j205.2.2 38))) (fun _ u240 => kf243 (va_up (va_up S.1 36 (u240.1 36)) 37 (u240.1 37), S.2.1, va_up S.2.2 38 (u240.2.2 38))))) else kf243 (va_up (va_up S.1 36 (S_j205.1 36)) 37 (S_j205.1 37), S.2.1, va_up S.2.2 38 (S_j205.2.2 38))) (fun (S_j243 : gm_S) => gm_f_MD_evaluations_44 x S c1 C2 C3 n (v + 1) (va_up (va_up S.1 36 (S_j243.1 36)) 37 (S_j243.1 37), S.2.1, va_up S.2.2 38 (S_j243.2.2 38))))) := by
      intro V hV
      have hV' := hV
      obtain ⟨w', e1, e2, e3⟩ := hV'
      refine gx_in (Q := Q) iX ?_
      refine gx_if (Q := Q) (fun k => ?_) (fun k => k205 _ hV)
      rw [cX] at k
      have k5 := gx_eqr (k := 5) (gx_lit 5 (by decide)) k
      have x2 := n45 (Or.inr k5)
      refine gx_ca (Q := Q) _ (tkn V (by omega)) (fun r u hr => ?_)
      refine gx_if (Q := Q) (fun q => gx_in (Q := Q) iX ?_) (fun q => k205 _ hV)
      refine gx_ca (Q := Q) _ (cm V (S.1 12 (Int32.toNatClampNeg X)) Y w' e1 e2 e3 (by rw [cX]; exact x2.1) (by rw [cX]; omega) (by rw [cX]; omega) (by omega) (by omega)) (fun _ u2 h2 => k205 _ h2)
    have k129 : ∀ V : gm_S, (∃ w : Nat, (V.2.2 38).toInt = (w : Int) ∧ v.toInt < w ∧ gp_EI S P fed (V.1 36) (V.1 37) w) → ((vp_in X 320) ∧ ((fun (kp171 : gm_S → Prop) => (((S.1 10 (Int32.toNatClampNeg X)) = 4) → ((gm_p_MD_taken (S.1 11 (Int32.toNatClampNeg X)) Y (va_up (va_up S.1 36 (V.1 36)) 37 (V.1 37), S.2.1, va_up S.2.2 38 (V.2.2 38))) ∧ (gm_bd (gm_f_MD_taken (S.1 11 (Int32.toNatClampNeg X)) Y (va_up (va_up S.1 36 (V.1 36)) 37 (V.1 37), S.2.1, va_up S.2.2 38 (V.2.2 38))) (fun r144 u144 => ((r144 < 0) → (kp171 (va_up (va_up S.1 36 (V.1 36)) 37 (V.1 37), S.2.1, va_up S.2.2 38 (V.2.2 38)))) ∧ ((¬ (r144 < 0)) → ((vp_in X 320) ∧ ((gm_p_MD_taken (S.1 11 (Int32.toNatClampNeg X)) Y (va_up (va_up S.1 36 (V.1 36)) 37 (V.1 37), S.2.1, va_up S.2.2 38 (V.2.2 38))) ∧ (gm_bd (gm_f_MD_taken (S.1 11 (Int32.toNatClampNeg X)) Y (va_up (va_up S.1 36 (V.1 36)) 37 (V.1 37), S.2.1, va_up S.2.2 38 (V.2.2 38))) (fun r164 u164 => (gm_p_MD_come (S.1 12 (Int32.toNatClampNeg X)) (Y + r164) (va_up (va_up S.1 36 (V.1 36)) 37 (V.1 37), S.2.1, va_up S.2.2 38 (V.2.2 38))) ∧ (gm_bd (gm_f_MD_come (S.1 12 (Int32.toNatClampNeg X)) (Y + r164) (va_up (va_up S.1 36 (V.1 36)) 37 (V.1 37), S.2.1, va_up S.2.2 38 (V.2.2 38))) (fun _ u168 => kp171 (va_up (va_up S.1 36 (u168.1 36)) 37 (u168.1 37), S.2.1, va_up S.2.2 38 (u168.2.2 38))))))))))))) ∧ ((¬ ((S.1 10 (Int32.toNatClampNeg X)) = 4)) → (kp171 (va_up (va_up S.1 36 (V.1 36)) 37 (V.1 37), S.2.1, va_up S.2.2 38 (V.2.2 38))))) (fun (S_j171 : gm_S) => (vp_in X 320) ∧ ((fun (kp205 : gm_S → Prop) => (((S.1 10 (Int32.toNatClampNeg X)) = 5) → ((gm_p_MD_taken (S.1 11 (Int32.toNatClampNeg X)) Y (va_up (va_up S.1 36 (S_j171.1 36)) 37 (S_j171.1 37), S.2.1, va_up S.2.2 38 (S_j171.2.2 38))) ∧ (gm_bd (gm_f_MD_taken (S.1 11 (Int32.toNatClampNeg X)) Y (va_up (va_up S.1 36 (S_j171.1 36)) 37 (S_j171.1 37), S.2.1, va_up S.2.2 38 (S_j171.2.2 38))) (fun r186 u186 => ((r186 = (-1)) → ((vp_in X 320) ∧ ((gm_p_MD_come (S.1 12 (Int32.toNatClampNeg X)) Y (va_up (va_up S.1 36 (S_j171.1 36)) 37 (S_j171.1 37), S.2.1, va_up S.2.2 38 (S_j171.2.2 38))) ∧ (gm_bd (gm_f_MD_come (S.1 12 (Int32.toNatClampNeg X)) Y (va_up (va_up S.1 36 (S_j171.1 36)) 37 (S_j171.1 37), S.2.1, va_up S.2.2 38 (S_j171.2.2 38))) (fun _ u202 => kp205 (va_up (va_up S.1 36 (u202.1 36)) 37 (u202.1 37), S.2.1, va_up S.2.2 38 (u202.2.2 38))))))) ∧ ((¬ (r186 = (-1))) → (kp205 (va_up (va_up S.1 36 (S_j171.1 36)) 37 (S_j171.1 37), S.2.1, va_up S.2.2 38 (S_j171.2.2 38)))))))) ∧ ((¬ ((S.1 10 (Int32.toNatClampNeg X)) = 5)) → (kp205 (va_up (va_up S.1 36 (S_j171.1 36)) 37 (S_j171.1 37), S.2.1, va_up S.2.2 38 (S_j171.2.2 38))))) (fun (S_j205 : gm_S) => (vp_in X 320) ∧ ((fun (kp243 : gm_S → Prop) => (((S.1 10 (Int32.toNatClampNeg X)) = 7) → ((gm_p_MD_taken (S.1 11 (Int32.toNatClampNeg X)) Y (va_up (va_up S.1 36 (S_j205.1 36)) 37 (S_j205.1 37), S.2.1, va_up S.2.2 38 (S_j205.2.2 38))) ∧ (gm_bd (gm_f_MD_taken (S.1 11 (Int32.toNatClampNeg X)) Y (va_up (va_up S.1 36 (S_j205.1 36)) 37 (S_j205.1 37), S.2.1, va_up S.2.2 38 (S_j205.2.2 38))) (fun r221 u221 => ((r221 ≤ 0) → (kp243 (va_up (va_up S.1 36 (S_j205.1 36)) 37 (S_j205.1 37), S.2.1, va_up S.2.2 38 (S_j205.2.2 38)))) ∧ ((¬ (r221 ≤ 0)) → ((gm_p_MD_taken (S.1 11 (Int32.toNatClampNeg X)) Y (va_up (va_up S.1 36 (S_j205.1 36)) 37 (S_j205.1 37), S.2.1, va_up S.2.2 38 (S_j205.2.2 38))) ∧ (gm_bd (gm_f_MD_taken (S.1 11 (Int32.toNatClampNeg X)) Y (va_up (va_up S.1 36 (S_j205.1 36)) 37 (S_j205.1 37), S.2.1, va_up S.2.2 38 (S_j205.2.2 38))) (fun r236 u236 => (gm_p_MD_come X (Y + r236) (va_up (va_up S.1 36 (S_j205.1 36)) 37 (S_j205.1 37), S.2.1, va_up S.2.2 38 (S_j205.2.2 38))) ∧ (gm_bd (gm_f_MD_come X (Y + r236) (va_up (va_up S.1 36 (S_j205.1 36)) 37 (S_j205.1 37), S.2.1, va_up S.2.2 38 (S_j205.2.2 38))) (fun _ u240 => kp243 (va_up (va_up S.1 36 (u240.1 36)) 37 (u240.1 37), S.2.1, va_up S.2.2 38 (u240.2.2 38)))))))))))) ∧ ((¬ ((S.1 10 (Int32.toNatClampNeg X)) = 7)) → (kp243 (va_up (va_up S.1 36 (S_j205.1 36)) 37 (S_j205.1 37), S.2.1, va_up S.2.2 38 (S_j205.2.2 38))))) (fun (S_j243 : gm_S) => gm_p_MD_evaluations_44 x S c1 C2 C3 n (v + 1) (va_up (va_up S.1 36 (S_j243.1 36)) 37 (S_j243.1 37), S.2.1, va_up S.2.2 38 (S_j243.2.2 38))))))))) ∧ Q ((fun (kf171 : gm_S → (Int32 × gm_S)) => if (S.1 10 (Int32.toNatClampNeg X)) = 4 then gm_bd (gm_f_MD_taken (S.1 11 (Int32.toNatClampNeg X)) Y (va_up (va_up S.1 36 (V.1 36)) 37 (V.1 37), S.2.1, va_up S.2.2 38 (V.2.2 38))) (fun r144 u144 => if r144 < 0 then kf171 (va_up (va_up S.1 36 (V.1 36)) 37 (V.1 37), S.2.1, va_up S.2.2 38 (V.2.2 38)) else gm_bd (gm_f_MD_taken (S.1 11 (Int32.toNatClampNeg X)) Y (va_up (va_up S.1 36 (V.1 36)) 37 (V.1 37), S.2.1, va_up S.2.2 38 (V.2.2 38))) (fun r164 u164 => gm_bd (gm_f_MD_come (S.1 12 (Int32.toNatClampNeg X)) (Y + r164) (va_up (va_up S.1 36 (V.1 36)) 37 (V.1 37), S.2.1, va_up S.2.2 38 (V.2.2 38))) (fun _ u168 => kf171 (va_up (va_up S.1 36 (u168.1 36)) 37 (u168.1 37), S.2.1, va_up S.2.2 38 (u168.2.2 38))))) else kf171 (va_up (va_up S.1 36 (V.1 36)) 37 (V.1 37), S.2.1, va_up S.2.2 38 (V.2.2 38))) (fun (S_j171 : gm_S) => (fun (kf205 : gm_S → (Int32 × gm_S)) => if (S.1 10 (Int32.toNatClampNeg X)) = 5 then gm_bd (gm_f_MD_taken (S.1 11 (Int32.toNatClampNeg X)) Y (va_up (va_up S.1 36 (S_j171.1 36)) 37 (S_j171.1 37), S.2.1, va_up S.2.2 38 (S_j171.2.2 38))) (fun r186 u186 => if r186 = (-1) then gm_bd (gm_f_MD_come (S.1 12 (Int32.toNatClampNeg X)) Y (va_up (va_up S.1 36 (S_j171.1 36)) 37 (S_j171.1 37), S.2.1, va_up S.2.2 38 (S_j171.2.2 38))) (fun _ u202 => kf205 (va_up (va_up S.1 36 (u202.1 36)) 37 (u202.1 37), S.2.1, va_up S.2.2 38 (u202.2.2 38))) else kf205 (va_up (va_up S.1 36 (S_j171.1 36)) 37 (S_j171.1 37), S.2.1, va_up S.2.2 38 (S_j171.2.2 38))) else kf205 (va_up (va_up S.1 36 (S_j171.1 36)) 37 (S_j171.1 37), S.2.1, va_up S.2.2 38 (S_j171.2.2 38))) (fun (S_j205 : gm_S) => (fun (kf243 : gm_S → (Int32 × gm_S)) => if (S.1 10 (Int32.toNatClampNeg X)) = 7 then gm_bd (gm_f_MD_taken (S.1 11 (Int32.toNatClampNeg X)) Y (va_up (va_up S.1 36 (S_j205.1 36)) 37 (S_j205.1 37), S.2.1, va_up S.2.2 38 (S_j205.2.2 38))) (fun r221 u221 => if r221 ≤ 0 then kf243 (va_up (va_up S.1 36 (S_j205.1 36)) 37 (S_j205.1 37), S.2.1, va_up S.2.2 38 (S_j205.2.2 38)) else gm_bd (gm_f_MD_taken (S.1 11 (Int32.toNatClampNeg X)) Y (va_up (va_up S.1 36 (S_j205.1 36)) 37 (S_j205.1 37), S.2.1, va_up S.2.2 38 (S_j205.2.2 38))) (fun r236 u236 => gm_bd (gm_f_MD_come X (Y + r236) (va_up (va_up S.1 36 (S_j205.1 36)) 37 (S_j205.1 37), S.2.1, va_up S.2.2 38 (S_j205.2.2 38))) (fun _ u240 => kf243 (va_up (va_up S.1 36 (u240.1 36)) 37 (u240.1 37), S.2.1, va_up S.2.2 38 (u240.2.2 38))))) else kf243 (va_up (va_up S.1 36 (S_j205.1 36)) 37 (S_j205.1 37), S.2.1, va_up S.2.2 38 (S_j205.2.2 38))) (fun (S_j243 : gm_S) => gm_f_MD_evaluations_44 x S c1 C2 C3 n (v + 1) (va_up (va_up S.1 36 (S_j243.1 36)) 37 (S_j243.1 37), S.2.1, va_up S.2.2 38 (S_j243.2.2 38)))))) := by
      intro V hV
      have hV' := hV
      obtain ⟨w', e1, e2, e3⟩ := hV'
      refine gx_in (Q := Q) iX ?_
      refine gx_if (Q := Q) (fun k => ?_) (fun k => k171 _ hV)
      rw [cX] at k
      have k4 := gx_eqr (k := 4) (gx_lit 4 (by decide)) k
      have x2 := n45 (Or.inl k4)
      refine gx_ca (Q := Q) _ (tkn V (by omega)) (fun r u hr => ?_)
      refine gx_if (Q := Q) (fun q => k171 _ hV) (fun q => gx_in (Q := Q) iX ?_)
      refine gx_ca (Q := Q) _ (tkn V (by omega)) (fun r' u' hr' => ?_)
      have hr : r.toInt = gp_Tb (gp_Bs S) (S.1 34) (Int32.toNatClampNeg (S.1 11 m)) p := hr
      have hr' : r'.toInt = gp_Tb (gp_Bs S) (S.1 34) (Int32.toNatClampNeg (S.1 11 m)) p := hr'
      have q0 := gx_ltnr (k := 0) z0 q
      have s := kk V (by omega)
      rcases s with s | ⟨s1, s2, -⟩
      · omega
      have sy := gx_ad Y r'
      refine gx_ca (Q := Q) _ (cm V (S.1 12 (Int32.toNatClampNeg X)) (Y + r') w' e1 e2 e3 (by rw [cX]; exact x2.1) (by rw [cX]; omega) (by rw [cX]; omega) (by omega) (by omega)) (fun _ u2 h2 => k171 _ h2)
    have k111 : ∀ V : gm_S, (∃ w : Nat, (V.2.2 38).toInt = (w : Int) ∧ v.toInt < w ∧ gp_EI S P fed (V.1 36) (V.1 37) w) → ((vp_in X 320) ∧ ((fun (kp129 : gm_S → Prop) => (((S.1 10 (Int32.toNatClampNeg X)) ≤ 3) → (kp129 (va_up (va_up S.1 36 (V.1 36)) 37 (V.1 37), S.2.1, va_up S.2.2 38 (V.2.2 38)))) ∧ ((¬ ((S.1 10 (Int32.toNatClampNeg X)) ≤ 3)) → ((gm_p_MD_come (S.1 11 (Int32.toNatClampNeg X)) Y (va_up (va_up S.1 36 (V.1 36)) 37 (V.1 37), S.2.1, va_up S.2.2 38 (V.2.2 38))) ∧ (gm_bd (gm_f_MD_come (S.1 11 (Int32.toNatClampNeg X)) Y (va_up (va_up S.1 36 (V.1 36)) 37 (V.1 37), S.2.1, va_up S.2.2 38 (V.2.2 38))) (fun _ u126 => kp129 (va_up (va_up S.1 36 (u126.1 36)) 37 (u126.1 37), S.2.1, va_up S.2.2 38 (u126.2.2 38))))))) (fun (S_j129 : gm_S) => (vp_in X 320) ∧ ((fun (kp171 : gm_S → Prop) => (((S.1 10 (Int32.toNatClampNeg X)) = 4) → ((gm_p_MD_taken (S.1 11 (Int32.toNatClampNeg X)) Y (va_up (va_up S.1 36 (S_j129.1 36)) 37 (S_j129.1 37), S.2.1, va_up S.2.2 38 (S_j129.2.2 38))) ∧ (gm_bd (gm_f_MD_taken (S.1 11 (Int32.toNatClampNeg X)) Y (va_up (va_up S.1 36 (S_j129.1 36)) 37 (S_j129.1 37), S.2.1, va_up S.2.2 38 (S_j129.2.2 38))) (fun r144 u144 => ((r144 < 0) → (kp171 (va_up (va_up S.1 36 (S_j129.1 36)) 37 (S_j129.1 37), S.2.1, va_up S.2.2 38 (S_j129.2.2 38)))) ∧ ((¬ (r144 < 0)) → ((vp_in X 320) ∧ ((gm_p_MD_taken (S.1 11 (Int32.toNatClampNeg X)) Y (va_up (va_up S.1 36 (S_j129.1 36)) 37 (S_j129.1 37), S.2.1, va_up S.2.2 38 (S_j129.2.2 38))) ∧ (gm_bd (gm_f_MD_taken (S.1 11 (Int32.toNatClampNeg X)) Y (va_up (va_up S.1 36 (S_j129.1 36)) 37 (S_j129.1 37), S.2.1, va_up S.2.2 38 (S_j129.2.2 38))) (fun r164 u164 => (gm_p_MD_come (S.1 12 (Int32.toNatClampNeg X)) (Y + r164) (va_up (va_up S.1 36 (S_j129.1 36)) 37 (S_j129.1 37), S.2.1, va_up S.2.2 38 (S_j129.2.2 38))) ∧ (gm_bd (gm_f_MD_come (S.1 12 (Int32.toNatClampNeg X)) (Y + r164) (va_up (va_up S.1 36 (S_j129.1 36)) 37 (S_j129.1 37), S.2.1, va_up S.2.2 38 (S_j129.2.2 38))) (fun _ u168 => kp171 (va_up (va_up S.1 36 (u168.1 36)) 37 (u168.1 37), S.2.1, va_up S.2.2 38 (u168.2.2 38))))))))))))) ∧ ((¬ ((S.1 10 (Int32.toNatClampNeg X)) = 4)) → (kp171 (va_up (va_up S.1 36 (S_j129.1 36)) 37 (S_j129.1 37), S.2.1, va_up S.2.2 38 (S_j129.2.2 38))))) (fun (S_j171 : gm_S) => (vp_in X 320) ∧ ((fun (kp205 : gm_S → Prop) => (((S.1 10 (Int32.toNatClampNeg X)) = 5) → ((gm_p_MD_taken (S.1 11 (Int32.toNatClampNeg X)) Y (va_up (va_up S.1 36 (S_j171.1 36)) 37 (S_j171.1 37), S.2.1, va_up S.2.2 38 (S_j171.2.2 38))) ∧ (gm_bd (gm_f_MD_taken (S.1 11 (Int32.toNatClampNeg X)) Y (va_up (va_up S.1 36 (S_j171.1 36)) 37 (S_j171.1 37), S.2.1, va_up S.2.2 38 (S_j171.2.2 38))) (fun r186 u186 => ((r186 = (-1)) → ((vp_in X 320) ∧ ((gm_p_MD_come (S.1 12 (Int32.toNatClampNeg X)) Y (va_up (va_up S.1 36 (S_j171.1 36)) 37 (S_j171.1 37), S.2.1, va_up S.2.2 38 (S_j171.2.2 38))) ∧ (gm_bd (gm_f_MD_come (S.1 12 (Int32.toNatClampNeg X)) Y (va_up (va_up S.1 36 (S_j171.1 36)) 37 (S_j171.1 37), S.2.1, va_up S.2.2 38 (S_j171.2.2 38))) (fun _ u202 => kp205 (va_up (va_up S.1 36 (u202.1 36)) 37 (u202.1 37), S.2.1, va_up S.2.2 38 (u202.2.2 38))))))) ∧ ((¬ (r186 = (-1))) → (kp205 (va_up (va_up S.1 36 (S_j171.1 36)) 37 (S_j171.1 37), S.2.1, va_up S.2.2 38 (S_j171.2.2 38)))))))) ∧ ((¬ ((S.1 10 (Int32.toNatClampNeg X)) = 5)) → (kp205 (va_up (va_up S.1 36 (S_j171.1 36)) 37 (S_j171.1 37), S.2.1, va_up S.2.2 38 (S_j171.2.2 38))))) (fun (S_j205 : gm_S) => (vp_in X 320) ∧ ((fun (kp243 : gm_S → Prop) => (((S.1 10 (Int32.toNatClampNeg X)) = 7) → ((gm_p_MD_taken (S.1 11 (Int32.toNatClampNeg X)) Y (va_up (va_up S.1 36 (S_j205.1 36)) 37 (S_j205.1 37), S.2.1, va_up S.2.2 38 (S_j205.2.2 38))) ∧ (gm_bd (gm_f_MD_taken (S.1 11 (Int32.toNatClampNeg X)) Y (va_up (va_up S.1 36 (S_j205.1 36)) 37 (S_j205.1 37), S.2.1, va_up S.2.2 38 (S_j205.2.2 38))) (fun r221 u221 => ((r221 ≤ 0) → (kp243 (va_up (va_up S.1 36 (S_j205.1 36)) 37 (S_j205.1 37), S.2.1, va_up S.2.2 38 (S_j205.2.2 38)))) ∧ ((¬ (r221 ≤ 0)) → ((gm_p_MD_taken (S.1 11 (Int32.toNatClampNeg X)) Y (va_up (va_up S.1 36 (S_j205.1 36)) 37 (S_j205.1 37), S.2.1, va_up S.2.2 38 (S_j205.2.2 38))) ∧ (gm_bd (gm_f_MD_taken (S.1 11 (Int32.toNatClampNeg X)) Y (va_up (va_up S.1 36 (S_j205.1 36)) 37 (S_j205.1 37), S.2.1, va_up S.2.2 38 (S_j205.2.2 38))) (fun r236 u236 => (gm_p_MD_come X (Y + r236) (va_up (va_up S.1 36 (S_j205.1 36)) 37 (S_j205.1 37), S.2.1, va_up S.2.2 38 (S_j205.2.2 38))) ∧ (gm_bd (gm_f_MD_come X (Y + r236) (va_up (va_up S.1 36 (S_j205.1 36)) 37 (S_j205.1 37), S.2.1, va_up S.2.2 38 (S_j205.2.2 38))) (fun _ u240 => kp243 (va_up (va_up S.1 36 (u240.1 36)) 37 (u240.1 37), S.2.1, va_up S.2.2 38 (u240.2.2 38)))))))))))) ∧ ((¬ ((S.1 10 (Int32.toNatClampNeg X)) = 7)) → (kp243 (va_up (va_up S.1 36 (S_j205.1 36)) 37 (S_j205.1 37), S.2.1, va_up S.2.2 38 (S_j205.2.2 38))))) (fun (S_j243 : gm_S) => gm_p_MD_evaluations_44 x S c1 C2 C3 n (v + 1) (va_up (va_up S.1 36 (S_j243.1 36)) 37 (S_j243.1 37), S.2.1, va_up S.2.2 38 (S_j243.2.2 38))))))))))) ∧ Q ((fun (kf129 : gm_S → (Int32 × gm_S)) => if (S.1 10 (Int32.toNatClampNeg X)) ≤ 3 then kf129 (va_up (va_up S.1 36 (V.1 36)) 37 (V.1 37), S.2.1, va_up S.2.2 38 (V.2.2 38)) else gm_bd (gm_f_MD_come (S.1 11 (Int32.toNatClampNeg X)) Y (va_up (va_up S.1 36 (V.1 36)) 37 (V.1 37), S.2.1, va_up S.2.2 38 (V.2.2 38))) (fun _ u126 => kf129 (va_up (va_up S.1 36 (u126.1 36)) 37 (u126.1 37), S.2.1, va_up S.2.2 38 (u126.2.2 38)))) (fun (S_j129 : gm_S) => (fun (kf171 : gm_S → (Int32 × gm_S)) => if (S.1 10 (Int32.toNatClampNeg X)) = 4 then gm_bd (gm_f_MD_taken (S.1 11 (Int32.toNatClampNeg X)) Y (va_up (va_up S.1 36 (S_j129.1 36)) 37 (S_j129.1 37), S.2.1, va_up S.2.2 38 (S_j129.2.2 38))) (fun r144 u144 => if r144 < 0 then kf171 (va_up (va_up S.1 36 (S_j129.1 36)) 37 (S_j129.1 37), S.2.1, va_up S.2.2 38 (S_j129.2.2 38)) else gm_bd (gm_f_MD_taken (S.1 11 (Int32.toNatClampNeg X)) Y (va_up (va_up S.1 36 (S_j129.1 36)) 37 (S_j129.1 37), S.2.1, va_up S.2.2 38 (S_j129.2.2 38))) (fun r164 u164 => gm_bd (gm_f_MD_come (S.1 12 (Int32.toNatClampNeg X)) (Y + r164) (va_up (va_up S.1 36 (S_j129.1 36)) 37 (S_j129.1 37), S.2.1, va_up S.2.2 38 (S_j129.2.2 38))) (fun _ u168 => kf171 (va_up (va_up S.1 36 (u168.1 36)) 37 (u168.1 37), S.2.1, va_up S.2.2 38 (u168.2.2 38))))) else kf171 (va_up (va_up S.1 36 (S_j129.1 36)) 37 (S_j129.1 37), S.2.1, va_up S.2.2 38 (S_j129.2.2 38))) (fun (S_j171 : gm_S) => (fun (kf205 : gm_S → (Int32 × gm_S)) => if (S.1 10 (Int32.toNatClampNeg X)) = 5 then gm_bd (gm_f_MD_taken (S.1 11 (Int32.toNatClampNeg X)) Y (va_up (va_up S.1 36 (S_j171.1 36)) 37 (S_j171.1 37), S.2.1, va_up S.2.2 38 (S_j171.2.2 38))) (fun r186 u186 => if r186 = (-1) then gm_bd (gm_f_MD_come (S.1 12 (Int32.toNatClampNeg X)) Y (va_up (va_up S.1 36 (S_j171.1 36)) 37 (S_j171.1 37), S.2.1, va_up S.2.2 38 (S_j171.2.2 38))) (fun _ u202 => kf205 (va_up (va_up S.1 36 (u202.1 36)) 37 (u202.1 37), S.2.1, va_up S.2.2 38 (u202.2.2 38))) else kf205 (va_up (va_up S.1 36 (S_j171.1 36)) 37 (S_j171.1 37), S.2.1, va_up S.2.2 38 (S_j171.2.2 38))) else kf205 (va_up (va_up S.1 36 (S_j171.1 36)) 37 (S_j171.1 37), S.2.1, va_up S.2.2 38 (S_j171.2.2 38))) (fun (S_j205 : gm_S) => (fun (kf243 : gm_S → (Int32 × gm_S)) => if (S.1 10 (Int32.toNatClampNeg X)) = 7 then gm_bd (gm_f_MD_taken (S.1 11 (Int32.toNatClampNeg X)) Y (va_up (va_up S.1 36 (S_j205.1 36)) 37 (S_j205.1 37), S.2.1, va_up S.2.2 38 (S_j205.2.2 38))) (fun r221 u221 => if r221 ≤ 0 then kf243 (va_up (va_up S.1 36 (S_j205.1 36)) 37 (S_j205.1 37), S.2.1, va_up S.2.2 38 (S_j205.2.2 38)) else gm_bd (gm_f_MD_taken (S.1 11 (Int32.toNatClampNeg X)) Y (va_up (va_up S.1 36 (S_j205.1 36)) 37 (S_j205.1 37), S.2.1, va_up S.2.2 38 (S_j205.2.2 38))) (fun r236 u236 => gm_bd (gm_f_MD_come X (Y + r236) (va_up (va_up S.1 36 (S_j205.1 36)) 37 (S_j205.1 37), S.2.1, va_up S.2.2 38 (S_j205.2.2 38))) (fun _ u240 => kf243 (va_up (va_up S.1 36 (u240.1 36)) 37 (u240.1 37), S.2.1, va_up S.2.2 38 (u240.2.2 38))))) else kf243 (va_up (va_up S.1 36 (S_j205.1 36)) 37 (S_j205.1 37), S.2.1, va_up S.2.2 38 (S_j205.2.2 38))) (fun (S_j243 : gm_S) => gm_f_MD_evaluations_44 x S c1 C2 C3 n (v + 1) (va_up (va_up S.1 36 (S_j243.1 36)) 37 (S_j243.1 37), S.2.1, va_up S.2.2 38 (S_j243.2.2 38))))))) := by
      intro V hV
      have hV' := hV
      obtain ⟨w', e1, e2, e3⟩ := hV'
      refine gx_in (Q := Q) iX ?_
      refine gx_if (Q := Q) (fun k => k129 _ hV) (fun k => ?_)
      rw [cX] at k
      have k4 := gx_lenr (k := 3) (gx_lit 3 (by decide)) k
      have x1 := n4 (by omega)
      refine gx_ca (Q := Q) _ (cm V (S.1 11 (Int32.toNatClampNeg X)) Y w' e1 e2 e3 (by rw [cX]; exact x1.1) (by rw [cX]; omega) (by rw [cX]; omega) (by omega) (by omega)) (fun _ u2 h2 => k129 _ h2)
    refine gx_in (Q := Q) iv (gx_in (Q := Q) iv (gx_in (Q := Q) iX (gx_in (Q := Q) iX ?_)))
    refine gx_if (Q := Q) (fun k => ?_) (fun k => k111 _ ⟨w, hw, by omega, hE⟩)
    rw [cX] at k
    have k3 := gx_eqr (k := 3) (gx_lit 3 (by decide)) k
    have x3 := n3 k3
    refine gx_ca (Q := Q) (fun z : Int32 × gm_S => gp_me (S.1 6) (S.1 7) (S.1 8) (S.2.2 4) (S.1 11 (Int32.toNatClampNeg X)) z.1) (gy_s_MD_meant X (S.2.2 4) _ b0 b1 r1 (by omega) (by omega)) (fun r u hr => ?_)
    have hr : gp_me (S.1 6) (S.1 7) (S.1 8) (S.2.2 4) (S.1 11 (Int32.toNatClampNeg X)) r := hr
    rw [cX] at hr
    have er : r = gp_Mz S m := gp_mz_eq b0 hr
    rw [er]
    refine gx_ca (Q := Q) _ (cm U (gp_Mz S m) Y w hw (by omega) hE x3.1 x3.2.1 (by omega) (by omega) (by omega)) (fun _ u2 h2 => k111 _ h2)
theorem gz_eval2 (x : Int32) (S : gm_S) {P fed : Nat} (hC : gp_WC S P fed) {rk : Nat → Nat} {t : Nat} (hF : gp_FT S P fed rk t) (hx : gp_Bs S ≤ Int32.toNatClampNeg x) (hx2 : Int32.toNatClampNeg x < gp_Bs S + P) (hx3 : 0 ≤ x.toInt) : ∀ (n : Nat) (v : Int32) (U : gm_S), 0 ≤ v.toInt → v.toInt ≤ 11 * P → 11 * (P : Int) < v.toInt + n → (∀ c : Nat, (c : Int) < v.toInt → U.1 36 c = 0) → gm_p_MD_evaluations_2 x S n v U ∧ (fun z : Int32 × gm_S => True) (gm_f_MD_evaluations_2 x S n v U) := by
  have hC' := hC
  obtain ⟨⟨b0, b1⟩, ⟨p0, p1⟩, ⟨f0, f1⟩, ⟨ty, hU⟩, SC⟩ := hC'
  have z0 : (0 : Int32).toInt = 0 := by decide
  have m := gx_mk 11 ((S.1 9) (Int32.toNatClampNeg (S.2.2 4))) 11 (gx_lit 11 (by decide))
  have T : (11 * ((S.1 9) (Int32.toNatClampNeg (S.2.2 4)))).toInt = 11 * P := by omega
  clear m
  obtain ⟨Q, hQ⟩ : ∃ Q, Q = (fun z : Int32 × gm_S => True) := ⟨_, rfl⟩
  rw [← hQ]
  intro n
  induction n with
  | zero => intro v U _ _ h; exfalso; omega
  | succ n ih =>
    intro v U h0 h1 h2 hc
    rw [gm_p_MD_evaluations_2, gm_f_MD_evaluations_2]
    refine gx_in (Q := Q) (vp_in_iff.mpr (by omega)) ?_
    refine gx_if (Q := Q) (fun q => ?_) (fun q => ?_)
    · have q1 := gx_le q
      rw [T] at q1
      refine gx_ca (Q := Q) _ (gz_come x 0 (va_up (va_up S.1 36 (U.1 36)) 37 (U.1 37), S.2.1, va_up S.2.2 38 0) (P := P) (fed := fed) hC hx hx2 hx3 (by omega) (by omega) (w := 0) z0 ⟨fun i hi => absurd hi (by omega), ?_⟩) (fun _ u2 h2 => ?_)
      · show gp_c (fun c => decide (¬ U.1 36 c = 0)) (11 * P) = 0
        have : ∀ N, N ≤ 11 * P → gp_c (fun c => decide (¬ U.1 36 c = 0)) N = 0 := by
          intro N
          induction N with
          | zero => intro _; rfl
          | succ N ihN =>
            intro hN
            unfold gp_c
            have z : ¬ (decide (¬ U.1 36 N = 0) = true) := fun h => (of_decide_eq_true h : ¬ U.1 36 N = 0) (hc N (by omega))
            rw [ihN (by omega), if_neg z]
        exact this _ (Nat.le_refl _)
      · obtain ⟨w', a1, a2, a3⟩ := h2
        rw [hQ]
        exact gz_eval44 x S v U u2 hC hF 2000 0 _ w' a2 (by omega) (by omega) (by omega) a3
    · have q1 := gx_len q
      rw [T] at q1
      have cv := gx_cl v h0
      have b := gx_ak v 1 1 (by decide)
      refine gx_in (Q := Q) (vp_in_iff.mpr (by omega)) ?_
      refine ih _ _ (by omega) (by omega) (by omega) (fun c hc1 => ?_)
      show upd (U.1 36) (Int32.toNatClampNeg v) (vp_nar .boolean 0) c = 0
      by_cases e : c = Int32.toNatClampNeg v
      · rw [e, gx_us]; decide
      · rw [gx_un _ _ _ e]
        exact hc c (by omega)
theorem gz_evaluations (x : Int32) (S : gm_S) {P fed : Nat} (hC : gp_WC S P fed) {rk : Nat → Nat} {t : Nat} (hF : gp_FT S P fed rk t) (hx : gp_Bs S ≤ Int32.toNatClampNeg x) (hx2 : Int32.toNatClampNeg x < gp_Bs S + P) (hx3 : 0 ≤ x.toInt) : gm_p_MD_evaluations x S ∧ (fun z : Int32 × gm_S => True) (gm_f_MD_evaluations x S) := by
  have p1 := hC.2.1.2
  have z0 : (0 : Int32).toInt = 0 := by decide
  unfold gm_p_MD_evaluations gm_f_MD_evaluations
  exact gz_eval2 x S hC hF hx hx2 hx3 2000 0 S (by omega) (by omega) (by omega) (fun c hc => by omega)
/-- a match keeps what is known -/
theorem gz_match (x : Int32) (S : gm_S) (h : gp_RI S) : gm_p_MD_match x S ∧ gp_RQ (gm_f_MD_match x S) := by
  obtain ⟨hW, hW2, hn, hb, hR⟩ := h
  have z0 : (0 : Int32).toInt = 0 := by decide
  have z200 : gm_iN 200 (0 : Int32) := ⟨by omega, by omega⟩
  unfold gm_p_MD_match gm_f_MD_match
  refine gx_if (Q := gp_RQ) (fun q => ?_) (fun q => ?_)
  · refine gx_ca (Q := gp_RQ) (fun _ => True) ⟨trivial, trivial⟩ (fun r u _ => ⟨trivial, hW, hW2, hn, hb, hR⟩)
  obtain ⟨P, fed, hC, hP, hG, rank, RK⟩ := gp_WC_of (S := S) ⟨hW, hW2, hn, hb, hR⟩ q
  have hC' := hC
  obtain ⟨⟨b0, b1⟩, ⟨p0, p1⟩, ⟨f0, f1⟩, ⟨ty, hU⟩, SC⟩ := hC'
  have cb := gx_cl (S.2.2 4) b0
  have m8 := gx_mk 8 (S.2.2 4) 8 (gx_lit 8 (by decide))
  have e8 : Int32.toNatClampNeg (8 * (S.2.2 4)) = 8 * Int32.toNatClampNeg (S.2.2 4) + 0 := by
    have := gx_cl (8 * (S.2.2 4)) (by omega)
    omega
  have hG' := hG
  obtain ⟨Pg, R, f, nA, nC, ⟨G1, G2, G3, G4, G5⟩, g1, g2, g3, g4⟩ := hG'
  have root := gp_ch_cl (G2 0 (by omega)).2.1
  have hM : gp_M (S.2.2 4) (S.1 9) = gp_Bs S + P := by rw [hP]
  rw [hM, ← e8] at root
  have rt1 : gp_Bs S ≤ Int32.toNatClampNeg (S.1 8 (Int32.toNatClampNeg (8 * (S.2.2 4)))) := root.1
  have rt2 := root.2.1
  have rt3 := root.2.2
  generalize hst : S.1 8 (Int32.toNatClampNeg (8 * (S.2.2 4))) = st at rt1 rt2 rt3 ⊢
  refine gx_in (Q := gp_RQ) (vp_in_iff.mpr (by omega)) ?_
  refine gx_ca (Q := gp_RQ) _ (gz_fill _ (P := P) (fed := fed) hC RK) (fun _ u33 hf => ?_)
  obtain ⟨⟨rk, t, hFI⟩, hall⟩ := hf
  have c0 : Int32.toNatClampNeg 0 = 0 := by decide
  refine gx_ca (Q := gp_RQ) _ (gz_costOf st 0 _ (P := P) (fed := fed) hC rt1 rt2 (by omega) (by omega) (by omega)) (fun r49 u49 _ => ?_)
  have hka : gp_ka (S.1 10) (gp_Bs S) P ≤ 75 := by
    have : gp_ka (S.1 10) (gp_Bs S) P = nA := by rw [← G4, hP]
    omega
  have j97 : ∀ (k0 : Int32) (A B : gm_S), B.1 34 = u33.1 34 → B.1 35 = u33.1 35 → B.2.2 41 = 0 → gm_p_MD_match_j97 x S u33 r49 u49 k0 A B ∧ gp_RQ (gm_f_MD_match_j97 x S u33 r49 u49 k0 A B) := by
    intro k0 A B e34 e35 e41
    have WC : ∀ W : gm_S, gp_WC S P fed → gp_WC ((va_up (va_up (va_up (va_up (va_up (va_up (va_up S.1 34 (B.1 34)) 35 (B.1 35)) 36 (B.1 36)) 37 (B.1 37)) 42 (B.1 42)) 43 (B.1 43)) 44 (B.1 44)), S.2.1, (va_up (va_up (va_up (va_up (va_up S.2.2 0 (B.2.2 0)) 38 (B.2.2 38)) 39 (B.2.2 39)) 40 (B.2.2 40)) 41 (B.2.2 41))) P fed := fun _ h => h
    have FTB : gp_FT ((va_up (va_up (va_up (va_up (va_up (va_up (va_up S.1 34 (B.1 34)) 35 (B.1 35)) 36 (B.1 36)) 37 (B.1 37)) 42 (B.1 42)) 43 (B.1 43)) 44 (B.1 44)), S.2.1, (va_up (va_up (va_up (va_up (va_up S.2.2 0 (B.2.2 0)) 38 (B.2.2 38)) 39 (B.2.2 39)) 40 (B.2.2 40)) 41 (B.2.2 41))) P fed rk t := by
      show gp_FI (S.1 10) (S.1 11) (S.1 12) (gp_Mz S) (gp_So S fed) (gp_Sr S fed) (gp_Bs S) P fed (B.1 34) (B.1 35) rk t ∧ ∀ k q, k < P → q ≤ fed → ¬ gp_Tb (gp_Bs S) (B.1 34) (gp_Bs S + k) q = -3
      rw [e34, e35]
      exact ⟨hFI, hall⟩
    obtain ⟨cp, hcp⟩ := gp_CP_ex (S := ((va_up (va_up (va_up (va_up (va_up (va_up (va_up S.1 34 (B.1 34)) 35 (B.1 35)) 36 (B.1 36)) 37 (B.1 37)) 42 (B.1 42)) 43 (B.1 43)) 44 (B.1 44)), S.2.1, (va_up (va_up (va_up (va_up (va_up S.2.2 0 (B.2.2 0)) 38 (B.2.2 38)) 39 (B.2.2 39)) 40 (B.2.2 40)) 41 (B.2.2 41)))) (WC S hC) hP hG rk
    unfold gm_p_MD_match_j97 gm_f_MD_match_j97
    have s8 : (S.1 8) (Int32.toNatClampNeg (8 * (S.2.2 4))) = st := hst
    rw [s8]
    refine gx_ca (Q := gp_RQ) _ (gz_taken st 0 _ (P := P) (fed := fed) (WC S hC) rt1 rt2 (by omega) (by omega) (by omega)) (fun r100 u100 h100 => ?_)
    have h100 : r100.toInt = gp_Tb (gp_Bs S) (B.1 34) (Int32.toNatClampNeg st) (Int32.toNatClampNeg 0) := h100
    rw [c0] at h100
    refine gx_if (Q := gp_RQ) (fun w => ⟨trivial, hW, hW2, ?_, hb, hR⟩) (fun w => ?_)
    · show gm_iN 200 (B.2.2 41)
      rw [e41]; exact z200
    · have w0 := gx_ltnr (k := 0) z0 w
      refine gx_ca (Q := gp_RQ) _ (gz_gather st _ (P := P) (fed := fed) (WC S hC) RK FTB hcp hka ⟨rt1, rt2, Nat.zero_le _, (show 0 ≤ gp_Tb (gp_Bs S) (B.1 34) (Int32.toNatClampNeg st) 0 by omega)⟩ (by omega)) (fun _ u112 h112 => ⟨trivial, hW, hW2, h112, hb, hR⟩)
  have j80 : ∀ (k0 : Int32) (A : gm_S), A.1 34 = u33.1 34 → A.1 35 = u33.1 35 → A.2.2 41 = 0 → gm_p_MD_match_j80 x S u33 r49 u49 k0 A ∧ gp_RQ (gm_f_MD_match_j80 x S u33 r49 u49 k0 A) := by
    intro k0 A e34 e35 e41
    unfold gm_p_MD_match_j80 gm_f_MD_match_j80
    refine gx_if (Q := gp_RQ) (fun _ => j97 _ _ _ e34 e35 e41) (fun _ => ?_)
    refine gx_if (Q := gp_RQ) (fun _ => j97 _ _ _ e34 e35 e41) (fun _ => ⟨trivial, hW, hW2, ?_, hb, hR⟩)
    show gm_iN 200 (A.2.2 41)
    rw [e41]; exact z200
  refine gx_if (Q := gp_RQ) (fun _ => ?_) (fun _ => ?_)
  · refine gx_ca (Q := gp_RQ) (fun _ => True) (gz_evaluations st _ (P := P) (fed := fed) hC (rk := rk) (t := t) ⟨hFI, hall⟩ rt1 rt2 (by omega)) (fun r77 u77 _ => j80 _ _ rfl rfl rfl)
  · exact gx_if (Q := gp_RQ) (fun _ => j80 _ _ rfl rfl rfl) (fun _ => j80 _ _ rfl rfl rfl)
