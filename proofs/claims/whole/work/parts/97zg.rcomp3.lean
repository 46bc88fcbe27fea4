/-! The reference compiles: what it answers. -/
def gs_fr (S : gm_S) (z : Int32 × gm_S) : Prop := z.2.2.2 2 = S.2.2 2 ∧ z.2.1 3 = S.1 3 ∧ z.2.2.2 32 = S.2.2 32 ∧ z.2.1 33 = S.1 33 ∧ z.2.2.2 40 = S.2.2 40 ∧ z.2.2.2 41 = S.2.2 41 ∧ z.2.1 42 = S.1 42 ∧ z.2.1 43 = S.1 43 ∧ z.2.1 44 = S.1 44
def gs_mQ (tx : Nat → Int) (ty : Nat) (S : gm_S) (z : Int32 × gm_S) : Prop := gs_C tx ty (z.2.2.2 0).toInt (z.2.2.2 1).toInt z.1.toInt ∧ gs_fr S z ∧ (z.2.2.2 0 = 0 → z.2.2.2 39 = 0 ∧ ∃ R f nA nC, gs_rd tx ty = .inr (R, f, nA, nC) ∧ gs_half tx ty R f (z.2.2.2 4) z.2) ∧ (¬ z.2.2.2 0 = 0 → z.2.2.2 4 = S.2.2 4 ∧ z.2.2.2 39 = S.2.2 39 ∧ (¬ S.2.2 4 = -1 → gs_same (S.2.2 4) S z.2))
def gs_tQ (x y : Int32) (z : Int32 × gm_S) : Prop := z.2.2.2 0 = y ∧ z.2.2.2 1 = x
theorem gs_tell (x y : Int32) (S : gm_S) : gs_tQ x y (gm_f_MD_tell x y S) := ⟨rfl, rfl⟩
theorem gs_c77 (S : gm_S) (r6 : Int32) (u6 : gm_S) (v24 : Int32) (S24 u72 : gm_S) {tx : Nat → Int} {ty R nA nC : Nat} {f : Nat → Int × Lean.ParserDescr} (hrd : gs_rd tx ty = .inr (R, f, nA, nC)) (hu : gs_no R (gq_un f R)) : ∀ (n : Nat) (v : Int32) (U : gm_S) (k : Nat), v.toInt = k → k ≤ R → R < k + n → gs_af tx ty R f U → (∀ j, j < k → ¬ gr_Wd (gp_B (U.2.2 5)) (gp_M (U.2.2 5) (U.1 9)) (U.1 10) (U.1 11) (U.1 13) (U.1 15) (U.1 16) (gr_rt (U.2.2 5) (U.1 8)) j) → U.2.2 0 = 0 → U.2.2 4 = S.2.2 4 → U.2.2 39 = S.2.2 39 → (¬ S.2.2 4 = -1 → gs_same (S.2.2 4) S U) → gs_mQ tx ty S (gm_f_MD_compile_77 S r6 u6 v24 S24 u72 n v U) := by
  intro n
  induction n with
  | zero => intro v U k _ h1 h2; exfalso; omega
  | succ n ih =>
    intro v U k hv h1 h2 hA hno e0 e4 e39 hs
    have hA' := hA
    obtain ⟨hH, hw, hb⟩ := hA'
    have hH' := hH
    obtain ⟨Pg, nA', nC', ⟨t, t1, t2, hU⟩, hG, -⟩ := hH'
    have g1 := hG.1
    have hU' := hU
    obtain ⟨⟨f0, f1⟩, ⟨p0, p1⟩, ⟨r0, r1⟩, hS, hN⟩ := hU'
    rw [gm_f_MD_compile_77]
    refine gf_if (Q := gs_mQ tx ty S) (fun q => ?_) (fun q => ?_)
    · have q1 := gx_le q
      have nw : gs_no R (gq_wd f R) := by
        intro r hr w
        obtain ⟨r', a, b⟩ := hw.2 r hr w
        exact hno r' (by omega) b
      refine ⟨?_, ⟨rfl, rfl, rfl, rfl, rfl, rfl, rfl, rfl, rfl⟩, fun _ => ⟨rfl, R, f, nA, nC, hrd, hH⟩, fun q => absurd e0 q⟩
      unfold gs_C
      rw [hrd]
      exact Or.inr (Or.inr ⟨hu, nw, (by show (U.2.2 0).toInt = 0; rw [e0]; decide), (by show (-1 : Int32).toInt = -1; decide), g1⟩)
    · have q1 := gx_len q
      have b := gx_ak v 1 1 (by decide)
      refine gf_ca (Q := gs_mQ tx ty S) (gs_wQ U k) ?_ (fun r u hr => ?_)
      · exact gs_isWild (U := U) v _ (t := t) (k := k) rfl rfl rfl rfl rfl rfl rfl rfl rfl rfl rfl hU hb hv (by omega)
      refine gf_if (Q := gs_mQ tx ty S) (fun t => ?_) (fun t => ?_)
      · have nk := hr.elim (fun w => w.2) (fun w => absurd (show r = 1 from w.1) (by rw [t]; decide))
        refine ih _ _ (k + 1) (by omega) (by omega) (by omega) hA (fun j hj => ?_) e0 e4 e39 hs
        by_cases q : j = k
        · rw [q]; exact nk
        · exact hno j (by omega)
      · have yk := hr.elim (fun w => absurd (show r = 0 from w.1) t) (fun w => w.2)
        refine gf_ca (Q := gs_mQ tx ty S) (gs_tQ ((U.1 7) (Int32.toNatClampNeg ((8 * (U.2.2 5)) + v))) 3) (gs_tell _ _ _) (fun r2 u2 h2 => ?_)
        have h20 : u2.2.2 0 = 3 := h2.1
        have h21 : u2.2.2 1 = (U.1 7) (Int32.toNatClampNeg ((8 * (U.2.2 5)) + v)) := h2.2
        have cf := gx_cl (U.2.2 5) f0
        have m8 := gx_mk 8 (U.2.2 5) 8 (gx_lit 8 (by decide))
        have s8 := gx_ad (8 * (U.2.2 5)) v
        have c8 := gx_cl ((8 * (U.2.2 5)) + v) (by omega)
        have e8 : Int32.toNatClampNeg ((8 * (U.2.2 5)) + v) = 8 * Int32.toNatClampNeg (U.2.2 5) + k := by omega
        refine ⟨?_, ⟨rfl, rfl, rfl, rfl, rfl, rfl, rfl, rfl, rfl⟩, fun q => ?_, fun q => ⟨e4, e39, hs⟩⟩
        · unfold gs_C
          rw [hrd]
          refine Or.inr (Or.inl ⟨hu, ?_, k, gs_first_tr hw.1 hw.2 ⟨by omega, yk, fun j hj => hno j hj⟩, ?_⟩)
          · show (u2.2.2 0).toInt = 3
            rw [h20]; exact gx_lit 3 (by decide)
          · show (u2.2.2 1).toInt = (f k).1
            rw [h21, e8]
            exact (hG.2.1 k (by omega)).1
        · have q : u2.2.2 0 = 0 := q
          rw [h20] at q
          exact absurd q (by decide)
theorem gs_c24 (S : gm_S) (r6 : Int32) (u6 : gm_S) {tx : Nat → Int} {ty R nA nC : Nat} {f : Nat → Int × Lean.ParserDescr} (hW : gm_iW 50 (S.2.2 2) (S.1 3)) (htx : gp_tx (S.2.2 2) (S.1 3) tx ty) (hrd : gs_rd tx ty = .inr (R, f, nA, nC)) (hbs : ¬ S.2.2 4 = -1 → gm_iN 1 (S.2.2 4)) : ∀ (n : Nat) (v : Int32) (U : gm_S) (k : Nat), v.toInt = k → k ≤ R → R < k + n → gs_X tx ty R f (S.2.2 2) U → (∀ j, U.1 15 j = 0 ∨ U.1 15 j = 1) → (∀ j, j < k → ¬ gr_Un (gp_B (U.2.2 5)) (gp_M (U.2.2 5) (U.1 9)) (U.1 6) (U.1 7) (U.1 10) (U.1 11) (U.1 13) (U.2.2 5) j) → U.2.2 0 = 0 → U.2.2 4 = S.2.2 4 → U.2.2 39 = S.2.2 39 → U.2.2 5 = (if S.2.2 4 = 0 then 1 else 0) → (¬ S.2.2 4 = -1 → gs_same (S.2.2 4) S U) → gs_mQ tx ty S (gm_f_MD_compile_24 S r6 u6 n v U) := by
  have hc := gs_cn htx hrd
  have hc : ∀ r, r < R → gr_cn (f r).2 := hc
  intro n
  induction n with
  | zero => intro v U k _ h1 h2; exfalso; omega
  | succ n ih =>
    intro v U k hv h1 h2 hX hb hno e0 e4 e39 e5 hs
    have hX' := hX
    obtain ⟨Pg, nA', nC', hG, hLB, ho, hz, ⟨f0, f1⟩, ⟨p0, p1⟩, ⟨r0, r1⟩, hS⟩ := hX'
    have g1 := hG.1
    have us := gr_unS f0 hG hc ho.1
    rw [gm_f_MD_compile_24]
    refine gf_if (Q := gs_mQ tx ty S) (fun q => ?_) (fun q => ?_)
    · have q1 := gx_le q
      have nu : gs_no R (gq_un f R) := by
        intro r hr w
        obtain ⟨r', a, b⟩ := us.2 r hr w
        exact hno r' (by omega) b
      refine gf_ca (Q := gs_mQ tx ty S) (gs_sQ tx ty R f U) ?_ (fun r u hr => ?_)
      · exact gs_study (U := U) _ rfl rfl rfl rfl rfl rfl rfl rfl rfl rfl rfl rfl rfl rfl rfl hW htx hb hX hc nu
      obtain ⟨hV, hF⟩ := hr
      refine gs_c77 S r6 u6 v U u hrd nu 200 0 _ 0 (by decide) (by omega) (by omega) ?_ (fun j hj => absurd hj (by omega)) e0 e4 e39 (fun q => ?_)
      · exact hV _ ⟨rfl, rfl, rfl, rfl, rfl, rfl, rfl, rfl, rfl, rfl, rfl, rfl, rfl, rfl⟩
      · refine gs_same_t (hs q) ?_
        exact gs_same_of (hbs q).1 (hbs q).2 e5 (gp_O_r _ _ _ _ _ _ _ (U.2.1 17) (U.2.1 18)) (gp_O2_r _ _ _ _) hF.1 hF.2
    · have q1 := gx_len q
      have b := gx_ak v 1 1 (by decide)
      refine gf_ca (Q := gs_mQ tx ty S) (gs_uQ U k) ?_ (fun r u hr => ?_)
      · exact gs_isUndef (U := U) v _ (t := S.2.2 2) (k := k) rfl rfl rfl rfl rfl rfl rfl rfl rfl rfl ⟨f0, f1⟩ hS p0 p1 r1 hv
      refine gf_if (Q := gs_mQ tx ty S) (fun t => ?_) (fun t => ?_)
      · have nk := hr.elim (fun w => w.2) (fun w => absurd (show r = 1 from w.1) (by rw [t]; decide))
        refine ih _ _ (k + 1) (by omega) (by omega) (by omega) hX hb (fun j hj => ?_) e0 e4 e39 e5 hs
        by_cases q : j = k
        · rw [q]; exact nk
        · exact hno j (by omega)
      · have yk := hr.elim (fun w => absurd (show r = 0 from w.1) t) (fun w => w.2)
        refine gf_ca (Q := gs_mQ tx ty S) (gs_tQ ((U.1 7) (Int32.toNatClampNeg ((8 * (U.2.2 5)) + v))) 2) (gs_tell _ _ _) (fun r2 u2 h2 => ?_)
        have h20 : u2.2.2 0 = 2 := h2.1
        have h21 : u2.2.2 1 = (U.1 7) (Int32.toNatClampNeg ((8 * (U.2.2 5)) + v)) := h2.2
        have cf := gx_cl (U.2.2 5) f0
        have m8 := gx_mk 8 (U.2.2 5) 8 (gx_lit 8 (by decide))
        have s8 := gx_ad (8 * (U.2.2 5)) v
        have c8 := gx_cl ((8 * (U.2.2 5)) + v) (by omega)
        have e8 : Int32.toNatClampNeg ((8 * (U.2.2 5)) + v) = 8 * Int32.toNatClampNeg (U.2.2 5) + k := by omega
        refine ⟨?_, ⟨rfl, rfl, rfl, rfl, rfl, rfl, rfl, rfl, rfl⟩, fun q => ?_, fun q => ⟨e4, e39, hs⟩⟩
        · unfold gs_C
          rw [hrd]
          refine Or.inl ⟨?_, k, gs_first_tr us.1 us.2 ⟨by omega, yk, fun j hj => hno j hj⟩, ?_⟩
          · show (u2.2.2 0).toInt = 2
            rw [h20]; exact gx_lit 2 (by decide)
          · show (u2.2.2 1).toInt = (f k).1
            rw [h21, e8]
            exact (hG.2.1 k (by omega)).1
        · have q : u2.2.2 0 = 0 := q
          rw [h20] at q
          exact absurd q (by decide)
theorem gs_compileM (S : gm_S) (h : gp_RI S) {tx : Nat → Int} {ty : Nat} (htx : gp_tx (S.2.2 2) (S.1 3) tx ty) : gs_mQ tx ty S (gm_f_MD_compile S) := by
  obtain ⟨hW, hW2, hn, hb, hR⟩ := h
  have hbs : ¬ S.2.2 4 = -1 → gm_iN 1 (S.2.2 4) := fun q => by
    obtain ⟨⟨t, -, hU⟩, -⟩ := hR.resolve_left q
    exact hU.1
  have Y := (gy_s_MD_read (S.1, S.2.1, (va_up S.2.2 0 0)) hW).2
  have Z := gz_read (S.1, S.2.1, (va_up S.2.2 0 0)) htx hW gs_0
  have ZZ := gp_Z_read (S.1, S.2.1, (va_up S.2.2 0 0))
  unfold gm_f_MD_compile
  refine gf_ca (Q := gs_mQ tx ty S) (fun z => gy_q_MD_read (S.1, S.2.1, (va_up S.2.2 0 0)) z ∧ gp_Qd tx ty (S.1, S.2.1, (va_up S.2.2 0 0)) (if S.2.2 4 = 0 then 1 else 0) (gs_rd tx ty) z ∧ gp_Zq (if S.2.2 4 = 0 then 1 else 0) z) ⟨Y, Z, ZZ⟩ ?_
  clear Y Z ZZ
  intro r u hu
  obtain ⟨⟨Y0, Y1, Y2, Y3, Y4, Y5, Y6, Y7, Y8⟩, ⟨Z1, Z2, Z3, Z4⟩, ZZ⟩ := hu
  have Z2 : u.2.2 5 = (if S.2.2 4 = 0 then 1 else 0) := Z2
  have same : ∀ W : gm_S, W.1 6 = u.1 6 → W.1 7 = u.1 7 → W.1 8 = u.1 8 → W.1 9 = u.1 9 → W.1 10 = u.1 10 → W.1 11 = u.1 11 → W.1 12 = u.1 12 → W.1 13 = u.1 13 → W.1 14 = S.1 14 → W.1 15 = S.1 15 → W.1 16 = S.1 16 → W.2.1 17 = u.2.1 17 → W.2.1 18 = u.2.1 18 → ¬ S.2.2 4 = -1 → gs_same (S.2.2 4) S W := by
    intro W w6 w7 w8 w9 w10 w11 w12 w13 w14 w15 w16 w17 w18 q
    refine gs_same_of (lx := S.2.1 17) (hx := S.2.1 18) (lx' := u.2.1 17) (hx' := u.2.1 18) (hbs q).1 (hbs q).2 rfl ?_ ?_ (fun n hn => ?_) (fun n hn => by rw [w14])
    · rw [w9, w10, w11, w12, w13]
      exact Z3
    · rw [w6, w7, w8]
      exact Z4
    · rw [w15, w16, w17, w18]
      exact ⟨rfl, rfl, (Z3.2 n hn).2.2.2.2.1, (Z3.2 n hn).2.2.2.2.2⟩
  have d0 : (0 : Int32).toInt = 0 := by decide
  generalize hres : gs_rd tx ty = res at Z1
  match res, hres, Z1 with
  | .inl j, hres, Z1 =>
    have z1 : r = 0 := Z1.1
    have z2 : (u.2.2 19).toInt = (j : Nat) := Z1.2
    refine gf_if (Q := gs_mQ tx ty S) (fun q => ?_) (fun q => absurd z1 q)
    refine gf_ca (Q := gs_mQ tx ty S) (gs_tQ (u.2.2 19) 1) (gs_tell _ _ _) (fun r2 u2 h2 => ?_)
    have h20 : u2.2.2 0 = 1 := h2.1
    have h21 : u2.2.2 1 = u.2.2 19 := h2.2
    refine ⟨?_, ⟨rfl, rfl, rfl, rfl, rfl, rfl, rfl, rfl, rfl⟩, fun q => ?_, fun q => ⟨rfl, rfl, ?_⟩⟩
    · unfold gs_C
      rw [hres]
      refine ⟨?_, ?_⟩
      · show (u2.2.2 0).toInt = 1
        rw [h20]; decide
      · show (u2.2.2 1).toInt = (j : Nat)
        rw [h21]; exact z2
    · have q : u2.2.2 0 = 0 := q
      rw [h20] at q
      exact absurd q (by decide)
    · exact same _ rfl rfl rfl rfl rfl rfl rfl rfl rfl rfl rfl rfl rfl
  | .inr t, hres, Z1 =>
    obtain ⟨w1, w0, ⟨Pg, w2, w2b, w2c⟩, w3, w4, w5, w6, w7⟩ := Z1
    have w1 : r = 1 := w1
    refine gf_if (Q := gs_mQ tx ty S) (fun q => absurd q (by rw [w1]; decide)) (fun q => ?_)
    rw [← Z2] at w2 w2b w2c ZZ
    have iS : gm_iS 0 (S.2.2 2) (u.2.2 5) (u.1 6) (u.1 7) (u.1 8) (u.1 9) (u.1 10) (u.1 11) (u.1 12) (u.1 13) 0 0 (fun _ => 0) (fun _ => 0) := by
      rcases Y0 with Y0 | Y0
      · exact absurd w0 Y0
      · exact Y0
    have Y3 : 0 ≤ ((u.1 9) (Int32.toNatClampNeg (u.2.2 5))).toInt := Y3
    have Y4 : ((u.1 9) (Int32.toNatClampNeg (u.2.2 5))).toInt ≤ 100 := Y4
    have zz : gr_zz (gp_B (u.2.2 5)) (gp_M (u.2.2 5) (u.1 9)) (u.1 10) (u.2.1 17) (u.2.1 18) := gr_zz_of ZZ Y1 Y2 Y3 (by omega)
    have w4 : t.1 ≤ 8 := w4
    obtain ⟨R, f, nA, nC⟩ := t
    refine gs_c24 S r u hW htx hres hbs 200 0 _ 0 d0 (by omega) (by have : R ≤ 8 := w4; omega) ?_ hb (fun j hj => absurd hj (by omega)) rfl rfl rfl Z2 ?_
    · exact ⟨Pg, nA, nC, w2, w2b, w2c, zz, ⟨Y1, Y2⟩, ⟨Y3, Y4⟩, ⟨Y7, Y8⟩, iS⟩
    · exact same _ rfl rfl rfl rfl rfl rfl rfl rfl rfl rfl rfl rfl rfl
