/-! The reference's reader against the machine: rows and classes. -/
/-- a leaf is made -/
theorem gp_H_0 {Pg : Nat → Nat → Nat → Prop} {S U' S2 : gm_S} {lo : Nat × Nat} {nA nC k b c : Nat} {fs : List gp_Fm} {x y w r : Int32} {z : Int32 × gm_S} (hP : gp_P Pg (S.2.2 5) (S.1 6) (S.1 9) (S.1 10) (S.1 11) (S.1 12) (S.1 13) (S.1 26) (S.1 27) (S.1 28) (S.1 29) (S.1 30) (S.1 31) (Int32.toNatClampNeg (S.2.2 20)) (Int32.toNatClampNeg (S.2.2 21)) (Int32.toNatClampNeg (S.2.2 22)) fs lo nA nC []) (hc : gp_cQ x y w U' z) (e5 : U'.2.2 5 = S.2.2 5) (e6 : U'.1 6 = S.1 6) (e9 : U'.1 9 = S.1 9) (e10 : U'.1 10 = S.1 10) (e11 : U'.1 11 = S.1 11) (e12 : U'.1 12 = S.1 12) (e13 : U'.1 13 = S.1 13) (e17 : U'.2.1 17 = S.2.1 17) (e18 : U'.2.1 18 = S.2.1 18) (hk : k ≤ 3) (hx : x.toInt = k) (h1 : k = 1 → y.toInt = b ∧ w.toInt = c) (h3 : k = 3 → y.toInt = b) (h2 : k = 2 → Pg (gp_M (S.2.2 5) (S.1 9)) b c) (f5 : S2.2.2 5 = S.2.2 5) (f6 : S2.1 6 = S.1 6) (f9 : S2.1 9 = z.2.1 9) (f10 : S2.1 10 = z.2.1 10) (f11 : S2.1 11 = z.2.1 11) (f12 : S2.1 12 = z.2.1 12) (f13 : S2.1 13 = z.2.1 13) (f26 : S2.1 26 = S.1 26) (f27 : S2.1 27 = S.1 27) (f28 : S2.1 28 = S.1 28) (f29 : S2.1 29 = S.1 29) (f30 : S2.1 30 = S.1 30) (f31 : S2.1 31 = S.1 31) (f20 : S2.2.2 20 = S.2.2 20) (f21 : S2.2.2 21 = S.2.2 21) (f22 : S2.2.2 22 = S.2.2 22) (hr : r = z.1) :
    gp_H Pg S2 S2 lo fs nA nC (gp_e0 k b c) r ∧ gp_O (S.2.2 5) lo.1 (S.1 9) (S.1 10) (S.1 11) (S.1 12) (S.1 13) (S.2.1 17) (S.2.1 18) (z.2.1 9) (z.2.1 10) (z.2.1 11) (z.2.1 12) (z.2.1 13) (z.2.2.1 17) (z.2.2.1 18) := by
  unfold gp_cQ at hc
  rw [e5, e6, e9, e10, e11, e12, e13, e17, e18] at hc
  obtain ⟨⟨g1, g2, g3, g4⟩, g9, g10, g11, g12, g13, gO⟩ := hc
  have rep := gp_rep_0 (B := lo.2) (N := gp_M (S.2.2 5) (S.1 9)) (S.1 10) (S.1 11) (S.1 12) hk hx h1 h3 h2
  refine ⟨?_, gp_O_w gO hP.2.2.2.2.1⟩
  unfold gp_H
  rw [f5, f6, f9, f10, f11, f12, f13, f26, f27, f28, f29, f30, f31, f20, f21, f22, hr]
  refine ⟨?_, ?_, ?_, gp_O_r _ _ _ _ _ _ _ _ _⟩
  · rw [g9, g10, g11, g12, g13]
    exact gp_P_c hP g4 rep (List.mem_singleton.mpr rfl) (fun g hg => by cases hg) (a := 0) (c := 0) (if_neg (by omega)) (if_neg (by omega))
  · rw [g3]; exact gp_ch_lo g1 g2 hP.2.2.2.2.2
  · rw [g2, g10, g11, g12]; exact rep
/-- what a row or a class leaves -/
def gp_Qw (Pg : Nat → Nat → Nat → Prop) (S : gm_S) (lo : Nat × Nat) (R : gp_Rs) (z : Int32 × gm_S) : Prop :=
  (match R with
    | .inl j => (z.2.2.2 24).toInt ≠ 0 ∧ (z.2.2.2 19).toInt = j
    | .inr (.inl s) => z.2.2.2 24 = S.2.2 24 ∧ gp_I Pg (S.2.2 5) (S.1 6) (z.2.1 9) (z.2.1 10) (z.2.1 11) (z.2.1 12) (z.2.1 13) (S.1 26) (S.1 27) (S.1 28) (S.1 29) (z.2.1 30) (S.1 31) (S.2.2 20) (z.2.2.2 21) (S.2.2 22) (z.2.2.2 23) (z.2.2.2 19) lo s
    | .inr (.inr _) => False) ∧
  gp_O (S.2.2 5) lo.1 (S.1 9) (S.1 10) (S.1 11) (S.1 12) (S.1 13) (S.2.1 17) (S.2.1 18) (z.2.1 9) (z.2.1 10) (z.2.1 11) (z.2.1 12) (z.2.1 13) (z.2.2.1 17) (z.2.2.1 18)
/-- the same but for where it is -/
def gp_same (S U : gm_S) : Prop := U.1 9 = S.1 9 ∧ U.1 10 = S.1 10 ∧ U.1 11 = S.1 11 ∧ U.1 12 = S.1 12 ∧ U.1 13 = S.1 13 ∧ U.1 30 = S.1 30 ∧ U.2.1 17 = S.2.1 17 ∧ U.2.1 18 = S.2.1 18 ∧ U.2.2 21 = S.2.2 21 ∧ U.2.2 23 = S.2.2 23 ∧ U.2.2 24 = S.2.2 24
def gp_rR (tx : Nat → Int) (ty a : Nat) (p : Int) (fs : List gp_Fm) (nA nC j : Nat) : gp_Rs := if gp_pk tx ty j = 0 ∨ j = a + 1 then .inl j else .inr (.inl (gp_pm tx ty (gp_e0 1 (a + 1) (j - (a + 1))) (j + 1, p, fs, nA, nC)))
theorem gz_row46 {Pg : Nat → Nat → Nat → Prop} (S : gm_S) {tx : Nat → Int} {lo : Nat × Nat} {ty nA nC a : Nat} {p : Int} {fs : List gp_Fm} (ht : gp_tx (S.2.2 2) (S.1 3) tx ty) (h : gp_P Pg (S.2.2 5) (S.1 6) (S.1 9) (S.1 10) (S.1 11) (S.1 12) (S.1 13) (S.1 26) (S.1 27) (S.1 28) (S.1 29) (S.1 30) (S.1 31) (Int32.toNatClampNeg (S.2.2 20)) (Int32.toNatClampNeg (S.2.2 21)) (Int32.toNatClampNeg (S.2.2 22)) fs lo nA nC []) (hf : 0 ≤ (S.2.2 5).toInt) (hf2 : (S.2.2 5).toInt ≤ 1) (hp : 0 ≤ ((S.1 9) (Int32.toNatClampNeg (S.2.2 5))).toInt) (hp2 : ((S.1 9) (Int32.toNatClampNeg (S.2.2 5))).toInt ≤ 120) (hi : 0 ≤ (S.2.2 21).toInt) (hi2 : (S.2.2 21).toInt ≤ 60) (ha : (S.2.2 19).toInt = a) (hpx : (S.2.2 23).toInt = p) (V : gm_S) (j : Nat) (hs : gp_same S V) (hj : (V.2.2 19).toInt = j) (hj1 : a + 1 ≤ j) (hj2 : j ≤ ty) : gp_Qw Pg S lo (gp_rR tx ty a p fs nA nC j) (gm_bd (gm_f_MD_peek (va_up (va_up (va_up (va_up (va_up (va_up S.1 9 (V.1 9)) 10 (V.1 10)) 11 (V.1 11)) 12 (V.1 12)) 13 (V.1 13)) 30 (V.1 30), va_up (va_up S.2.1 17 (V.2.1 17)) 18 (V.2.1 18), va_up (va_up (va_up (va_up S.2.2 19 (V.2.2 19)) 21 (V.2.2 21)) 23 (V.2.2 23)) 24 (V.2.2 24))) (fun r47 u47 => if r47 = 0 then gm_bd (gm_f_MD_refuse (va_up (va_up (va_up (va_up (va_up (va_up S.1 9 (V.1 9)) 10 (V.1 10)) 11 (V.1 11)) 12 (V.1 12)) 13 (V.1 13)) 30 (V.1 30), va_up (va_up S.2.1 17 (V.2.1 17)) 18 (V.2.1 18), va_up (va_up (va_up (va_up S.2.2 19 (V.2.2 19)) 21 (V.2.2 21)) 23 (V.2.2 23)) 24 (V.2.2 24))) (fun _ u62 => (0, (va_up (va_up (va_up (va_up (va_up (va_up S.1 9 (V.1 9)) 10 (V.1 10)) 11 (V.1 11)) 12 (V.1 12)) 13 (V.1 13)) 30 (V.1 30), va_up (va_up S.2.1 17 (V.2.1 17)) 18 (V.2.1 18), va_up (va_up (va_up (va_up S.2.2 19 (V.2.2 19)) 21 (V.2.2 21)) 23 (V.2.2 23)) 24 (u62.2.2 24)))) else if (V.2.2 19) = ((S.2.2 19) + 1) then gm_bd (gm_f_MD_refuse (va_up (va_up (va_up (va_up (va_up (va_up S.1 9 (V.1 9)) 10 (V.1 10)) 11 (V.1 11)) 12 (V.1 12)) 13 (V.1 13)) 30 (V.1 30), va_up (va_up S.2.1 17 (V.2.1 17)) 18 (V.2.1 18), va_up (va_up (va_up (va_up S.2.2 19 (V.2.2 19)) 21 (V.2.2 21)) 23 (V.2.2 23)) 24 (V.2.2 24))) (fun _ u62 => (0, (va_up (va_up (va_up (va_up (va_up (va_up S.1 9 (V.1 9)) 10 (V.1 10)) 11 (V.1 11)) 12 (V.1 12)) 13 (V.1 13)) 30 (V.1 30), va_up (va_up S.2.1 17 (V.2.1 17)) 18 (V.2.1 18), va_up (va_up (va_up (va_up S.2.2 19 (V.2.2 19)) 21 (V.2.2 21)) 23 (V.2.2 23)) 24 (u62.2.2 24)))) else gm_bd (gm_f_MD_create 1 ((S.2.2 19) + 1) ((V.2.2 19) - ((S.2.2 19) + 1)) (va_up (va_up (va_up (va_up (va_up (va_up S.1 9 (V.1 9)) 10 (V.1 10)) 11 (V.1 11)) 12 (V.1 12)) 13 (V.1 13)) 30 (V.1 30), va_up (va_up S.2.1 17 (V.2.1 17)) 18 (V.2.1 18), va_up (va_up (va_up (va_up S.2.2 19 (V.2.2 19)) 21 (V.2.2 21)) 23 (V.2.2 23)) 24 (V.2.2 24))) (fun r75 u75 => gm_bd (gm_f_MD_primary r75 (va_up (va_up (va_up (va_up (va_up (va_up S.1 9 (u75.1 9)) 10 (u75.1 10)) 11 (u75.1 11)) 12 (u75.1 12)) 13 (u75.1 13)) 30 (V.1 30), va_up (va_up S.2.1 17 (u75.2.1 17)) 18 (u75.2.1 18), va_up (va_up (va_up (va_up S.2.2 19 ((V.2.2 19) + 1)) 21 (V.2.2 21)) 23 (V.2.2 23)) 24 (V.2.2 24))) (fun _ u91 => (0, (va_up (va_up (va_up (va_up (va_up (va_up S.1 9 (u91.1 9)) 10 (u91.1 10)) 11 (u91.1 11)) 12 (u91.1 12)) 13 (u91.1 13)) 30 (u91.1 30), va_up (va_up S.2.1 17 (u91.2.1 17)) 18 (u91.2.1 18), va_up (va_up (va_up (va_up S.2.2 19 (u91.2.2 19)) 21 (u91.2.2 21)) 23 (u91.2.2 23)) 24 (V.2.2 24))))))) := by
  have t1 := ht.1
  have t2 := ht.2.1
  have b := gx_ak (S.2.2 19) 1 1 (by decide)
  have b1 : ((S.2.2 19) + 1).toInt = ((a + 1 : Nat) : Int) := by omega
  have b2 := gx_ak (V.2.2 19) 1 1 (by decide)
  have b3 : ((V.2.2 19) + 1).toInt = ((j + 1 : Nat) : Int) := by omega
  have b4 := gx_sb (V.2.2 19) ((S.2.2 19) + 1)
  have b5 : ((V.2.2 19) - ((S.2.2 19) + 1)).toInt = ((j - (a + 1) : Nat) : Int) := by omega
  obtain ⟨e9, e10, e11, e12, e13, e30, e17, e18, e21, e23, e24⟩ := hs
  rw [e9, e10, e11, e12, e13, e30, e17, e18, e21, e23, e24]
  refine gf_ca (Q := gp_Qw Pg S lo (gp_rR tx ty a p fs nA nC j)) (fun z => z.1.toInt = gp_pk tx ty j) (gz_peek _ ht hj) ?_
  intro r47 u47 hr
  have hr : r47.toInt = gp_pk tx ty j := hr
  have l1 : (1 : Int32).toInt = 1 := by decide
  refine gf_if (Q := gp_Qw Pg S lo (gp_rR tx ty a p fs nA nC j)) (fun q => ?_) (fun q => ?_)
  · have q1 := gx_eqr (k := 0) (by decide) q
    rw [(show gp_rR tx ty a p fs nA nC j = .inl j from if_pos (Or.inl (by omega)))]
    exact ⟨⟨(show (1 : Int32).toInt ≠ 0 by omega), hj⟩, gp_O_r _ _ _ _ _ _ _ _ _⟩
  have q1 := gx_eqnr (k := 0) (by decide) q
  refine gf_if (Q := gp_Qw Pg S lo (gp_rR tx ty a p fs nA nC j)) (fun q => ?_) (fun q => ?_)
  · have q2 := gx_eq q
    rw [(show gp_rR tx ty a p fs nA nC j = .inl j from if_pos (Or.inr (by omega)))]
    exact ⟨⟨(show (1 : Int32).toInt ≠ 0 by omega), hj⟩, gp_O_r _ _ _ _ _ _ _ _ _⟩
  have q2 := gx_eqn q
  rw [(show gp_rR tx ty a p fs nA nC j = .inr (.inl (gp_pm tx ty (gp_e0 1 (a + 1) (j - (a + 1))) (j + 1, p, fs, nA, nC))) from if_neg (by omega))]
  refine gf_ca (Q := gp_Qw Pg S lo (.inr (.inl (gp_pm tx ty (gp_e0 1 (a + 1) (j - (a + 1))) (j + 1, p, fs, nA, nC))))) (gp_cQ 1 ((S.2.2 19) + 1) ((V.2.2 19) - ((S.2.2 19) + 1)) _) (gz_create 1 _ _ _ hf hf2 hp (show ((S.1 9) (Int32.toNatClampNeg (S.2.2 5))).toInt ≤ 150 by omega)) ?_
  intro r u hu
  have hu9 : u.1 9 = upd (S.1 9) (Int32.toNatClampNeg (S.2.2 5)) ((S.1 9) (Int32.toNatClampNeg (S.2.2 5)) + 1) := hu.2.1
  have bb := gx_ak ((S.1 9) (Int32.toNatClampNeg (S.2.2 5))) 1 1 (by decide)
  have P1 : ((u.1 9) (Int32.toNatClampNeg (S.2.2 5))).toInt = ((S.1 9) (Int32.toNatClampNeg (S.2.2 5))).toInt + 1 := by rw [hu9, gx_us]; omega
  have H := gp_H_0 (r := r) (S2 := ((va_up (va_up (va_up (va_up (va_up (va_up S.1 9 (u.1 9)) 10 (u.1 10)) 11 (u.1 11)) 12 (u.1 12)) 13 (u.1 13)) 30 (S.1 30)), (va_up (va_up S.2.1 17 (u.2.1 17)) 18 (u.2.1 18)), (va_up (va_up (va_up (va_up S.2.2 19 ((V.2.2 19) + 1)) 21 (S.2.2 21)) 23 (S.2.2 23)) 24 (S.2.2 24)))) h hu rfl rfl rfl rfl rfl rfl rfl rfl rfl (k := 1) (b := a + 1) (c := j - (a + 1)) (by omega) l1 (fun _ => ⟨b1, b5⟩) (fun t => absurd t (by omega)) (fun t => absurd t (by omega)) rfl rfl rfl rfl rfl rfl rfl rfl rfl rfl rfl rfl rfl rfl rfl rfl rfl
  refine gf_ca (Q := gp_Qw Pg S lo (.inr (.inl (gp_pm tx ty (gp_e0 1 (a + 1) (j - (a + 1))) (j + 1, p, fs, nA, nC))))) (gp_Qp Pg _ lo (gp_pm tx ty (gp_e0 1 (a + 1) (j - (a + 1))) (j + 1, p, fs, nA, nC))) (gz_primary r _ ht H.1 hf hf2 (show 0 ≤ ((u.1 9) (Int32.toNatClampNeg (S.2.2 5))).toInt by omega) (show ((u.1 9) (Int32.toNatClampNeg (S.2.2 5))).toInt ≤ 145 by omega) hi hi2 b3 (by omega) hpx) ?_
  intro r2 u2 hu2
  exact ⟨⟨rfl, hu2.1⟩, gp_O_t H.2 hu2.2⟩
theorem gp_rw_0 {tx : Nat → Int} {ty j : Nat} (h : ¬ (j < ty ∧ ¬ tx j = 39)) : gp_rw tx ty j = j := by
  rw [gp_rw]
  exact dif_neg h
theorem gp_rw_1 {tx : Nat → Int} {ty j : Nat} (h : j < ty ∧ ¬ tx j = 39) : gp_rw tx ty j = gp_rw tx ty (j + 1) := by
  rw [gp_rw]
  exact dif_pos h
theorem gp_pk_t {tx : Nat → Int} {ty j : Nat} {t : Int32} {b : Nat → Int32} (ht : gp_tx t b tx ty) : (j < ty ∧ gp_pk tx ty j = tx j ∧ 32 ≤ tx j ∧ tx j ≤ 126) ∨ (ty ≤ j ∧ gp_pk tx ty j = 0) := by
  by_cases q : j < ty
  · exact Or.inl ⟨q, if_pos q, (ht.2.2 j q).2⟩
  · exact Or.inr ⟨by omega, if_neg q⟩
theorem gz_row17 {Pg : Nat → Nat → Nat → Prop} (S : gm_S) {tx : Nat → Int} {lo : Nat × Nat} {ty nA nC a : Nat} {p : Int} {fs : List gp_Fm} (ht : gp_tx (S.2.2 2) (S.1 3) tx ty) (h : gp_P Pg (S.2.2 5) (S.1 6) (S.1 9) (S.1 10) (S.1 11) (S.1 12) (S.1 13) (S.1 26) (S.1 27) (S.1 28) (S.1 29) (S.1 30) (S.1 31) (Int32.toNatClampNeg (S.2.2 20)) (Int32.toNatClampNeg (S.2.2 21)) (Int32.toNatClampNeg (S.2.2 22)) fs lo nA nC []) (hf : 0 ≤ (S.2.2 5).toInt) (hf2 : (S.2.2 5).toInt ≤ 1) (hp : 0 ≤ ((S.1 9) (Int32.toNatClampNeg (S.2.2 5))).toInt) (hp2 : ((S.1 9) (Int32.toNatClampNeg (S.2.2 5))).toInt ≤ 120) (hi : 0 ≤ (S.2.2 21).toInt) (hi2 : (S.2.2 21).toInt ≤ 60) (ha : (S.2.2 19).toInt = a) (hpx : (S.2.2 23).toInt = p) : ∀ (n : Nat) (U : gm_S) (j : Nat), gp_same S U → (U.2.2 19).toInt = j → a + 1 ≤ j → j ≤ ty → ty - j < n → gp_Qw Pg S lo (gp_rR tx ty a p fs nA nC (gp_rw tx ty j)) (gm_f_MD_readRow_17 S n U) := by
  intro n
  induction n with
  | zero => intro U j _ _ _ _ q; exact absurd q (by omega)
  | succ n ih =>
    intro U j hs hj hj1 hj2 hn
    have ht2 := ht.2.1
    have k := gp_pk_t (j := j) ht
    rw [gm_f_MD_readRow_17]
    refine gf_ca (Q := gp_Qw Pg S lo (gp_rR tx ty a p fs nA nC (gp_rw tx ty j))) (fun z => z.1.toInt = gp_pk tx ty j) (gz_peek _ ht hj) ?_
    intro r18 u18 hr
    have hr : r18.toInt = gp_pk tx ty j := hr
    refine gf_if (Q := gp_Qw Pg S lo (gp_rR tx ty a p fs nA nC (gp_rw tx ty j))) (fun q => ?_) (fun q => ?_)
    · have q1 := gx_eqr (k := 39) (gx_lit 39 (by decide)) q
      rw [gp_rw_0 (by omega)]
      exact gz_row46 S ht h hf hf2 hp hp2 hi hi2 ha hpx _ j hs hj hj1 hj2
    have q1 := gx_eqnr (k := 39) (gx_lit 39 (by decide)) q
    refine gf_ca (Q := gp_Qw Pg S lo (gp_rR tx ty a p fs nA nC (gp_rw tx ty j))) (fun z => z.1.toInt = gp_pk tx ty j) (gz_peek _ ht hj) ?_
    intro r27 u27 hr2
    have hr2 : r27.toInt = gp_pk tx ty j := hr2
    refine gf_if (Q := gp_Qw Pg S lo (gp_rR tx ty a p fs nA nC (gp_rw tx ty j))) (fun q => ?_) (fun q => ?_)
    · have q2 := gx_eqr (k := 0) (by decide) q
      rw [gp_rw_0 (by omega)]
      exact gz_row46 S ht h hf hf2 hp hp2 hi hi2 ha hpx _ j hs hj hj1 hj2
    have q2 := gx_eqnr (k := 0) (by decide) q
    have b := gx_ak (U.2.2 19) 1 1 (by decide)
    have b1 : ((U.2.2 19) + 1).toInt = ((j + 1 : Nat) : Int) := by omega
    rw [gp_rw_1 (by omega)]
    exact ih _ (j + 1) hs b1 (by omega) (by omega) (by omega)
theorem gz_readRow {Pg : Nat → Nat → Nat → Prop} (S : gm_S) {tx : Nat → Int} {lo : Nat × Nat} {ty nA nC a : Nat} {p : Int} {fs : List gp_Fm} (ht : gp_tx (S.2.2 2) (S.1 3) tx ty) (h : gp_P Pg (S.2.2 5) (S.1 6) (S.1 9) (S.1 10) (S.1 11) (S.1 12) (S.1 13) (S.1 26) (S.1 27) (S.1 28) (S.1 29) (S.1 30) (S.1 31) (Int32.toNatClampNeg (S.2.2 20)) (Int32.toNatClampNeg (S.2.2 21)) (Int32.toNatClampNeg (S.2.2 22)) fs lo nA nC []) (hf : 0 ≤ (S.2.2 5).toInt) (hf2 : (S.2.2 5).toInt ≤ 1) (hp : 0 ≤ ((S.1 9) (Int32.toNatClampNeg (S.2.2 5))).toInt) (hp2 : ((S.1 9) (Int32.toNatClampNeg (S.2.2 5))).toInt ≤ 120) (hi : 0 ≤ (S.2.2 21).toInt) (hi2 : (S.2.2 21).toInt ≤ 60) (ha : (S.2.2 19).toInt = a) (hpx : (S.2.2 23).toInt = p) (hat : a < ty) : gp_Qw Pg S lo (gp_rR tx ty a p fs nA nC (gp_rw tx ty (a + 1))) (gm_f_MD_readRow S) := by
  have t2 := ht.2.1
  have b := gx_ak (S.2.2 19) 1 1 (by decide)
  unfold gm_f_MD_readRow
  exact gz_row17 S ht h hf hf2 hp hp2 hi hi2 ha hpx 200 _ (a + 1) ⟨rfl, rfl, rfl, rfl, rfl, rfl, rfl, rfl, rfl, rfl, rfl⟩ (show ((S.2.2 19) + 1).toInt = ((a + 1 : Nat) : Int) by omega) (by omega) (by omega) (by omega)
