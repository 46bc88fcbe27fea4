/-! The bits of a class of the reference. -/
theorem gq_ni_lt (tx : Nat → Int) (ty a : Nat) : ∀ d i : Nat, gq_ni tx ty a i < gq_ni tx ty a (i + d + 1) := by
  intro d
  induction d with
  | zero => intro i; exact gp_cn_lt tx ty _
  | succ d ih =>
    intro i
    have h1 := ih i
    have h2 : gq_ni tx ty a (i + d + 1) < gq_ni tx ty a (i + (d + 1) + 1) := gp_cn_lt tx ty _
    omega
theorem gq_ni_inj {tx : Nat → Int} {ty a i j : Nat} (h : gq_ni tx ty a i = gq_ni tx ty a j) : i = j := by
  rcases Nat.lt_trichotomy i j with q | q | q
  · have := gq_ni_lt tx ty a (j - i - 1) i
    rw [show i + (j - i - 1) + 1 = j by omega] at this
    omega
  · exact q
  · have := gq_ni_lt tx ty a (i - j - 1) j
    rw [show j + (i - j - 1) + 1 = i by omega] at this
    omega
theorem gq_ni_ge (tx : Nat → Int) (ty a : Nat) : ∀ j : Nat, a + j ≤ gq_ni tx ty a j := by
  intro j
  induction j with
  | zero => exact Nat.le_refl a
  | succ j ih =>
    have : gq_ni tx ty a j < gq_ni tx ty a (j + 1) := gp_cn_lt tx ty _
    omega
theorem gq_st_ic {tx : Nat → Int} {ty a j : Nat} (h : 1 ≤ j) (c : Int) : gq_st tx ty a (gq_ni tx ty a j) c ↔ gq_ic tx ty a j c := by
  have g := gq_ni_ge tx ty a j
  constructor
  · rintro (⟨h1, -⟩ | ⟨k, h1, -, h3⟩)
    · omega
    · rw [gq_ni_inj h1]; exact h3
  · intro h2
    exact Or.inr ⟨j, rfl, h, h2⟩
theorem gq_ic_s {tx : Nat → Int} {ty a j : Nat} (c : Int) : gq_ic tx ty a (j + 1) c ↔ (gq_ic tx ty a j c ∨ gq_it tx ty (gq_ni tx ty a j) c) := by
  constructor
  · rintro ⟨i, h1, h2⟩
    by_cases w : i = j
    · rw [w] at h2; exact Or.inr h2
    · exact Or.inl ⟨i, by omega, h2⟩
  · rintro (⟨i, h1, h2⟩ | h)
    · exact ⟨i, by omega, h2⟩
    · exact ⟨j, by omega, h⟩
def gr_cB (fr : Int32) (tx : Nat → Int) (ty b ce n : Nat) (z : Int32 × gm_S) : Prop := z.2.2.2 24 = 0 → n < gp_M fr (z.2.1 9) ∧ ∀ c : Int, 32 ≤ c → c ≤ 126 → (gp_ih (z.2.2.1 17) (z.2.2.1 18) n c ↔ gq_st tx ty b ce c)
def gr_cX (fr : Int32) (tx : Nat → Int) (ty b x ce n : Nat) (z : Int32 × gm_S) : Prop := x = ce → gr_cB fr tx ty b ce n z
abbrev gp_T : Nat → Nat → Nat → Prop := fun _ _ _ => True
theorem gr_cls143 (S u4 : gm_S) (r4 : Int32) {tx : Nat → Int} {lo : Nat × Nat} {lo2 : Nat × Nat} {ty nA nC a n0 k0 : Nat} {p : Int} {fs : List gp_Fm} {ce : Nat} (ht : gp_tx (S.2.2 2) (S.1 3) tx ty) (hf : 0 ≤ (S.2.2 5).toInt) (hf2 : (S.2.2 5).toInt ≤ 1) (hp : 0 ≤ ((u4.1 9) (Int32.toNatClampNeg (S.2.2 5))).toInt) (hp2 : ((u4.1 9) (Int32.toNatClampNeg (S.2.2 5))).toInt ≤ 140) (hi : 0 ≤ (S.2.2 21).toInt) (hi2 : (S.2.2 21).toInt ≤ 60) (ha : (S.2.2 19).toInt = a) (hpx : (S.2.2 23).toInt = p) (hH : ∀ c : Nat, c = ce → gp_P gp_T (S.2.2 5) (S.1 6) (u4.1 9) (u4.1 10) (u4.1 11) (u4.1 12) (u4.1 13) (S.1 26) (S.1 27) (S.1 28) (S.1 29) (S.1 30) (S.1 31) (Int32.toNatClampNeg (S.2.2 20)) (Int32.toNatClampNeg (S.2.2 21)) (Int32.toNatClampNeg (S.2.2 22)) fs lo2 nA nC [gp_e0 2 (a + 1) c]) (hr4 : gp_ch lo2.2 r4 (gp_M (S.2.2 5) (u4.1 9))) (hre : ∀ c : Nat, c = ce → gp_rep gp_T lo2.2 (u4.1 10) (u4.1 11) (u4.1 12) (gp_e0 2 (a + 1) c) (Int32.toNatClampNeg r4)) (V : gm_S) (v2 : Int32) (j : Nat) (hs : gp_samc S u4 lo V) (hj : (V.2.2 19).toInt = j) (hv : v2 = 0 ↔ j = a + 1) (hj2 : j ≤ ty) (hjc : j = ce) (hn0 : Int32.toNatClampNeg r4 = n0) (hl2 : n0 < lo2.1) (hjk : j = gq_ni tx ty (a + 1) k0) (hb : ∀ c : Int, 32 ≤ c → c ≤ 126 → (gp_ih (V.2.1 17) (V.2.1 18) n0 c ↔ gq_ic tx ty (a + 1) k0 c)) : gr_cB (S.2.2 5) tx ty (a + 1) ce n0 (if v2 = 0 then gm_bd (gm_f_MD_refuse (va_up (va_up (va_up (va_up (va_up (va_up S.1 9 (V.1 9)) 10 (V.1 10)) 11 (V.1 11)) 12 (V.1 12)) 13 (V.1 13)) 30 (V.1 30), va_up (va_up S.2.1 17 (V.2.1 17)) 18 (V.2.1 18), va_up (va_up (va_up (va_up S.2.2 19 (V.2.2 19)) 21 (V.2.2 21)) 23 (V.2.2 23)) 24 (V.2.2 24))) (fun _ u155 => (0, (va_up (va_up (va_up (va_up (va_up (va_up S.1 9 (V.1 9)) 10 (V.1 10)) 11 (V.1 11)) 12 (V.1 12)) 13 (V.1 13)) 30 (V.1 30), va_up (va_up S.2.1 17 (V.2.1 17)) 18 (V.2.1 18), va_up (va_up (va_up (va_up S.2.2 19 (V.2.2 19)) 21 (V.2.2 21)) 23 (V.2.2 23)) 24 (u155.2.2 24)))) else gm_bd (gm_f_MD_peek (va_up (va_up (va_up (va_up (va_up (va_up S.1 9 (V.1 9)) 10 (V.1 10)) 11 (V.1 11)) 12 (V.1 12)) 13 (V.1 13)) 30 (V.1 30), va_up (va_up S.2.1 17 (V.2.1 17)) 18 (V.2.1 18), va_up (va_up (va_up (va_up S.2.2 19 (V.2.2 19)) 21 (V.2.2 21)) 23 (V.2.2 23)) 24 (V.2.2 24))) (fun r148 u148 => if r148 = 0 then gm_bd (gm_f_MD_refuse (va_up (va_up (va_up (va_up (va_up (va_up S.1 9 (V.1 9)) 10 (V.1 10)) 11 (V.1 11)) 12 (V.1 12)) 13 (V.1 13)) 30 (V.1 30), va_up (va_up S.2.1 17 (V.2.1 17)) 18 (V.2.1 18), va_up (va_up (va_up (va_up S.2.2 19 (V.2.2 19)) 21 (V.2.2 21)) 23 (V.2.2 23)) 24 (V.2.2 24))) (fun _ u155 => (0, (va_up (va_up (va_up (va_up (va_up (va_up S.1 9 (V.1 9)) 10 (V.1 10)) 11 (V.1 11)) 12 (V.1 12)) 13 (V.1 13)) 30 (V.1 30), va_up (va_up S.2.1 17 (V.2.1 17)) 18 (V.2.1 18), va_up (va_up (va_up (va_up S.2.2 19 (V.2.2 19)) 21 (V.2.2 21)) 23 (V.2.2 23)) 24 (u155.2.2 24)))) else gm_bd (gm_f_MD_primary r4 (va_up (va_up (va_up (va_up (va_up (va_up S.1 9 (V.1 9)) 10 (V.1 10)) 11 (V.1 11)) 12 (V.1 12)) 13 (V.1 13)) 30 (V.1 30), va_up (va_up S.2.1 17 (V.2.1 17)) 18 (V.2.1 18), va_up (va_up (va_up (va_up S.2.2 19 ((V.2.2 19) + 1)) 21 (V.2.2 21)) 23 (V.2.2 23)) 24 (V.2.2 24))) (fun _ u171 => (0, (va_up (va_up (va_up (va_up (va_up (va_up S.1 9 (u171.1 9)) 10 (u171.1 10)) 11 (u171.1 11)) 12 (u171.1 12)) 13 (u171.1 13)) 30 (u171.1 30), va_up (va_up S.2.1 17 (u171.2.1 17)) 18 (u171.2.1 18), va_up (va_up (va_up (va_up S.2.2 19 (u171.2.2 19)) 21 (u171.2.2 21)) 23 (u171.2.2 23)) 24 (V.2.2 24)))))) := by
  have t1 := ht.1
  have t2 := ht.2.1
  have b2 := gx_ak (V.2.2 19) 1 1 (by decide)
  have b3 : ((V.2.2 19) + 1).toInt = ((j + 1 : Nat) : Int) := by omega
  obtain ⟨e9, e10, e11, e12, e13, e30, e21, e23, e24, hO⟩ := hs
  rw [e9, e10, e11, e12, e13] at hO
  rw [e9, e10, e11, e12, e13, e30, e21, e23, e24]
  have l1 : (1 : Int32).toInt = 1 := by decide
  refine gf_if (Q := gr_cB (S.2.2 5) tx ty (a + 1) ce n0) (fun q => ?_) (fun q => ?_)
  · exact fun t => absurd (show (1 : Int32) = 0 from t) (by decide)
  have q0 : ¬ j = a + 1 := fun t => q (hv.mpr t)
  refine gf_ca (Q := gr_cB (S.2.2 5) tx ty (a + 1) ce n0) (fun z => z.1.toInt = gp_pk tx ty j) (gz_peek _ ht hj) ?_
  intro r47 u47 hr
  have hr : r47.toInt = gp_pk tx ty j := hr
  refine gf_if (Q := gr_cB (S.2.2 5) tx ty (a + 1) ce n0) (fun q => ?_) (fun q => ?_)
  · have q1 := gx_eqr (k := 0) (by decide) q
    exact fun t => absurd (show (1 : Int32) = 0 from t) (by decide)
  have q1 := gx_eqnr (k := 0) (by decide) q
  refine gf_ca (Q := gr_cB (S.2.2 5) tx ty (a + 1) ce n0) (gp_Qp gp_T _ lo2 (gp_pm tx ty (gp_e0 2 (a + 1) j) (j + 1, p, fs, nA, nC))) (gz_primary r4 _ ht ⟨hH j hjc, hr4, hre j hjc, gp_O_r _ _ _ _ _ _ _ _ _⟩ hf hf2 hp (show ((u4.1 9) (Int32.toNatClampNeg (S.2.2 5))).toInt ≤ 145 by omega) hi hi2 b3 (by omega) hpx) ?_
  intro r2 u2 hu2
  intro _
  refine ⟨Nat.lt_of_lt_of_le hl2 hu2.1.1.2.2.2.2.1, fun c c1 c2 => ?_⟩
  obtain ⟨-, -, -, -, x1, x2⟩ := hu2.2.2 n0 (Or.inl hl2)
  have x1 : u2.2.1 17 n0 = V.2.1 17 n0 := x1
  have x2 : u2.2.1 18 n0 = V.2.1 18 n0 := x2
  show gp_ih (u2.2.1 17) (u2.2.1 18) n0 c ↔ _
  have e : gp_ih (u2.2.1 17) (u2.2.1 18) n0 c ↔ gp_ih (V.2.1 17) (V.2.1 18) n0 c := by unfold gp_ih; rw [x1, x2]
  have k1 : 1 ≤ k0 := by
    cases k0 with
    | zero => exact absurd hjk q0
    | succ k => omega
  rw [e, hb c c1 c2, ← hjc, hjk, gq_st_ic k1]
theorem gr_cls20 (S u4 : gm_S) (r4 : Int32) {tx : Nat → Int} {lo : Nat × Nat} {lo2 : Nat × Nat} {ty nA nC a n0 : Nat} {p : Int} {fs : List gp_Fm} {ce : Nat} (ht : gp_tx (S.2.2 2) (S.1 3) tx ty) (hf : 0 ≤ (S.2.2 5).toInt) (hf2 : (S.2.2 5).toInt ≤ 1) (hp : 0 ≤ ((u4.1 9) (Int32.toNatClampNeg (S.2.2 5))).toInt) (hp2 : ((u4.1 9) (Int32.toNatClampNeg (S.2.2 5))).toInt ≤ 140) (hi : 0 ≤ (S.2.2 21).toInt) (hi2 : (S.2.2 21).toInt ≤ 60) (ha : (S.2.2 19).toInt = a) (hpx : (S.2.2 23).toInt = p) (hH : ∀ c : Nat, c = ce → gp_P gp_T (S.2.2 5) (S.1 6) (u4.1 9) (u4.1 10) (u4.1 11) (u4.1 12) (u4.1 13) (S.1 26) (S.1 27) (S.1 28) (S.1 29) (S.1 30) (S.1 31) (Int32.toNatClampNeg (S.2.2 20)) (Int32.toNatClampNeg (S.2.2 21)) (Int32.toNatClampNeg (S.2.2 22)) fs lo2 nA nC [gp_e0 2 (a + 1) c]) (hr4 : gp_ch lo2.2 r4 (gp_M (S.2.2 5) (u4.1 9))) (hre : ∀ c : Nat, c = ce → gp_rep gp_T lo2.2 (u4.1 10) (u4.1 11) (u4.1 12) (gp_e0 2 (a + 1) c) (Int32.toNatClampNeg r4)) (hlo : lo.1 ≤ Int32.toNatClampNeg r4) (hB : Int32.toNatClampNeg r4 < 160 * Int32.toNatClampNeg (S.2.2 5) + 160) (hn0 : Int32.toNatClampNeg r4 = n0) (hl2 : n0 < lo2.1) : ∀ (n : Nat) (v2 : Int32) (U : gm_S) (j : Nat), gp_samc S u4 lo U → (U.2.2 19).toInt = j → (v2 = 0 ↔ j = a + 1) → a + 1 ≤ j → j ≤ ty → ty - j < n → ∀ k0 : Nat, j = gq_ni tx ty (a + 1) k0 → (∀ c : Int, 32 ≤ c → c ≤ 126 → (gp_ih (U.2.1 17) (U.2.1 18) n0 c ↔ gq_ic tx ty (a + 1) k0 c)) → gr_cX (S.2.2 5) tx ty (a + 1) (gp_cl tx ty j) ce n0 (gm_f_MD_readClass_20 S r4 u4 n v2 U) := by
  have t2 := ht.2.1
  have hc := gp_ch_cl hr4
  intro n
  induction n with
  | zero => intro v2 U j _ _ _ _ _ q; exact absurd q (by omega)
  | succ n ih =>
    intro v2 U j hs hj hv hj1 hj2 hn k0 hjk hb
    have k := gp_pk_t (j := j) ht
    have kn := gp_cn_lt tx ty j
    have k130 : ∀ (r37 v4 : Int32) (V : gm_S) (j' yk W : Nat), V.2.1 17 = U.2.1 17 → V.2.1 18 = U.2.1 18 → r37.toInt = yk → v4.toInt = W → 32 ≤ yk → yk ≤ W → W ≤ 126 → (∀ c : Int, gq_it tx ty j c ↔ ((yk : Int) ≤ c ∧ c ≤ W)) → j' = gp_cn tx ty j → gp_samc S u4 lo V → (V.2.2 19).toInt = j' → j < j' → j' ≤ ty → gr_cX (S.2.2 5) tx ty (a + 1) (gp_cl tx ty j') ce n0 (gm_bd (gm_f_MD_include r4 r37 v4 (va_up (va_up (va_up (va_up (va_up (va_up S.1 9 (V.1 9)) 10 (V.1 10)) 11 (V.1 11)) 12 (V.1 12)) 13 (V.1 13)) 30 (V.1 30), va_up (va_up S.2.1 17 (V.2.1 17)) 18 (V.2.1 18), va_up (va_up (va_up (va_up S.2.2 19 (V.2.2 19)) 21 (V.2.2 21)) 23 (V.2.2 23)) 24 (V.2.2 24))) (fun _ u135 => gm_f_MD_readClass_20 S r4 u4 n 1 (va_up (va_up (va_up (va_up (va_up (va_up S.1 9 (V.1 9)) 10 (V.1 10)) 11 (V.1 11)) 12 (V.1 12)) 13 (V.1 13)) 30 (V.1 30), va_up (va_up S.2.1 17 (u135.2.1 17)) 18 (u135.2.1 18), va_up (va_up (va_up (va_up S.2.2 19 (V.2.2 19)) 21 (V.2.2 21)) 23 (V.2.2 23)) 24 (V.2.2 24)))) := by
      intro r37 v4 V j' yk W v17 v18 hy hw y32 yW W126 hit hcn hs' hj' q1 q2
      refine gf_ca (Q := gr_cX (S.2.2 5) tx ty (a + 1) (gp_cl tx ty j') ce n0) (fun z : Int32 × gm_S => (∀ k, k ≠ Int32.toNatClampNeg r4 → z.2.2.1 17 k = V.2.1 17 k ∧ z.2.2.1 18 k = V.2.1 18 k) ∧ gr_I V n0 yk W z) ⟨gz_include r4 r37 v4 _, gr_incl r4 r37 v4 V _ rfl rfl hn0 hy hw y32 yW W126⟩ ?_
      intro r5 u5 ⟨h5, h5b⟩
      obtain ⟨e9, e10, e11, e12, e13, e30, e21, e23, e24, hO⟩ := hs'
      refine ih 1 _ j' ⟨e9, e10, e11, e12, e13, e30, e21, e23, e24, ?_⟩ hj' ⟨fun t => absurd t (by decide), fun t => by omega⟩ (by omega) q2 (by omega) (k0 + 1) (by rw [hcn, hjk]; rfl) (fun c c1 c2 => ?_)
      · exact gp_O_t hO (gp_O_l _ _ _ _ _ _ _ _ _ _ _ hlo hB h5)
      · have t : gp_ih (u5.2.1 17) (u5.2.1 18) n0 c ↔ (gp_ih (V.2.1 17) (V.2.1 18) n0 c ∨ ((yk : Int) ≤ c ∧ c ≤ W)) := h5b c c1 c2
        show gp_ih (u5.2.1 17) (u5.2.1 18) n0 c ↔ _
        rw [t, v17, v18, hb c c1 c2, gq_ic_s, ← hjk, hit c]
    rw [gm_f_MD_readClass_20]
    refine gf_ca (Q := gr_cX (S.2.2 5) tx ty (a + 1) (gp_cl tx ty j) ce n0) (fun z => z.1.toInt = gp_pk tx ty j) (gz_peek _ ht hj) ?_
    intro r21 u21 h21
    have h21 : r21.toInt = gp_pk tx ty j := h21
    refine gf_if (Q := gr_cX (S.2.2 5) tx ty (a + 1) (gp_cl tx ty j) ce n0) (fun q => ?_) (fun q => ?_)
    · have q1 := gx_eqr (k := 0) (by decide) q
      rw [gp_cl_0 (by omega)]
      exact fun hjc => gr_cls143 S u4 r4 ht hf hf2 hp hp2 hi hi2 ha hpx hH hr4 hre _ v2 j hs hj hv hj2 hjc hn0 hl2 hjk hb
    have q1 := gx_eqnr (k := 0) (by decide) q
    refine gf_ca (Q := gr_cX (S.2.2 5) tx ty (a + 1) (gp_cl tx ty j) ce n0) (fun z => z.1.toInt = gp_pk tx ty j) (gz_peek _ ht hj) ?_
    intro r28 u28 h28
    have h28 : r28.toInt = gp_pk tx ty j := h28
    refine gf_if (Q := gr_cX (S.2.2 5) tx ty (a + 1) (gp_cl tx ty j) ce n0) (fun q => ?_) (fun q => ?_)
    · have q2 := gx_eqr (k := 93) (gx_lit 93 (by decide)) q
      rw [gp_cl_0 (by omega)]
      exact fun hjc => gr_cls143 S u4 r4 ht hf hf2 hp hp2 hi hi2 ha hpx hH hr4 hre _ v2 j hs hj hv hj2 hjc hn0 hl2 hjk hb
    have q2 := gx_eqnr (k := 93) (gx_lit 93 (by decide)) q
    rw [gp_cl_1 (by omega)]
    refine gf_ca (Q := gr_cX (S.2.2 5) tx ty (a + 1) (gp_cl tx ty (gp_cn tx ty j)) ce n0) (fun z => z.1.toInt = gp_pk tx ty j) (gz_peek _ ht hj) ?_
    intro r37 u37 h37
    have h37 : r37.toInt = gp_pk tx ty j := h37
    have b := gx_ak (U.2.2 19) 1 1 (by decide)
    have b1 : ((U.2.2 19) + 1).toInt = ((j + 1 : Nat) : Int) := by omega
    have b2 := gx_ak ((U.2.2 19) + 1) 1 1 (by decide)
    have b3 : (((U.2.2 19) + 1) + 1).toInt = ((j + 2 : Nat) : Int) := by omega
    have b4 := gx_ak ((U.2.2 19) + 1) 2 2 (gx_lit 2 (by decide))
    have b5 : (((U.2.2 19) + 1) + 2).toInt = ((j + 3 : Nat) : Int) := by omega
    have c3 := gx_cl (((U.2.2 19) + 1) + 1) (by omega)
    have e3 : Int32.toNatClampNeg (((U.2.2 19) + 1) + 1) = j + 2 := by omega
    refine gf_ca (Q := gr_cX (S.2.2 5) tx ty (a + 1) (gp_cl tx ty (gp_cn tx ty j)) ce n0) (fun z => z.1.toInt = gp_pk tx ty (j + 1)) (gz_peek _ ht b1) ?_
    intro r55 u55 h55
    have h55 : r55.toInt = gp_pk tx ty (j + 1) := h55
    have one : ¬ (gp_pk tx ty (j + 1) = 45 ∧ j + 2 < ty ∧ ¬ tx (j + 2) = 93 ∧ tx j ≤ tx (j + 2)) → gp_cn tx ty j = j + 1 := fun t => if_neg t
    have t1 := ht.1
    have xj := ht.2.2 j (by omega)
    have it1 : gp_cn tx ty j = j + 1 → ∀ c : Int, gq_it tx ty j c ↔ (((tx j).toNat : Int) ≤ c ∧ c ≤ ((tx j).toNat : Nat)) := fun t c => by
      unfold gq_it
      rw [if_neg (by omega)]
      omega
    refine gf_if (Q := gr_cX (S.2.2 5) tx ty (a + 1) (gp_cl tx ty (gp_cn tx ty j)) ce n0) (fun q => ?_) (fun q => ?_)
    · have q3 := gx_eqr (k := 45) (gx_lit 45 (by decide)) q
      refine gf_if (Q := gr_cX (S.2.2 5) tx ty (a + 1) (gp_cl tx ty (gp_cn tx ty j)) ce n0) (fun q => ?_) (fun q => ?_)
      · have q4 := gx_le q
        have o1 := one (fun t => by omega)
        rw [o1]
        exact k130 r37 r37 _ (j + 1) (tx j).toNat (tx j).toNat rfl rfl (by omega) (by omega) (by omega) (by omega) (by omega) (it1 o1) o1.symm hs b1 (by omega) (by omega)
      have q4 := gx_len q
      have x2 := ht.2.2 (j + 2) (by omega)
      rw [e3]
      refine gf_if (Q := gr_cX (S.2.2 5) tx ty (a + 1) (gp_cl tx ty (gp_cn tx ty j)) ce n0) (fun q => ?_) (fun q => ?_)
      · have q5 := gx_eqr (k := 93) (gx_lit 93 (by decide)) q
        have o1 := one (fun t => by omega)
        rw [o1]
        exact k130 r37 r37 _ (j + 1) (tx j).toNat (tx j).toNat rfl rfl (by omega) (by omega) (by omega) (by omega) (by omega) (it1 o1) o1.symm hs b1 (by omega) (by omega)
      have q5 := gx_eqnr (k := 93) (gx_lit 93 (by decide)) q
      refine gf_if (Q := gr_cX (S.2.2 5) tx ty (a + 1) (gp_cl tx ty (gp_cn tx ty j)) ce n0) (fun q => ?_) (fun q => ?_)
      · have q6 := gx_lt q
        have o1 := one (fun t => by omega)
        rw [o1]
        exact k130 r37 r37 _ (j + 1) (tx j).toNat (tx j).toNat rfl rfl (by omega) (by omega) (by omega) (by omega) (by omega) (it1 o1) o1.symm hs b1 (by omega) (by omega)
      have q6 := gx_ltn q
      have o3 : gp_cn tx ty j = j + 3 := if_pos (by omega)
      rw [o3]
      exact k130 r37 _ _ (j + 3) (tx j).toNat (tx (j + 2)).toNat rfl rfl (by omega) (by omega) (by omega) (by omega) (by omega) (fun c => by unfold gq_it; rw [if_pos o3]; omega) o3.symm hs b5 (by omega) (by omega)
    · have q3 := gx_eqnr (k := 45) (gx_lit 45 (by decide)) q
      have o1 := one (fun t => by omega)
      rw [o1]
      exact k130 r37 r37 _ (j + 1) (tx j).toNat (tx j).toNat rfl rfl (by omega) (by omega) (by omega) (by omega) (by omega) (it1 o1) o1.symm hs b1 (by omega) (by omega)
