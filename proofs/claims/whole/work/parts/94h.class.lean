theorem gz_inc3 (x y w : Int32) (S : gm_S) : ∀ (n : Nat) (v4 : Int32) (U : gm_S), (∀ k, k ≠ Int32.toNatClampNeg x → U.2.1 17 k = S.2.1 17 k ∧ U.2.1 18 k = S.2.1 18 k) → (fun z : Int32 × gm_S => ∀ k, k ≠ Int32.toNatClampNeg x → z.2.2.1 17 k = S.2.1 17 k ∧ z.2.2.1 18 k = S.2.1 18 k) (gm_f_MD_include_3 x y w S n v4 U) := by
  intro n
  induction n with
  | zero => intro v4 U h; exact h
  | succ n ih =>
    intro v4 U h
    rw [gm_f_MD_include_3]
    refine gf_if (Q := fun z : Int32 × gm_S => ∀ k, k ≠ Int32.toNatClampNeg x → z.2.2.1 17 k = S.2.1 17 k ∧ z.2.2.1 18 k = S.2.1 18 k) (fun _ => h) (fun _ => ?_)
    refine gf_if (Q := fun z : Int32 × gm_S => ∀ k, k ≠ Int32.toNatClampNeg x → z.2.2.1 17 k = S.2.1 17 k ∧ z.2.2.1 18 k = S.2.1 18 k) (fun _ => ih _ _ (fun k hk => ⟨(h k hk).1, (gp_uL _ _ _ hk).trans (h k hk).2⟩)) (fun _ => ih _ _ (fun k hk => ⟨(gp_uL _ _ _ hk).trans (h k hk).1, (h k hk).2⟩))
theorem gz_include (x y w : Int32) (S : gm_S) : (fun z : Int32 × gm_S => ∀ k, k ≠ Int32.toNatClampNeg x → z.2.2.1 17 k = S.2.1 17 k ∧ z.2.2.1 18 k = S.2.1 18 k) (gm_f_MD_include x y w S) := by
  unfold gm_f_MD_include
  exact gz_inc3 x y w S 200 y S (fun k _ => ⟨rfl, rfl⟩)
def gp_kR (tx : Nat → Int) (ty a : Nat) (p : Int) (fs : List gp_Fm) (nA nC j : Nat) : gp_Rs := if gp_pk tx ty j = 0 ∨ j = a + 1 then .inl j else .inr (.inl (gp_pm tx ty (gp_e0 2 (a + 1) j) (j + 1, p, fs, nA, nC)))
/-- the same but for where it is, and for heads -/
def gp_samc (S u4 : gm_S) (lo : Nat × Nat) (U : gm_S) : Prop := U.1 9 = u4.1 9 ∧ U.1 10 = u4.1 10 ∧ U.1 11 = u4.1 11 ∧ U.1 12 = u4.1 12 ∧ U.1 13 = u4.1 13 ∧ U.1 30 = S.1 30 ∧ U.2.2 21 = S.2.2 21 ∧ U.2.2 23 = S.2.2 23 ∧ U.2.2 24 = S.2.2 24 ∧ gp_O (S.2.2 5) lo.1 (S.1 9) (S.1 10) (S.1 11) (S.1 12) (S.1 13) (S.2.1 17) (S.2.1 18) (U.1 9) (U.1 10) (U.1 11) (U.1 12) (U.1 13) (U.2.1 17) (U.2.1 18)
theorem gz_cls143 {Pg : Nat → Nat → Nat → Prop} (S u4 : gm_S) (r4 : Int32) {tx : Nat → Int} {lo : Nat × Nat} {ty nA nC a : Nat} {p : Int} {fs : List gp_Fm} {ce : Nat} (ht : gp_tx (S.2.2 2) (S.1 3) tx ty) (hf : 0 ≤ (S.2.2 5).toInt) (hf2 : (S.2.2 5).toInt ≤ 1) (hp : 0 ≤ ((u4.1 9) (Int32.toNatClampNeg (S.2.2 5))).toInt) (hp2 : ((u4.1 9) (Int32.toNatClampNeg (S.2.2 5))).toInt ≤ 140) (hi : 0 ≤ (S.2.2 21).toInt) (hi2 : (S.2.2 21).toInt ≤ 60) (ha : (S.2.2 19).toInt = a) (hpx : (S.2.2 23).toInt = p) (hH : ∀ c : Nat, c = ce → gp_P Pg (S.2.2 5) (S.1 6) (u4.1 9) (u4.1 10) (u4.1 11) (u4.1 12) (u4.1 13) (S.1 26) (S.1 27) (S.1 28) (S.1 29) (S.1 30) (S.1 31) (Int32.toNatClampNeg (S.2.2 20)) (Int32.toNatClampNeg (S.2.2 21)) (Int32.toNatClampNeg (S.2.2 22)) fs lo nA nC [gp_e0 2 (a + 1) c]) (hr4 : gp_ch lo.2 r4 (gp_M (S.2.2 5) (u4.1 9))) (hre : ∀ c : Nat, c = ce → gp_rep Pg lo.2 (u4.1 10) (u4.1 11) (u4.1 12) (gp_e0 2 (a + 1) c) (Int32.toNatClampNeg r4)) (V : gm_S) (v2 : Int32) (j : Nat) (hs : gp_samc S u4 lo V) (hj : (V.2.2 19).toInt = j) (hv : v2 = 0 ↔ j = a + 1) (hj2 : j ≤ ty) (hjc : j = ce) : gp_Qw Pg S lo (gp_kR tx ty a p fs nA nC j) (if v2 = 0 then gm_bd (gm_f_MD_refuse (va_up (va_up (va_up (va_up (va_up (va_up S.1 9 (V.1 9)) 10 (V.1 10)) 11 (V.1 11)) 12 (V.1 12)) 13 (V.1 13)) 30 (V.1 30), va_up (va_up S.2.1 17 (V.2.1 17)) 18 (V.2.1 18), va_up (va_up (va_up (va_up S.2.2 19 (V.2.2 19)) 21 (V.2.2 21)) 23 (V.2.2 23)) 24 (V.2.2 24))) (fun _ u155 => (0, (va_up (va_up (va_up (va_up (va_up (va_up S.1 9 (V.1 9)) 10 (V.1 10)) 11 (V.1 11)) 12 (V.1 12)) 13 (V.1 13)) 30 (V.1 30), va_up (va_up S.2.1 17 (V.2.1 17)) 18 (V.2.1 18), va_up (va_up (va_up (va_up S.2.2 19 (V.2.2 19)) 21 (V.2.2 21)) 23 (V.2.2 23)) 24 (u155.2.2 24)))) else gm_bd (gm_f_MD_peek (va_up (va_up (va_up (va_up (va_up (va_up S.1 9 (V.1 9)) 10 (V.1 10)) 11 (V.1 11)) 12 (V.1 12)) 13 (V.1 13)) 30 (V.1 30), va_up (va_up S.2.1 17 (V.2.1 17)) 18 (V.2.1 18), va_up (va_up (va_up (va_up S.2.2 19 (V.2.2 19)) 21 (V.2.2 21)) 23 (V.2.2 23)) 24 (V.2.2 24))) (fun r148 u148 => if r148 = 0 then gm_bd (gm_f_MD_refuse (va_up (va_up (va_up (va_up (va_up (va_up S.1 9 (V.1 9)) 10 (V.1 10)) 11 (V.1 11)) 12 (V.1 12)) 13 (V.1 13)) 30 (V.1 30), va_up (va_up S.2.1 17 (V.2.1 17)) 18 (V.2.1 18), va_up (va_up (va_up (va_up S.2.2 19 (V.2.2 19)) 21 (V.2.2 21)) 23 (V.2.2 23)) 24 (V.2.2 24))) (fun _ u155 => (0, (va_up (va_up (va_up (va_up (va_up (va_up S.1 9 (V.1 9)) 10 (V.1 10)) 11 (V.1 11)) 12 (V.1 12)) 13 (V.1 13)) 30 (V.1 30), va_up (va_up S.2.1 17 (V.2.1 17)) 18 (V.2.1 18), va_up (va_up (va_up (va_up S.2.2 19 (V.2.2 19)) 21 (V.2.2 21)) 23 (V.2.2 23)) 24 (u155.2.2 24)))) else gm_bd (gm_f_MD_primary r4 (va_up (va_up (va_up (va_up (va_up (va_up S.1 9 (V.1 9)) 10 (V.1 10)) 11 (V.1 11)) 12 (V.1 12)) 13 (V.1 13)) 30 (V.1 30), va_up (va_up S.2.1 17 (V.2.1 17)) 18 (V.2.1 18), va_up (va_up (va_up (va_up S.2.2 19 ((V.2.2 19) + 1)) 21 (V.2.2 21)) 23 (V.2.2 23)) 24 (V.2.2 24))) (fun _ u171 => (0, (va_up (va_up (va_up (va_up (va_up (va_up S.1 9 (u171.1 9)) 10 (u171.1 10)) 11 (u171.1 11)) 12 (u171.1 12)) 13 (u171.1 13)) 30 (u171.1 30), va_up (va_up S.2.1 17 (u171.2.1 17)) 18 (u171.2.1 18), va_up (va_up (va_up (va_up S.2.2 19 (u171.2.2 19)) 21 (u171.2.2 21)) 23 (u171.2.2 23)) 24 (V.2.2 24)))))) := by
  have t1 := ht.1
  have t2 := ht.2.1
  have b2 := gx_ak (V.2.2 19) 1 1 (by decide)
  have b3 : ((V.2.2 19) + 1).toInt = ((j + 1 : Nat) : Int) := by omega
  obtain ⟨e9, e10, e11, e12, e13, e30, e21, e23, e24, hO⟩ := hs
  rw [e9, e10, e11, e12, e13] at hO
  rw [e9, e10, e11, e12, e13, e30, e21, e23, e24]
  have l1 : (1 : Int32).toInt = 1 := by decide
  refine gf_if (Q := gp_Qw Pg S lo (gp_kR tx ty a p fs nA nC j)) (fun q => ?_) (fun q => ?_)
  · rw [(show gp_kR tx ty a p fs nA nC j = .inl j from if_pos (Or.inr (hv.mp q)))]
    exact ⟨⟨(show (1 : Int32).toInt ≠ 0 by omega), hj⟩, hO⟩
  have q0 : ¬ j = a + 1 := fun t => q (hv.mpr t)
  refine gf_ca (Q := gp_Qw Pg S lo (gp_kR tx ty a p fs nA nC j)) (fun z => z.1.toInt = gp_pk tx ty j) (gz_peek _ ht hj) ?_
  intro r47 u47 hr
  have hr : r47.toInt = gp_pk tx ty j := hr
  refine gf_if (Q := gp_Qw Pg S lo (gp_kR tx ty a p fs nA nC j)) (fun q => ?_) (fun q => ?_)
  · have q1 := gx_eqr (k := 0) (by decide) q
    rw [(show gp_kR tx ty a p fs nA nC j = .inl j from if_pos (Or.inl (by omega)))]
    exact ⟨⟨(show (1 : Int32).toInt ≠ 0 by omega), hj⟩, hO⟩
  have q1 := gx_eqnr (k := 0) (by decide) q
  rw [(show gp_kR tx ty a p fs nA nC j = .inr (.inl (gp_pm tx ty (gp_e0 2 (a + 1) j) (j + 1, p, fs, nA, nC))) from if_neg (by omega))]
  refine gf_ca (Q := gp_Qw Pg S lo (.inr (.inl (gp_pm tx ty (gp_e0 2 (a + 1) j) (j + 1, p, fs, nA, nC))))) (gp_Qp Pg _ lo (gp_pm tx ty (gp_e0 2 (a + 1) j) (j + 1, p, fs, nA, nC))) (gz_primary r4 _ ht ⟨hH j hjc, hr4, hre j hjc, gp_O_r _ _ _ _ _ _ _ _ _⟩ hf hf2 hp (show ((u4.1 9) (Int32.toNatClampNeg (S.2.2 5))).toInt ≤ 145 by omega) hi hi2 b3 (by omega) hpx) ?_
  intro r2 u2 hu2
  exact ⟨⟨rfl, hu2.1⟩, gp_O_t hO hu2.2⟩
theorem gp_cl_0 {tx : Nat → Int} {ty j : Nat} (h : ¬ (j < ty ∧ ¬ tx j = 93)) : gp_cl tx ty j = j := by
  rw [gp_cl]
  exact dif_neg h
theorem gp_cl_1 {tx : Nat → Int} {ty j : Nat} (h : j < ty ∧ ¬ tx j = 93) : gp_cl tx ty j = gp_cl tx ty (gp_cn tx ty j) := by
  rw [gp_cl]
  exact dif_pos h
/-- what a class leaves, if it ends at ce -/
def gp_Qx (Pg : Nat → Nat → Nat → Prop) (ce x : Nat) (S : gm_S) (lo : Nat × Nat) (R : gp_Rs) (z : Int32 × gm_S) : Prop := x = ce → gp_Qw Pg S lo R z
theorem gz_cls20 {Pg : Nat → Nat → Nat → Prop} (S u4 : gm_S) (r4 : Int32) {tx : Nat → Int} {lo : Nat × Nat} {ty nA nC a : Nat} {p : Int} {fs : List gp_Fm} {ce : Nat} (ht : gp_tx (S.2.2 2) (S.1 3) tx ty) (hf : 0 ≤ (S.2.2 5).toInt) (hf2 : (S.2.2 5).toInt ≤ 1) (hp : 0 ≤ ((u4.1 9) (Int32.toNatClampNeg (S.2.2 5))).toInt) (hp2 : ((u4.1 9) (Int32.toNatClampNeg (S.2.2 5))).toInt ≤ 140) (hi : 0 ≤ (S.2.2 21).toInt) (hi2 : (S.2.2 21).toInt ≤ 60) (ha : (S.2.2 19).toInt = a) (hpx : (S.2.2 23).toInt = p) (hH : ∀ c : Nat, c = ce → gp_P Pg (S.2.2 5) (S.1 6) (u4.1 9) (u4.1 10) (u4.1 11) (u4.1 12) (u4.1 13) (S.1 26) (S.1 27) (S.1 28) (S.1 29) (S.1 30) (S.1 31) (Int32.toNatClampNeg (S.2.2 20)) (Int32.toNatClampNeg (S.2.2 21)) (Int32.toNatClampNeg (S.2.2 22)) fs lo nA nC [gp_e0 2 (a + 1) c]) (hr4 : gp_ch lo.2 r4 (gp_M (S.2.2 5) (u4.1 9))) (hre : ∀ c : Nat, c = ce → gp_rep Pg lo.2 (u4.1 10) (u4.1 11) (u4.1 12) (gp_e0 2 (a + 1) c) (Int32.toNatClampNeg r4)) (hlo : lo.1 ≤ Int32.toNatClampNeg r4) (hB : Int32.toNatClampNeg r4 < 160 * Int32.toNatClampNeg (S.2.2 5) + 160) : ∀ (n : Nat) (v2 : Int32) (U : gm_S) (j : Nat), gp_samc S u4 lo U → (U.2.2 19).toInt = j → (v2 = 0 ↔ j = a + 1) → a + 1 ≤ j → j ≤ ty → ty - j < n → gp_Qx Pg ce (gp_cl tx ty j) S lo (gp_kR tx ty a p fs nA nC (gp_cl tx ty j)) (gm_f_MD_readClass_20 S r4 u4 n v2 U) := by
  have t2 := ht.2.1
  have hc := gp_ch_cl hr4
  intro n
  induction n with
  | zero => intro v2 U j _ _ _ _ _ q; exact absurd q (by omega)
  | succ n ih =>
    intro v2 U j hs hj hv hj1 hj2 hn
    have k := gp_pk_t (j := j) ht
    have kn := gp_cn_lt tx ty j
    have k130 : ∀ (r37 v4 : Int32) (V : gm_S) (j' : Nat), gp_samc S u4 lo V → (V.2.2 19).toInt = j' → j < j' → j' ≤ ty → gp_Qx Pg ce (gp_cl tx ty j') S lo (gp_kR tx ty a p fs nA nC (gp_cl tx ty j')) (gm_bd (gm_f_MD_include r4 r37 v4 (va_up (va_up (va_up (va_up (va_up (va_up S.1 9 (V.1 9)) 10 (V.1 10)) 11 (V.1 11)) 12 (V.1 12)) 13 (V.1 13)) 30 (V.1 30), va_up (va_up S.2.1 17 (V.2.1 17)) 18 (V.2.1 18), va_up (va_up (va_up (va_up S.2.2 19 (V.2.2 19)) 21 (V.2.2 21)) 23 (V.2.2 23)) 24 (V.2.2 24))) (fun _ u135 => gm_f_MD_readClass_20 S r4 u4 n 1 (va_up (va_up (va_up (va_up (va_up (va_up S.1 9 (V.1 9)) 10 (V.1 10)) 11 (V.1 11)) 12 (V.1 12)) 13 (V.1 13)) 30 (V.1 30), va_up (va_up S.2.1 17 (u135.2.1 17)) 18 (u135.2.1 18), va_up (va_up (va_up (va_up S.2.2 19 (V.2.2 19)) 21 (V.2.2 21)) 23 (V.2.2 23)) 24 (V.2.2 24)))) := by
      intro r37 v4 V j' hs' hj' q1 q2
      refine gf_ca (Q := gp_Qx Pg ce (gp_cl tx ty j') S lo (gp_kR tx ty a p fs nA nC (gp_cl tx ty j'))) (fun z : Int32 × gm_S => ∀ k, k ≠ Int32.toNatClampNeg r4 → z.2.2.1 17 k = V.2.1 17 k ∧ z.2.2.1 18 k = V.2.1 18 k) (gz_include r4 r37 v4 _) ?_
      intro r5 u5 h5
      obtain ⟨e9, e10, e11, e12, e13, e30, e21, e23, e24, hO⟩ := hs'
      refine ih 1 _ j' ⟨e9, e10, e11, e12, e13, e30, e21, e23, e24, ?_⟩ hj' ⟨fun t => absurd t (by decide), fun t => by omega⟩ (by omega) q2 (by omega)
      exact gp_O_t hO (gp_O_l _ _ _ _ _ _ _ _ _ _ _ hlo hB h5)
    rw [gm_f_MD_readClass_20]
    refine gf_ca (Q := gp_Qx Pg ce (gp_cl tx ty j) S lo (gp_kR tx ty a p fs nA nC (gp_cl tx ty j))) (fun z => z.1.toInt = gp_pk tx ty j) (gz_peek _ ht hj) ?_
    intro r21 u21 h21
    have h21 : r21.toInt = gp_pk tx ty j := h21
    refine gf_if (Q := gp_Qx Pg ce (gp_cl tx ty j) S lo (gp_kR tx ty a p fs nA nC (gp_cl tx ty j))) (fun q => ?_) (fun q => ?_)
    · have q1 := gx_eqr (k := 0) (by decide) q
      rw [gp_cl_0 (by omega)]
      exact fun hjc => gz_cls143 S u4 r4 ht hf hf2 hp hp2 hi hi2 ha hpx hH hr4 hre _ v2 j hs hj hv hj2 hjc
    have q1 := gx_eqnr (k := 0) (by decide) q
    refine gf_ca (Q := gp_Qx Pg ce (gp_cl tx ty j) S lo (gp_kR tx ty a p fs nA nC (gp_cl tx ty j))) (fun z => z.1.toInt = gp_pk tx ty j) (gz_peek _ ht hj) ?_
    intro r28 u28 h28
    have h28 : r28.toInt = gp_pk tx ty j := h28
    refine gf_if (Q := gp_Qx Pg ce (gp_cl tx ty j) S lo (gp_kR tx ty a p fs nA nC (gp_cl tx ty j))) (fun q => ?_) (fun q => ?_)
    · have q2 := gx_eqr (k := 93) (gx_lit 93 (by decide)) q
      rw [gp_cl_0 (by omega)]
      exact fun hjc => gz_cls143 S u4 r4 ht hf hf2 hp hp2 hi hi2 ha hpx hH hr4 hre _ v2 j hs hj hv hj2 hjc
    have q2 := gx_eqnr (k := 93) (gx_lit 93 (by decide)) q
    rw [gp_cl_1 (by omega)]
    refine gf_ca (Q := gp_Qx Pg ce (gp_cl tx ty (gp_cn tx ty j)) S lo (gp_kR tx ty a p fs nA nC (gp_cl tx ty (gp_cn tx ty j)))) (fun z => z.1.toInt = gp_pk tx ty j) (gz_peek _ ht hj) ?_
    intro r37 u37 h37
    have h37 : r37.toInt = gp_pk tx ty j := h37
    have b := gx_ak (U.2.2 19) 1 1 (by decide)
    have b1 : ((U.2.2 19) + 1).toInt = ((j + 1 : Nat) : Int) := by omega
    have b2 := gx_ak ((U.2.2 19) + 1) 1 1 (by decide)
    have b3 : (((U.2.2 19) + 1) + 1).toInt = ((j + 2 : Nat) : Int) := by omega
    have b4 := gx_ak ((U.2.2 19) + 1) 2 2 (gx_lit 2 (by decide))
    have b5 : (((U.2.2 19) + 1) + 2).toInt = ((j + 3 : Nat) : Int) := by omega
    have c3 := gx_cl (((U.2.2 19) + 1) + 1) (by omega)
    have e3 : Int32.toNatClampNeg (((U.2.2 19) + 1) + 1) = j + 2 := by omega
    refine gf_ca (Q := gp_Qx Pg ce (gp_cl tx ty (gp_cn tx ty j)) S lo (gp_kR tx ty a p fs nA nC (gp_cl tx ty (gp_cn tx ty j)))) (fun z => z.1.toInt = gp_pk tx ty (j + 1)) (gz_peek _ ht b1) ?_
    intro r55 u55 h55
    have h55 : r55.toInt = gp_pk tx ty (j + 1) := h55
    have one : ¬ (gp_pk tx ty (j + 1) = 45 ∧ j + 2 < ty ∧ ¬ tx (j + 2) = 93 ∧ tx j ≤ tx (j + 2)) → gp_cn tx ty j = j + 1 := fun t => if_neg t
    have t1 := ht.1
    refine gf_if (Q := gp_Qx Pg ce (gp_cl tx ty (gp_cn tx ty j)) S lo (gp_kR tx ty a p fs nA nC (gp_cl tx ty (gp_cn tx ty j)))) (fun q => ?_) (fun q => ?_)
    · have q3 := gx_eqr (k := 45) (gx_lit 45 (by decide)) q
      refine gf_if (Q := gp_Qx Pg ce (gp_cl tx ty (gp_cn tx ty j)) S lo (gp_kR tx ty a p fs nA nC (gp_cl tx ty (gp_cn tx ty j)))) (fun q => ?_) (fun q => ?_)
      · have q4 := gx_le q
        rw [one (fun t => by omega)]
        exact k130 r37 r37 _ (j + 1) hs b1 (by omega) (by omega)
      have q4 := gx_len q
      have x2 := ht.2.2 (j + 2) (by omega)
      rw [e3]
      refine gf_if (Q := gp_Qx Pg ce (gp_cl tx ty (gp_cn tx ty j)) S lo (gp_kR tx ty a p fs nA nC (gp_cl tx ty (gp_cn tx ty j)))) (fun q => ?_) (fun q => ?_)
      · have q5 := gx_eqr (k := 93) (gx_lit 93 (by decide)) q
        rw [one (fun t => by omega)]
        exact k130 r37 r37 _ (j + 1) hs b1 (by omega) (by omega)
      have q5 := gx_eqnr (k := 93) (gx_lit 93 (by decide)) q
      refine gf_if (Q := gp_Qx Pg ce (gp_cl tx ty (gp_cn tx ty j)) S lo (gp_kR tx ty a p fs nA nC (gp_cl tx ty (gp_cn tx ty j)))) (fun q => ?_) (fun q => ?_)
      · have q6 := gx_lt q
        rw [one (fun t => by omega)]
        exact k130 r37 r37 _ (j + 1) hs b1 (by omega) (by omega)
      have q6 := gx_ltn q
      rw [(show gp_cn tx ty j = j + 3 from if_pos (by omega))]
      exact k130 r37 _ _ (j + 3) hs b5 (by omega) (by omega)
    · have q3 := gx_eqnr (k := 45) (gx_lit 45 (by decide)) q
      rw [one (fun t => by omega)]
      exact k130 r37 r37 _ (j + 1) hs b1 (by omega) (by omega)
theorem gz_readClass {Pg : Nat → Nat → Nat → Prop} (S : gm_S) {tx : Nat → Int} {lo : Nat × Nat} {ty nA nC a : Nat} {p : Int} {fs : List gp_Fm} (ht : gp_tx (S.2.2 2) (S.1 3) tx ty) (h : gp_P Pg (S.2.2 5) (S.1 6) (S.1 9) (S.1 10) (S.1 11) (S.1 12) (S.1 13) (S.1 26) (S.1 27) (S.1 28) (S.1 29) (S.1 30) (S.1 31) (Int32.toNatClampNeg (S.2.2 20)) (Int32.toNatClampNeg (S.2.2 21)) (Int32.toNatClampNeg (S.2.2 22)) fs lo nA nC []) (hf : 0 ≤ (S.2.2 5).toInt) (hf2 : (S.2.2 5).toInt ≤ 1) (hp : 0 ≤ ((S.1 9) (Int32.toNatClampNeg (S.2.2 5))).toInt) (hp2 : ((S.1 9) (Int32.toNatClampNeg (S.2.2 5))).toInt ≤ 120) (hi : 0 ≤ (S.2.2 21).toInt) (hi2 : (S.2.2 21).toInt ≤ 60) (ha : (S.2.2 19).toInt = a) (hpx : (S.2.2 23).toInt = p) (hat : a < ty) (hg : Pg (gp_M (S.2.2 5) (S.1 9)) (a + 1) (gp_cl tx ty (a + 1))) : gp_Qw Pg S lo (gp_kR tx ty a p fs nA nC (gp_cl tx ty (a + 1))) (gm_f_MD_readClass S) := by
  have t2 := ht.2.1
  have b := gx_ak (S.2.2 19) 1 1 (by decide)
  have b1 : ((S.2.2 19) + 1).toInt = ((a + 1 : Nat) : Int) := by omega
  have l2 : (2 : Int32).toInt = 2 := gx_lit 2 (by decide)
  unfold gm_f_MD_readClass
  refine gf_ca (Q := gp_Qw Pg S lo (gp_kR tx ty a p fs nA nC (gp_cl tx ty (a + 1)))) (gp_cQ 2 (-1) (-1) S) (gz_create 2 _ _ _ hf hf2 hp (by omega)) ?_
  intro r4 u4 hu
  have hu9 : u4.1 9 = upd (S.1 9) (Int32.toNatClampNeg (S.2.2 5)) ((S.1 9) (Int32.toNatClampNeg (S.2.2 5)) + 1) := hu.2.1
  have bb := gx_ak ((S.1 9) (Int32.toNatClampNeg (S.2.2 5))) 1 1 (by decide)
  have P1 : ((u4.1 9) (Int32.toNatClampNeg (S.2.2 5))).toInt = ((S.1 9) (Int32.toNatClampNeg (S.2.2 5))).toInt + 1 := by rw [hu9, gx_us]; omega
  have H : ∀ c : Nat, c = gp_cl tx ty (a + 1) → gp_H Pg ((va_up (va_up (va_up (va_up (va_up S.1 9 (u4.1 9)) 10 (u4.1 10)) 11 (u4.1 11)) 12 (u4.1 12)) 13 (u4.1 13)), (va_up (va_up S.2.1 17 (u4.2.1 17)) 18 (u4.2.1 18)), (va_up S.2.2 19 ((S.2.2 19) + 1))) ((va_up (va_up (va_up (va_up (va_up S.1 9 (u4.1 9)) 10 (u4.1 10)) 11 (u4.1 11)) 12 (u4.1 12)) 13 (u4.1 13)), (va_up (va_up S.2.1 17 (u4.2.1 17)) 18 (u4.2.1 18)), (va_up S.2.2 19 ((S.2.2 19) + 1))) lo fs nA nC (gp_e0 2 (a + 1) c) r4 ∧ gp_O (S.2.2 5) lo.1 (S.1 9) (S.1 10) (S.1 11) (S.1 12) (S.1 13) (S.2.1 17) (S.2.1 18) (u4.1 9) (u4.1 10) (u4.1 11) (u4.1 12) (u4.1 13) (u4.2.1 17) (u4.2.1 18) := fun c hcc => gp_H_0 (r := r4) (S2 := ((va_up (va_up (va_up (va_up (va_up S.1 9 (u4.1 9)) 10 (u4.1 10)) 11 (u4.1 11)) 12 (u4.1 12)) 13 (u4.1 13)), (va_up (va_up S.2.1 17 (u4.2.1 17)) 18 (u4.2.1 18)), (va_up S.2.2 19 ((S.2.2 19) + 1)))) h hu rfl rfl rfl rfl rfl rfl rfl rfl rfl (k := 2) (b := a + 1) (c := c) (by omega) l2 (fun t => absurd t (by omega)) (fun t => absurd t (by omega)) (fun _ => by rw [hcc]; exact hg) rfl rfl rfl rfl rfl rfl rfl rfl rfl rfl rfl rfl rfl rfl rfl rfl rfl
  have c4 := gp_ch_cl (H _ rfl).1.2.1
  have cp := gx_cl _ hp
  have hM : gp_M (S.2.2 5) (u4.1 9) = 160 * Int32.toNatClampNeg (S.2.2 5) + Int32.toNatClampNeg ((u4.1 9) (Int32.toNatClampNeg (S.2.2 5))) := rfl
  have cu := gx_cl ((u4.1 9) (Int32.toNatClampNeg (S.2.2 5))) (by omega)
  have c4' : Int32.toNatClampNeg r4 < gp_M (S.2.2 5) (u4.1 9) := c4.2.1
  exact gz_cls20 S u4 r4 ht hf hf2 (by omega) (by omega) hi hi2 ha hpx (fun c hcc => (H c hcc).1.1) (H _ rfl).1.2.1 (fun c hcc => (H c hcc).1.2.2.1) (by have := hu.1.2.1; have t : Int32.toNatClampNeg r4 = gp_M (S.2.2 5) (S.1 9) := this; rw [t]; exact h.2.2.2.2.1) (by omega) 200 0 _ (a + 1) ⟨rfl, rfl, rfl, rfl, rfl, rfl, rfl, rfl, rfl, (H _ rfl).2⟩ b1 ⟨fun _ => rfl, fun _ => rfl⟩ (by omega) (by omega) (by omega) rfl
