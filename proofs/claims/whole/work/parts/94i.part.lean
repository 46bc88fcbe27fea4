/-! The reference's reader against the machine: signs, and a step. -/
def gp_Qs (Pg : Nat → Nat → Nat → Prop) (S : gm_S) (bk bf ib ab : (Int32 × gm_S) → Nat → Int32) (lo : Nat × Nat) (R : gp_Rs) (z : Int32 × gm_S) : Prop :=
  ((∃ j, R = .inl j ∧ (z.2.2.2 24).toInt ≠ 0 ∧ (z.2.2.2 19).toInt = (j : Nat) ∧ z.2.1 8 = S.1 8) ∨ (z.2.2.2 24 = S.2.2 24 ∧ gp_Qc Pg S (bk z) (bf z) (ib z) (ab z) lo z R)) ∧ gp_O (S.2.2 5) lo.1 (S.1 9) (S.1 10) (S.1 11) (S.1 12) (S.1 13) (S.2.1 17) (S.2.1 18) (z.2.1 9) (z.2.1 10) (z.2.1 11) (z.2.1 12) (z.2.1 13) (z.2.2.1 17) (z.2.2.1 18)
abbrev gp_Qg (Pg : Nat → Nat → Nat → Prop) (S : gm_S) (lo : Nat × Nat) (R : gp_Rs) : Int32 × gm_S → Prop := gp_Qs Pg S (fun _ => S.1 26) (fun _ => S.1 27) (fun _ => S.1 28) (fun _ => S.1 29) lo R
abbrev gp_Qr (Pg : Nat → Nat → Nat → Prop) (S : gm_S) (lo : Nat × Nat) (R : gp_Rs) : Int32 × gm_S → Prop := gp_Qs Pg S (fun z => z.2.1 26) (fun z => z.2.1 27) (fun z => z.2.1 28) (fun z => z.2.1 29) lo R
theorem gz_closing (x : Int32) {b : Int} (h : x.toInt = b) : (fun z : Int32 × Unit => z.1.toInt = gp_cg b) (gm_f_MD_closing x) := by
  unfold gm_f_MD_closing gp_cg
  refine gf_if (Q := fun z : Int32 × Unit => z.1.toInt = (if b = 40 then 41 else if b = 123 then 125 else 59)) (fun q => ?_) (fun q => ?_)
  · have := gx_eqr (k := 40) (gx_lit 40 (by decide)) q
    rw [if_pos (by omega)]
    exact gx_lit 41 (by decide)
  have q1 := gx_eqnr (k := 40) (gx_lit 40 (by decide)) q
  refine gf_if (Q := fun z : Int32 × Unit => z.1.toInt = (if b = 40 then 41 else if b = 123 then 125 else 59)) (fun q => ?_) (fun q => ?_)
  · have := gx_eqr (k := 123) (gx_lit 123 (by decide)) q
    rw [if_neg (by omega), if_pos (by omega)]
    exact gx_lit 125 (by decide)
  · have := gx_eqnr (k := 123) (gx_lit 123 (by decide)) q
    rw [if_neg (by omega), if_neg (by omega)]
    exact gx_lit 59 (by decide)
theorem gz_sign39 {Pg : Nat → Nat → Nat → Prop} (x : Int32) (S : gm_S) {tx : Nat → Int} {lo : Nat × Nat} {ty nA nC a : Nat} {f : gp_Fm} {fs : List gp_Fm} (ht : gp_tx (S.2.2 2) (S.1 3) tx ty) (h : gp_P Pg (S.2.2 5) (S.1 6) (S.1 9) (S.1 10) (S.1 11) (S.1 12) (S.1 13) (S.1 26) (S.1 27) (S.1 28) (S.1 29) (S.1 30) (S.1 31) (Int32.toNatClampNeg (S.2.2 20)) (Int32.toNatClampNeg (S.2.2 21)) (Int32.toNatClampNeg (S.2.2 22)) (f :: fs) lo nA nC []) (hf : 0 ≤ (S.2.2 5).toInt) (hf2 : (S.2.2 5).toInt ≤ 1) (hp : 0 ≤ ((S.1 9) (Int32.toNatClampNeg (S.2.2 5))).toInt) (hp2 : ((S.1 9) (Int32.toNatClampNeg (S.2.2 5))).toInt + (S.2.2 21).toInt + (S.2.2 22).toInt ≤ 110) (hi : 0 ≤ (S.2.2 21).toInt) (hi2 : (S.2.2 21).toInt ≤ 60) (hl : 0 ≤ (S.2.2 22).toInt) (hl2 : (S.2.2 22).toInt ≤ 60) (hd : 0 ≤ (S.2.2 20).toInt) (hd2 : (S.2.2 20).toInt ≤ 6) (ha : (S.2.2 19).toInt = a) (hat : a < ty) (hpx : (S.2.2 23).toInt = 0) (hg : fs = [] ↔ f.1 = 59) (hx : x.toInt = 38 ∨ x.toInt = 33 ∨ x.toInt = 47 ∨ x.toInt = gp_cg f.1) : gp_Qg Pg S lo (gp_sg tx ty x.toInt (a, 0, f :: fs, nA, nC)) (gm_f_MD_readSign_j39 x S S) := by
  have t2 := ht.2.1
  have b := gx_ak (S.2.2 19) 1 1 (by decide)
  have b1 : ((S.2.2 19) + 1).toInt = ((a + 1 : Nat) : Int) := by omega
  have set : ∀ t : x.toInt = 38 ∨ x.toInt = 33, gp_sg tx ty x.toInt (a, 0, f :: fs, nA, nC) = .inr (.inl (a + 1, x.toInt, f :: fs, nA, nC)) := fun t => if_pos t
  unfold gm_f_MD_readSign_j39
  refine gf_if (Q := gp_Qg Pg S lo (gp_sg tx ty x.toInt (a, 0, f :: fs, nA, nC))) (fun q => ?_) (fun q => ?_)
  · have q1 := gx_eqr (k := 38) (gx_lit 38 (by decide)) q
    rw [set (Or.inl q1)]
    exact ⟨Or.inr ⟨rfl, ⟨h, rfl, b1⟩, rfl, rfl⟩, gp_O_r _ _ _ _ _ _ _ _ _⟩
  have q1 := gx_eqnr (k := 38) (gx_lit 38 (by decide)) q
  refine gf_if (Q := gp_Qg Pg S lo (gp_sg tx ty x.toInt (a, 0, f :: fs, nA, nC))) (fun q => ?_) (fun q => ?_)
  · have q2 := gx_eqr (k := 33) (gx_lit 33 (by decide)) q
    rw [set (Or.inr q2)]
    exact ⟨Or.inr ⟨rfl, ⟨h, rfl, b1⟩, rfl, rfl⟩, gp_O_r _ _ _ _ _ _ _ _ _⟩
  have q2 := gx_eqnr (k := 33) (gx_lit 33 (by decide)) q
  refine gf_if (Q := gp_Qg Pg S lo (gp_sg tx ty x.toInt (a, 0, f :: fs, nA, nC))) (fun q => ?_) (fun q => ?_)
  · have q3 := gx_eqr (k := 47) (gx_lit 47 (by decide)) q
    rw [(show gp_sg tx ty x.toInt (a, 0, f :: fs, nA, nC) = .inr (.inl (a + 1, 0, gp_es (f :: fs), nA + (f.2.2.1.length - 1), nC)) from (if_neg (by omega)).trans (if_pos q3))]
    refine gf_ca (Q := gp_Qg Pg S lo (.inr (.inl (a + 1, 0, gp_es (f :: fs), nA + (f.2.2.1.length - 1), nC)))) (gp_Qe Pg _ lo (gp_es (f :: fs)) (nA + (f.2.2.1.length - 1)) nC) (gz_endSequence _ h hf hf2 hp (show ((S.1 9) (Int32.toNatClampNeg (S.2.2 5))).toInt + (S.2.2 21).toInt ≤ 120 by omega) hi hi2 hl hl2) ?_
    intro r u hu
    exact ⟨Or.inr ⟨rfl, ⟨hu.1, hpx, b1⟩, rfl, rfl⟩, hu.2.1⟩
  have q3 := gx_eqnr (k := 47) (gx_lit 47 (by decide)) q
  have q4 : x.toInt = gp_cg f.1 := by rcases hx with t | t | t | t; (exact absurd t q1); (exact absurd t q2); (exact absurd t q3); (exact t)
  rw [(show gp_sg tx ty x.toInt (a, 0, f :: fs, nA, nC) = gp_cw tx ty (a + 1, 0, f :: fs, nA, nC) from (if_neg (by omega)).trans ((if_neg q3).trans (if_pos q4)))]
  refine gf_ca (Q := gp_Qg Pg S lo (gp_cw tx ty (a + 1, 0, f :: fs, nA, nC))) (gp_Qk Pg _ lo (gp_cw tx ty (a + 1, 0, f :: fs, nA, nC))) (gz_close _ ht h hf hf2 hp hp2 hi hi2 hl hl2 hd hd2 b1 (by omega) hg) ?_
  intro r u hu
  obtain ⟨hu1, hu2⟩ := hu
  refine ⟨Or.inr ⟨rfl, ?_⟩, hu2⟩
  generalize gp_cw tx ty (a + 1, 0, f :: fs, nA, nC) = R at hu1 ⊢
  match R, hu1 with
  | .inr (.inl s), hu1 => exact hu1
  | .inr (.inr t), hu1 => exact hu1
theorem gz_readSign {Pg : Nat → Nat → Nat → Prop} (x : Int32) (S : gm_S) {tx : Nat → Int} {lo : Nat × Nat} {ty nA nC a : Nat} {f : gp_Fm} {fs : List gp_Fm} (ht : gp_tx (S.2.2 2) (S.1 3) tx ty) (h : gp_P Pg (S.2.2 5) (S.1 6) (S.1 9) (S.1 10) (S.1 11) (S.1 12) (S.1 13) (S.1 26) (S.1 27) (S.1 28) (S.1 29) (S.1 30) (S.1 31) (Int32.toNatClampNeg (S.2.2 20)) (Int32.toNatClampNeg (S.2.2 21)) (Int32.toNatClampNeg (S.2.2 22)) (f :: fs) lo nA nC []) (hf : 0 ≤ (S.2.2 5).toInt) (hf2 : (S.2.2 5).toInt ≤ 1) (hp : 0 ≤ ((S.1 9) (Int32.toNatClampNeg (S.2.2 5))).toInt) (hp2 : ((S.1 9) (Int32.toNatClampNeg (S.2.2 5))).toInt + (S.2.2 21).toInt + (S.2.2 22).toInt ≤ 110) (hi : 0 ≤ (S.2.2 21).toInt) (hi2 : (S.2.2 21).toInt ≤ 60) (hl : 0 ≤ (S.2.2 22).toInt) (hl2 : (S.2.2 22).toInt ≤ 60) (hd : 0 ≤ (S.2.2 20).toInt) (hd2 : (S.2.2 20).toInt ≤ 6) (ha : (S.2.2 19).toInt = a) (hx : x.toInt = gp_pk tx ty a) (hpx : (S.2.2 23).toInt = 0) (hg : fs = [] ↔ f.1 = 59) : gp_Qg Pg S lo (gp_sg tx ty x.toInt (a, 0, f :: fs, nA, nC)) (gm_f_MD_readSign x S) := by
  have k := gp_pk_t (j := a) ht
  have cgp : 41 ≤ gp_cg f.1 := by
    unfold gp_cg
    split
    · omega
    · split
      · omega
      · omega
  unfold gm_f_MD_readSign
  refine gf_if (Q := gp_Qg Pg S lo (gp_sg tx ty x.toInt (a, 0, f :: fs, nA, nC))) (fun q => ?_) (fun q => ?_)
  · have q1 := gx_eqr (k := 38) (gx_lit 38 (by decide)) q
    exact gz_sign39 x S ht h hf hf2 hp hp2 hi hi2 hl hl2 hd hd2 ha (by omega) hpx hg (by omega)
  have q1 := gx_eqnr (k := 38) (gx_lit 38 (by decide)) q
  refine gf_if (Q := gp_Qg Pg S lo (gp_sg tx ty x.toInt (a, 0, f :: fs, nA, nC))) (fun q => ?_) (fun q => ?_)
  · have q2 := gx_eqr (k := 33) (gx_lit 33 (by decide)) q
    exact gz_sign39 x S ht h hf hf2 hp hp2 hi hi2 hl hl2 hd hd2 ha (by omega) hpx hg (by omega)
  have q2 := gx_eqnr (k := 33) (gx_lit 33 (by decide)) q
  refine gf_if (Q := gp_Qg Pg S lo (gp_sg tx ty x.toInt (a, 0, f :: fs, nA, nC))) (fun q => ?_) (fun q => ?_)
  · have q3 := gx_eqr (k := 47) (gx_lit 47 (by decide)) q
    exact gz_sign39 x S ht h hf hf2 hp hp2 hi hi2 hl hl2 hd hd2 ha (by omega) hpx hg (by omega)
  have q3 := gx_eqnr (k := 47) (gx_lit 47 (by decide)) q
  have h' := h
  obtain ⟨⟨i', l', s1, -⟩, -⟩ := h'
  refine gf_ca (Q := gp_Qg Pg S lo (gp_sg tx ty x.toInt (a, 0, f :: fs, nA, nC))) (fun z : Int32 × Unit => z.1.toInt = gp_cg f.1) (gz_closing _ s1) ?_
  intro r28 u28 h28
  have h28 : r28.toInt = gp_cg f.1 := h28
  refine gf_if (Q := gp_Qg Pg S lo (gp_sg tx ty x.toInt (a, 0, f :: fs, nA, nC))) (fun q => ?_) (fun q => ?_)
  · have q4 := gx_eq q
    exact gz_sign39 x S ht h hf hf2 hp hp2 hi hi2 hl hl2 hd hd2 ha (by omega) hpx hg (by omega)
  · have q4 := gx_eqn q
    have l1 : (1 : Int32).toInt = 1 := by decide
    rw [(show gp_sg tx ty x.toInt (a, 0, f :: fs, nA, nC) = .inl a from (if_neg (by omega)).trans ((if_neg q3).trans (if_neg (fun t => q4 (by rw [h28]; exact t)))))]
    exact ⟨Or.inl ⟨a, rfl, (show (1 : Int32).toInt ≠ 0 by omega), ha, rfl⟩, gp_O_r _ _ _ _ _ _ _ _ _⟩
theorem gp_Qw_r {Pg : Nat → Nat → Nat → Prop} {S S' : gm_S} {lo : Nat × Nat} {R : gp_Rs} {z : Int32 × gm_S} {W : gm_S} (h : gp_Qw Pg S' lo R z) (s5 : S'.2.2 5 = S.2.2 5) (s6 : S'.1 6 = S.1 6) (s9 : S'.1 9 = S.1 9) (s10 : S'.1 10 = S.1 10) (s11 : S'.1 11 = S.1 11) (s12 : S'.1 12 = S.1 12) (s13 : S'.1 13 = S.1 13) (s17 : S'.2.1 17 = S.2.1 17) (s18 : S'.2.1 18 = S.2.1 18) (s24 : S'.2.2 24 = S.2.2 24) (w9 : W.1 9 = z.2.1 9) (w10 : W.1 10 = z.2.1 10) (w11 : W.1 11 = z.2.1 11) (w12 : W.1 12 = z.2.1 12) (w13 : W.1 13 = z.2.1 13) (w26 : W.1 26 = S'.1 26) (w27 : W.1 27 = S'.1 27) (w28 : W.1 28 = S'.1 28) (w29 : W.1 29 = S'.1 29) (w30 : W.1 30 = z.2.1 30) (w31 : W.1 31 = S'.1 31) (w20 : W.2.2 20 = S'.2.2 20) (w21 : W.2.2 21 = z.2.2.2 21) (w22 : W.2.2 22 = S'.2.2 22) (w23 : W.2.2 23 = z.2.2.2 23) (w19 : W.2.2 19 = z.2.2.2 19) (w24 : W.2.2 24 = z.2.2.2 24) (w8 : W.1 8 = S.1 8) (w25 : W.2.2 25 = S.2.2 25) (w17 : W.2.1 17 = z.2.2.1 17) (w18 : W.2.1 18 = z.2.2.1 18) (r : Int32) : gp_Qr Pg S lo R (r, W) := by
  obtain ⟨h1, h2⟩ := h
  rw [s5, s9, s10, s11, s12, s13, s17, s18, ← w9, ← w10, ← w11, ← w12, ← w13, ← w17, ← w18] at h2
  match R, h1 with
  | .inl j, h1 =>
    refine ⟨Or.inl ⟨j, rfl, ?_, ?_, w8⟩, h2⟩
    · show (W.2.2 24).toInt ≠ 0
      rw [w24]; exact h1.1
    · show (W.2.2 19).toInt = (j : Nat)
      rw [w19]; exact h1.2
  | .inr (.inl s), h1 =>
    refine ⟨Or.inr ⟨?_, ?_, w8, w25⟩, h2⟩
    · show W.2.2 24 = S.2.2 24
      rw [w24, ← s24]; exact h1.1
    · show gp_I Pg (S.2.2 5) (S.1 6) (W.1 9) (W.1 10) (W.1 11) (W.1 12) (W.1 13) (W.1 26) (W.1 27) (W.1 28) (W.1 29) (W.1 30) (W.1 31) (W.2.2 20) (W.2.2 21) (W.2.2 22) (W.2.2 23) (W.2.2 19) lo s
      rw [w9, w10, w11, w12, w13, w26, w27, w28, w29, w30, w31, w20, w21, w22, w23, w19, ← s5, ← s6]; exact h1.2
  | .inr (.inr t), h1 => exact h1.elim
/-- what the numbers of a state have to be -/
def gp_nm (S : gm_S) : Prop := (0 ≤ (S.2.2 5).toInt ∧ (S.2.2 5).toInt ≤ 1) ∧ (0 ≤ ((S.1 9) (Int32.toNatClampNeg (S.2.2 5))).toInt ∧ ((S.1 9) (Int32.toNatClampNeg (S.2.2 5))).toInt + (S.2.2 21).toInt + (S.2.2 22).toInt ≤ 100) ∧ (0 ≤ (S.2.2 21).toInt ∧ (S.2.2 21).toInt ≤ 50) ∧ (0 ≤ (S.2.2 22).toInt ∧ (S.2.2 22).toInt ≤ 50) ∧ (0 ≤ (S.2.2 20).toInt ∧ (S.2.2 20).toInt ≤ 6)
/-- a leaf of a set that is made at a: all characters, or a class -/
def gp_lf (tx : Nat → Int) (ty a b c : Nat) : Prop := (gp_pk tx ty a = 46 ∧ b = a + 1 ∧ c = a + 1) ∨ (gp_pk tx ty a = 91 ∧ b = a + 1 ∧ c = gp_cl tx ty (a + 1))
theorem gz_readPart {Pg : Nat → Nat → Nat → Prop} (S : gm_S) {tx : Nat → Int} {lo : Nat × Nat} {ty : Nat} {s : gp_Sg} {R0 : Nat} (ht : gp_tx (S.2.2 2) (S.1 3) tx ty) (h : gp_I Pg (S.2.2 5) (S.1 6) (S.1 9) (S.1 10) (S.1 11) (S.1 12) (S.1 13) (S.1 26) (S.1 27) (S.1 28) (S.1 29) (S.1 30) (S.1 31) (S.2.2 20) (S.2.2 21) (S.2.2 22) (S.2.2 23) (S.2.2 19) lo s) (hn : gp_nm S) (hk : gp_kp R0 s) (hs : s.1 ≤ ty) (hgP : ∀ b c, gp_lf tx ty s.1 b c → Pg (gp_M (S.2.2 5) (S.1 9)) b c) : gp_Qr Pg S lo (gp_ms tx ty s) (gm_f_MD_readPart S) := by
  obtain ⟨a, p, fs0, nA, nC⟩ := s
  obtain ⟨hP, hpx, ha⟩ := h
  obtain ⟨⟨hf, hf2⟩, ⟨hp, hp2⟩, ⟨hi, hi2⟩, ⟨hl, hl2⟩, ⟨hd, hd2⟩⟩ := hn
  have hpx : (S.2.2 23).toInt = p := hpx
  have ha : (S.2.2 19).toInt = a := ha
  have hs : a ≤ ty := hs
  have hgP : ∀ b c, gp_lf tx ty a b c → Pg (gp_M (S.2.2 5) (S.1 9)) b c := hgP
  have t2 := ht.2.1
  cases fs0 with
  | nil => exact hP.1.elim
  | cons f fs =>
    have hP : gp_P Pg (S.2.2 5) (S.1 6) (S.1 9) (S.1 10) (S.1 11) (S.1 12) (S.1 13) (S.1 26) (S.1 27) (S.1 28) (S.1 29) (S.1 30) (S.1 31) (Int32.toNatClampNeg (S.2.2 20)) (Int32.toNatClampNeg (S.2.2 21)) (Int32.toNatClampNeg (S.2.2 22)) (f :: fs) lo nA nC [] := hP
    have dp : gp_dp (f :: fs) := hk.2.2.1
    have len := gp_stk_len _ _ _ _ hP.1
    rw [List.length_cons] at len
    have cd := gx_cl (S.2.2 20) hd
    have hg : fs = [] ↔ f.1 = 59 := by
      rcases dp.1.2 with ⟨t1, t2⟩ | ⟨t1, t2⟩
      · exact ⟨fun _ => t2, fun _ => List.eq_nil_of_length_eq_zero t1⟩
      · exact ⟨fun t => by rw [t] at t1; exact absurd t1 (by decide), fun t => by omega⟩
    have b := gx_ak (S.2.2 19) 1 1 (by decide)
    have b1 : ((S.2.2 19) + 1).toInt = ((a + 1 : Nat) : Int) := by omega
    have pk := gp_pk_t (j := a) ht
    generalize hR : gp_ms tx ty (a, p, f :: fs, nA, nC) = R
    unfold gm_f_MD_readPart
    refine gf_ca (Q := gp_Qr Pg S lo R) (fun z => z.1.toInt = gp_pk tx ty a) (gz_peek S ht ha) ?_
    intro r1 u1 h1
    have h1 : r1.toInt = gp_pk tx ty a := h1
    have other : ¬ (65 ≤ gp_pk tx ty a ∧ gp_pk tx ty a ≤ 90) → gp_Qr Pg S lo R (gm_f_MD_readPart_j41 S r1 u1 S) := by
      intro n1
      have j206 : ¬ ((gp_pk tx ty a = 40 ∨ gp_pk tx ty a = 123) ∧ fs.length + 1 < 7) → ¬ gp_pk tx ty a = 46 → ¬ gp_pk tx ty a = 39 → ¬ gp_pk tx ty a = 91 → gp_Qr Pg S lo R (gm_f_MD_readPart_j206 S r1 u1 S S) := by
        intro n2 n3 n4 n5
        unfold gm_f_MD_readPart_j206
        refine gf_if (Q := gp_Qr Pg S lo R) (fun q => ?_) (fun q => ?_)
        · have q1 := gx_eqr (k := 0) (by decide) q
          have p0 : p = 0 := by omega
          rw [← hR, p0, (show gp_ms tx ty (a, 0, f :: fs, nA, nC) = gp_sg tx ty (gp_pk tx ty a) (a, 0, f :: fs, nA, nC) from (if_neg n1).trans ((if_neg n3).trans ((if_neg n4).trans ((if_neg n5).trans ((if_neg n2).trans (if_pos rfl)))))), ← h1]
          refine gf_ca (Q := gp_Qr Pg S lo (gp_sg tx ty r1.toInt (a, 0, f :: fs, nA, nC))) (gp_Qg Pg _ lo (gp_sg tx ty r1.toInt (a, 0, f :: fs, nA, nC))) (gz_readSign r1 _ ht hP hf hf2 hp (show ((S.1 9) (Int32.toNatClampNeg (S.2.2 5))).toInt + (S.2.2 21).toInt + (S.2.2 22).toInt ≤ 110 by omega) hi (show (S.2.2 21).toInt ≤ 60 by omega) hl (show (S.2.2 22).toInt ≤ 60 by omega) hd hd2 ha h1 q1 hg) ?_
          intro r2 u2 hu2
          obtain ⟨v1, v2⟩ := hu2
          refine ⟨?_, v2⟩
          rcases v1 with v1 | ⟨v1, v3⟩
          · exact Or.inl v1
          · refine Or.inr ⟨v1, ?_⟩
            generalize gp_sg tx ty r1.toInt (a, 0, f :: fs, nA, nC) = R2 at v3 ⊢
            match R2, v3 with
            | .inr (.inl s), v3 => exact v3
            | .inr (.inr t), v3 => exact v3
        · have q1 := gx_eqnr (k := 0) (by decide) q
          have l1 : (1 : Int32).toInt = 1 := by decide
          rw [← hR, (show gp_ms tx ty (a, p, f :: fs, nA, nC) = .inl a from (if_neg n1).trans ((if_neg n3).trans ((if_neg n4).trans ((if_neg n5).trans ((if_neg n2).trans (if_neg (show ¬ p = 0 by omega)))))))]
          exact ⟨Or.inl ⟨a, rfl, (show (1 : Int32).toInt ≠ 0 by omega), ha, rfl⟩, gp_O_r _ _ _ _ _ _ _ _ _⟩
      have j120 : (gp_pk tx ty a = 40 ∨ gp_pk tx ty a = 123) → gp_Qr Pg S lo R (gm_f_MD_readPart_j120 S r1 u1 S S) := by
        intro n2
        unfold gm_f_MD_readPart_j120
        have l6 : (6 : Int32).toInt = 6 := gx_lit 6 (by decide)
        refine gf_if (Q := gp_Qr Pg S lo R) (fun q => ?_) (fun q => ?_)
        · have q1 := gx_lel (k := 6) l6 q
          exact j206 (fun t => by omega) (by omega) (by omega) (by omega)
        · have q1 := gx_lenl (k := 6) l6 q
          rw [← hR, (show gp_ms tx ty (a, p, f :: fs, nA, nC) = .inr (.inl (a + 1, 0, (gp_pk tx ty a, p, [], []) :: f :: fs, nA, nC)) from (if_neg n1).trans ((if_neg (show ¬ gp_pk tx ty a = 46 by omega)).trans ((if_neg (show ¬ gp_pk tx ty a = 39 by omega)).trans ((if_neg (show ¬ gp_pk tx ty a = 91 by omega)).trans (if_pos ⟨n2, (show fs.length + 1 < 7 by omega)⟩)))))]
          have bd := gx_ak (S.2.2 20) 1 1 (by decide)
          have bd1 : ((S.2.2 20) + 1).toInt = (S.2.2 20).toInt + 1 := by omega
          have cd1 := gx_cl ((S.2.2 20) + 1) (by omega)
          have ed : Int32.toNatClampNeg ((S.2.2 20) + 1) = Int32.toNatClampNeg (S.2.2 20) + 1 := by omega
          have ci := gx_cl (S.2.2 21) hi
          have cl := gx_cl (S.2.2 22) hl
          refine ⟨Or.inr ⟨rfl, ⟨⟨?_, gp_K_w hP.2 (fun g hg => ⟨g, hg, fun _ t => t⟩)⟩, (by decide : (0 : Int32).toInt = 0), b1⟩, rfl, rfl⟩, gp_O_r _ _ _ _ _ _ _ _ _⟩
          show gp_stk Pg lo.2 (gp_M (S.2.2 5) (S.1 9)) (S.1 10) (S.1 11) (S.1 12) (upd (S.1 26) (Int32.toNatClampNeg ((S.2.2 20) + 1)) r1) (upd (S.1 27) (Int32.toNatClampNeg ((S.2.2 20) + 1)) (S.2.2 23)) (upd (S.1 28) (Int32.toNatClampNeg ((S.2.2 20) + 1)) (S.2.2 21)) (upd (S.1 29) (Int32.toNatClampNeg ((S.2.2 20) + 1)) (S.2.2 22)) (S.1 30) (S.1 31) ((gp_pk tx ty a, p, [], []) :: f :: fs) (Int32.toNatClampNeg ((S.2.2 20) + 1)) (Int32.toNatClampNeg (S.2.2 21)) (Int32.toNatClampNeg (S.2.2 22))
          rw [ed]
          refine ⟨Int32.toNatClampNeg (S.2.2 21), Int32.toNatClampNeg (S.2.2 22), ?_, ?_, ?_, rfl, rfl, Or.inr ⟨Int32.toNatClampNeg (S.2.2 20), rfl, ?_, ?_⟩⟩
          · rw [gx_us]; exact h1
          · rw [gx_us]; omega
          · rw [gx_us]; omega
          · rw [gx_us]; exact hpx
          · exact gp_stk_tr (Nat.le_refl _) (fun m _ => ⟨rfl, rfl, rfl⟩) (f :: fs) _ _ _ (fun k hk => ⟨gx_un _ _ _ (by omega), gx_un _ _ _ (by omega), gx_un _ _ _ (by omega), gx_un _ _ _ (by omega)⟩) (fun _ _ => rfl) (fun _ _ => rfl) hP.1
      unfold gm_f_MD_readPart_j41
      refine gf_if (Q := gp_Qr Pg S lo R) (fun q => ?_) (fun q => ?_)
      · have q1 := gx_eqr (k := 46) (gx_lit 46 (by decide)) q
        rw [← hR, (show gp_ms tx ty (a, p, f :: fs, nA, nC) = .inr (.inl (gp_pm tx ty (gp_e0 2 (a + 1) (a + 1)) (a + 1, p, f :: fs, nA, nC))) from (if_neg n1).trans (if_pos (show gp_pk tx ty a = 46 by omega)))]
        refine gf_ca (Q := gp_Qr Pg S lo (.inr (.inl (gp_pm tx ty (gp_e0 2 (a + 1) (a + 1)) (a + 1, p, f :: fs, nA, nC))))) (gp_cQ 2 (-1) (-1) _) (gz_create 2 (-1) (-1) _ hf hf2 hp (show ((S.1 9) (Int32.toNatClampNeg (S.2.2 5))).toInt ≤ 150 by omega)) ?_
        intro r u hu
        have hu9 : u.1 9 = upd (S.1 9) (Int32.toNatClampNeg (S.2.2 5)) ((S.1 9) (Int32.toNatClampNeg (S.2.2 5)) + 1) := hu.2.1
        have hu2 : Int32.toNatClampNeg r = gp_M (S.2.2 5) (S.1 9) := hu.1.2.1
        have bb := gx_ak ((S.1 9) (Int32.toNatClampNeg (S.2.2 5))) 1 1 (by decide)
        have P1 : ((u.1 9) (Int32.toNatClampNeg (S.2.2 5))).toInt = ((S.1 9) (Int32.toNatClampNeg (S.2.2 5))).toInt + 1 := by rw [hu9, gx_us]; omega
        have cp := gx_cl _ hp
        have hM : gp_M (S.2.2 5) (S.1 9) = 160 * Int32.toNatClampNeg (S.2.2 5) + Int32.toNatClampNeg ((S.1 9) (Int32.toNatClampNeg (S.2.2 5))) := rfl
        have l2 : (2 : Int32).toInt = 2 := gx_lit 2 (by decide)
        refine gf_ca (Q := gp_Qr Pg S lo (.inr (.inl (gp_pm tx ty (gp_e0 2 (a + 1) (a + 1)) (a + 1, p, f :: fs, nA, nC))))) (fun z : Int32 × gm_S => ∀ k, k ≠ Int32.toNatClampNeg r → z.2.2.1 17 k = u.2.1 17 k ∧ z.2.2.1 18 k = u.2.1 18 k) (gz_include r 32 126 _) ?_
        intro r5 u5 h5
        have H := gp_H_0 (r := r) (S2 := ((va_up (va_up (va_up (va_up (va_up (va_up (va_up (va_up (va_up (va_up (va_up (va_up S.1 8 (S.1 8)) 9 (u.1 9)) 10 (u.1 10)) 11 (u.1 11)) 12 (u.1 12)) 13 (u.1 13)) 26 (S.1 26)) 27 (S.1 27)) 28 (S.1 28)) 29 (S.1 29)) 30 (S.1 30)) 31 (S.1 31)), (va_up (va_up S.2.1 17 (u5.2.1 17)) 18 (u5.2.1 18)), (va_up (va_up (va_up (va_up (va_up (va_up (va_up S.2.2 19 ((S.2.2 19) + 1)) 20 (S.2.2 20)) 21 (S.2.2 21)) 22 (S.2.2 22)) 23 (S.2.2 23)) 24 (S.2.2 24)) 25 (S.2.2 25)))) hP hu rfl rfl rfl rfl rfl rfl rfl rfl rfl (k := 2) (b := a + 1) (c := a + 1) (by omega) l2 (fun t => absurd t (by omega)) (fun t => absurd t (by omega)) (fun _ => hgP _ _ (Or.inl ⟨show gp_pk tx ty a = 46 by omega, rfl, rfl⟩)) rfl rfl rfl rfl rfl rfl rfl rfl rfl rfl rfl rfl rfl rfl rfl rfl rfl
        refine gf_ca (Q := gp_Qr Pg S lo (.inr (.inl (gp_pm tx ty (gp_e0 2 (a + 1) (a + 1)) (a + 1, p, f :: fs, nA, nC))))) (gp_Qp Pg _ lo (gp_pm tx ty (gp_e0 2 (a + 1) (a + 1)) (a + 1, p, f :: fs, nA, nC))) (gz_primary r _ ht H.1 hf hf2 (show 0 ≤ ((u.1 9) (Int32.toNatClampNeg (S.2.2 5))).toInt by omega) (show ((u.1 9) (Int32.toNatClampNeg (S.2.2 5))).toInt ≤ 145 by omega) hi (show (S.2.2 21).toInt ≤ 60 by omega) b1 (by omega) hpx) ?_
        intro r6 u6 h6
        refine ⟨Or.inr ⟨rfl, h6.1, rfl, rfl⟩, gp_O_t H.2 (gp_O_t (gp_O_l _ _ _ _ _ _ _ _ _ _ _ (N := Int32.toNatClampNeg r) (by rw [hu2]; exact hP.2.2.2.2.1) (by omega) h5) h6.2)⟩
      have q1 := gx_eqnr (k := 46) (gx_lit 46 (by decide)) q
      refine gf_if (Q := gp_Qr Pg S lo R) (fun q => ?_) (fun q => ?_)
      · have q2 := gx_eqr (k := 39) (gx_lit 39 (by decide)) q
        have e1 : gp_ms tx ty (a, p, f :: fs, nA, nC) = gp_rR tx ty a p (f :: fs) nA nC (gp_rw tx ty (a + 1)) := (if_neg n1).trans ((if_neg (show ¬ gp_pk tx ty a = 46 by omega)).trans (if_pos (show gp_pk tx ty a = 39 by omega)))
        rw [← hR, e1]
        refine gf_ca (Q := gp_Qr Pg S lo (gp_rR tx ty a p (f :: fs) nA nC (gp_rw tx ty (a + 1)))) (gp_Qw Pg _ lo (gp_rR tx ty a p (f :: fs) nA nC (gp_rw tx ty (a + 1)))) (gz_readRow _ ht hP hf hf2 hp (show ((S.1 9) (Int32.toNatClampNeg (S.2.2 5))).toInt ≤ 120 by omega) hi (show (S.2.2 21).toInt ≤ 60 by omega) ha hpx (by omega)) ?_
        intro r5 u5 h5
        exact gp_Qw_r (S := S) (W := ((va_up (va_up (va_up (va_up (va_up (va_up (va_up (va_up (va_up (va_up (va_up (va_up S.1 8 (S.1 8)) 9 (u5.1 9)) 10 (u5.1 10)) 11 (u5.1 11)) 12 (u5.1 12)) 13 (u5.1 13)) 26 (S.1 26)) 27 (S.1 27)) 28 (S.1 28)) 29 (S.1 29)) 30 (u5.1 30)) 31 (S.1 31)), (va_up (va_up S.2.1 17 (u5.2.1 17)) 18 (u5.2.1 18)), (va_up (va_up (va_up (va_up (va_up (va_up (va_up S.2.2 19 (u5.2.2 19)) 20 (S.2.2 20)) 21 (u5.2.2 21)) 22 (S.2.2 22)) 23 (u5.2.2 23)) 24 (u5.2.2 24)) 25 (S.2.2 25)))) h5 rfl rfl rfl rfl rfl rfl rfl rfl rfl rfl rfl rfl rfl rfl rfl rfl rfl rfl rfl rfl rfl rfl rfl rfl rfl rfl rfl rfl rfl rfl rfl _
      have q2 := gx_eqnr (k := 39) (gx_lit 39 (by decide)) q
      refine gf_if (Q := gp_Qr Pg S lo R) (fun q => ?_) (fun q => ?_)
      · have q3 := gx_eqr (k := 91) (gx_lit 91 (by decide)) q
        have e1 : gp_ms tx ty (a, p, f :: fs, nA, nC) = gp_kR tx ty a p (f :: fs) nA nC (gp_cl tx ty (a + 1)) := (if_neg n1).trans ((if_neg (show ¬ gp_pk tx ty a = 46 by omega)).trans ((if_neg (show ¬ gp_pk tx ty a = 39 by omega)).trans (if_pos (show gp_pk tx ty a = 91 by omega))))
        rw [← hR, e1]
        refine gf_ca (Q := gp_Qr Pg S lo (gp_kR tx ty a p (f :: fs) nA nC (gp_cl tx ty (a + 1)))) (gp_Qw Pg _ lo (gp_kR tx ty a p (f :: fs) nA nC (gp_cl tx ty (a + 1)))) (gz_readClass _ ht hP hf hf2 hp (show ((S.1 9) (Int32.toNatClampNeg (S.2.2 5))).toInt ≤ 120 by omega) hi (show (S.2.2 21).toInt ≤ 60 by omega) ha hpx (by omega) (hgP _ _ (Or.inr ⟨show gp_pk tx ty a = 91 by omega, rfl, rfl⟩))) ?_
        intro r5 u5 h5
        exact gp_Qw_r (S := S) (W := ((va_up (va_up (va_up (va_up (va_up (va_up (va_up (va_up (va_up (va_up (va_up (va_up S.1 8 (S.1 8)) 9 (u5.1 9)) 10 (u5.1 10)) 11 (u5.1 11)) 12 (u5.1 12)) 13 (u5.1 13)) 26 (S.1 26)) 27 (S.1 27)) 28 (S.1 28)) 29 (S.1 29)) 30 (u5.1 30)) 31 (S.1 31)), (va_up (va_up S.2.1 17 (u5.2.1 17)) 18 (u5.2.1 18)), (va_up (va_up (va_up (va_up (va_up (va_up (va_up S.2.2 19 (u5.2.2 19)) 20 (S.2.2 20)) 21 (u5.2.2 21)) 22 (S.2.2 22)) 23 (u5.2.2 23)) 24 (u5.2.2 24)) 25 (S.2.2 25)))) h5 rfl rfl rfl rfl rfl rfl rfl rfl rfl rfl rfl rfl rfl rfl rfl rfl rfl rfl rfl rfl rfl rfl rfl rfl rfl rfl rfl rfl rfl rfl rfl _
      have q3 := gx_eqnr (k := 91) (gx_lit 91 (by decide)) q
      refine gf_if (Q := gp_Qr Pg S lo R) (fun q => ?_) (fun q => ?_)
      · have q4 := gx_eqr (k := 40) (gx_lit 40 (by decide)) q
        exact j120 (Or.inl (by omega))
      have q4 := gx_eqnr (k := 40) (gx_lit 40 (by decide)) q
      refine gf_if (Q := gp_Qr Pg S lo R) (fun q => ?_) (fun q => ?_)
      · have q5 := gx_eqr (k := 123) (gx_lit 123 (by decide)) q
        exact j120 (Or.inr (by omega))
      have q5 := gx_eqnr (k := 123) (gx_lit 123 (by decide)) q
      exact j206 (fun t => by omega) (by omega) (by omega) (by omega)
    refine gf_if (Q := gp_Qr Pg S lo R) (fun q => ?_) (fun q => ?_)
    · have q1 := gx_ltr (k := 65) (gx_lit 65 (by decide)) q
      exact other (by omega)
    have q1 := gx_ltnr (k := 65) (gx_lit 65 (by decide)) q
    refine gf_if (Q := gp_Qr Pg S lo R) (fun q => ?_) (fun q => ?_)
    · have q2 := gx_ltl (k := 90) (gx_lit 90 (by decide)) q
      exact other (by omega)
    have q2 := gx_ltnl (k := 90) (gx_lit 90 (by decide)) q
    rw [← hR, (show gp_ms tx ty (a, p, f :: fs, nA, nC) = .inr (.inl (gp_pm tx ty (gp_e0 3 (gp_pk tx ty a).toNat 0) (a + 1, p, f :: fs, nA, nC))) from if_pos (show 65 ≤ gp_pk tx ty a ∧ gp_pk tx ty a ≤ 90 by omega))]
    refine gf_ca (Q := gp_Qr Pg S lo (.inr (.inl (gp_pm tx ty (gp_e0 3 (gp_pk tx ty a).toNat 0) (a + 1, p, f :: fs, nA, nC))))) (gp_cQ 3 r1 (-1) _) (gz_create 3 r1 (-1) _ hf hf2 hp (show ((S.1 9) (Int32.toNatClampNeg (S.2.2 5))).toInt ≤ 150 by omega)) ?_
    intro r u hu
    have hu9 : u.1 9 = upd (S.1 9) (Int32.toNatClampNeg (S.2.2 5)) ((S.1 9) (Int32.toNatClampNeg (S.2.2 5)) + 1) := hu.2.1
    have bb := gx_ak ((S.1 9) (Int32.toNatClampNeg (S.2.2 5))) 1 1 (by decide)
    have P1 : ((u.1 9) (Int32.toNatClampNeg (S.2.2 5))).toInt = ((S.1 9) (Int32.toNatClampNeg (S.2.2 5))).toInt + 1 := by rw [hu9, gx_us]; omega
    have H := gp_H_0 (r := r) (S2 := ((va_up (va_up (va_up (va_up (va_up S.1 9 (u.1 9)) 10 (u.1 10)) 11 (u.1 11)) 12 (u.1 12)) 13 (u.1 13)), (va_up (va_up S.2.1 17 (u.2.1 17)) 18 (u.2.1 18)), (va_up S.2.2 19 ((S.2.2 19) + 1)))) hP hu rfl rfl rfl rfl rfl rfl rfl rfl rfl (k := 3) (b := (gp_pk tx ty a).toNat) (c := 0) (by omega) (gx_lit 3 (by decide)) (fun t => absurd t (by omega)) (fun _ => by omega) (fun t => absurd t (by omega)) rfl rfl rfl rfl rfl rfl rfl rfl rfl rfl rfl rfl rfl rfl rfl rfl rfl
    refine gf_ca (Q := gp_Qr Pg S lo (.inr (.inl (gp_pm tx ty (gp_e0 3 (gp_pk tx ty a).toNat 0) (a + 1, p, f :: fs, nA, nC))))) (gp_Qp Pg _ lo (gp_pm tx ty (gp_e0 3 (gp_pk tx ty a).toNat 0) (a + 1, p, f :: fs, nA, nC))) (gz_primary r _ ht H.1 hf hf2 (show 0 ≤ ((u.1 9) (Int32.toNatClampNeg (S.2.2 5))).toInt by omega) (show ((u.1 9) (Int32.toNatClampNeg (S.2.2 5))).toInt ≤ 145 by omega) hi (show (S.2.2 21).toInt ≤ 60 by omega) b1 (by omega) hpx) ?_
    intro r6 u6 h6
    exact ⟨Or.inr ⟨rfl, h6.1, rfl, rfl⟩, gp_O_t H.2 h6.2⟩
