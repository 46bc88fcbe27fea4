/-! The reference's small questions, by what they answer. -/
theorem gp_sm64 : ∀ q : Nat, q < 64 → (Int64.ofNat q).toBitVec.smod 64 = BitVec.ofNat 64 q := by decide +kernel
theorem gp_bit64 (v : Int64) (q : Nat) (hq : q < 64) : (v >>> Int64.ofNat q) &&& 1 = 1 ↔ gp_bl v q = true := by
  rw [← Int64.toBitVec_inj, Int64.toBitVec_and, Int64.toBitVec_shiftRight, gp_sm64 q hq]
  unfold gp_bl
  have e : v.toBitVec.sshiftRight' (BitVec.ofNat 64 q) = v.toBitVec.sshiftRight q := by
    unfold BitVec.sshiftRight'
    rw [BitVec.toNat_ofNat, Nat.mod_eq_of_lt (by omega)]
  rw [e]
  have o : (1 : Int64).toBitVec = 1#64 := rfl
  rw [o, BitVec.and_one_eq_setWidth_ofBool_getLsbD, BitVec.getLsbD_sshiftRight]
  have s : (!decide (64 ≤ 0) && if q + 0 < 64 then v.toBitVec.getLsbD (q + 0) else v.toBitVec.msb) = v.toBitVec.getLsbD q := by
    rw [Nat.add_zero, if_pos hq]
    rfl
  rw [s]
  cases v.toBitVec.getLsbD q
  · exact ⟨fun h => absurd h (by decide), fun h => by cases h⟩
  · exact ⟨fun _ => rfl, fun _ => by decide⟩
theorem gp_sm32 : ∀ q : Nat, q < 8 → (nI q &&& 31).toBitVec.smod 32 = BitVec.ofNat 32 q := by decide +kernel
theorem gp_bit32 (v : Int32) (q : Nat) (hq : q < 8) : (v >>> (nI q &&& 31)) &&& 1 = 1 ↔ gp_bt v q = true := by
  rw [← Int32.toBitVec_inj, Int32.toBitVec_and, Int32.toBitVec_shiftRight, gp_sm32 q hq]
  unfold gp_bt
  have e : v.toBitVec.sshiftRight' (BitVec.ofNat 32 q) = v.toBitVec.sshiftRight q := by
    unfold BitVec.sshiftRight'
    rw [BitVec.toNat_ofNat, Nat.mod_eq_of_lt (by omega)]
  rw [e]
  have o : (1 : Int32).toBitVec = 1#32 := rfl
  rw [o, BitVec.and_one_eq_setWidth_ofBool_getLsbD, BitVec.getLsbD_sshiftRight]
  have s : (!decide (32 ≤ 0) && if q + 0 < 32 then v.toBitVec.getLsbD (q + 0) else v.toBitVec.msb) = v.toBitVec.getLsbD q := by
    rw [Nat.add_zero, if_pos (by omega)]
    rfl
  rw [s]
  cases v.toBitVec.getLsbD q
  · exact ⟨fun h => absurd h (by decide), fun h => by cases h⟩
  · exact ⟨fun _ => rfl, fun _ => by decide⟩
theorem gp_sq_lo : ∀ j : Nat, j < 64 → (nI (j + 32) - 32).toInt64 &&& 63 = Int64.ofNat j := by decide +kernel
theorem gp_sq_hi : ∀ j : Nat, j < 31 → (nI (j + 96) - 96).toInt64 &&& 63 = Int64.ofNat j := by decide +kernel
theorem gp_cmp0 (x y : Int64) : lg_cmp x y = 0 ↔ x = y := by
  unfold lg_cmp
  by_cases h : x > y
  · rw [if_pos h]
    exact ⟨fun q => absurd q (by decide), fun q => (by rw [q] at h; exact absurd h Int64.lt_irrefl)⟩
  · rw [if_neg h]
    by_cases e : x = y
    · rw [if_pos e]; exact ⟨fun _ => e, fun _ => rfl⟩
    · rw [if_neg e]; exact ⟨fun q => absurd q (by decide), fun q => absurd q e⟩
def gp_ihQ (S : gm_S) (x y : Int32) (z : Int32 × gm_S) : Prop := (z.1 = 0 ∧ ¬ gp_ih (S.2.1 17) (S.2.1 18) (Int32.toNatClampNeg x) y.toInt) ∨ (z.1 = 1 ∧ gp_ih (S.2.1 17) (S.2.1 18) (Int32.toNatClampNeg x) y.toInt)
theorem gz_isInHead (x y : Int32) (S : gm_S) (hx : 0 ≤ x.toInt) (hx2 : x.toInt < 320) : gm_p_MD_isInHead x y S ∧ gp_ihQ S x y (gm_f_MD_isInHead x y S) := by
  obtain ⟨Q, hQ⟩ : ∃ Q : Int32 × gm_S → Prop, Q = (gp_ihQ S x y) := ⟨_, rfl⟩
  rw [← hQ]
  have ix : vp_in x 320 := vp_in_iff.mpr (by omega)
  have yes : gp_ih (S.2.1 17) (S.2.1 18) (Int32.toNatClampNeg x) y.toInt → Q (1, S) := fun h => by rw [hQ]; exact Or.inr ⟨rfl, h⟩
  have no : ¬ gp_ih (S.2.1 17) (S.2.1 18) (Int32.toNatClampNeg x) y.toInt → Q (0, S) := fun h => by rw [hQ]; exact Or.inl ⟨rfl, h⟩
  unfold gm_p_MD_isInHead gm_f_MD_isInHead
  refine gx_if (Q := Q) (fun q => ?_) (fun q => ?_)
  · have q1 := gx_ltr (k := 32) (gx_lit 32 (by decide)) q
    exact ⟨trivial, no (fun h => by unfold gp_ih at h; omega)⟩
  have q1 := gx_ltnr (k := 32) (gx_lit 32 (by decide)) q
  refine gx_if (Q := Q) (fun q => ?_) (fun q => ?_)
  · have q2 := gx_ler (k := 126) (gx_lit 126 (by decide)) q
    have ey : y = nI (Int32.toNatClampNeg y) := by
      obtain ⟨j, hj, e⟩ := nI_of (x := y) (fun h9 => by have := gx_ltr (k := 0) (by decide) h9; omega)
      rw [e, nI_clamp hj]
    have cy := gx_cl y (by omega)
    refine gx_if (Q := Q) (fun q => ?_) (fun q => ?_)
    · have q3 := gx_lel (k := 96) (gx_lit 96 (by decide)) q
      have e1 : (y - 96).toInt64 &&& 63 = Int64.ofNat (y.toInt - 96).toNat := by
        have := gp_sq_hi (y.toInt - 96).toNat (by omega)
        rw [show (y.toInt - 96).toNat + 96 = Int32.toNatClampNeg y by omega, ← ey] at this
        exact this
      rw [e1]
      refine gx_in (Q := Q) ix ?_
      refine gx_if (Q := Q) (fun t => ⟨trivial, yes ?_⟩) (fun t => ⟨trivial, no ?_⟩)
      · rw [gp_cmp0, gp_bit64 _ _ (by omega)] at t
        exact Or.inr ⟨q3, q2, t⟩
      · rw [gp_cmp0, gp_bit64 _ _ (by omega)] at t
        rintro (⟨-, h, -⟩ | ⟨-, -, h⟩)
        · omega
        · exact t h
    · have q3 := gx_lenl (k := 96) (gx_lit 96 (by decide)) q
      have e1 : (y - 32).toInt64 &&& 63 = Int64.ofNat (y.toInt - 32).toNat := by
        have := gp_sq_lo (y.toInt - 32).toNat (by omega)
        rw [show (y.toInt - 32).toNat + 32 = Int32.toNatClampNeg y by omega, ← ey] at this
        exact this
      rw [e1]
      refine gx_in (Q := Q) ix ?_
      refine gx_if (Q := Q) (fun t => ⟨trivial, yes ?_⟩) (fun t => ⟨trivial, no ?_⟩)
      · rw [gp_cmp0, gp_bit64 _ _ (by omega)] at t
        exact Or.inl ⟨q1, q3, t⟩
      · rw [gp_cmp0, gp_bit64 _ _ (by omega)] at t
        rintro (⟨-, -, h⟩ | ⟨h, -, -⟩)
        · exact t h
        · omega
  · have q2 := gx_lenr (k := 126) (gx_lit 126 (by decide)) q
    exact ⟨trivial, no (fun h => by unfold gp_ih at h; omega)⟩
/-- a part can't begin here -/
def gp_out (em : Nat → Int32) (lw hg : Nat → Int64) (sb : Nat → Int32) (fed n p : Nat) : Prop := em n = 0 ∧ (p = fed ∨ ¬ gp_ih lw hg n (sb p).toInt)
def gp_ouQ (S : gm_S) (fed : Nat) (x y : Int32) (z : Int32 × gm_S) : Prop := (z.1 = 0 ∧ ¬ gp_out (S.1 15) (S.2.1 17) (S.2.1 18) (S.1 33) fed (Int32.toNatClampNeg x) (Int32.toNatClampNeg y)) ∨ (z.1 = 1 ∧ gp_out (S.1 15) (S.2.1 17) (S.2.1 18) (S.1 33) fed (Int32.toNatClampNeg x) (Int32.toNatClampNeg y))
theorem gz_isOut (x y : Int32) (S : gm_S) {fed : Nat} (hx : 0 ≤ x.toInt) (hx2 : x.toInt < 320) (hf : (S.2.2 32).toInt = fed) (hf2 : fed ≤ 10) (hy : 0 ≤ y.toInt) (hy2 : y.toInt ≤ fed) : gm_p_MD_isOut x y S ∧ (gp_ouQ S fed x y) (gm_f_MD_isOut x y S) := by
  obtain ⟨Q, hQ⟩ : ∃ Q : Int32 × gm_S → Prop, Q = (gp_ouQ S fed x y) := ⟨_, rfl⟩
  rw [← hQ]
  have cy := gx_cl y hy
  have yes : gp_out (S.1 15) (S.2.1 17) (S.2.1 18) (S.1 33) fed (Int32.toNatClampNeg x) (Int32.toNatClampNeg y) → Q (1, S) := fun h => by rw [hQ]; exact Or.inr ⟨rfl, h⟩
  have no : ¬ gp_out (S.1 15) (S.2.1 17) (S.2.1 18) (S.1 33) fed (Int32.toNatClampNeg x) (Int32.toNatClampNeg y) → Q (0, S) := fun h => by rw [hQ]; exact Or.inl ⟨rfl, h⟩
  unfold gm_p_MD_isOut gm_f_MD_isOut
  refine gx_in (Q := Q) (vp_in_iff.mpr (by omega)) ?_
  refine gx_if (Q := Q) (fun q => ?_) (fun q => ⟨trivial, no (fun h => q h.1)⟩)
  refine gx_if (Q := Q) (fun t => ⟨trivial, yes ⟨q, Or.inl ?_⟩⟩) (fun t => ?_)
  · have := gx_eq t; omega
  · have t1 := gx_eqn t
    refine gx_in (Q := Q) (vp_in_iff.mpr (by omega)) ?_
    refine gx_ca (Q := Q) _ (gz_isInHead x _ S hx hx2) ?_
    intro r u hr
    refine gx_if (Q := Q) (fun w => ⟨trivial, yes ⟨q, Or.inr ?_⟩⟩) (fun w => ⟨trivial, no ?_⟩)
    · rcases hr with ⟨-, hr⟩ | ⟨hr, -⟩
      · exact hr
      · have hr : r = 1 := hr
        rw [hr] at w; exact absurd w (by decide)
    · rcases hr with ⟨hr, -⟩ | ⟨-, hr⟩
      · exact absurd hr w
      · rintro ⟨-, h | h⟩
        · omega
        · exact h hr
/-- a row stands here -/
def gp_row (on tw sb kp : Nat → Int32) (b fed n p : Nat) : Prop := (p : Int) + (tw n).toInt ≤ fed ∧ ∀ i : Nat, (i : Int) < (tw n).toInt → sb (p + i) = kp (50 * b + Int32.toNatClampNeg (on n) + i)
theorem gz_row24 (x y : Int32) (S : gm_S) (k0 : Int32) (Sj : gm_S) {fed : Nat} (hb : 0 ≤ (S.2.2 4).toInt) (hb2 : (S.2.2 4).toInt ≤ 1) (hx : 0 ≤ x.toInt) (hx2 : x.toInt < 320) (hf2 : fed ≤ 10) (hy : 0 ≤ y.toInt) (o0 : 0 ≤ (S.1 11 (Int32.toNatClampNeg x)).toInt) (ot : (S.1 11 (Int32.toNatClampNeg x)).toInt + (S.1 12 (Int32.toNatClampNeg x)).toInt ≤ 50) (t1 : 1 ≤ (S.1 12 (Int32.toNatClampNeg x)).toInt) (hk : k0 = 0 ∨ k0 = 1) (hk2 : k0 = 1 → y.toInt + (S.1 12 (Int32.toNatClampNeg x)).toInt ≤ fed) : ∀ (n : Nat) (v4 v3 : Int32) (U : gm_S), 0 ≤ v4.toInt → v4.toInt ≤ (S.1 12 (Int32.toNatClampNeg x)).toInt → (S.1 12 (Int32.toNatClampNeg x)).toInt < v4.toInt + n → ((v3 = 0 ∧ (k0 = 0 ∨ ∃ i : Nat, (i : Int) < (S.1 12 (Int32.toNatClampNeg x)).toInt ∧ ¬ S.1 33 (Int32.toNatClampNeg y + i) = S.1 14 (50 * Int32.toNatClampNeg (S.2.2 4) + Int32.toNatClampNeg (S.1 11 (Int32.toNatClampNeg x)) + i))) ∨ (v3 = 1 ∧ k0 = 1 ∧ ∀ i : Nat, (i : Int) < v4.toInt → S.1 33 (Int32.toNatClampNeg y + i) = S.1 14 (50 * Int32.toNatClampNeg (S.2.2 4) + Int32.toNatClampNeg (S.1 11 (Int32.toNatClampNeg x)) + i))) →
    gm_p_MD_isRow_24 x y S k0 Sj n v4 v3 U ∧ (fun z : Int32 × gm_S => (z.1 = 0 ∧ (k0 = 0 ∨ ∃ i : Nat, (i : Int) < (S.1 12 (Int32.toNatClampNeg x)).toInt ∧ ¬ S.1 33 (Int32.toNatClampNeg y + i) = S.1 14 (50 * Int32.toNatClampNeg (S.2.2 4) + Int32.toNatClampNeg (S.1 11 (Int32.toNatClampNeg x)) + i))) ∨ (z.1 = 1 ∧ k0 = 1 ∧ ∀ i : Nat, (i : Int) < (S.1 12 (Int32.toNatClampNeg x)).toInt → S.1 33 (Int32.toNatClampNeg y + i) = S.1 14 (50 * Int32.toNatClampNeg (S.2.2 4) + Int32.toNatClampNeg (S.1 11 (Int32.toNatClampNeg x)) + i))) (gm_f_MD_isRow_24 x y S k0 Sj n v4 v3 U) := by
  obtain ⟨Q, hQ⟩ : ∃ Q : Int32 × gm_S → Prop, Q = (fun z : Int32 × gm_S => (z.1 = 0 ∧ (k0 = 0 ∨ ∃ i : Nat, (i : Int) < (S.1 12 (Int32.toNatClampNeg x)).toInt ∧ ¬ S.1 33 (Int32.toNatClampNeg y + i) = S.1 14 (50 * Int32.toNatClampNeg (S.2.2 4) + Int32.toNatClampNeg (S.1 11 (Int32.toNatClampNeg x)) + i))) ∨ (z.1 = 1 ∧ k0 = 1 ∧ ∀ i : Nat, (i : Int) < (S.1 12 (Int32.toNatClampNeg x)).toInt → S.1 33 (Int32.toNatClampNeg y + i) = S.1 14 (50 * Int32.toNatClampNeg (S.2.2 4) + Int32.toNatClampNeg (S.1 11 (Int32.toNatClampNeg x)) + i))) := ⟨_, rfl⟩
  rw [← hQ]
  have ix : vp_in x 320 := vp_in_iff.mpr (by omega)
  have cy := gx_cl y hy
  have cb := gx_cl (S.2.2 4) hb
  have co := gx_cl _ o0
  have m5 := gx_mk 50 (S.2.2 4) 50 (gx_lit 50 (by decide))
  have s5 := gx_ad (50 * (S.2.2 4)) (S.1 11 (Int32.toNatClampNeg x))
  have e5 : ((50 * (S.2.2 4)) + (S.1 11 (Int32.toNatClampNeg x))).toInt = 50 * (S.2.2 4).toInt + (S.1 11 (Int32.toNatClampNeg x)).toInt := by omega
  intro n
  induction n with
  | zero => intro v4 v3 U h0 h1 h2; exfalso; omega
  | succ n ih =>
    intro v4 v3 U h0 h1 h2 hv
    rw [gm_p_MD_isRow_24, gm_f_MD_isRow_24]
    refine gx_in (Q := Q) ix ?_
    have v01 : v3 = 0 ∨ v3 = 1 := by rcases hv with ⟨q, -⟩ | ⟨q, -⟩; (exact Or.inl q); (exact Or.inr q)
    refine gx_if (Q := Q) (fun q => gx_in (Q := Q) v01 ⟨trivial, ?_⟩) (fun q => ?_)
    · have q1 := gx_le q
      rw [hQ]
      rcases hv with hv | ⟨a, b, c⟩
      · exact Or.inl hv
      · exact Or.inr ⟨a, b, fun i hi => c i (by omega)⟩
    have q1 := gx_len q
    refine gx_if (Q := Q) (fun t => gx_in (Q := Q) v01 ⟨trivial, ?_⟩) (fun t => ?_)
    · rw [hQ]
      rcases hv with hv | ⟨a, -⟩
      · exact Or.inl hv
      · rw [t] at a; exact absurd a (by decide)
    · rcases hv with ⟨a, -⟩ | ⟨a, b, c⟩
      · exact absurd a t
      have k2 := hk2 b
      have s1 := gx_ad y v4
      have s2 := gx_ad ((50 * (S.2.2 4)) + (S.1 11 (Int32.toNatClampNeg x))) v4
      have cv := gx_cl v4 h0
      have c1 := gx_cl (y + v4) (by omega)
      have c2 := gx_cl (((50 * (S.2.2 4)) + (S.1 11 (Int32.toNatClampNeg x))) + v4) (by omega)
      have e1 : Int32.toNatClampNeg (y + v4) = Int32.toNatClampNeg y + Int32.toNatClampNeg v4 := by omega
      have e2 : Int32.toNatClampNeg (((50 * (S.2.2 4)) + (S.1 11 (Int32.toNatClampNeg x))) + v4) = 50 * Int32.toNatClampNeg (S.2.2 4) + Int32.toNatClampNeg (S.1 11 (Int32.toNatClampNeg x)) + Int32.toNatClampNeg v4 := by omega
      have b1 := gx_ak v4 1 1 (by decide)
      refine gx_in (Q := Q) (vp_in_iff.mpr (by omega)) (gx_in (Q := Q) ix (gx_in (Q := Q) (vp_in_iff.mpr (by omega)) ?_))
      rw [e1, e2]
      refine gx_if (Q := Q) (fun w => ?_) (fun w => ?_)
      · refine ih _ _ _ (by omega) (by omega) (by omega) (Or.inr ⟨rfl, b, fun i hi => ?_⟩)
        by_cases r : i = Int32.toNatClampNeg v4
        · rw [r]; exact w
        · exact c i (by omega)
      · exact ih _ _ _ (by omega) (by omega) (by omega) (Or.inl ⟨rfl, Or.inr ⟨Int32.toNatClampNeg v4, by omega, w⟩⟩)
def gp_roQ (S : gm_S) (fed : Nat) (x y : Int32) (z : Int32 × gm_S) : Prop := (z.1 = 0 ∧ ¬ gp_row (S.1 11) (S.1 12) (S.1 33) (S.1 14) (Int32.toNatClampNeg (S.2.2 4)) fed (Int32.toNatClampNeg x) (Int32.toNatClampNeg y)) ∨ (z.1 = 1 ∧ gp_row (S.1 11) (S.1 12) (S.1 33) (S.1 14) (Int32.toNatClampNeg (S.2.2 4)) fed (Int32.toNatClampNeg x) (Int32.toNatClampNeg y))
theorem gz_isRow (x y : Int32) (S : gm_S) {fed : Nat} (hb : 0 ≤ (S.2.2 4).toInt) (hb2 : (S.2.2 4).toInt ≤ 1) (hx : 0 ≤ x.toInt) (hx2 : x.toInt < 320) (hf : (S.2.2 32).toInt = fed) (hf2 : fed ≤ 10) (hy : 0 ≤ y.toInt) (hy2 : y.toInt ≤ fed) (o0 : 0 ≤ (S.1 11 (Int32.toNatClampNeg x)).toInt) (ot : (S.1 11 (Int32.toNatClampNeg x)).toInt + (S.1 12 (Int32.toNatClampNeg x)).toInt ≤ 50) (t1 : 1 ≤ (S.1 12 (Int32.toNatClampNeg x)).toInt) : gm_p_MD_isRow x y S ∧ (gp_roQ S fed x y) (gm_f_MD_isRow x y S) := by
  have cy := gx_cl y hy
  have s1 := gx_ad y (S.1 12 (Int32.toNatClampNeg x))
  have z0 : (0 : Int32).toInt = 0 := by decide
  unfold gm_p_MD_isRow gm_f_MD_isRow
  refine gx_in (vp_in_iff.mpr (by omega)) ?_
  by_cases q : (S.2.2 32) < (y + (S.1 12 (Int32.toNatClampNeg x)))
  · have q1 := gx_lt q
    have w := gz_row24 x y S 0 S hb hb2 hx hx2 hf2 hy o0 ot t1 (Or.inl rfl) (fun t => absurd t (by decide)) 200 0 0 S (by omega) (by omega) (by omega) (Or.inl ⟨rfl, Or.inl rfl⟩)
    rw [if_pos q]
    refine ⟨⟨fun _ => w.1, fun t => absurd q t⟩, ?_⟩
    have w2 := w.2
    unfold gm_f_MD_isRow_j20
    rcases w2 with ⟨a, -⟩ | ⟨-, b, -⟩
    · exact Or.inl ⟨a, fun t => by have := t.1; omega⟩
    · exact absurd b (by decide)
  · have q1 := gx_ltn q
    have w := gz_row24 x y S 1 S hb hb2 hx hx2 hf2 hy o0 ot t1 (Or.inr rfl) (fun _ => by omega) 200 0 1 S (by omega) (by omega) (by omega) (Or.inr ⟨rfl, rfl, fun i hi => by omega⟩)
    rw [if_neg q]
    refine ⟨⟨fun t => absurd t q, fun _ => w.1⟩, ?_⟩
    have w2 := w.2
    unfold gm_f_MD_isRow_j20
    rcases w2 with ⟨a, b | ⟨i, b1, b2⟩⟩ | ⟨a, -, b⟩
    · exact absurd b (by decide)
    · exact Or.inl ⟨a, fun t => b2 (t.2 i b1)⟩
    · exact Or.inr ⟨a, by omega, b⟩
