/-! Which rule has a name, and what a name means. -/
theorem gx_dv (x : Int32) (h : 0 ≤ x.toInt) : (x / 160).toInt = x.toInt / 160 := by
  have e : (160 : Int32).toInt = 160 := gx_lit 160 (by decide)
  have a := lg_idiv_nonneg (x := x) (y := 160) h (by omega)
  rw [e] at a
  exact a
/-- r is the first rule of the half x that has the name y, or -1 -/
def gp_ru (rc nm : Nat → Int32) (x y r : Int32) : Prop :=
  (r = -1 ∧ ∀ k : Nat, (k : Int) < (rc (Int32.toNatClampNeg x)).toInt → ∀ j : Nat, (j : Int) = 8 * x.toInt + k → nm j ≠ y) ∨
  (0 ≤ r.toInt ∧ r.toInt < (rc (Int32.toNatClampNeg x)).toInt ∧ (∀ j : Nat, (j : Int) = 8 * x.toInt + r.toInt → nm j = y) ∧ ∀ k : Nat, (k : Int) < r.toInt → ∀ j : Nat, (j : Int) = 8 * x.toInt + k → nm j ≠ y)
theorem gy_ru_2 (x y : Int32) (S : gm_S) (hx : 0 ≤ x.toInt) (hx2 : x.toInt ≤ 1) (hr : ((S.1 6) (Int32.toNatClampNeg x)).toInt ≤ 8) : ∀ (n : Nat) (v : Int32) (S2 : gm_S), 0 ≤ v.toInt → v.toInt ≤ 8 → 8 < v.toInt + n → (∀ k : Nat, (k : Int) < v.toInt → ∀ j : Nat, (j : Int) = 8 * x.toInt + k → S.1 7 j ≠ y) → gm_p_MD_ruleOf_2 x y S n v S2 ∧ (fun z : Int32 × gm_S => gp_ru (S.1 6) (S.1 7) x y z.1) (gm_f_MD_ruleOf_2 x y S n v S2) := by
  intro n
  induction n with
  | zero => intro v S2 h0 h1 h2; exfalso; omega
  | succ n ih =>
    intro v S2 h0 h1 h2 hk
    rw [gm_p_MD_ruleOf_2, gm_f_MD_ruleOf_2]
    refine gx_in (Q := fun z : Int32 × gm_S => gp_ru (S.1 6) (S.1 7) x y z.1) (vp_in_iff.mpr (by omega)) ?_
    refine gx_if (Q := fun z : Int32 × gm_S => gp_ru (S.1 6) (S.1 7) x y z.1) (fun h => ?_) (fun h => ?_)
    · have a := gx_le h
      exact ⟨trivial, Or.inl ⟨rfl, fun k hk1 j hj => hk k (by omega) j hj⟩⟩
    · have a := gx_len h
      have m := gx_mk 8 x 8 (gx_lit 8 (by decide))
      have s := gx_ad (8 * x) v
      have e : (8 * x + v).toInt = 8 * x.toInt + v.toInt := by omega
      have c := gx_cl (8 * x + v) (by omega)
      rw [e] at c
      refine gx_in (Q := fun z : Int32 × gm_S => gp_ru (S.1 6) (S.1 7) x y z.1) (vp_in_iff.mpr (by omega)) ?_
      refine gx_if (Q := fun z : Int32 × gm_S => gp_ru (S.1 6) (S.1 7) x y z.1) (fun h' => ?_) (fun h' => ?_)
      · refine ⟨trivial, Or.inr ⟨h0, a, fun j hj => ?_, hk⟩⟩
        have hj : (j : Int) = 8 * x.toInt + v.toInt := hj
        have : j = Int32.toNatClampNeg (8 * x + v) := by omega
        rw [this]; exact h'
      · have b := gx_ak v 1 1 (by decide)
        have e1 : (v + 1).toInt = v.toInt + 1 := by omega
        refine ih (v + 1) S (by omega) (by omega) (by omega) (fun k hk1 j hj => ?_)
        by_cases q : (k : Int) = v.toInt
        · have : j = Int32.toNatClampNeg (8 * x + v) := by omega
          rw [this]; exact h'
        · exact hk k (by omega) j hj
theorem gy_s_MD_ruleOf (x y : Int32) (S : gm_S) (hx : 0 ≤ x.toInt) (hx2 : x.toInt ≤ 1) (hr : ((S.1 6) (Int32.toNatClampNeg x)).toInt ≤ 8) : gm_p_MD_ruleOf x y S ∧ (fun z : Int32 × gm_S => gp_ru (S.1 6) (S.1 7) x y z.1) (gm_f_MD_ruleOf x y S) := by
  have z : (0 : Int32).toInt = 0 := by decide
  unfold gm_p_MD_ruleOf gm_f_MD_ruleOf
  exact gy_ru_2 x y S hx hx2 hr 200 0 S (by omega) (by omega) (by omega) (fun k hk => by omega)
/-- z is the part that a name y means in the half fr, or -1 -/
def gp_me (rc nm wh : Nat → Int32) (fr y z : Int32) : Prop :=
  ∃ r : Int32, gp_ru rc nm fr y r ∧ ((r = -1 ∧ z = -1) ∨ (0 ≤ r.toInt ∧ r.toInt < (rc (Int32.toNatClampNeg fr)).toInt ∧ ∀ j : Nat, (j : Int) = 8 * fr.toInt + r.toInt → z = wh j))
theorem gy_s_MD_meant (x fr : Int32) (S : gm_S) (hf : 0 ≤ fr.toInt) (hf2 : fr.toInt ≤ 1) (hR : ((S.1 6) (Int32.toNatClampNeg fr)).toInt ≤ 8) (hx : 160 * fr.toInt ≤ x.toInt) (hx2 : x.toInt < 160 * fr.toInt + 160) : gm_p_MD_meant x S ∧ (fun z : Int32 × gm_S => gp_me (S.1 6) (S.1 7) (S.1 8) fr ((S.1 11) (Int32.toNatClampNeg x)) z.1) (gm_f_MD_meant x S) := by
  have d := gx_dv x (by omega)
  have e : x / 160 = fr := Int32.toInt_inj.mp (by omega)
  unfold gm_p_MD_meant gm_f_MD_meant
  rw [e]
  refine gx_in (Q := fun z : Int32 × gm_S => gp_me (S.1 6) (S.1 7) (S.1 8) fr ((S.1 11) (Int32.toNatClampNeg x)) z.1) (vp_in_iff.mpr (by omega)) ?_
  refine gx_ca (Q := fun z : Int32 × gm_S => gp_me (S.1 6) (S.1 7) (S.1 8) fr ((S.1 11) (Int32.toNatClampNeg x)) z.1) (fun z => gp_ru (S.1 6) (S.1 7) fr ((S.1 11) (Int32.toNatClampNeg x)) z.1) (gy_s_MD_ruleOf fr _ S hf hf2 hR) ?_
  intro r u h
  have h : gp_ru (S.1 6) (S.1 7) fr ((S.1 11) (Int32.toNatClampNeg x)) r := h
  refine gx_if (Q := fun z : Int32 × gm_S => gp_me (S.1 6) (S.1 7) (S.1 8) fr ((S.1 11) (Int32.toNatClampNeg x)) z.1) (fun c => ⟨trivial, r, h, Or.inl ⟨c, rfl⟩⟩) (fun c => ?_)
  have h' := h
  rcases h' with ⟨h1, -⟩ | ⟨h1, h2, -, -⟩
  · exact absurd h1 c
  · have m := gx_mk 8 fr 8 (gx_lit 8 (by decide))
    have s := gx_ad (8 * fr) r
    have e1 : (8 * fr + r).toInt = 8 * fr.toInt + r.toInt := by omega
    have c1 := gx_cl (8 * fr + r) (by omega)
    rw [e1] at c1
    refine gx_in (Q := fun z : Int32 × gm_S => gp_me (S.1 6) (S.1 7) (S.1 8) fr ((S.1 11) (Int32.toNatClampNeg x)) z.1) (vp_in_iff.mpr (by omega)) ⟨trivial, r, h, Or.inr ⟨h1, h2, fun j hj => ?_⟩⟩
    have : j = Int32.toNatClampNeg (8 * fr + r) := by omega
    rw [this]
