/-! Rules that are undefined, as the reference finds them. -/
/-- no rule of the half fr has the name y -/
def gp_nd (rc nm : Nat → Int32) (fr y : Int32) : Prop := ∀ k : Nat, (k : Int) < (rc (Int32.toNatClampNeg fr)).toInt → ∀ j : Nat, (j : Int) = 8 * fr.toInt + k → nm j ≠ y
def gp_un (rc nm kd on ow : Nat → Int32) (fr x : Int32) (lo hi : Int) (v : Int32) : Prop :=
  (v = 0 ∧ ∀ n : Nat, lo ≤ n → (n : Int) < hi → ow n = x → kd n = 3 → ¬ gp_nd rc nm fr (on n)) ∨
  (v = 1 ∧ ∃ n : Nat, lo ≤ n ∧ (n : Int) < hi ∧ ow n = x ∧ kd n = 3 ∧ gp_nd rc nm fr (on n))
theorem gp_un_0 {rc nm kd on ow : Nat → Int32} {fr x : Int32} {lo hi : Int} {N : Nat} (h : gp_un rc nm kd on ow fr x lo hi 0) (hN : (N : Int) = hi) (h1 : ow N = x → kd N = 3 → ¬ gp_nd rc nm fr (on N)) : gp_un rc nm kd on ow fr x lo (hi + 1) 0 := by
  rcases h with ⟨-, h⟩ | ⟨h, -⟩
  · refine Or.inl ⟨rfl, fun n a b => ?_⟩
    by_cases q : n = N
    · rw [q]; exact h1
    · exact h n a (by omega)
  · exact absurd h (by decide)
theorem gp_un_1 {rc nm kd on ow : Nat → Int32} {fr x v : Int32} {lo hi : Int} (h : gp_un rc nm kd on ow fr x lo hi v) (hv : ¬ v = 0) : gp_un rc nm kd on ow fr x lo (hi + 1) 1 := by
  rcases h with ⟨h, -⟩ | ⟨-, n, a, b, c⟩
  · exact absurd h hv
  · exact Or.inr ⟨rfl, n, a, by omega, c⟩
/-- what meant answers, against the order of the parts -/
theorem gp_me_un {ty fr y z : Int32} {rc nm wh pa kd on tw ow : Nat → Int32} {i l : Int32} {it al : Nat → Int32} {e : Int} (hG : gm_iS e ty fr rc nm wh pa kd on tw ow i l it al) (hf : 0 ≤ fr.toInt) (h : gp_me rc nm wh fr y z) : (z = -1 ∧ gp_nd rc nm fr y) ∨ (¬ z = -1 ∧ ¬ gp_nd rc nm fr y ∧ 160 * fr.toInt ≤ z.toInt ∧ z.toInt < 160 * fr.toInt + (pa (Int32.toNatClampNeg fr)).toInt) := by
  obtain ⟨r, h1, h2⟩ := h
  rcases h2 with ⟨hr, hz⟩ | ⟨h0, hR, hw⟩
  · rcases h1 with ⟨-, h3⟩ | ⟨h3, -⟩
    · exact Or.inl ⟨hz, h3⟩
    · rw [hr] at h3
      exact absurd h3 (by decide)
  · have c := gx_cl r h0
    have a := hG.2.2.2 (Int32.toNatClampNeg r) (by omega) (8 * Int32.toNatClampNeg fr + Int32.toNatClampNeg r) (by have := gx_cl fr hf; omega)
    have ez := hw (8 * Int32.toNatClampNeg fr + Int32.toNatClampNeg r) (by have := gx_cl fr hf; omega)
    rw [← ez] at a
    refine Or.inr ⟨fun q => ?_, fun q => ?_, a.2.2.1, a.2.2.2⟩
    · have e1 : z.toInt = -1 := by rw [q]; decide
      omega
    · rcases h1 with ⟨h3, -⟩ | ⟨-, -, h3, -⟩
      · rw [h3] at h0
        exact absurd h0 (by decide)
      · exact q (Int32.toNatClampNeg r) (by omega) (8 * Int32.toNatClampNeg fr + Int32.toNatClampNeg r) (by have := gx_cl fr hf; omega) (h3 _ (by have := gx_cl fr hf; omega))
theorem gy_un_11 (x : Int32) (S : gm_S) {i l : Int32} {it al : Nat → Int32} {e : Int} (hf : gm_iN 1 (S.2.2 5)) (hG : gm_iS e (S.2.2 2) (S.2.2 5) (S.1 6) (S.1 7) (S.1 8) (S.1 9) (S.1 10) (S.1 11) (S.1 12) (S.1 13) i l it al) (hP : 0 ≤ ((S.1 9) (Int32.toNatClampNeg (S.2.2 5))).toInt) (hP2 : ((S.1 9) (Int32.toNatClampNeg (S.2.2 5))).toInt ≤ 160) (hR : ((S.1 6) (Int32.toNatClampNeg (S.2.2 5))).toInt ≤ 8) :
    ∀ (n : Nat) (v3 v2 : Int32) (S2 : gm_S), 160 * (S.2.2 5).toInt ≤ v3.toInt → v3.toInt ≤ 160 * (S.2.2 5).toInt + ((S.1 9) (Int32.toNatClampNeg (S.2.2 5))).toInt → 160 * (S.2.2 5).toInt + ((S.1 9) (Int32.toNatClampNeg (S.2.2 5))).toInt < v3.toInt + n → gp_un (S.1 6) (S.1 7) (S.1 10) (S.1 11) (S.1 13) (S.2.2 5) x (160 * (S.2.2 5).toInt) v3.toInt v2 → gm_p_MD_isUndefined_11 x S n v3 v2 S2 ∧ (fun z : Int32 × gm_S => gp_un (S.1 6) (S.1 7) (S.1 10) (S.1 11) (S.1 13) (S.2.2 5) x (160 * (S.2.2 5).toInt) (160 * (S.2.2 5).toInt + ((S.1 9) (Int32.toNatClampNeg (S.2.2 5))).toInt) z.1) (gm_f_MD_isUndefined_11 x S n v3 v2 S2) := by
  have m := gx_mk 160 (S.2.2 5) 160 (gx_lit 160 (by decide))
  have s := gx_ad (160 * (S.2.2 5)) ((S.1 9) (Int32.toNatClampNeg (S.2.2 5)))
  have T : (160 * (S.2.2 5) + (S.1 9) (Int32.toNatClampNeg (S.2.2 5))).toInt = 160 * (S.2.2 5).toInt + ((S.1 9) (Int32.toNatClampNeg (S.2.2 5))).toInt := by omega
  clear m s
  obtain ⟨Q, hQ⟩ : ∃ Q : Int32 × gm_S → Prop, Q = (fun z : Int32 × gm_S => gp_un (S.1 6) (S.1 7) (S.1 10) (S.1 11) (S.1 13) (S.2.2 5) x (160 * (S.2.2 5).toInt) (160 * (S.2.2 5).toInt + ((S.1 9) (Int32.toNatClampNeg (S.2.2 5))).toInt) z.1) := ⟨_, rfl⟩
  rw [← hQ]
  intro n
  induction n with
  | zero => intro v3 v2 S2 h0 h1 h2; exfalso; omega
  | succ n ih =>
    intro v3 v2 S2 h0 h1 h2 hU
    rw [gm_p_MD_isUndefined_11, gm_f_MD_isUndefined_11]
    refine gx_in (Q := Q) (vp_in_iff.mpr (by omega)) ?_
    refine gx_if (Q := Q) (fun h => ?_) (fun h => ?_)
    · have a := gx_le h
      have e3 : v3.toInt = 160 * (S.2.2 5).toInt + ((S.1 9) (Int32.toNatClampNeg (S.2.2 5))).toInt := by omega
      rw [e3] at hU
      refine gx_in (Q := Q) (by rcases hU with ⟨q, -⟩ | ⟨q, -⟩; exact Or.inl q; exact Or.inr q) ⟨trivial, ?_⟩
      rw [hQ]
      exact hU
    · have a := gx_len h
      rw [T] at a
      have b := gx_ak v3 1 1 (by decide)
      have e1 : (v3 + 1).toInt = v3.toInt + 1 := by omega
      have c := gx_cl v3 (by omega)
      have step : ∀ w : Int32, gp_un (S.1 6) (S.1 7) (S.1 10) (S.1 11) (S.1 13) (S.2.2 5) x (160 * (S.2.2 5).toInt) (v3.toInt + 1) w → gm_p_MD_isUndefined_11 x S n (v3 + 1) w S ∧ Q (gm_f_MD_isUndefined_11 x S n (v3 + 1) w S) := fun w hw => ih (v3 + 1) w S (by omega) (by omega) (by omega) (by rw [e1]; exact hw)
      refine gx_if (Q := Q) (fun h2 => ?_) (fun h2 => step 1 (gp_un_1 hU h2))
      rw [h2] at hU
      refine gx_in (Q := Q) (vp_in_iff.mpr (by omega)) ?_
      refine gx_if (Q := Q) (fun h3 => ?_) (fun h3 => step 0 (gp_un_0 hU c (fun q => absurd q h3)))
      refine gx_in (Q := Q) (vp_in_iff.mpr (by omega)) ?_
      refine gx_if (Q := Q) (fun h4 => ?_) (fun h4 => step 0 (gp_un_0 hU c (fun _ q => absurd q h4)))
      refine gx_ca (Q := Q) (fun z => gp_me (S.1 6) (S.1 7) (S.1 8) (S.2.2 5) ((S.1 11) (Int32.toNatClampNeg v3)) z.1) (gy_s_MD_meant v3 (S.2.2 5) S hf.1 hf.2 hR h0 (by omega)) ?_
      intro r u h5
      have h6 := gp_me_un hG hf.1 (show gp_me (S.1 6) (S.1 7) (S.1 8) (S.2.2 5) ((S.1 11) (Int32.toNatClampNeg v3)) r from h5)
      refine gx_if (Q := Q) (fun h7 => step 1 ?_) (fun h7 => step 0 (gp_un_0 hU c (fun _ _ => ?_)))
      · rcases h6 with ⟨-, q⟩ | ⟨q, -⟩
        · exact Or.inr ⟨rfl, Int32.toNatClampNeg v3, by omega, by omega, h3, h4, q⟩
        · exact absurd h7 q
      · rcases h6 with ⟨q, -⟩ | ⟨-, q, -⟩
        · exact absurd q h7
        · exact q
theorem gy_s_MD_isUndefined (x : Int32) (S : gm_S) {i l : Int32} {it al : Nat → Int32} {e : Int} (hf : gm_iN 1 (S.2.2 5)) (hG : gm_iS e (S.2.2 2) (S.2.2 5) (S.1 6) (S.1 7) (S.1 8) (S.1 9) (S.1 10) (S.1 11) (S.1 12) (S.1 13) i l it al) (hP : 0 ≤ ((S.1 9) (Int32.toNatClampNeg (S.2.2 5))).toInt) (hP2 : ((S.1 9) (Int32.toNatClampNeg (S.2.2 5))).toInt ≤ 160) (hR : ((S.1 6) (Int32.toNatClampNeg (S.2.2 5))).toInt ≤ 8) :
    gm_p_MD_isUndefined x S ∧ (fun z : Int32 × gm_S => gp_un (S.1 6) (S.1 7) (S.1 10) (S.1 11) (S.1 13) (S.2.2 5) x (160 * (S.2.2 5).toInt) (160 * (S.2.2 5).toInt + ((S.1 9) (Int32.toNatClampNeg (S.2.2 5))).toInt) z.1) (gm_f_MD_isUndefined x S) := by
  have m := gx_mk 160 (S.2.2 5) 160 (gx_lit 160 (by decide))
  unfold gm_p_MD_isUndefined gm_f_MD_isUndefined
  exact gy_un_11 x S hf hG hP hP2 hR 200 _ 0 S (by omega) (by omega) (by omega) (Or.inl ⟨rfl, fun n a b => by omega⟩)
