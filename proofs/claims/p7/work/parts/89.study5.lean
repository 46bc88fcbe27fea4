/-- after k rounds, from nothing: begins; from the parts' own sets: heads -/
def gp_ai (kd on tw M R : Nat → Int32) (em : Nat → Prop) (C : Nat → Int) (B Pn k : Nat) (xb xl xh : Nat → Nat → Bool) (bg : Nat → Int32) (lo hi : Nat → Int64) : Prop :=
  (∀ q : Nat, q < 32 → gp_vb bg q B = gp_it (gp_FB kd on tw M R em q B) Pn k (xb q)) ∧
  (∀ q : Nat, q < 64 → gp_vl lo q B = gp_it (gp_FH kd on tw M em (fun n => C n < 96 ∧ (q : Int) = C n - 32) B) Pn k (xl q)) ∧
  (∀ q : Nat, q < 64 → gp_vl hi q B = gp_it (gp_FH kd on tw M em (fun n => 96 ≤ C n ∧ (q : Int) = C n - 96) B) Pn k (xh q))
theorem gy_st127 (S : gm_S) (v3_23 : Int32) (S_23 : gm_S) (v3_59 : Int32) (S_59 : gm_S) (v3_86 : Int32) (S_86 : gm_S) (hU : gm_iU (S.2.2 2) (S.2.2 5) (S.1 6) (S.1 7) (S.1 8) (S.1 9) (S.1 10) (S.1 11) (S.1 12) (S.1 13)) (ht : (S.2.2 2).toInt ≤ 50) {B Pn : Nat} (hB : (B : Int) = 160 * (S.2.2 5).toInt) (hPn : (Pn : Int) = ((S.1 9) (Int32.toNatClampNeg (S.2.2 5))).toInt) (xb xl xh : Nat → Nat → Bool) (E5 K4 : Nat → Int32) (hb : ∀ j, E5 j = 0 ∨ E5 j = 1) (hc : ∀ k : Nat, (k : Int) < (S.2.2 2).toInt → ∀ j : Nat, (j : Int) = 50 * (S.2.2 5).toInt + k → 32 ≤ (K4 j).toInt ∧ (K4 j).toInt ≤ 126) :
    ∀ (n : Nat) (v3 : Int32) (T : gm_S), T.1 15 = E5 → T.1 14 = K4 → 160 * (S.2.2 5).toInt ≤ v3.toInt → v3.toInt ≤ 160 * (S.2.2 5).toInt + ((S.1 9) (Int32.toNatClampNeg (S.2.2 5))).toInt → 160 * (S.2.2 5).toInt + ((S.1 9) (Int32.toNatClampNeg (S.2.2 5))).toInt < v3.toInt + n →
      gp_ai (S.1 10) (S.1 11) (S.1 12) (fun n => gp_mz (S.1 6) (S.1 7) (S.1 8) (S.2.2 5) (S.1 11 n)) (fun n => gp_rz (S.1 6) (S.1 7) (S.2.2 5) (S.1 11 n)) (fun j => E5 j = 1) (fun n => (K4 (50 * Int32.toNatClampNeg (S.2.2 5) + Int32.toNatClampNeg (S.1 11 n))).toInt) B Pn (Int32.toNatClampNeg v3 - B) xb xl xh (T.1 16) (T.2.1 17) (T.2.1 18) →
      gm_p_MD_study_127 S v3_23 S_23 v3_59 S_59 v3_86 S_86 n v3 T ∧ (fun z : Int32 × gm_S => z.2.1 15 = E5 ∧ z.2.1 14 = K4 ∧ gp_ai (S.1 10) (S.1 11) (S.1 12) (fun n => gp_mz (S.1 6) (S.1 7) (S.1 8) (S.2.2 5) (S.1 11 n)) (fun n => gp_rz (S.1 6) (S.1 7) (S.2.2 5) (S.1 11 n)) (fun j => E5 j = 1) (fun n => (K4 (50 * Int32.toNatClampNeg (S.2.2 5) + Int32.toNatClampNeg (S.1 11 n))).toInt) B Pn Pn xb xl xh (z.2.1 16) (z.2.2.1 17) (z.2.2.1 18)) (gm_f_MD_study_127 S v3_23 S_23 v3_59 S_59 v3_86 S_86 n v3 T) := by
  have hf := hU.1
  have hp := hU.2.1
  have m := gx_mk 160 (S.2.2 5) 160 (gx_lit 160 (by decide))
  have s := gx_ad (160 * (S.2.2 5)) ((S.1 9) (Int32.toNatClampNeg (S.2.2 5)))
  have TT : (160 * (S.2.2 5) + (S.1 9) (Int32.toNatClampNeg (S.2.2 5))).toInt = 160 * (S.2.2 5).toInt + ((S.1 9) (Int32.toNatClampNeg (S.2.2 5))).toInt := by omega
  have M0 : (160 * (S.2.2 5)).toInt = 160 * (S.2.2 5).toInt := by omega
  have cM := gx_cl (160 * (S.2.2 5)) (by omega)
  rw [M0] at cM
  clear m s
  obtain ⟨Q, hQ⟩ : ∃ Q : Int32 × gm_S → Prop, Q = (fun z : Int32 × gm_S => z.2.1 15 = E5 ∧ z.2.1 14 = K4 ∧ gp_ai (S.1 10) (S.1 11) (S.1 12) (fun n => gp_mz (S.1 6) (S.1 7) (S.1 8) (S.2.2 5) (S.1 11 n)) (fun n => gp_rz (S.1 6) (S.1 7) (S.2.2 5) (S.1 11 n)) (fun j => E5 j = 1) (fun n => (K4 (50 * Int32.toNatClampNeg (S.2.2 5) + Int32.toNatClampNeg (S.1 11 n))).toInt) B Pn Pn xb xl xh (z.2.1 16) (z.2.2.1 17) (z.2.2.1 18)) := ⟨_, rfl⟩
  rw [← hQ]
  intro n
  induction n with
  | zero => intro v3 T t1 t2 h0 h1 h2; exfalso; omega
  | succ n ih =>
    intro v3 T t1 t2 h0 h1 h2 hv
    have c := gx_cl v3 (by omega)
    rw [gm_p_MD_study_127, gm_f_MD_study_127]
    refine gx_if (Q := Q) (fun h => ?_) (fun h => ?_)
    · have a := gx_le h
      rw [TT] at a
      have e : Int32.toNatClampNeg v3 - B = Pn := by omega
      rw [e] at hv
      refine ⟨trivial, ?_⟩
      rw [hQ]
      exact ⟨t1, t2, hv⟩
    · have a := gx_len h
      rw [TT] at a
      have b := gx_ak v3 1 1 (by decide)
      have e1 : (v3 + 1).toInt = v3.toInt + 1 := by omega
      have c1 := gx_cl (v3 + 1) (by omega)
      rw [e1] at c1
      have ek1 : Int32.toNatClampNeg (v3 + 1) - B = (Int32.toNatClampNeg v3 - B) + 1 := by omega
      subst t1
      subst t2
      refine gy_st135 S v3_23 S_23 v3_59 S_59 v3_86 S_86 v3 T hU ht hB hPn (fun q => gp_it (gp_FB (S.1 10) (S.1 11) (S.1 12) (fun n => gp_mz (S.1 6) (S.1 7) (S.1 8) (S.2.2 5) (S.1 11 n)) (fun n => gp_rz (S.1 6) (S.1 7) (S.2.2 5) (S.1 11 n)) (fun j => T.1 15 j = 1) q B) Pn (Int32.toNatClampNeg v3 - B) (xb q)) (fun q => gp_it (gp_FH (S.1 10) (S.1 11) (S.1 12) (fun n => gp_mz (S.1 6) (S.1 7) (S.1 8) (S.2.2 5) (S.1 11 n)) (fun j => T.1 15 j = 1) (fun n => (fun n => (T.1 14 (50 * Int32.toNatClampNeg (S.2.2 5) + Int32.toNatClampNeg (S.1 11 n))).toInt) n < 96 ∧ (q : Int) = (fun n => (T.1 14 (50 * Int32.toNatClampNeg (S.2.2 5) + Int32.toNatClampNeg (S.1 11 n))).toInt) n - 32) B) Pn (Int32.toNatClampNeg v3 - B) (xl q)) (fun q => gp_it (gp_FH (S.1 10) (S.1 11) (S.1 12) (fun n => gp_mz (S.1 6) (S.1 7) (S.1 8) (S.2.2 5) (S.1 11 n)) (fun j => T.1 15 j = 1) (fun n => 96 ≤ (fun n => (T.1 14 (50 * Int32.toNatClampNeg (S.2.2 5) + Int32.toNatClampNeg (S.1 11 n))).toInt) n ∧ (q : Int) = (fun n => (T.1 14 (50 * Int32.toNatClampNeg (S.2.2 5) + Int32.toNatClampNeg (S.1 11 n))).toInt) n - 96) B) Pn (Int32.toNatClampNeg v3 - B) (xh q)) 200 (160 * (S.2.2 5)) (gp_tu S T) _ _ hb hc (by omega) (by omega) (by omega) ?_ ?_
      · have e0 : Int32.toNatClampNeg (160 * (S.2.2 5)) - B = 0 := by omega
        rw [e0]
        exact hv
      · intro w W g1 g2 g3
        refine ih (v3 + 1) (gp_tu S W) g1 g2 (by omega) (by omega) (by omega) ?_
        rw [ek1]
        exact g3
