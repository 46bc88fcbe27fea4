theorem gy_st94 (S : gm_S) (v3_23 : Int32) (S_23 : gm_S) (v3_59 : Int32) (S_59 : gm_S) (v3_86 : Int32) (S_86 : gm_S) (hU : gm_iU (S.2.2 2) (S.2.2 5) (S.1 6) (S.1 7) (S.1 8) (S.1 9) (S.1 10) (S.1 11) (S.1 12) (S.1 13)) {Q : Int32 × gm_S → Prop} {B Pn : Nat} (hB : (B : Int) = 160 * (S.2.2 5).toInt) (hPn : (Pn : Int) = ((S.1 9) (Int32.toNatClampNeg (S.2.2 5))).toInt) (x0 : Nat → Bool) :
    ∀ (n : Nat) (v4 : Int32) (T : gm_S) (kp : Int32 → gm_S → Prop) (kf : Int32 → gm_S → Int32 × gm_S), (∀ j, T.1 15 j = 0 ∨ T.1 15 j = 1) → 160 * (S.2.2 5).toInt ≤ v4.toInt → v4.toInt ≤ 160 * (S.2.2 5).toInt + ((S.1 9) (Int32.toNatClampNeg (S.2.2 5))).toInt → 160 * (S.2.2 5).toInt + ((S.1 9) (Int32.toNatClampNeg (S.2.2 5))).toInt < v4.toInt + n →
      gp_v (T.1 15) B = gp_sw (gp_FE (S.1 10) (S.1 11) (S.1 12) (fun n => gp_mz (S.1 6) (S.1 7) (S.1 8) (S.2.2 5) (S.1 11 n)) B) (Int32.toNatClampNeg v4 - B) x0 →
      (∀ (w : Int32) (W : gm_S), (∀ j, W.1 15 j = 0 ∨ W.1 15 j = 1) → gp_v (W.1 15) B = gp_sw (gp_FE (S.1 10) (S.1 11) (S.1 12) (fun n => gp_mz (S.1 6) (S.1 7) (S.1 8) (S.2.2 5) (S.1 11 n)) B) Pn x0 → W.1 14 = T.1 14 → W.1 16 = T.1 16 → W.2.1 17 = T.2.1 17 → W.2.1 18 = T.2.1 18 → kp w W ∧ Q (kf w W)) →
      gm_p_MD_study_94 S v3_23 S_23 v3_59 S_59 v3_86 S_86 n v4 T kp ∧ Q (gm_f_MD_study_94 S v3_23 S_23 v3_59 S_59 v3_86 S_86 n v4 T kf) := by
  have hf := hU.1
  have hp := hU.2.1
  have m := gx_mk 160 (S.2.2 5) 160 (gx_lit 160 (by decide))
  have s := gx_ad (160 * (S.2.2 5)) ((S.1 9) (Int32.toNatClampNeg (S.2.2 5)))
  have TT : (160 * (S.2.2 5) + (S.1 9) (Int32.toNatClampNeg (S.2.2 5))).toInt = 160 * (S.2.2 5).toInt + ((S.1 9) (Int32.toNatClampNeg (S.2.2 5))).toInt := by omega
  clear m s
  intro n
  induction n with
  | zero => intro v4 T kp kf hb h0 h1 h2; exfalso; omega
  | succ n ih =>
    intro v4 T kp kf hb h0 h1 h2 hv hk
    have c := gx_cl v4 (by omega)
    rw [gm_p_MD_study_94, gm_f_MD_study_94]
    refine gx_if (Q := Q) (fun h => ?_) (fun h => ?_)
    · have a := gx_le h
      rw [TT] at a
      have e : Int32.toNatClampNeg v4 - B = Pn := by omega
      rw [e] at hv
      exact hk v4 _ hb hv rfl rfl rfl rfl
    · have a := gx_len h
      rw [TT] at a
      have b := gx_ak v4 1 1 (by decide)
      have e1 : (v4 + 1).toInt = v4.toInt + 1 := by omega
      have c1 := gx_cl (v4 + 1) (by omega)
      rw [e1] at c1
      refine gx_ca (Q := Q) (gp_eQ (S.1 10) (S.1 11) (S.1 12) (fun n => gp_mz (S.1 6) (S.1 7) (S.1 8) (S.2.2 5) (S.1 11 n)) (T.1 15) (Int32.toNatClampNeg v4)) (gy_s_MD_isEmpty v4 _ (ty := S.2.2 2) (fr := S.2.2 5) hU hb h0 a) ?_
      intro r u h5
      have h6 : r = 0 ∨ r = 1 := h5.1
      have h7 : r = 1 ↔ gp_eF (S.1 10) (S.1 11) (S.1 12) (fun n => gp_mz (S.1 6) (S.1 7) (S.1 8) (S.2.2 5) (S.1 11 n)) (fun j => T.1 15 j = 1) (Int32.toNatClampNeg v4) := h5.2
      refine gx_in (Q := Q) (vp_in_iff.mpr (by omega)) ?_
      have ek : Int32.toNatClampNeg v4 = B + (Int32.toNatClampNeg v4 - B) := by omega
      have ek1 : Int32.toNatClampNeg (v4 + 1) - B = (Int32.toNatClampNeg v4 - B) + 1 := by omega
      rw [ek] at h7
      have st := gp_sw_step hU hB (k := Int32.toNatClampNeg v4 - B) (by omega) hv h7
      rw [← ek] at st
      refine ih (v4 + 1) _ kp kf ?_ (by omega) (by omega) (by omega) ?_ ?_
      · exact gx_u (P := fun z => z = 0 ∨ z = 1) hb (gx_nb r)
      · rw [ek1]
        show gp_v (upd (T.1 15) (Int32.toNatClampNeg v4) (vp_nar .boolean r)) B = _
        rw [gx_nr h6]
        exact st
      · intro w W g1 g2 g3 g4 g5 g6
        exact hk w W g1 g2 g3 g4 g5 g6
