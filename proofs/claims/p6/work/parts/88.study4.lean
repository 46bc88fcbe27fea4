theorem gy_st135 (S : gm_S) (v3_23 : Int32) (S_23 : gm_S) (v3_59 : Int32) (S_59 : gm_S) (v3_86 : Int32) (S_86 : gm_S) (v3_127 : Int32) (S_127 : gm_S) (hU : gm_iU (S.2.2 2) (S.2.2 5) (S.1 6) (S.1 7) (S.1 8) (S.1 9) (S.1 10) (S.1 11) (S.1 12) (S.1 13)) (ht : (S.2.2 2).toInt ≤ 50) {Q : Int32 × gm_S → Prop} {B Pn : Nat} (hB : (B : Int) = 160 * (S.2.2 5).toInt) (hPn : (Pn : Int) = ((S.1 9) (Int32.toNatClampNeg (S.2.2 5))).toInt) (xb xl xh : Nat → Nat → Bool) :
    ∀ (n : Nat) (v4 : Int32) (T : gm_S) (kp : Int32 → gm_S → Prop) (kf : Int32 → gm_S → Int32 × gm_S), (∀ j, T.1 15 j = 0 ∨ T.1 15 j = 1) → (∀ k : Nat, (k : Int) < (S.2.2 2).toInt → ∀ j : Nat, (j : Int) = 50 * (S.2.2 5).toInt + k → 32 ≤ (T.1 14 j).toInt ∧ (T.1 14 j).toInt ≤ 126) → 160 * (S.2.2 5).toInt ≤ v4.toInt → v4.toInt ≤ 160 * (S.2.2 5).toInt + ((S.1 9) (Int32.toNatClampNeg (S.2.2 5))).toInt → 160 * (S.2.2 5).toInt + ((S.1 9) (Int32.toNatClampNeg (S.2.2 5))).toInt < v4.toInt + n →
      gp_al (S.1 10) (S.1 11) (S.1 12) (fun n => gp_mz (S.1 6) (S.1 7) (S.1 8) (S.2.2 5) (S.1 11 n)) (fun n => gp_rz (S.1 6) (S.1 7) (S.2.2 5) (S.1 11 n)) (fun j => T.1 15 j = 1) (fun n => (T.1 14 (50 * Int32.toNatClampNeg (S.2.2 5) + Int32.toNatClampNeg (S.1 11 n))).toInt) B (Int32.toNatClampNeg v4 - B) xb xl xh (T.1 16) (T.2.1 17) (T.2.1 18) →
      (∀ (w : Int32) (W : gm_S), W.1 15 = T.1 15 → W.1 14 = T.1 14 → gp_al (S.1 10) (S.1 11) (S.1 12) (fun n => gp_mz (S.1 6) (S.1 7) (S.1 8) (S.2.2 5) (S.1 11 n)) (fun n => gp_rz (S.1 6) (S.1 7) (S.2.2 5) (S.1 11 n)) (fun j => T.1 15 j = 1) (fun n => (T.1 14 (50 * Int32.toNatClampNeg (S.2.2 5) + Int32.toNatClampNeg (S.1 11 n))).toInt) B Pn xb xl xh (W.1 16) (W.2.1 17) (W.2.1 18) → kp w W ∧ Q (kf w W)) →
      gm_p_MD_study_135 S v3_23 S_23 v3_59 S_59 v3_86 S_86 v3_127 S_127 n v4 T kp ∧ Q (gm_f_MD_study_135 S v3_23 S_23 v3_59 S_59 v3_86 S_86 v3_127 S_127 n v4 T kf) := by
  have hf := hU.1
  have hp := hU.2.1
  have m := gx_mk 160 (S.2.2 5) 160 (gx_lit 160 (by decide))
  have s := gx_ad (160 * (S.2.2 5)) ((S.1 9) (Int32.toNatClampNeg (S.2.2 5)))
  have TT : (160 * (S.2.2 5) + (S.1 9) (Int32.toNatClampNeg (S.2.2 5))).toInt = 160 * (S.2.2 5).toInt + ((S.1 9) (Int32.toNatClampNeg (S.2.2 5))).toInt := by omega
  clear m s
  intro n
  induction n with
  | zero => intro v4 T kp kf hb hc h0 h1 h2; exfalso; omega
  | succ n ih =>
    intro v4 T kp kf hb hc h0 h1 h2 hv hk
    have c := gx_cl v4 (by omega)
    rw [gm_p_MD_study_135, gm_f_MD_study_135]
    refine gx_if (Q := Q) (fun h => ?_) (fun h => ?_)
    · have a := gx_le h
      rw [TT] at a
      have e : Int32.toNatClampNeg v4 - B = Pn := by omega
      rw [e] at hv
      exact hk v4 _ rfl rfl hv
    · have a := gx_len h
      rw [TT] at a
      have b := gx_ak v4 1 1 (by decide)
      have e1 : (v4 + 1).toInt = v4.toInt + 1 := by omega
      have c1 := gx_cl (v4 + 1) (by omega)
      rw [e1] at c1
      have ek : Int32.toNatClampNeg v4 = B + (Int32.toNatClampNeg v4 - B) := by omega
      have ek1 : Int32.toNatClampNeg (v4 + 1) - B = (Int32.toNatClampNeg v4 - B) + 1 := by omega
      refine gx_ca (Q := Q) (fun z : Int32 × gm_S => ∀ q : Nat, q < 32 → (gp_bt z.1 q = true ↔ gp_bF (S.1 10) (S.1 11) (S.1 12) (fun n => gp_mz (S.1 6) (S.1 7) (S.1 8) (S.2.2 5) (S.1 11 n)) (fun n => gp_rz (S.1 6) (S.1 7) (S.2.2 5) (S.1 11 n)) (fun j => T.1 15 j = 1) (fun j => gp_bt (T.1 16 j) q = true) q (Int32.toNatClampNeg v4))) (gy_s_MD_beginsOf v4 _ (ty := S.2.2 2) (fr := S.2.2 5) hU hb h0 a) ?_
      intro r u h5
      have h5 : ∀ q : Nat, q < 32 → (gp_bt r q = true ↔ gp_bF (S.1 10) (S.1 11) (S.1 12) (fun n => gp_mz (S.1 6) (S.1 7) (S.1 8) (S.2.2 5) (S.1 11 n)) (fun n => gp_rz (S.1 6) (S.1 7) (S.2.2 5) (S.1 11 n)) (fun j => T.1 15 j = 1) (fun j => gp_bt (T.1 16 j) q = true) q (Int32.toNatClampNeg v4)) := h5
      refine gx_in (Q := Q) (vp_in_iff.mpr (by omega)) ?_
      have fh := gy_s_MD_findHead v4 (gp_tu S (va_up T.1 16 (upd (T.1 16) (Int32.toNatClampNeg v4) r), T.2.1, T.2.2)) (ty := S.2.2 2) (fr := S.2.2 5) hU ht hb hc h0 a
      refine gx_ca (Q := Q) (fun z : Int32 × gm_S => ∃ a b : Int64, z.2.2.1 17 = vp_updL (T.2.1 17) (Int32.toNatClampNeg v4) a ∧ z.2.2.1 18 = vp_updL (T.2.1 18) (Int32.toNatClampNeg v4) b ∧
        (∀ q : Nat, q < 64 → (gp_bl a q = true ↔ (gp_bl (T.2.1 17 (Int32.toNatClampNeg v4)) q = true ∨ gp_hF (S.1 10) (S.1 11) (S.1 12) (fun n => gp_mz (S.1 6) (S.1 7) (S.1 8) (S.2.2 5) (S.1 11 n)) (fun j => T.1 15 j = 1) (fun j => gp_bl (T.2.1 17 j) q = true) ((fun n => (T.1 14 (50 * Int32.toNatClampNeg (S.2.2 5) + Int32.toNatClampNeg (S.1 11 n))).toInt) (Int32.toNatClampNeg v4) < 96 ∧ (q : Int) = (fun n => (T.1 14 (50 * Int32.toNatClampNeg (S.2.2 5) + Int32.toNatClampNeg (S.1 11 n))).toInt) (Int32.toNatClampNeg v4) - 32) (Int32.toNatClampNeg v4)))) ∧
        (∀ q : Nat, q < 64 → (gp_bl b q = true ↔ (gp_bl (T.2.1 18 (Int32.toNatClampNeg v4)) q = true ∨ gp_hF (S.1 10) (S.1 11) (S.1 12) (fun n => gp_mz (S.1 6) (S.1 7) (S.1 8) (S.2.2 5) (S.1 11 n)) (fun j => T.1 15 j = 1) (fun j => gp_bl (T.2.1 18 j) q = true) (96 ≤ (fun n => (T.1 14 (50 * Int32.toNatClampNeg (S.2.2 5) + Int32.toNatClampNeg (S.1 11 n))).toInt) (Int32.toNatClampNeg v4) ∧ (q : Int) = (fun n => (T.1 14 (50 * Int32.toNatClampNeg (S.2.2 5) + Int32.toNatClampNeg (S.1 11 n))).toInt) (Int32.toNatClampNeg v4) - 96) (Int32.toNatClampNeg v4))))) fh ?_
      intro r' u' h6
      obtain ⟨A, D, e17, e18, hA, hD⟩ := h6
      have e17 : u'.2.1 17 = vp_updL (T.2.1 17) (Int32.toNatClampNeg v4) A := e17
      have e18 : u'.2.1 18 = vp_updL (T.2.1 18) (Int32.toNatClampNeg v4) D := e18
      rw [ek] at h5 hA hD
      have st := gp_al_step hU hB (k := Int32.toNatClampNeg v4 - B) (by omega) hv h5 hA hD
      rw [← ek] at st
      rw [← e17, ← e18] at st
      refine ih (v4 + 1) _ kp kf hb hc (by omega) (by omega) (by omega) ?_ ?_
      · rw [ek1]
        exact st
      · exact hk
