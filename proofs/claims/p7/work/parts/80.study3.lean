/-- the state of study's loops -/
abbrev gp_tu (S U : gm_S) : gm_S := ((va_up (va_up (va_up S.1 14 (U.1 14)) 15 (U.1 15)) 16 (U.1 16)), (va_up (va_up S.2.1 17 (U.2.1 17)) 18 (U.2.1 18)), S.2.2)
theorem gy_st86 (S : gm_S) (v3_23 : Int32) (S_23 : gm_S) (v3_59 : Int32) (S_59 : gm_S) (hU : gm_iU (S.2.2 2) (S.2.2 5) (S.1 6) (S.1 7) (S.1 8) (S.1 9) (S.1 10) (S.1 11) (S.1 12) (S.1 13)) {Q : Int32 × gm_S → Prop} {B Pn : Nat} (hB : (B : Int) = 160 * (S.2.2 5).toInt) (hPn : (Pn : Int) = ((S.1 9) (Int32.toNatClampNeg (S.2.2 5))).toInt) (x0 : Nat → Bool) :
    ∀ (n : Nat) (v3 : Int32) (T : gm_S), (∀ j, T.1 15 j = 0 ∨ T.1 15 j = 1) → 160 * (S.2.2 5).toInt ≤ v3.toInt → v3.toInt ≤ 160 * (S.2.2 5).toInt + ((S.1 9) (Int32.toNatClampNeg (S.2.2 5))).toInt → 160 * (S.2.2 5).toInt + ((S.1 9) (Int32.toNatClampNeg (S.2.2 5))).toInt < v3.toInt + n →
      gp_v (T.1 15) B = gp_it (gp_FE (S.1 10) (S.1 11) (S.1 12) (fun n => gp_mz (S.1 6) (S.1 7) (S.1 8) (S.2.2 5) (S.1 11 n)) B) Pn (Int32.toNatClampNeg v3 - B) x0 →
      (∀ (v : Int32) (U : gm_S), (∀ j, U.1 15 j = 0 ∨ U.1 15 j = 1) → gp_v (U.1 15) B = gp_it (gp_FE (S.1 10) (S.1 11) (S.1 12) (fun n => gp_mz (S.1 6) (S.1 7) (S.1 8) (S.2.2 5) (S.1 11 n)) B) Pn Pn x0 → U.1 14 = T.1 14 → U.1 16 = T.1 16 → U.2.1 17 = T.2.1 17 → U.2.1 18 = T.2.1 18 → gm_p_MD_study_127 S v3_23 S_23 v3_59 S_59 v U 200 (160 * (S.2.2 5)) (gp_tu S U) ∧ Q (gm_f_MD_study_127 S v3_23 S_23 v3_59 S_59 v U 200 (160 * (S.2.2 5)) (gp_tu S U))) →
      gm_p_MD_study_86 S v3_23 S_23 v3_59 S_59 n v3 T ∧ Q (gm_f_MD_study_86 S v3_23 S_23 v3_59 S_59 n v3 T) := by
  have hf := hU.1
  have hp := hU.2.1
  have m := gx_mk 160 (S.2.2 5) 160 (gx_lit 160 (by decide))
  have s := gx_ad (160 * (S.2.2 5)) ((S.1 9) (Int32.toNatClampNeg (S.2.2 5)))
  have TT : (160 * (S.2.2 5) + (S.1 9) (Int32.toNatClampNeg (S.2.2 5))).toInt = 160 * (S.2.2 5).toInt + ((S.1 9) (Int32.toNatClampNeg (S.2.2 5))).toInt := by omega
  have M0 : (160 * (S.2.2 5)).toInt = 160 * (S.2.2 5).toInt := by omega
  have cM := gx_cl (160 * (S.2.2 5)) (by omega)
  rw [M0] at cM
  clear m s
  intro n
  induction n with
  | zero => intro v3 T hb h0 h1 h2; exfalso; omega
  | succ n ih =>
    intro v3 T hb h0 h1 h2 hv hn
    have c := gx_cl v3 (by omega)
    rw [gm_p_MD_study_86, gm_f_MD_study_86]
    refine gx_if (Q := Q) (fun h => ?_) (fun h => ?_)
    · have a := gx_le h
      rw [TT] at a
      have e : Int32.toNatClampNeg v3 - B = Pn := by omega
      rw [e] at hv
      exact hn v3 T hb hv rfl rfl rfl rfl
    · have a := gx_len h
      rw [TT] at a
      have b := gx_ak v3 1 1 (by decide)
      have e1 : (v3 + 1).toInt = v3.toInt + 1 := by omega
      have c1 := gx_cl (v3 + 1) (by omega)
      rw [e1] at c1
      have ek1 : Int32.toNatClampNeg (v3 + 1) - B = (Int32.toNatClampNeg v3 - B) + 1 := by omega
      refine gy_st94 S v3_23 S_23 v3_59 S_59 v3 T hU hB hPn (gp_it (gp_FE (S.1 10) (S.1 11) (S.1 12) (fun n => gp_mz (S.1 6) (S.1 7) (S.1 8) (S.2.2 5) (S.1 11 n)) B) Pn (Int32.toNatClampNeg v3 - B) x0) 200 (160 * (S.2.2 5)) (gp_tu S T) _ _ hb (by omega) (by omega) (by omega) ?_ ?_
      · have e0 : Int32.toNatClampNeg (160 * (S.2.2 5)) - B = 0 := by omega
        rw [e0]
        exact hv
      · intro w W g1 g2 g3 g4 g5 g6
        refine ih (v3 + 1) (gp_tu S W) g1 (by omega) (by omega) (by omega) ?_ ?_
        · rw [ek1]
          exact g2
        · intro v U u1 u2 u3 u4 u5 u6
          exact hn v U u1 u2 (u3.trans g3) (u4.trans g4) (u5.trans g5) (u6.trans g6)
/-- what the rounds leave: a place of rest, and the least one -/
theorem gp_em_rest {kd on tw M : Nat → Int32} {B Pn : Nat} {em : Nat → Int32} (h : gp_v em B = gp_it (gp_FE kd on tw M B) Pn Pn (fun _ => false)) : ∀ k, k < Pn → (em (B + k) = 1 ↔ gp_eF kd on tw M (fun j => B ≤ j ∧ em j = 1) (B + k)) := by
  intro k hk
  have f := gp_it_fix (gp_FE_mon kd on tw M B) (N := Pn) (x := fun _ => false) (fun n _ q => by cases q) k hk
  rw [← h] at f
  rw [← gp_v_iff (em := em), ← f, gp_FE_iff]
  constructor
  · exact gp_eF_mono (fun j q => ⟨q.1, by have := gp_v_iff.mp q.2; rw [show B + (j - B) = j by omega] at this; exact this⟩)
  · exact gp_eF_mono (fun j q => ⟨q.1, gp_v_iff.mpr (by rw [show B + (j - B) = j by omega]; exact q.2)⟩)
theorem gp_em_least {kd on tw M : Nat → Int32} {B Pn : Nat} {em : Nat → Int32} (h : gp_v em B = gp_it (gp_FE kd on tw M B) Pn Pn (fun _ => false)) {y : Nat → Bool} (hy : ∀ k, k < Pn → gp_FE kd on tw M B y k = true → y k = true) : ∀ k, em (B + k) = 1 → y k = true := by
  intro k hk
  refine gp_it_le (gp_FE_mon kd on tw M B) hy (x := fun _ => false) (fun _ q => by cases q) Pn k ?_
  rw [← h]
  exact gp_v_iff.mpr hk
