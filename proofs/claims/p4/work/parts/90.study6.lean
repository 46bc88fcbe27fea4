theorem gy_st59 (S : gm_S) (v3_23 : Int32) (S_23 : gm_S) (hU : gm_iU (S.2.2 2) (S.2.2 5) (S.1 6) (S.1 7) (S.1 8) (S.1 9) (S.1 10) (S.1 11) (S.1 12) (S.1 13)) {Q : Int32 × gm_S → Prop} {B Pn : Nat} (hB : (B : Int) = 160 * (S.2.2 5).toInt) (hPn : (Pn : Int) = ((S.1 9) (Int32.toNatClampNeg (S.2.2 5))).toInt) :
    ∀ (n : Nat) (v3 : Int32) (T : gm_S), (∀ j, T.1 15 j = 0 ∨ T.1 15 j = 1) → 160 * (S.2.2 5).toInt ≤ v3.toInt → v3.toInt ≤ 160 * (S.2.2 5).toInt + ((S.1 9) (Int32.toNatClampNeg (S.2.2 5))).toInt → 160 * (S.2.2 5).toInt + ((S.1 9) (Int32.toNatClampNeg (S.2.2 5))).toInt < v3.toInt + n →
      (∀ j : Nat, B ≤ j → (j : Int) < v3.toInt → T.1 15 j = 0 ∧ T.1 16 j = 0) →
      (∀ (v : Int32) (U : gm_S), (∀ j, U.1 15 j = 0 ∨ U.1 15 j = 1) → (∀ j : Nat, B ≤ j → j < B + Pn → U.1 15 j = 0 ∧ U.1 16 j = 0) → U.1 14 = T.1 14 → U.2.1 17 = T.2.1 17 → U.2.1 18 = T.2.1 18 → gm_p_MD_study_86 S v3_23 S_23 v U 200 (160 * (S.2.2 5)) (gp_tu S U) ∧ Q (gm_f_MD_study_86 S v3_23 S_23 v U 200 (160 * (S.2.2 5)) (gp_tu S U))) →
      gm_p_MD_study_59 S v3_23 S_23 n v3 T ∧ Q (gm_f_MD_study_59 S v3_23 S_23 n v3 T) := by
  have hf := hU.1
  have hp := hU.2.1
  have m := gx_mk 160 (S.2.2 5) 160 (gx_lit 160 (by decide))
  have s := gx_ad (160 * (S.2.2 5)) ((S.1 9) (Int32.toNatClampNeg (S.2.2 5)))
  have TT : (160 * (S.2.2 5) + (S.1 9) (Int32.toNatClampNeg (S.2.2 5))).toInt = 160 * (S.2.2 5).toInt + ((S.1 9) (Int32.toNatClampNeg (S.2.2 5))).toInt := by omega
  clear m s
  intro n
  induction n with
  | zero => intro v3 T hb h0 h1 h2; exfalso; omega
  | succ n ih =>
    intro v3 T hb h0 h1 h2 hz hn
    have c := gx_cl v3 (by omega)
    rw [gm_p_MD_study_59, gm_f_MD_study_59]
    refine gx_if (Q := Q) (fun h => ?_) (fun h => ?_)
    · have a := gx_le h
      rw [TT] at a
      exact hn v3 T hb (fun j j1 j2 => hz j j1 (by omega)) rfl rfl rfl
    · have a := gx_len h
      rw [TT] at a
      have b := gx_ak v3 1 1 (by decide)
      have e1 : (v3 + 1).toInt = v3.toInt + 1 := by omega
      have iv : vp_in v3 320 := vp_in_iff.mpr (by omega)
      refine gx_in (Q := Q) iv (gx_in (Q := Q) iv ?_)
      refine ih (v3 + 1) _ ?_ (by omega) (by omega) (by omega) ?_ ?_
      · exact gx_u (P := fun z => z = 0 ∨ z = 1) hb (gx_nb 0)
      · intro j j1 j2
        show upd (T.1 15) (Int32.toNatClampNeg v3) (vp_nar .boolean 0) j = 0 ∧ upd (T.1 16) (Int32.toNatClampNeg v3) 0 j = 0
        by_cases q : j = Int32.toNatClampNeg v3
        · rw [q, gx_us, gx_us]
          exact ⟨gx_nr (Or.inl rfl), rfl⟩
        · rw [gx_un _ _ _ q, gx_un _ _ _ q]
          exact hz j j1 (by omega)
      · intro v U u1 u2 u3 u4 u5
        exact hn v U u1 u2 u3 u4 u5
