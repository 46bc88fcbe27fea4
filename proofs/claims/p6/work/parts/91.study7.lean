theorem gy_st23 (S : gm_S) (hf : gm_iN 1 (S.2.2 5)) (hT : 0 ≤ (S.2.2 2).toInt ∧ (S.2.2 2).toInt ≤ 50) {Q : Int32 × gm_S → Prop} :
    ∀ (n : Nat) (v3 : Int32) (T : gm_S), 0 ≤ v3.toInt → v3.toInt ≤ (S.2.2 2).toInt → (S.2.2 2).toInt < v3.toInt + n →
      (∀ k : Nat, (k : Int) < v3.toInt → ∀ j : Nat, (j : Int) = 50 * (S.2.2 5).toInt + k → T.1 14 j = S.1 3 k) →
      (∀ (v : Int32) (U : gm_S), (∀ k : Nat, (k : Int) < (S.2.2 2).toInt → ∀ j : Nat, (j : Int) = 50 * (S.2.2 5).toInt + k → U.1 14 j = S.1 3 k) → U.1 15 = T.1 15 → U.1 16 = T.1 16 → U.2.1 17 = T.2.1 17 → U.2.1 18 = T.2.1 18 → gm_p_MD_study_59 S v U 200 (160 * (S.2.2 5)) (gp_tu S U) ∧ Q (gm_f_MD_study_59 S v U 200 (160 * (S.2.2 5)) (gp_tu S U))) →
      gm_p_MD_study_23 S n v3 T ∧ Q (gm_f_MD_study_23 S n v3 T) := by
  intro n
  induction n with
  | zero => intro v3 T h0 h1 h2; exfalso; omega
  | succ n ih =>
    intro v3 T h0 h1 h2 hz hn
    have c := gx_cl v3 h0
    rw [gm_p_MD_study_23, gm_f_MD_study_23]
    refine gx_if (Q := Q) (fun h => ?_) (fun h => ?_)
    · have a := gx_le h
      exact hn v3 T (fun k hk => hz k (by omega)) rfl rfl rfl rfl
    · have a := gx_len h
      have b := gx_ak v3 1 1 (by decide)
      have e1 : (v3 + 1).toInt = v3.toInt + 1 := by omega
      have m := gx_mk 50 (S.2.2 5) 50 (gx_lit 50 (by decide))
      have s := gx_ad (50 * (S.2.2 5)) v3
      have e2 : (50 * (S.2.2 5) + v3).toInt = 50 * (S.2.2 5).toInt + v3.toInt := by omega
      have c2 := gx_cl (50 * (S.2.2 5) + v3) (by omega)
      rw [e2] at c2
      have i1 : vp_in v3 50 := vp_in_iff.mpr (by omega)
      have i2 : vp_in (50 * (S.2.2 5) + v3) 100 := vp_in_iff.mpr (by omega)
      clear m s e2
      refine gx_in (Q := Q) i1 (gx_in (Q := Q) i2 ?_)
      refine ih (v3 + 1) _ (by omega) (by omega) (by omega) ?_ ?_
      · intro k hk j hj
        show upd (T.1 14) (Int32.toNatClampNeg (50 * (S.2.2 5) + v3)) ((S.1 3) (Int32.toNatClampNeg v3)) j = S.1 3 k
        by_cases q : (k : Int) = v3.toInt
        · have ej : j = Int32.toNatClampNeg (50 * (S.2.2 5) + v3) := by omega
          have ek : k = Int32.toNatClampNeg v3 := by omega
          rw [ej, gx_us, ek]
        · rw [gx_un _ _ _ (show j ≠ Int32.toNatClampNeg (50 * (S.2.2 5) + v3) by omega)]
          exact hz k (by omega) j hj
      · intro v U u1 u2 u3 u4 u5
        exact hn v U u1 u2 u3 u4 u5
