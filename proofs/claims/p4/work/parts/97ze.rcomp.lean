/-! The reference compiles, said of the text. -/
def gs_wQ (U : gm_S) (k : Nat) (z : Int32 × gm_S) : Prop := (z.1 = 0 ∧ ¬ gr_Wd (gp_B (U.2.2 5)) (gp_M (U.2.2 5) (U.1 9)) (U.1 10) (U.1 11) (U.1 13) (U.1 15) (U.1 16) (gr_rt (U.2.2 5) (U.1 8)) k) ∨ (z.1 = 1 ∧ gr_Wd (gp_B (U.2.2 5)) (gp_M (U.2.2 5) (U.1 9)) (U.1 10) (U.1 11) (U.1 13) (U.1 15) (U.1 16) (gr_rt (U.2.2 5) (U.1 8)) k)
theorem gs_isWild {U : gm_S} (v : Int32) (S : gm_S) {t : Int32} {k : Nat} (e5 : S.2.2 5 = U.2.2 5) (e6 : S.1 6 = U.1 6) (e7 : S.1 7 = U.1 7) (e8 : S.1 8 = U.1 8) (e9 : S.1 9 = U.1 9) (e10 : S.1 10 = U.1 10) (e11 : S.1 11 = U.1 11) (e12 : S.1 12 = U.1 12) (e13 : S.1 13 = U.1 13) (e15 : S.1 15 = U.1 15) (e16 : S.1 16 = U.1 16) (hU : gm_iU t (U.2.2 5) (U.1 6) (U.1 7) (U.1 8) (U.1 9) (U.1 10) (U.1 11) (U.1 12) (U.1 13)) (hb : ∀ j, U.1 15 j = 0 ∨ U.1 15 j = 1) (hk : v.toInt = k) (hk2 : (k : Int) < ((U.1 6) (Int32.toNatClampNeg (U.2.2 5))).toInt) : gs_wQ U k (gm_f_MD_isWild v S) := by
  have hU' := hU
  obtain ⟨⟨f0, f1⟩, ⟨p0, p1⟩, ⟨r0, r1⟩, hS, hN⟩ := hU'
  have W := (gy_s_MD_isWild v S (ty := t) (by rw [e5, e6, e7, e8, e9, e10, e11, e12, e13]; exact hU) (by omega) (by rw [e5, e6]; omega)).2
  have W : gp_wd (S.1 10) (S.1 11) (S.1 13) (S.1 15) v (gp_lr S v) (160 * (S.2.2 5).toInt) (160 * (S.2.2 5).toInt + ((S.1 9) (Int32.toNatClampNeg (S.2.2 5))).toInt) (gm_f_MD_isWild v S).1 := W
  rw [e5, e9, e10, e11, e13, e15] at W
  have cf := gx_cl (U.2.2 5) f0
  have cp := gx_cl _ p0
  have cv := gx_cl v (by omega)
  have m8 := gx_mk 8 (U.2.2 5) 8 (gx_lit 8 (by decide))
  have s8 := gx_ad (8 * (U.2.2 5)) v
  have c8 := gx_cl ((8 * (U.2.2 5)) + v) (by omega)
  have e8' : Int32.toNatClampNeg ((8 * (U.2.2 5)) + v) = 8 * Int32.toNatClampNeg (U.2.2 5) + k := by omega
  have ev : v = nI k := by
    obtain ⟨j, hj, e⟩ := nI_of (x := v) (fun h9 => by have := gx_ltr (k := 0) (by decide) h9; omega)
    have : j = k := by
      have := nI_toInt hj
      rw [← e] at this
      omega
    rw [e, this]
  have lr : gp_lr S v = if gp_bt (U.1 16 (gr_rt (U.2.2 5) (U.1 8) k)) k = true then 1 else 0 := by
    have w := gp_bit32 (U.1 16 (gr_rt (U.2.2 5) (U.1 8) k)) k (by omega)
    unfold gp_lr
    rw [e5, e8, e16, e8']
    by_cases q : gp_bt (U.1 16 (gr_rt (U.2.2 5) (U.1 8) k)) k = true
    · rw [if_pos q]
      have q' := w.mpr q
      rw [← ev] at q'
      exact if_pos q'
    · rw [if_neg q]
      exact if_neg (fun q' => q (w.mp (by rw [← ev]; exact q')))
  have hB : gp_B (U.2.2 5) = 160 * Int32.toNatClampNeg (U.2.2 5) := rfl
  have hM : gp_M (U.2.2 5) (U.1 9) = 160 * Int32.toNatClampNeg (U.2.2 5) + Int32.toNatClampNeg ((U.1 9) (Int32.toNatClampNeg (U.2.2 5))) := rfl
  have l7 := gx_lit 7 (by decide)
  have l10 := gx_lit 10 (by decide)
  rcases W with ⟨w1, w2, w3⟩ | ⟨w1, w2⟩
  · refine Or.inl ⟨w1, ?_⟩
    rintro (q | ⟨n, n1, n2, n3, n4, n5⟩)
    · rw [lr, if_pos q] at w2
      exact absurd w2 (by decide)
    · have := w3 n (by omega) (by omega) (Int32.toInt_inj.mp (by omega)) (n4.elim (fun t => Or.inl (Int32.toInt_inj.mp (by rw [t]; exact l7.symm))) (fun t => Or.inr (Int32.toInt_inj.mp (by rw [t]; exact l10.symm))))
      rw [n5] at this
      exact absurd this (by decide)
  · refine Or.inr ⟨w1, ?_⟩
    rcases w2 with w2 | ⟨n, n1, n2, n3, n4, n5⟩
    · left
      by_cases q : gp_bt (U.1 16 (gr_rt (U.2.2 5) (U.1 8) k)) k = true
      · exact q
      · rw [lr, if_neg q] at w2
        exact absurd rfl w2
    · refine Or.inr ⟨n, by omega, by omega, by rw [n3]; omega, n4.elim (fun t => Or.inl (by rw [t]; exact l7)) (fun t => Or.inr (by rw [t]; exact l10)), (hb _).resolve_left n5⟩
def gs_uQ (U : gm_S) (k : Nat) (z : Int32 × gm_S) : Prop := (z.1 = 0 ∧ ¬ gr_Un (gp_B (U.2.2 5)) (gp_M (U.2.2 5) (U.1 9)) (U.1 6) (U.1 7) (U.1 10) (U.1 11) (U.1 13) (U.2.2 5) k) ∨ (z.1 = 1 ∧ gr_Un (gp_B (U.2.2 5)) (gp_M (U.2.2 5) (U.1 9)) (U.1 6) (U.1 7) (U.1 10) (U.1 11) (U.1 13) (U.2.2 5) k)
theorem gs_isUndef {U : gm_S} (v : Int32) (S : gm_S) {t : Int32} {k : Nat} (e2 : S.2.2 2 = t) (e5 : S.2.2 5 = U.2.2 5) (e6 : S.1 6 = U.1 6) (e7 : S.1 7 = U.1 7) (e8 : S.1 8 = U.1 8) (e9 : S.1 9 = U.1 9) (e10 : S.1 10 = U.1 10) (e11 : S.1 11 = U.1 11) (e12 : S.1 12 = U.1 12) (e13 : S.1 13 = U.1 13) (hf : gm_iN 1 (U.2.2 5)) (hS : gm_iS 0 t (U.2.2 5) (U.1 6) (U.1 7) (U.1 8) (U.1 9) (U.1 10) (U.1 11) (U.1 12) (U.1 13) 0 0 (fun _ => 0) (fun _ => 0)) (hp : 0 ≤ ((U.1 9) (Int32.toNatClampNeg (U.2.2 5))).toInt) (hp2 : ((U.1 9) (Int32.toNatClampNeg (U.2.2 5))).toInt ≤ 100) (hr : ((U.1 6) (Int32.toNatClampNeg (U.2.2 5))).toInt ≤ 8) (hk : v.toInt = k) : gs_uQ U k (gm_f_MD_isUndefined v S) := by
  have W := (gy_s_MD_isUndefined v S (e := 0) (i := 0) (l := 0) (it := fun _ => 0) (al := fun _ => 0) (by rw [e5]; exact hf) (by rw [e2, e5, e6, e7, e8, e9, e10, e11, e12, e13]; exact hS) (by rw [e5, e9]; exact hp) (by rw [e5, e9]; omega) (by rw [e5, e6]; exact hr)).2
  have W : gp_un (S.1 6) (S.1 7) (S.1 10) (S.1 11) (S.1 13) (S.2.2 5) v (160 * (S.2.2 5).toInt) (160 * (S.2.2 5).toInt + ((S.1 9) (Int32.toNatClampNeg (S.2.2 5))).toInt) (gm_f_MD_isUndefined v S).1 := W
  rw [e5, e6, e7, e9, e10, e11, e13] at W
  have f0 := hf.1
  have cf := gx_cl (U.2.2 5) f0
  have cp := gx_cl _ hp
  have hB : gp_B (U.2.2 5) = 160 * Int32.toNatClampNeg (U.2.2 5) := rfl
  have hM : gp_M (U.2.2 5) (U.1 9) = 160 * Int32.toNatClampNeg (U.2.2 5) + Int32.toNatClampNeg ((U.1 9) (Int32.toNatClampNeg (U.2.2 5))) := rfl
  have l3 := gx_lit 3 (by decide)
  rcases W with ⟨w1, w2⟩ | ⟨w1, n, n1, n2, n3, n4, n5⟩
  · refine Or.inl ⟨w1, ?_⟩
    rintro ⟨n, n1, n2, n3, n4, n5⟩
    exact w2 n (by omega) (by omega) (Int32.toInt_inj.mp (by omega)) (Int32.toInt_inj.mp (by rw [n4]; exact l3.symm)) n5
  · exact Or.inr ⟨w1, n, by omega, by omega, by rw [n3]; omega, by rw [n4]; exact l3, n5⟩
