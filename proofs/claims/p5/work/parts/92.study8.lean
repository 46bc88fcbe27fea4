/-- study: the text kept; empty, begins and heads after as many rounds as there are parts -/
def gp_st (S : gm_S) (B Pn : Nat) (z : Int32 × gm_S) : Prop :=
  ∃ (x0 : Nat → Bool) (xb xl xh : Nat → Nat → Bool), (∀ k, k < Pn → x0 k = false) ∧ (∀ q k, k < Pn → xb q k = false) ∧ (∀ q k, xl q k = gp_bl (S.2.1 17 (B + k)) q) ∧ (∀ q k, xh q k = gp_bl (S.2.1 18 (B + k)) q) ∧ (∀ j, z.2.1 15 j = 0 ∨ z.2.1 15 j = 1) ∧ (∀ k : Nat, (k : Int) < (S.2.2 2).toInt → ∀ j : Nat, (j : Int) = 50 * (S.2.2 5).toInt + k → z.2.1 14 j = S.1 3 k) ∧
    gp_v (z.2.1 15) B = gp_it (gp_FE (S.1 10) (S.1 11) (S.1 12) (fun n => gp_mz (S.1 6) (S.1 7) (S.1 8) (S.2.2 5) (S.1 11 n)) B) Pn Pn x0 ∧
    gp_ai (S.1 10) (S.1 11) (S.1 12) (fun n => gp_mz (S.1 6) (S.1 7) (S.1 8) (S.2.2 5) (S.1 11 n)) (fun n => gp_rz (S.1 6) (S.1 7) (S.2.2 5) (S.1 11 n)) (fun j => z.2.1 15 j = 1) (fun n => (z.2.1 14 (50 * Int32.toNatClampNeg (S.2.2 5) + Int32.toNatClampNeg (S.1 11 n))).toInt) B Pn Pn xb xl xh (z.2.1 16) (z.2.2.1 17) (z.2.2.1 18)
theorem gy_s_MD_study (S : gm_S) (hU : gm_iU (S.2.2 2) (S.2.2 5) (S.1 6) (S.1 7) (S.1 8) (S.1 9) (S.1 10) (S.1 11) (S.1 12) (S.1 13)) (hW : gm_iW 50 (S.2.2 2) (S.1 3)) (hb : ∀ j, S.1 15 j = 0 ∨ S.1 15 j = 1) {B Pn : Nat} (hB : (B : Int) = 160 * (S.2.2 5).toInt) (hPn : (Pn : Int) = ((S.1 9) (Int32.toNatClampNeg (S.2.2 5))).toInt) : gm_p_MD_study S ∧ gp_st S B Pn (gm_f_MD_study S) := by
  have hf := hU.1
  have hp := hU.2.1
  have z0 : (0 : Int32).toInt = 0 := by decide
  have m := gx_mk 160 (S.2.2 5) 160 (gx_lit 160 (by decide))
  have M0 : (160 * (S.2.2 5)).toInt = 160 * (S.2.2 5).toInt := by omega
  have cM := gx_cl (160 * (S.2.2 5)) (by omega)
  rw [M0] at cM
  have e0 : Int32.toNatClampNeg (160 * (S.2.2 5)) - B = 0 := by omega
  unfold gm_p_MD_study gm_f_MD_study
  refine gx_in (Q := gp_st S B Pn) (vp_in_iff.mpr (by omega)) ?_
  refine gy_st23 S hf hW.1 (Q := gp_st S B Pn) 200 0 S (by omega) (by omega) (by omega) (fun k hk => by omega) ?_
  intro v1 U1 a1 a2 a3 a4 a5
  refine gy_st59 S v1 U1 hU hB hPn (Q := gp_st S B Pn) 200 (160 * (S.2.2 5)) (gp_tu S U1) ?_ (by omega) (by omega) (by omega) (fun j j1 j2 => by omega) ?_
  · intro j
    show U1.1 15 j = 0 ∨ U1.1 15 j = 1
    rw [a2]
    exact hb j
  intro v2 U2 b1 b2 b3 b4 b5
  refine gy_st86 S v1 U1 v2 U2 hU hB hPn (Q := gp_st S B Pn) (gp_v (U2.1 15) B) 200 (160 * (S.2.2 5)) (gp_tu S U2) b1 (by omega) (by omega) (by omega) ?_ ?_
  · rw [e0]
    rfl
  intro v3 U3 c1 c2 c3 c4 c5 c6
  have kept : ∀ k : Nat, (k : Int) < (S.2.2 2).toInt → ∀ j : Nat, (j : Int) = 50 * (S.2.2 5).toInt + k → U3.1 14 j = S.1 3 k := by
    intro k hk j hj
    rw [c3]
    show U2.1 14 j = S.1 3 k
    rw [b3]
    exact a1 k hk j hj
  have last := gy_st127 S v1 U1 v2 U2 v3 U3 hU hW.1.2 hB hPn (fun q => gp_vb (U3.1 16) q B) (fun q => gp_vl (U3.2.1 17) q B) (fun q => gp_vl (U3.2.1 18) q B) (U3.1 15) (U3.1 14) c1 (fun k hk j hj => by rw [kept k hk j hj]; exact hW.2 k hk) 200 (160 * (S.2.2 5)) (gp_tu S U3) rfl rfl (by omega) (by omega) (by omega) (by rw [e0]; exact ⟨fun q _ => rfl, fun q _ => rfl, fun q _ => rfl⟩)
  refine ⟨last.1, ?_⟩
  obtain ⟨d1, d2, d3⟩ := last.2
  refine ⟨gp_v (U2.1 15) B, fun q => gp_vb (U3.1 16) q B, fun q => gp_vl (U3.2.1 17) q B, fun q => gp_vl (U3.2.1 18) q B, fun k hk => ?_, fun q k hk => ?_, fun q k => ?_, fun q k => ?_, ?_, ?_, ?_, ?_⟩
  · unfold gp_v
    rw [(b2 (B + k) (by omega) (by omega)).1]
    rfl
  · show gp_bt (U3.1 16 (B + k)) q = false
    rw [c4]
    show gp_bt (U2.1 16 (B + k)) q = false
    rw [(b2 (B + k) (by omega) (by omega)).2]
    exact gp_bt_0 q
  · show gp_bl (U3.2.1 17 (B + k)) q = gp_bl (S.2.1 17 (B + k)) q
    rw [c5]
    show gp_bl (U2.2.1 17 (B + k)) q = gp_bl (S.2.1 17 (B + k)) q
    rw [b4]
    show gp_bl (U1.2.1 17 (B + k)) q = gp_bl (S.2.1 17 (B + k)) q
    rw [a4]
  · show gp_bl (U3.2.1 18 (B + k)) q = gp_bl (S.2.1 18 (B + k)) q
    rw [c6]
    show gp_bl (U2.2.1 18 (B + k)) q = gp_bl (S.2.1 18 (B + k)) q
    rw [b5]
    show gp_bl (U1.2.1 18 (B + k)) q = gp_bl (S.2.1 18 (B + k)) q
    rw [a5]
  · rw [d1]; exact c1
  · rw [d2]; exact kept
  · rw [d1]; exact c2
  · rw [d1, d2]; exact d3
