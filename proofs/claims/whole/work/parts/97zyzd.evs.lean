/-! What the first rule does at the beginning of the subject. -/
theorem gy_ws1 {W : Nat → Nat} : ∀ {R r : Nat}, r < R → W r ≤ gt_ws W R := by
  intro R
  induction R with
  | zero => intro r h; exact absurd h (by omega)
  | succ R ih =>
    intro r h
    rw [gt_ws]
    by_cases e : r = R
    · rw [e]; omega
    · have := ih (r := r) (by omega); omega
theorem gy_G_of {tx : Nat → Int} {ty R : Nat} {f : Nat → Int × Lean.ParserDescr} {T Cc U : gm_S} (hp : gs_pair tx ty R f T Cc U) (hI : gp_RI U) (hb : ¬ U.2.2 4 = -1) : gy_G tx ty R f ∧ 2 * gp_kc (U.1 10) (gp_Bs U) (Int32.toNatClampNeg ((U.1 9) (Int32.toNatClampNeg (U.2.2 4)))) + 3 * R ≤ 50 ∧ (T.2.2 13).toInt = (R : Nat) ∧ ty ≤ 50 := by
  obtain ⟨⟨T0, n, hRT, hTE, -⟩, hh, ⟨a0, b0, htx⟩, ⟨nA, nC, hrd⟩, hu, hw, -⟩ := hp
  obtain ⟨Pg, nA', nC', ⟨t, t1, t2, hU⟩, hG, -⟩ := hh
  have hRB := hI.2.2.2.2
  rcases hRB with e | ⟨-, hGB, -⟩
  · exact absurd e hb
  obtain ⟨Pg', R', f', nA'', nC'', hG', r1, -, c1, -⟩ := hGB
  have eR : R' = R := by
    have a := hG.1
    have b := hG'.1
    rw [a] at b
    omega
  have R8 := hRT.1.2.2.2.1
  have sh : ∀ r, r < R → gy_sh (f r).2 := fun r hr => gy_sh_of _ _ _ (Nat.lt_succ_self _) (hRT.2.2.2.2.1 r hr).2
  have cn : ∀ r, r < R → gr_cn (f r).2 := fun r hr => gr_cn_of _ _ _ (Nat.lt_succ_self _) (hRT.2.2.2.2.1 r hr).2
  have hrd' : gp_rd tx ty (ty + 1) 0 gs_0 0 0 0 = .inr (R, f, nA, nC) := hrd
  have k1 := gu_rd_kp tx ty (ty + 1) 0 gs_0 0 0 0 (Nat.zero_le _) (Nat.le_refl 0) _ hrd'
  have k2 := gt_rd_kp tx ty (ty + 1) 0 gs_0 0 0 0 (Nat.zero_le _) (Nat.zero_le _) _ hrd'
  have k3 := gl_rd_kp tx ty (ty + 1) 0 gs_0 0 0 0 (Nat.zero_le _) (Nat.le_refl 0) _ hrd'
  have k4 := gn_rd tx ty (ty + 1) 0 gs_0 0 0 0 (fun r hr => absurd hr (by omega)) _ hrd'
  refine ⟨⟨by omega, R8, hu, hw, cn, fun r hr => gy_wf hu hw hr _ (fun _ h => h) (sh r hr), ?_, Nat.le_trans k1 t2, fun r hr => ?_, Nat.le_trans k3 t2, k4⟩, ?_, ?_, t2⟩
  · have n0 := (hG.2.1 0 (by omega)).1
    have f0 := hU.1.1
    have f1 := hU.1.2
    have cf := gx_cl (U.2.2 4) f0
    have q := (hU.2.2.2.1.2.2.2 0 (by have := hG.1; omega) (8 * Int32.toNatClampNeg (U.2.2 4)) (by omega)).1
    rw [Nat.add_zero] at n0
    omega
  · have := gy_ws1 (W := fun r => gt_w (f r).2) hr
    have k2 : gt_ws (fun r => gt_w (f r).2) R ≤ 3 * ty := k2
    have this : gt_w (f r).2 ≤ gt_ws (fun r => gt_w (f r).2) R := this
    omega
  · have e := hG'.2.2.2.2
    have e : gp_kc (U.1 10) (gp_Bs U) (Int32.toNatClampNeg ((U.1 9) (Int32.toNatClampNeg (U.2.2 4)))) = nC'' := e
    rw [e]
    omega
  · rw [hTE.2.2.2.2.2.2.2.2]
    exact hRT.1.2.2.1
/-- what is known of the first rule -/
def gy_E (tx : Nat → Int) (ty R : Nat) (f : Nat → Int × Lean.ParserDescr) (fed : Nat) (sub : Nat → Int) (lk : Bool) (v d : Int) (k : Nat) : Prop :=
  gv_v (gy_C tx ty R f fed sub lk) k (gp_e0 3 (f 0).1.toNat 0) 0 = v ∧ -1 ≤ v ∧ gv_d (gy_C tx ty R f fed sub lk) k (gp_e0 3 (f 0).1.toNat 0) 0 ≤ 550 ∧ gv_p (gy_C tx ty R f fed sub lk) k (gp_e0 3 (f 0).1.toNat 0) 0 ≤ 275 ∧ (lk = true → d = gp_cp (gv_c (gy_C tx ty R f fed sub lk) k (gp_e0 3 (f 0).1.toNat 0) 0 : Nat) ∧ gv_s (gy_C tx ty R f fed sub lk) k (gp_e0 3 (f 0).1.toNat 0) 0 1000 ≤ 910427517)
theorem gy_fx0 {f : Nat → Int × Lean.ParserDescr} {R : Nat} (hR : 1 ≤ R) (h0 : 0 ≤ (f 0).1) : gq_fx f (((f 0).1.toNat : Nat) : Int) R = 0 := gq_fx_at (by omega) (fun k hk => absurd hk (by omega)) R (by omega)
theorem gy_C_le (tx : Nat → Int) (ty R : Nat) (f : Nat → Int × Lean.ParserDescr) (fed : Nat) (sub : Nat → Int) (lk : Bool) : ∀ (k : Nat) (e : Lean.ParserDescr) (q : Nat), q ≤ fed → (q : Int) + gv_v (gy_C tx ty R f fed sub lk) k e q ≤ fed :=
  gv_v_leY (P := fun a m q => ∀ i, i < m → sub (q + i) = tx (a + i)) (Q := fun a b q => gq_st tx ty a b (sub q)) (fun a m q _ => gy_dc_i) (fun a b q _ => gy_dc_i)
theorem gy_steps {tx : Nat → Int} {ty R fed : Nat} {f : Nat → Int × Lean.ParserDescr} {sub : Nat → Int} (hG : gy_G tx ty R f) (h10 : fed ≤ 10) (k : Nat) (hv : gv_v (gy_C tx ty R f fed sub true) k (f 0).2 0 ≠ -2) : gv_s (gy_C tx ty R f fed sub true) k (f 0).2 0 1000 ≤ 910427515 := by
  obtain ⟨R1, R8, hu, hw, cn, wf, f0, k1, k2, k3, k4⟩ := hG
  obtain ⟨b, hb⟩ := gv_pb_ex f R
  have hem : ∀ e, gy_dc (gq_em (gq_EL f R) e) = true ↔ gq_em (gq_EL f R) e := fun e => gy_dc_i
  obtain ⟨ph, W, n1, n2, n3, n4⟩ := gj_num (em := fun e => gy_dc (gq_em (gq_EL f R) e)) hb hem hw wf R8 k3
  have q := gj_s (G := 86558 + 11 * 74814 + 6) (C := gy_C tx ty R f fed sub true) hb hem hw (fun _ => rfl) wf (gy_C_le tx ty R f fed sub true) (fun x q h => gy_dc_i.mpr (fun _ => Or.inl (gy_dc_i.mp h))) n1 n2 n3 n4 (Nat.le_refl _) h10 k (f 0).2 0 1000 (wf 0 (by omega)) (n4 0 (by omega)) (Nat.zero_le _) hv
  have d1 := n4 0 (by omega) (f 0).2 (gy_sb_s _)
  have z1 := gj_ZD (fun e => gy_dc (gq_em (gq_EL f R) e)) ph (f 0).2
  have g1 := Nat.le_trans (gv_su_le (b (f 0).2) W R) n3
  have ge := gv_v_ge (gy_C tx ty R f fed sub true) k (f 0).2 0
  have le := gy_C_le tx ty R f fed sub true k (f 0).2 0 (Nat.zero_le _)
  obtain ⟨q1, q2, q3, q4⟩ := q
  generalize gv_v (gy_C tx ty R f fed sub true) k (f 0).2 0 = v at *
  generalize gv_c (gy_C tx ty R f fed sub true) k (f 0).2 0 = c at *
  generalize gv_s (gy_C tx ty R f fed sub true) k (f 0).2 0 1000 = s at *
  generalize gj_Z (fun e => gy_dc (gq_em (gq_EL f R) e)) ph (f 0).2 = z at *
  generalize gj_D (fun e => gy_dc (gq_em (gq_EL f R) e)) ph (f 0).2 = d at *
  generalize gv_su (b (f 0).2) W R = g at *
  have m1 : 74814 * (fed - 0) ≤ 74814 * 10 := Nat.mul_le_mul_left _ (by omega)
  have m2 : 74814 * (v.toNat - 1) ≤ 74814 * 10 := Nat.mul_le_mul_left _ (by omega)
  by_cases cb : c ≤ 1000
  · have m3 : (86558 + 11 * 74814 + 6) * c ≤ (86558 + 11 * 74814 + 6) * 1000 := Nat.mul_le_mul_left _ cb
    have : v = 0 ∨ 0 < v ∨ v = -1 := by clear q1 q2 q3 q4; omega
    rcases this with e | e | e
    · have := q1 cb e
      clear q1 q2 q3 q4
      omega
    · have := q2 cb e
      clear q1 q2 q3 q4
      omega
    · have := q3 cb e
      clear q1 q2 q3 q4
      omega
  · have := q4 (by clear q1 q2 q3 q4; omega)
    clear q1 q2 q3 q4
    omega
theorem gy_evE {S : gm_S} {tx : Nat → Int} {ty R P fed : Nat} {f : Nat → Int × Lean.ParserDescr} (hG : gy_G tx ty R f) (hC : gp_WC S P fed) (hh : gs_half tx ty R f (S.2.2 4) S) {rank : Nat → Nat} (RK : gp_RK (S.1 10) (S.1 11) (S.1 12) (gp_Mz S) (S.1 15) (gp_Bs S) P rank) {rk : Nat → Nat} {t : Nat} (hF : gp_FT S P fed rk t) (hN : 2 * gp_kc (S.1 10) (gp_Bs S) P + 3 * R ≤ 50) (lk : Bool) : (∃ k, gy_E tx ty R f fed (fun q => (S.1 33 q).toInt) lk (gp_Tb (gp_Bs S) (S.1 34) (gr_rt (S.2.2 4) (S.1 8) 0) 0) (gp_Tb (gp_Bs S) (S.1 35) (gr_rt (S.2.2 4) (S.1 8) 0) 0) k) ∧ (∀ r p k, r < R → p ≤ fed → 0 ≤ gv_v (gy_C tx ty R f fed (fun q => (S.1 33 q).toInt) lk) k (f r).2 p → (gv_L (gy_C tx ty R f fed (fun q => (S.1 33 q).toInt) lk) k (f r).2 p).length ≤ gp_kc (S.1 10) (gp_Bs S) P * (fed - p)) := by
  obtain ⟨Pg, nA, nC, hU, hGp, -, hE, hH, hK, -⟩ := hh
  have hM : gp_M (S.2.2 4) (S.1 9) = gp_Bs S + P := by
    have := hC.2.1.1
    have c := gx_cl ((S.1 9) (Int32.toNatClampNeg (S.2.2 4))) (by omega)
    show gp_Bs S + Int32.toNatClampNeg ((S.1 9) (Int32.toNatClampNeg (S.2.2 4))) = _
    omega
  obtain ⟨hT, hx⟩ := gy_T_of hC hU hGp hE (fun c c1 c2 => (hH c c1 c2).2) hK hF lk
  have hz : ∀ m q, gp_Bs S ≤ m → m < gp_Bs S + P → q ≤ fed → gp_Tb (gp_Bs S) (S.1 34) m q = 0 → S.1 15 m = 1 := by
    intro m q b1 b2 hq z
    rcases gp_vc_sd hC hF b1 b2 hq with s | ⟨-, -, s, -⟩
    · rw [z] at s; exact absurd s (by decide)
    · exact s z
  have rt : ∀ r, r < R → gp_Bs S ≤ gr_rt (S.2.2 4) (S.1 8) r ∧ gr_rt (S.2.2 4) (S.1 8) r < gp_Bs S + P ∧ gp_rep Pg (gp_Bs S) (S.1 10) (S.1 11) (S.1 12) (f r).2 (gr_rt (S.2.2 4) (S.1 8) r) := by
    intro r hr
    obtain ⟨-, g2, g3⟩ := hGp.2.1 r hr
    obtain ⟨c1, c2, -⟩ := gp_ch_cl g2
    rw [hM] at c2
    exact ⟨c1, c2, g3⟩
  obtain ⟨K, hmu⟩ := gy_mu_of hC RK hF
  have f10 := hC.2.2.1.2
  obtain ⟨b1, b2, b3⟩ := rt 0 (by have := hG.1; omega)
  refine ⟨?_, fun r p k hr hp hv => ?_⟩
  · have tot := gy_tot hT hmu ((fed - 0) * K + rank (gr_rt (S.2.2 4) (S.1 8) 0) + 1) (f 0).2 (gr_rt (S.2.2 4) (S.1 8) 0) 0 b3 b1 b2 (Nat.zero_le _) (Nat.lt_succ_self _)
    generalize (fed - 0) * K + rank (gr_rt (S.2.2 4) (S.1 8) 0) + 1 = k at tot
    have ev := gy_v hT k (f 0).2 _ 0 b3 b1 b2 (Nat.zero_le _) tot
    have pp := gy_p275 hT RK hz hG.1 hN f10 k (f 0).2 _ 0 b3 b1 b2 (Nat.zero_le _) tot
    have dd := gv_d550 (C := gy_C tx ty R f fed (fun q => (S.1 33 q).toInt) lk) hG.2.2.2.1 (fun _ => rfl) hG.2.2.2.2.2.1 (gy_C_le tx ty R f fed _ lk) f10 hG.2.2.2.2.2.2.2.1 k 0 (by have := hG.1; omega)
    have fx := gy_fx0 hG.1 hG.2.2.2.2.2.2.1
    have ge := gv_v_ge (gy_C tx ty R f fed (fun q => (S.1 33 q).toInt) lk) k (f 0).2 0
    have body : (gy_C tx ty R f fed (fun q => (S.1 33 q).toInt) lk).1 (f 0).1.toNat = (f 0).2 := by
      show (f (gq_fx f (((f 0).1.toNat : Nat) : Int) R)).2 = _
      rw [fx]
    have v1 : gv_v (gy_C tx ty R f fed (fun q => (S.1 33 q).toInt) lk) (k + 1) (gp_e0 3 (f 0).1.toNat 0) 0 = gv_v (gy_C tx ty R f fed (fun q => (S.1 33 q).toInt) lk) k ((gy_C tx ty R f fed (fun q => (S.1 33 q).toInt) lk).1 (f 0).1.toNat) 0 := rfl
    have c1 : gv_c (gy_C tx ty R f fed (fun q => (S.1 33 q).toInt) lk) (k + 1) (gp_e0 3 (f 0).1.toNat 0) 0 = gv_c (gy_C tx ty R f fed (fun q => (S.1 33 q).toInt) lk) k ((gy_C tx ty R f fed (fun q => (S.1 33 q).toInt) lk).1 (f 0).1.toNat) 0 := rfl
    have d1 : gv_d (gy_C tx ty R f fed (fun q => (S.1 33 q).toInt) lk) (k + 1) (gp_e0 3 (f 0).1.toNat 0) 0 = 1 + gv_d (gy_C tx ty R f fed (fun q => (S.1 33 q).toInt) lk) k ((gy_C tx ty R f fed (fun q => (S.1 33 q).toInt) lk).1 (f 0).1.toNat) 0 := rfl
    have p1 : gv_p (gy_C tx ty R f fed (fun q => (S.1 33 q).toInt) lk) (k + 1) (gp_e0 3 (f 0).1.toNat 0) 0 = gv_p (gy_C tx ty R f fed (fun q => (S.1 33 q).toInt) lk) k ((gy_C tx ty R f fed (fun q => (S.1 33 q).toInt) lk).1 (f 0).1.toNat) 0 := rfl
    have s1 : gv_s (gy_C tx ty R f fed (fun q => (S.1 33 q).toInt) lk) (k + 1) (gp_e0 3 (f 0).1.toNat 0) 0 1000 = 2 + gv_s (gy_C tx ty R f fed (fun q => (S.1 33 q).toInt) lk) k ((gy_C tx ty R f fed (fun q => (S.1 33 q).toInt) lk).1 (f 0).1.toNat) 0 1000 := rfl
    rw [body] at v1 c1 d1 p1 s1
    refine ⟨k + 1, ?_, ?_, ?_, ?_, fun hl => ⟨?_, ?_⟩⟩
    · rw [v1, ev]
    · rw [ev]; omega
    · rw [d1]; exact dd
    · rw [p1]; exact pp
    · rw [c1]
      exact gy_c hT (hx hl) k (f 0).2 _ 0 b3 b1 b2 (Nat.zero_le _) tot
    · subst hl
      rw [s1]
      have := gy_steps hG f10 k tot
      omega
  · obtain ⟨b1, b2, b3⟩ := rt r hr
    exact gy_LW hT RK hz k (f r).2 _ p b3 b1 b2 hp hv
