/-! The reference compiles: study, and what it answers. -/
def gs_V (U : gm_S) (z : Int32 × gm_S) (V : gm_S) : Prop := V.2.2 5 = U.2.2 5 ∧ V.1 6 = U.1 6 ∧ V.1 7 = U.1 7 ∧ V.1 8 = U.1 8 ∧ V.1 9 = U.1 9 ∧ V.1 10 = U.1 10 ∧ V.1 11 = U.1 11 ∧ V.1 12 = U.1 12 ∧ V.1 13 = U.1 13 ∧ V.1 14 = z.2.1 14 ∧ V.1 15 = z.2.1 15 ∧ V.1 16 = z.2.1 16 ∧ V.2.1 17 = z.2.2.1 17 ∧ V.2.1 18 = z.2.2.1 18
/-- what is known when the text is read -/
def gs_X (tx : Nat → Int) (ty R : Nat) (f : Nat → Int × Lean.ParserDescr) (t : Int32) (U : gm_S) : Prop := ∃ (Pg : Nat → Nat → Nat → Prop) (nA nC : Nat), gp_G Pg (U.2.2 5) (U.1 6) (U.1 7) (U.1 8) (U.1 9) (U.1 10) (U.1 11) (U.1 12) (U.1 13) R f nA nC ∧ gp_LB Pg tx ty (gp_M (U.2.2 5) (U.1 9)) (U.2.1 17) (U.2.1 18) ∧ (gr_ow (gp_B (U.2.2 5)) R (U.1 13) (gr_rt (U.2.2 5) (U.1 8)) ∧ ∀ r, r < R → (U.1 13 (gr_rt (U.2.2 5) (U.1 8) r)).toInt = (r : Nat)) ∧ gr_zz (gp_B (U.2.2 5)) (gp_M (U.2.2 5) (U.1 9)) (U.1 10) (U.2.1 17) (U.2.1 18) ∧ gm_iN 1 (U.2.2 5) ∧ (0 ≤ ((U.1 9) (Int32.toNatClampNeg (U.2.2 5))).toInt ∧ ((U.1 9) (Int32.toNatClampNeg (U.2.2 5))).toInt ≤ 100) ∧ (0 ≤ ((U.1 6) (Int32.toNatClampNeg (U.2.2 5))).toInt ∧ ((U.1 6) (Int32.toNatClampNeg (U.2.2 5))).toInt ≤ 8) ∧ gm_iS 0 t (U.2.2 5) (U.1 6) (U.1 7) (U.1 8) (U.1 9) (U.1 10) (U.1 11) (U.1 12) (U.1 13) 0 0 (fun _ => 0) (fun _ => 0)
def gs_wl (R : Nat) (f : Nat → Int × Lean.ParserDescr) (V : gm_S) : Prop := (∀ r, r < R → gr_Wd (gp_B (V.2.2 5)) (gp_M (V.2.2 5) (V.1 9)) (V.1 10) (V.1 11) (V.1 13) (V.1 15) (V.1 16) (gr_rt (V.2.2 5) (V.1 8)) r → gq_wd f R r) ∧ ∀ r, r < R → gq_wd f R r → ∃ r', r' ≤ r ∧ gr_Wd (gp_B (V.2.2 5)) (gp_M (V.2.2 5) (V.1 9)) (V.1 10) (V.1 11) (V.1 13) (V.1 15) (V.1 16) (gr_rt (V.2.2 5) (V.1 8)) r'
def gs_af (tx : Nat → Int) (ty R : Nat) (f : Nat → Int × Lean.ParserDescr) (V : gm_S) : Prop := gs_half tx ty R f (V.2.2 5) V ∧ gs_wl R f V ∧ ∀ j, V.1 15 j = 0 ∨ V.1 15 j = 1
def gs_sQ (tx : Nat → Int) (ty R : Nat) (f : Nat → Int × Lean.ParserDescr) (U : gm_S) (z : Int32 × gm_S) : Prop := (∀ V, gs_V U z V → gs_af tx ty R f V) ∧ gp_sF U z.2
theorem gs_study {U : gm_S} (S : gm_S) {tx : Nat → Int} {ty R : Nat} {f : Nat → Int × Lean.ParserDescr} {t : Int32} (e2 : S.2.2 2 = t) (e5 : S.2.2 5 = U.2.2 5) (e6 : S.1 6 = U.1 6) (e7 : S.1 7 = U.1 7) (e8 : S.1 8 = U.1 8) (e9 : S.1 9 = U.1 9) (e10 : S.1 10 = U.1 10) (e11 : S.1 11 = U.1 11) (e12 : S.1 12 = U.1 12) (e13 : S.1 13 = U.1 13) (e14 : S.1 14 = U.1 14) (e15 : S.1 15 = U.1 15) (e16 : S.1 16 = U.1 16) (e17 : S.2.1 17 = U.2.1 17) (e18 : S.2.1 18 = U.2.1 18) (hW : gm_iW 50 t (S.1 3)) (htx : gp_tx t (S.1 3) tx ty) (hb : ∀ j, U.1 15 j = 0 ∨ U.1 15 j = 1) (hX : gs_X tx ty R f t U) (hc : ∀ r, r < R → gr_cn (f r).2) (hu : gs_no R (gq_un f R)) : gs_sQ tx ty R f U (gm_f_MD_study S) := by
  obtain ⟨Pg, nA, nC, hG, hLB, ho, hz, ⟨f0, f1⟩, ⟨p0, p1⟩, ⟨r0, r1⟩, hS⟩ := hX
  have cf := gx_cl (U.2.2 5) f0
  have cp := gx_cl _ p0
  have t1 := htx.1
  have t2 := htx.2.1
  have hB : gp_B (U.2.2 5) = 160 * Int32.toNatClampNeg (U.2.2 5) := rfl
  have hM : gp_M (U.2.2 5) (U.1 9) = 160 * Int32.toNatClampNeg (U.2.2 5) + Int32.toNatClampNeg ((U.1 9) (Int32.toNatClampNeg (U.2.2 5))) := rfl
  have us := gr_unS f0 hG hc ho.1
  have g1 := hG.1
  have l3 := gx_lit 3 (by decide)
  have hU : gm_iU t (U.2.2 5) (U.1 6) (U.1 7) (U.1 8) (U.1 9) (U.1 10) (U.1 11) (U.1 12) (U.1 13) := ⟨⟨f0, f1⟩, ⟨p0, p1⟩, ⟨r0, r1⟩, hS, fun n a b k3 nd => by
    have o := (hS.1 n a b).2
    have k3 : (U.1 10 n).toInt = 3 := by rw [k3]; exact l3
    exact hu ((U.1 13 n).toInt.toNat) (by omega) (us.1 _ (by omega) ⟨n, by omega, by omega, by omega, k3, nd⟩)⟩
  have st := (gy_s_MD_study S (B := gp_B (U.2.2 5)) (Pn := Int32.toNatClampNeg ((U.1 9) (Int32.toNatClampNeg (U.2.2 5)))) (by rw [e2, e5, e6, e7, e8, e9, e10, e11, e12, e13]; exact hU) (by rw [e2]; exact hW) (by rw [e15]; exact hb) (by rw [e5]; omega) (by rw [e5, e9]; exact cp)).2
  have sf := gz_study_F S (by rw [e5]; exact f0) (by rw [e5]; exact f1) (by rw [e5, e9]; exact p1) (by rw [e5, e9]; exact p0) (by rw [e2]; omega)
  generalize gm_f_MD_study S = z at st sf ⊢
  refine ⟨fun V hV => ?_, ?_⟩
  rotate_left
  · have sf : gp_sF S z.2 := sf
    unfold gp_sF at sf ⊢
    rw [e5, e14, e15, e16, e17, e18] at sf
    exact sf
  unfold gp_st at st
  rw [e2, e5, e6, e7, e8, e10, e11, e12, e17, e18] at st
  obtain ⟨x0, xb, xl, xh, y1, yb, yl, yh, y2, yk, y3, y5, y6, y7⟩ := st
  have em := gr_emS (by omega) hU hG rfl y1 y3
  have bg : ∀ r, r < R → (gp_bt (z.2.1 16 (gr_rt (U.2.2 5) (U.1 8) r)) r = true ↔ gq_lB f R r r) := fun r hr => gr_bgS (by omega) hU hG hc rfl em.2 (yb r) (y5 r (by omega)) r hr
  have hd := fun (c : Int) (c1 : 32 ≤ c) (c2 : c ≤ 126) => gr_hdS (by omega) hU hG hc rfl em.2 hLB hz (C := fun n => (z.2.1 14 (50 * Int32.toNatClampNeg (U.2.2 5) + Int32.toNatClampNeg (U.1 11 n))).toInt) (fun n a n1 n2 k1 ka => by
    have nd := (hS.1 n (by omega) (by omega)).1.2.2.2.2.1 k1
    have ca := gx_cl (U.1 11 n) (by omega)
    have e := yk a (by omega) (50 * Int32.toNatClampNeg (U.2.2 5) + Int32.toNatClampNeg (U.1 11 n)) (by omega)
    show (z.2.1 14 (50 * Int32.toNatClampNeg (U.2.2 5) + Int32.toNatClampNeg (U.1 11 n))).toInt = tx a
    rw [e]
    exact (htx.2.2 a (by omega)).1) y6 y7 yl yh c1 c2
  have wd := gr_wdS hG hc ho.1 em.2 bg
  obtain ⟨v5, v6, v7, v8, v9, v10, v11, v12, v13, v14, v15, v16, v17, v18⟩ := hV
  unfold gs_af gs_half gs_wl
  rw [v5, v6, v7, v8, v9, v10, v11, v12, v13, v14, v15, v16, v17, v18]
  refine ⟨⟨Pg, nA, nC, ⟨t, t1, t2, hU⟩, hG, em.1, em.2, fun c c1 c2 => hd c c1 c2, fun k hk => ?_, fun r hr w => ?_⟩, wd, y2⟩
  case refine_2 =>
    have a := ho.2 r hr
    have b := ho.2 0 (by omega)
    rw [w] at a
    omega
  have e := yk k (by omega) (50 * Int32.toNatClampNeg (U.2.2 5) + k) (by omega)
  rw [e]
  exact (htx.2.2 k hk).1
