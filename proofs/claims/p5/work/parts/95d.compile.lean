/-! The reference compiles: what it keeps. -/
def gp_RI (S : gm_S) : Prop := gm_iW 50 (S.2.2 2) (S.1 3) ∧ gm_iW 10 (S.2.2 32) (S.1 33) ∧ gm_iN 200 (S.2.2 41) ∧ (∀ j, S.1 15 j = 0 ∨ S.1 15 j = 1) ∧ gp_RB (S.2.2 4) (S.1 6) (S.1 7) (S.1 8) (S.1 9) (S.1 10) (S.1 11) (S.1 12) (S.1 13) (S.1 15) (S.1 16) (S.1 14) (S.2.1 17) (S.2.1 18)
abbrev gp_RQ (z : Int32 × gm_S) : Prop := gp_RI z.2
theorem gz_tell (x y : Int32) (S : gm_S) : gm_p_MD_tell x y S ∧ (fun z : Int32 × gm_S => True) (gm_f_MD_tell x y S) := ⟨⟨trivial, trivial⟩, trivial⟩
theorem gz_c77 (S : gm_S) (r6 : Int32) (u6 : gm_S) (v24 : Int32) (S24 u72 : gm_S) (hW : gm_iW 50 (S.2.2 2) (S.1 3)) (hW2 : gm_iW 10 (S.2.2 32) (S.1 33)) (hn : gm_iN 200 (S.2.2 41)) : ∀ (n : Nat) (v : Int32) (U : gm_S), gm_iU (S.2.2 2) (U.2.2 5) (U.1 6) (U.1 7) (U.1 8) (U.1 9) (U.1 10) (U.1 11) (U.1 12) (U.1 13) → gp_GB (U.2.2 5) (U.1 6) (U.1 7) (U.1 8) (U.1 9) (U.1 10) (U.1 11) (U.1 12) (U.1 13) → gp_RB (S.2.2 4) (U.1 6) (U.1 7) (U.1 8) (U.1 9) (U.1 10) (U.1 11) (U.1 12) (U.1 13) (U.1 15) (U.1 16) (U.1 14) (U.2.1 17) (U.2.1 18) → U.2.2 4 = S.2.2 4 → (∀ j, U.1 15 j = 0 ∨ U.1 15 j = 1) → gp_RS (U.2.2 5) (U.1 6) (U.1 7) (U.1 8) (U.1 9) (U.1 10) (U.1 11) (U.1 12) (U.1 15) (U.1 16) (U.1 14) (U.2.1 17) (U.2.1 18) → (∀ n : Nat, 160 * (U.2.2 5).toInt ≤ n → (n : Int) < 160 * (U.2.2 5).toInt + ((U.1 9) (Int32.toNatClampNeg (U.2.2 5))).toInt → ((U.1 13) n).toInt < v.toInt → ((U.1 10) n = 7 ∨ (U.1 10) n = 10) → U.1 15 (Int32.toNatClampNeg (U.1 11 n)) = 0) → (∀ r : Nat, (r : Int) < v.toInt → ¬ gp_bt (U.1 16 (Int32.toNatClampNeg (U.1 8 (8 * Int32.toNatClampNeg (U.2.2 5) + r)))) r = true) → 0 ≤ v.toInt → v.toInt ≤ ((U.1 6) (Int32.toNatClampNeg (U.2.2 5))).toInt → ((U.1 6) (Int32.toNatClampNeg (U.2.2 5))).toInt < v.toInt + n → gm_p_MD_compile_77 S r6 u6 v24 S24 u72 n v U ∧ gp_RQ (gm_f_MD_compile_77 S r6 u6 v24 S24 u72 n v U) := by
  intro n
  induction n with
  | zero => intro v U _ _ _ _ _ _ _ _ _ h1 h2; exfalso; omega
  | succ n ih =>
    intro v U hU hG hR e4 hb hE hw hl h0 h1 h2
    have hU' := hU
    obtain ⟨⟨f0, f1⟩, ⟨p0, p1⟩, ⟨r0, r1⟩, hS, hN⟩ := hU'
    rw [gm_p_MD_compile_77, gm_f_MD_compile_77]
    have i5 : vp_in (U.2.2 5) 2 := vp_in_iff.mpr (by omega)
    refine gx_in (Q := gp_RQ) i5 ?_
    refine gx_if (Q := gp_RQ) (fun q => ?_) (fun q => ?_)
    · have q1 := gx_le q
      refine ⟨⟨i5, trivial⟩, hW, hW2, hn, hb, Or.inr ⟨⟨S.2.2 2, hW.1.2, hU⟩, hG, hE, fun n a b t => ?_, fun r hr => hl r (by have hr : (r : Int) < ((U.1 6) (Int32.toNatClampNeg (U.2.2 5))).toInt := hr; omega)⟩⟩
      have cf := gx_cl (U.2.2 5) f0
      have cp := gx_cl _ p0
      have a : 160 * Int32.toNatClampNeg (U.2.2 5) ≤ n := a
      have b : n < 160 * Int32.toNatClampNeg (U.2.2 5) + Int32.toNatClampNeg ((U.1 9) (Int32.toNatClampNeg (U.2.2 5))) := b
      have o := (hS.1 n (by omega) (by omega)).2.2
      exact hw n (by omega) (by omega) (by omega) t
    · have q1 := gx_len q
      have m8 := gx_mk 8 (U.2.2 5) 8 (gx_lit 8 (by decide))
      have s8 := gx_ad (8 * (U.2.2 5)) v
      have b := gx_ak v 1 1 (by decide)
      have W := gy_s_MD_isWild v ((va_up (va_up (va_up (va_up (va_up (va_up (va_up (va_up (va_up (va_up (va_up (va_up (va_up (va_up (va_up (va_up (va_up S.1 6 (U.1 6)) 7 (U.1 7)) 8 (U.1 8)) 9 (U.1 9)) 10 (U.1 10)) 11 (U.1 11)) 12 (U.1 12)) 13 (U.1 13)) 14 (U.1 14)) 15 (U.1 15)) 16 (U.1 16)) 26 (U.1 26)) 27 (U.1 27)) 28 (U.1 28)) 29 (U.1 29)) 30 (U.1 30)) 31 (U.1 31)), (va_up (va_up S.2.1 17 (U.2.1 17)) 18 (U.2.1 18)), (va_up (va_up (va_up (va_up (va_up (va_up (va_up (va_up (va_up (va_up (va_up (va_up S.2.2 0 (U.2.2 0)) 1 (U.2.2 1)) 4 (U.2.2 4)) 5 (U.2.2 5)) 19 (U.2.2 19)) 20 (U.2.2 20)) 21 (U.2.2 21)) 22 (U.2.2 22)) 23 (U.2.2 23)) 24 (U.2.2 24)) 25 (U.2.2 25)) 39 (U.2.2 39))) (ty := S.2.2 2) hU h0 q1
      refine gx_ca (Q := gp_RQ) (fun z : Int32 × gm_S => gp_wd (U.1 10) (U.1 11) (U.1 13) (U.1 15) v (gp_lr ((va_up (va_up (va_up (va_up (va_up (va_up (va_up (va_up (va_up (va_up (va_up (va_up (va_up (va_up (va_up (va_up (va_up S.1 6 (U.1 6)) 7 (U.1 7)) 8 (U.1 8)) 9 (U.1 9)) 10 (U.1 10)) 11 (U.1 11)) 12 (U.1 12)) 13 (U.1 13)) 14 (U.1 14)) 15 (U.1 15)) 16 (U.1 16)) 26 (U.1 26)) 27 (U.1 27)) 28 (U.1 28)) 29 (U.1 29)) 30 (U.1 30)) 31 (U.1 31)), (va_up (va_up S.2.1 17 (U.2.1 17)) 18 (U.2.1 18)), (va_up (va_up (va_up (va_up (va_up (va_up (va_up (va_up (va_up (va_up (va_up (va_up S.2.2 0 (U.2.2 0)) 1 (U.2.2 1)) 4 (U.2.2 4)) 5 (U.2.2 5)) 19 (U.2.2 19)) 20 (U.2.2 20)) 21 (U.2.2 21)) 22 (U.2.2 22)) 23 (U.2.2 23)) 24 (U.2.2 24)) 25 (U.2.2 25)) 39 (U.2.2 39))) v) (160 * (U.2.2 5).toInt) (160 * (U.2.2 5).toInt + ((U.1 9) (Int32.toNatClampNeg (U.2.2 5))).toInt) z.1) W ?_
      clear W
      intro r u hr
      refine gx_if (Q := gp_RQ) (fun t => ?_) (fun t => ?_)
      · refine ih _ _ hU hG hR e4 hb hE (fun k a1 a2 a3 a4 => ?_) (fun k hk => ?_) (by omega) (show (v + 1).toInt ≤ ((U.1 6) (Int32.toNatClampNeg (U.2.2 5))).toInt by omega) (show ((U.1 6) (Int32.toNatClampNeg (U.2.2 5))).toInt < (v + 1).toInt + n by omega)
        · have a3 : ((U.1 13) k).toInt < (v + 1).toInt := a3
          by_cases o : ((U.1 13) k).toInt = v.toInt
          · rcases hr with ⟨-, -, hr⟩ | ⟨hr, -⟩
            · exact hr k a1 a2 (Int32.toInt_inj.mp o) a4
            · have hr : r = 1 := hr
              rw [hr] at t
              exact absurd t (by decide)
          · have := (hS.1 k a1 a2).2.1
            exact hw k a1 a2 (by omega) a4
        · have hk : (k : Int) < (v + 1).toInt := hk
          show ¬ gp_bt (U.1 16 (Int32.toNatClampNeg (U.1 8 (8 * Int32.toNatClampNeg (U.2.2 5) + k)))) k = true
          by_cases o : (k : Int) = v.toInt
          · rcases hr with ⟨-, hr, -⟩ | ⟨hr, -⟩
            · intro bt
              have cf := gx_cl (U.2.2 5) f0
              have cv := gx_cl v h0
              have c8 := gx_cl ((8 * (U.2.2 5)) + v) (by omega)
              have e8 : Int32.toNatClampNeg ((8 * (U.2.2 5)) + v) = 8 * Int32.toNatClampNeg (U.2.2 5) + k := by omega
              have ev : v = nI k := by
                obtain ⟨j, hj, e⟩ := nI_of (x := v) (fun h9 => by have := gx_ltr (k := 0) (by decide) h9; omega)
                have : j = k := by
                  have := nI_toInt hj
                  rw [← e] at this
                  omega
                rw [e, this]
              have one : gp_lr ((va_up (va_up (va_up (va_up (va_up (va_up (va_up (va_up (va_up (va_up (va_up (va_up (va_up (va_up (va_up (va_up (va_up S.1 6 (U.1 6)) 7 (U.1 7)) 8 (U.1 8)) 9 (U.1 9)) 10 (U.1 10)) 11 (U.1 11)) 12 (U.1 12)) 13 (U.1 13)) 14 (U.1 14)) 15 (U.1 15)) 16 (U.1 16)) 26 (U.1 26)) 27 (U.1 27)) 28 (U.1 28)) 29 (U.1 29)) 30 (U.1 30)) 31 (U.1 31)), (va_up (va_up S.2.1 17 (U.2.1 17)) 18 (U.2.1 18)), (va_up (va_up (va_up (va_up (va_up (va_up (va_up (va_up (va_up (va_up (va_up (va_up S.2.2 0 (U.2.2 0)) 1 (U.2.2 1)) 4 (U.2.2 4)) 5 (U.2.2 5)) 19 (U.2.2 19)) 20 (U.2.2 20)) 21 (U.2.2 21)) 22 (U.2.2 22)) 23 (U.2.2 23)) 24 (U.2.2 24)) 25 (U.2.2 25)) 39 (U.2.2 39))) v = 1 := by
                refine if_pos ?_
                show (((U.1 16) (Int32.toNatClampNeg ((U.1 8) (Int32.toNatClampNeg ((8 * (U.2.2 5)) + v))))) >>> (v &&& 31)) &&& 1 = 1
                rw [e8, ev]
                exact (gp_bit32 _ k (by omega)).mpr bt
              rw [one] at hr
              exact absurd hr (by decide)
            · have hr : r = 1 := hr
              rw [hr] at t
              exact absurd t (by decide)
          · exact hl k (by omega)
      · refine gx_in (Q := gp_RQ) (vp_in_iff.mpr (by omega)) ?_
        refine gx_ca (Q := gp_RQ) (fun _ => True) (gz_tell _ _ _) (fun r2 u2 _ => ⟨trivial, hW, hW2, hn, hb, ?_⟩)
        show gp_RB (U.2.2 4) (U.1 6) (U.1 7) (U.1 8) (U.1 9) (U.1 10) (U.1 11) (U.1 12) (U.1 13) (U.1 15) (U.1 16) (U.1 14) (U.2.1 17) (U.2.1 18)
        rw [e4]
        exact hR
theorem gz_c24 (S : gm_S) (r6 : Int32) (u6 : gm_S) (hW : gm_iW 50 (S.2.2 2) (S.1 3)) (hW2 : gm_iW 10 (S.2.2 32) (S.1 33)) (hn : gm_iN 200 (S.2.2 41)) : ∀ (n : Nat) (v : Int32) (U : gm_S), (0 ≤ (U.2.2 5).toInt ∧ (U.2.2 5).toInt ≤ 1) → U.2.2 5 = (if S.2.2 4 = 0 then 1 else 0) → (0 ≤ ((U.1 9) (Int32.toNatClampNeg (U.2.2 5))).toInt ∧ ((U.1 9) (Int32.toNatClampNeg (U.2.2 5))).toInt ≤ 100) → (0 ≤ ((U.1 6) (Int32.toNatClampNeg (U.2.2 5))).toInt ∧ ((U.1 6) (Int32.toNatClampNeg (U.2.2 5))).toInt ≤ 8) → gm_iS 0 (S.2.2 2) (U.2.2 5) (U.1 6) (U.1 7) (U.1 8) (U.1 9) (U.1 10) (U.1 11) (U.1 12) (U.1 13) 0 0 (fun _ => 0) (fun _ => 0) → gp_GB (U.2.2 5) (U.1 6) (U.1 7) (U.1 8) (U.1 9) (U.1 10) (U.1 11) (U.1 12) (U.1 13) → gp_RB (S.2.2 4) (U.1 6) (U.1 7) (U.1 8) (U.1 9) (U.1 10) (U.1 11) (U.1 12) (U.1 13) (U.1 15) (U.1 16) (U.1 14) (U.2.1 17) (U.2.1 18) → U.2.2 4 = S.2.2 4 → (∀ j, U.1 15 j = 0 ∨ U.1 15 j = 1) → (∀ n : Nat, 160 * (U.2.2 5).toInt ≤ n → (n : Int) < 160 * (U.2.2 5).toInt + ((U.1 9) (Int32.toNatClampNeg (U.2.2 5))).toInt → ((U.1 13) n).toInt < v.toInt → (U.1 10) n = 3 → ¬ gp_nd (U.1 6) (U.1 7) (U.2.2 5) (U.1 11 n)) → 0 ≤ v.toInt → v.toInt ≤ ((U.1 6) (Int32.toNatClampNeg (U.2.2 5))).toInt → ((U.1 6) (Int32.toNatClampNeg (U.2.2 5))).toInt < v.toInt + n → gm_p_MD_compile_24 S r6 u6 n v U ∧ gp_RQ (gm_f_MD_compile_24 S r6 u6 n v U) := by
  intro n
  induction n with
  | zero => intro v U _ _ _ _ _ _ _ _ _ _ _ h1 h2; exfalso; omega
  | succ n ih =>
    intro v U hf hF hp hr hS hG hR e4 hb hw h0 h1 h2
    rw [gm_p_MD_compile_24, gm_f_MD_compile_24]
    have i5 : vp_in (U.2.2 5) 2 := vp_in_iff.mpr (by omega)
    have cf := gx_cl (U.2.2 5) hf.1
    have cp := gx_cl _ hp.1
    refine gx_in (Q := gp_RQ) i5 ?_
    refine gx_if (Q := gp_RQ) (fun q => ?_) (fun q => ?_)
    · have q1 := gx_le q
      have hU : gm_iU (S.2.2 2) (U.2.2 5) (U.1 6) (U.1 7) (U.1 8) (U.1 9) (U.1 10) (U.1 11) (U.1 12) (U.1 13) := ⟨hf, hp, hr, hS, fun k a1 a2 => hw k a1 a2 (by have := (hS.1 k a1 a2).2.2; omega)⟩
      have st := gy_s_MD_study ((va_up (va_up (va_up (va_up (va_up (va_up (va_up (va_up (va_up (va_up (va_up (va_up (va_up (va_up (va_up (va_up (va_up S.1 6 (U.1 6)) 7 (U.1 7)) 8 (U.1 8)) 9 (U.1 9)) 10 (U.1 10)) 11 (U.1 11)) 12 (U.1 12)) 13 (U.1 13)) 14 (U.1 14)) 15 (U.1 15)) 16 (U.1 16)) 26 (U.1 26)) 27 (U.1 27)) 28 (U.1 28)) 29 (U.1 29)) 30 (U.1 30)) 31 (U.1 31)), (va_up (va_up S.2.1 17 (U.2.1 17)) 18 (U.2.1 18)), (va_up (va_up (va_up (va_up (va_up (va_up (va_up (va_up (va_up (va_up (va_up (va_up S.2.2 0 (U.2.2 0)) 1 (U.2.2 1)) 4 (U.2.2 4)) 5 (U.2.2 5)) 19 (U.2.2 19)) 20 (U.2.2 20)) 21 (U.2.2 21)) 22 (U.2.2 22)) 23 (U.2.2 23)) 24 (U.2.2 24)) 25 (U.2.2 25)) 39 (U.2.2 39))) (B := gp_B (U.2.2 5)) (Pn := Int32.toNatClampNeg ((U.1 9) (Int32.toNatClampNeg (U.2.2 5)))) hU hW hb (show ((160 * Int32.toNatClampNeg (U.2.2 5) : Nat) : Int) = 160 * (U.2.2 5).toInt by omega) cp
      have sf := gz_study_F ((va_up (va_up (va_up (va_up (va_up (va_up (va_up (va_up (va_up (va_up (va_up (va_up (va_up (va_up (va_up (va_up (va_up S.1 6 (U.1 6)) 7 (U.1 7)) 8 (U.1 8)) 9 (U.1 9)) 10 (U.1 10)) 11 (U.1 11)) 12 (U.1 12)) 13 (U.1 13)) 14 (U.1 14)) 15 (U.1 15)) 16 (U.1 16)) 26 (U.1 26)) 27 (U.1 27)) 28 (U.1 28)) 29 (U.1 29)) 30 (U.1 30)) 31 (U.1 31)), (va_up (va_up S.2.1 17 (U.2.1 17)) 18 (U.2.1 18)), (va_up (va_up (va_up (va_up (va_up (va_up (va_up (va_up (va_up (va_up (va_up (va_up S.2.2 0 (U.2.2 0)) 1 (U.2.2 1)) 4 (U.2.2 4)) 5 (U.2.2 5)) 19 (U.2.2 19)) 20 (U.2.2 20)) 21 (U.2.2 21)) 22 (U.2.2 22)) 23 (U.2.2 23)) 24 (U.2.2 24)) 25 (U.2.2 25)) 39 (U.2.2 39))) hf.1 hf.2 hp.2 hp.1 hW.1.2
      refine gx_ca (Q := gp_RQ) (fun z : Int32 × gm_S => gp_st ((va_up (va_up (va_up (va_up (va_up (va_up (va_up (va_up (va_up (va_up (va_up (va_up (va_up (va_up (va_up (va_up (va_up S.1 6 (U.1 6)) 7 (U.1 7)) 8 (U.1 8)) 9 (U.1 9)) 10 (U.1 10)) 11 (U.1 11)) 12 (U.1 12)) 13 (U.1 13)) 14 (U.1 14)) 15 (U.1 15)) 16 (U.1 16)) 26 (U.1 26)) 27 (U.1 27)) 28 (U.1 28)) 29 (U.1 29)) 30 (U.1 30)) 31 (U.1 31)), (va_up (va_up S.2.1 17 (U.2.1 17)) 18 (U.2.1 18)), (va_up (va_up (va_up (va_up (va_up (va_up (va_up (va_up (va_up (va_up (va_up (va_up S.2.2 0 (U.2.2 0)) 1 (U.2.2 1)) 4 (U.2.2 4)) 5 (U.2.2 5)) 19 (U.2.2 19)) 20 (U.2.2 20)) 21 (U.2.2 21)) 22 (U.2.2 22)) 23 (U.2.2 23)) 24 (U.2.2 24)) 25 (U.2.2 25)) 39 (U.2.2 39))) (gp_B (U.2.2 5)) (Int32.toNatClampNeg ((U.1 9) (Int32.toNatClampNeg (U.2.2 5)))) z ∧ gp_sQ ((va_up (va_up (va_up (va_up (va_up (va_up (va_up (va_up (va_up (va_up (va_up (va_up (va_up (va_up (va_up (va_up (va_up S.1 6 (U.1 6)) 7 (U.1 7)) 8 (U.1 8)) 9 (U.1 9)) 10 (U.1 10)) 11 (U.1 11)) 12 (U.1 12)) 13 (U.1 13)) 14 (U.1 14)) 15 (U.1 15)) 16 (U.1 16)) 26 (U.1 26)) 27 (U.1 27)) 28 (U.1 28)) 29 (U.1 29)) 30 (U.1 30)) 31 (U.1 31)), (va_up (va_up S.2.1 17 (U.2.1 17)) 18 (U.2.1 18)), (va_up (va_up (va_up (va_up (va_up (va_up (va_up (va_up (va_up (va_up (va_up (va_up S.2.2 0 (U.2.2 0)) 1 (U.2.2 1)) 4 (U.2.2 4)) 5 (U.2.2 5)) 19 (U.2.2 19)) 20 (U.2.2 20)) 21 (U.2.2 21)) 22 (U.2.2 22)) 23 (U.2.2 23)) 24 (U.2.2 24)) 25 (U.2.2 25)) 39 (U.2.2 39))) z) ⟨st.1, st.2, sf⟩ ?_
      clear st sf
      intro r u hu
      obtain ⟨⟨x0, xb, xl, xh, y1, yb, -, -, y2, -, y3, y5, y6, y7⟩, y4⟩ := hu
      have y2 : ∀ j, u.1 15 j = 0 ∨ u.1 15 j = 1 := y2
      have y8 : ∀ n, (n < 160 * Int32.toNatClampNeg (U.2.2 5) ∨ 160 * Int32.toNatClampNeg (U.2.2 5) + 160 ≤ n) → u.1 15 n = U.1 15 n ∧ u.1 16 n = U.1 16 n ∧ u.2.1 17 n = U.2.1 17 n ∧ u.2.1 18 n = U.2.1 18 n := y4.1
      have y9 : ∀ n, (n < 50 * Int32.toNatClampNeg (U.2.2 5) ∨ 50 * Int32.toNatClampNeg (U.2.2 5) + 50 ≤ n) → u.1 14 n = U.1 14 n := y4.2
      have y3 : gp_v (u.1 15) (gp_B (U.2.2 5)) = gp_it (gp_FE (U.1 10) (U.1 11) (U.1 12) (fun n => gp_mz (U.1 6) (U.1 7) (U.1 8) (U.2.2 5) (U.1 11 n)) (gp_B (U.2.2 5))) (Int32.toNatClampNeg ((U.1 9) (Int32.toNatClampNeg (U.2.2 5)))) (Int32.toNatClampNeg ((U.1 9) (Int32.toNatClampNeg (U.2.2 5)))) x0 := y3
      have rest := gp_em_rest' y1 y3
      have z0 : (0 : Int32).toInt = 0 := by decide
      have hB : gp_B (U.2.2 5) = 160 * Int32.toNatClampNeg (U.2.2 5) := rfl
      have at' : ∀ k, gp_B (U.2.2 5) ≤ k → k < gp_M (U.2.2 5) (U.1 9) → gp_B (U.2.2 5) + (k - gp_B (U.2.2 5)) = k ∧ k - gp_B (U.2.2 5) < Int32.toNatClampNeg ((U.1 9) (Int32.toNatClampNeg (U.2.2 5))) := by
        intro k a b
        have b : k < 160 * Int32.toNatClampNeg (U.2.2 5) + Int32.toNatClampNeg ((U.1 9) (Int32.toNatClampNeg (U.2.2 5))) := b
        omega
      refine gz_c77 S r6 u6 v U u hW hW2 hn 200 0 _ hU hG ?_ e4 y2 ⟨fun k a b => ?_, fun k a b c c1 c2 t => ?_, fun q hq k a b t => ?_⟩ (fun k a1 a2 a3 => ?_) (fun r hr => by omega) (by omega) (show (0 : Int32).toInt ≤ ((U.1 6) (Int32.toNatClampNeg (U.2.2 5))).toInt by omega) (show ((U.1 6) (Int32.toNatClampNeg (U.2.2 5))).toInt < (0 : Int32).toInt + (200 : Nat) by omega)
      · exact gp_RB_hs (lx := U.2.1 17) (hx := U.2.1 18) hR hF (gp_O_r _ _ _ _ _ _ _ _ _) (gp_O2_r _ _ _ _) y8 y9
      · have e := at' k a b
        have w := rest (k - gp_B (U.2.2 5)) e.2
        rw [e.1] at w
        exact w
      · have e := at' k a b
        show gp_ih (u.2.1 17) (u.2.1 18) k c
        by_cases c3 : c < 96
        · have w := gp_hd_rest (y6 (c - 32).toNat (by omega)) (k - gp_B (U.2.2 5)) e.2
          rw [e.1] at w
          refine Or.inl ⟨c1, c3, w ?_⟩
          have f : ∀ j, (gp_B (U.2.2 5) ≤ j ∧ gp_ih (u.2.1 17) (u.2.1 18) j c) → gp_B (U.2.2 5) ≤ j ∧ gp_bl (u.2.1 17 j) (c - 32).toNat = true := by
            rintro j ⟨j1, ⟨-, -, j2⟩ | ⟨j2, -⟩⟩
            · exact ⟨j1, j2⟩
            · omega
          rcases t with ⟨k1, t⟩ | ⟨k1, t⟩ | ⟨k1, t | t⟩ | ⟨k1, t | t⟩ | ⟨k1, t⟩
          · have t : (u.1 14 (50 * Int32.toNatClampNeg (U.2.2 5) + Int32.toNatClampNeg (U.1 11 k))).toInt = c := t
            refine Or.inl ⟨k1, ?_⟩
            show (u.1 14 (50 * Int32.toNatClampNeg (U.2.2 5) + Int32.toNatClampNeg (U.1 11 k))).toInt < 96 ∧ (((c - 32).toNat : Nat) : Int) = (u.1 14 (50 * Int32.toNatClampNeg (U.2.2 5) + Int32.toNatClampNeg (U.1 11 k))).toInt - 32
            omega
          · exact Or.inr (Or.inl ⟨k1, f _ t⟩)
          · exact Or.inr (Or.inr (Or.inl ⟨k1, Or.inl (f _ t)⟩))
          · exact Or.inr (Or.inr (Or.inl ⟨k1, Or.inr ⟨t.1, f _ t.2⟩⟩))
          · exact Or.inr (Or.inr (Or.inr (Or.inl ⟨k1, Or.inl (f _ t)⟩)))
          · exact Or.inr (Or.inr (Or.inr (Or.inl ⟨k1, Or.inr (f _ t)⟩)))
          · exact Or.inr (Or.inr (Or.inr (Or.inr ⟨k1, f _ t⟩)))
        · have w := gp_hd_rest (y7 (c - 96).toNat (by omega)) (k - gp_B (U.2.2 5)) e.2
          rw [e.1] at w
          refine Or.inr ⟨by omega, c2, w ?_⟩
          have f : ∀ j, (gp_B (U.2.2 5) ≤ j ∧ gp_ih (u.2.1 17) (u.2.1 18) j c) → gp_B (U.2.2 5) ≤ j ∧ gp_bl (u.2.1 18 j) (c - 96).toNat = true := by
            rintro j ⟨j1, ⟨-, j2, -⟩ | ⟨-, -, j2⟩⟩
            · omega
            · exact ⟨j1, j2⟩
          rcases t with ⟨k1, t⟩ | ⟨k1, t⟩ | ⟨k1, t | t⟩ | ⟨k1, t | t⟩ | ⟨k1, t⟩
          · have t : (u.1 14 (50 * Int32.toNatClampNeg (U.2.2 5) + Int32.toNatClampNeg (U.1 11 k))).toInt = c := t
            refine Or.inl ⟨k1, ?_⟩
            show 96 ≤ (u.1 14 (50 * Int32.toNatClampNeg (U.2.2 5) + Int32.toNatClampNeg (U.1 11 k))).toInt ∧ (((c - 96).toNat : Nat) : Int) = (u.1 14 (50 * Int32.toNatClampNeg (U.2.2 5) + Int32.toNatClampNeg (U.1 11 k))).toInt - 96
            omega
          · exact Or.inr (Or.inl ⟨k1, f _ t⟩)
          · exact Or.inr (Or.inr (Or.inl ⟨k1, Or.inl (f _ t)⟩))
          · exact Or.inr (Or.inr (Or.inl ⟨k1, Or.inr ⟨t.1, f _ t.2⟩⟩))
          · exact Or.inr (Or.inr (Or.inr (Or.inl ⟨k1, Or.inl (f _ t)⟩)))
          · exact Or.inr (Or.inr (Or.inr (Or.inl ⟨k1, Or.inr (f _ t)⟩)))
          · exact Or.inr (Or.inr (Or.inr (Or.inr ⟨k1, f _ t⟩)))
      · have e := at' k a b
        have w := (gp_bg_rest (yb q) (y5 q (by omega)) (k - gp_B (U.2.2 5)) e.2).mpr
        rw [e.1] at w
        exact w t
      · have o := (hS.1 k a1 a2).2.1
        have a3 : ((U.1 13) k).toInt < (0 : Int32).toInt := a3
        exfalso
        omega
    · have q1 := gx_len q
      have m8 := gx_mk 8 (U.2.2 5) 8 (gx_lit 8 (by decide))
      have s8 := gx_ad (8 * (U.2.2 5)) v
      have b := gx_ak v 1 1 (by decide)
      have X := gy_s_MD_isUndefined v ((va_up (va_up (va_up (va_up (va_up (va_up (va_up (va_up (va_up (va_up (va_up (va_up (va_up (va_up (va_up (va_up (va_up S.1 6 (U.1 6)) 7 (U.1 7)) 8 (U.1 8)) 9 (U.1 9)) 10 (U.1 10)) 11 (U.1 11)) 12 (U.1 12)) 13 (U.1 13)) 14 (U.1 14)) 15 (U.1 15)) 16 (U.1 16)) 26 (U.1 26)) 27 (U.1 27)) 28 (U.1 28)) 29 (U.1 29)) 30 (U.1 30)) 31 (U.1 31)), (va_up (va_up S.2.1 17 (U.2.1 17)) 18 (U.2.1 18)), (va_up (va_up (va_up (va_up (va_up (va_up (va_up (va_up (va_up (va_up (va_up (va_up S.2.2 0 (U.2.2 0)) 1 (U.2.2 1)) 4 (U.2.2 4)) 5 (U.2.2 5)) 19 (U.2.2 19)) 20 (U.2.2 20)) 21 (U.2.2 21)) 22 (U.2.2 22)) 23 (U.2.2 23)) 24 (U.2.2 24)) 25 (U.2.2 25)) 39 (U.2.2 39))) hf hS hp.1 (show ((U.1 9) (Int32.toNatClampNeg (U.2.2 5))).toInt ≤ 160 by omega) hr.2
      refine gx_ca (Q := gp_RQ) (fun z : Int32 × gm_S => gp_un (U.1 6) (U.1 7) (U.1 10) (U.1 11) (U.1 13) (U.2.2 5) v (160 * (U.2.2 5).toInt) (160 * (U.2.2 5).toInt + ((U.1 9) (Int32.toNatClampNeg (U.2.2 5))).toInt) z.1) X ?_
      clear X
      intro r u hu
      refine gx_if (Q := gp_RQ) (fun t => ?_) (fun t => ?_)
      · refine ih _ _ hf hF hp hr hS hG hR e4 hb (fun k a1 a2 a3 a4 => ?_) (by omega) (show (v + 1).toInt ≤ ((U.1 6) (Int32.toNatClampNeg (U.2.2 5))).toInt by omega) (show ((U.1 6) (Int32.toNatClampNeg (U.2.2 5))).toInt < (v + 1).toInt + n by omega)
        have a3 : ((U.1 13) k).toInt < (v + 1).toInt := a3
        by_cases o : ((U.1 13) k).toInt = v.toInt
        · rcases hu with ⟨-, hu⟩ | ⟨hu, -⟩
          · exact hu k a1 a2 (Int32.toInt_inj.mp o) a4
          · have hu : r = 1 := hu
            rw [hu] at t
            exact absurd t (by decide)
        · have := (hS.1 k a1 a2).2.1
          exact hw k a1 a2 (by omega) a4
      · refine gx_in (Q := gp_RQ) (vp_in_iff.mpr (by omega)) ?_
        refine gx_ca (Q := gp_RQ) (fun _ => True) (gz_tell _ _ _) (fun r2 u2 _ => ⟨trivial, hW, hW2, hn, hb, ?_⟩)
        show gp_RB (U.2.2 4) (U.1 6) (U.1 7) (U.1 8) (U.1 9) (U.1 10) (U.1 11) (U.1 12) (U.1 13) (U.1 15) (U.1 16) (U.1 14) (U.2.1 17) (U.2.1 18)
        rw [e4]
        exact hR
/-- the text as numbers -/
def gp_tn (S : gm_S) : Nat → Int := fun k => ((S.1 3) k).toInt
theorem gp_tx_of {S : gm_S} (h : gm_iW 50 (S.2.2 2) (S.1 3)) : gp_tx (S.2.2 2) (S.1 3) (gp_tn S) (Int32.toNatClampNeg (S.2.2 2)) := by
  have h0 := h.1.1
  have h1 := h.1.2
  have c := gx_cl (S.2.2 2) h0
  exact ⟨c.symm, by omega, fun k hk => ⟨rfl, h.2 k (by omega)⟩⟩
theorem gz_compile (S : gm_S) (h : gp_RI S) : gm_p_MD_compile S ∧ gp_RQ (gm_f_MD_compile S) := by
  obtain ⟨hW, hW2, hn, hb, hR⟩ := h
  have Y := gy_s_MD_read (S.1, S.2.1, (va_up S.2.2 0 0)) hW
  have Z := gz_read (S.1, S.2.1, (va_up S.2.2 0 0)) (gp_tx_of hW) hW (fun _ => (0, gp_e0 0 0 0))
  unfold gm_p_MD_compile gm_f_MD_compile
  refine gx_ca (Q := gp_RQ) (fun z => gy_q_MD_read (S.1, S.2.1, (va_up S.2.2 0 0)) z ∧ gp_Qd (gp_tn S) (Int32.toNatClampNeg (S.2.2 2)) (S.1, S.2.1, (va_up S.2.2 0 0)) (if S.2.2 4 = 0 then 1 else 0) (gp_rd (gp_tn S) (Int32.toNatClampNeg (S.2.2 2)) (Int32.toNatClampNeg (S.2.2 2) + 1) 0 (fun _ => (0, gp_e0 0 0 0)) 0 0 0) z) ⟨Y.1, Y.2, Z⟩ ?_
  clear Y Z
  intro r u hu
  obtain ⟨⟨Y0, Y1, Y2, Y3, Y4, Y5, Y6, Y7, Y8⟩, Z1, Z2, Z3, Z4⟩ := hu
  have Z2 : u.2.2 5 = (if S.2.2 4 = 0 then 1 else 0) := Z2
  have hR' : gp_RB (S.2.2 4) (u.1 6) (u.1 7) (u.1 8) (u.1 9) (u.1 10) (u.1 11) (u.1 12) (u.1 13) (S.1 15) (S.1 16) (S.1 14) (u.2.1 17) (u.2.1 18) := gp_RB_hs hR rfl Z3 Z4 (fun n hn => ⟨rfl, rfl, (Z3.2 n hn).2.2.2.2.1, (Z3.2 n hn).2.2.2.2.2⟩) (fun _ _ => rfl)
  refine gx_if (Q := gp_RQ) (fun q => ?_) (fun q => ?_)
  · refine gx_ca (Q := gp_RQ) (fun _ => True) (gz_tell _ _ _) (fun r2 u2 _ => ⟨trivial, hW, hW2, hn, hb, hR'⟩)
  · have z0 : (0 : Int32).toInt = 0 := by decide
    generalize gp_rd (gp_tn S) (Int32.toNatClampNeg (S.2.2 2)) (Int32.toNatClampNeg (S.2.2 2) + 1) 0 (fun _ => (0, gp_e0 0 0 0)) 0 0 0 = res at Z1
    match res, Z1 with
    | .inl j, Z1 => exact absurd Z1.1 q
    | .inr t, Z1 =>
      obtain ⟨w1, w0, w2, w3, w4, w5, w6, w7⟩ := Z1
      rw [← Z2] at w2
      obtain ⟨Pg, w2, -, -⟩ := w2
      have w2 : gp_G Pg (u.2.2 5) (u.1 6) (u.1 7) (u.1 8) (u.1 9) (u.1 10) (u.1 11) (u.1 12) (u.1 13) t.1 t.2.1 t.2.2.1 t.2.2.2 := w2
      have iS : gm_iS 0 (S.2.2 2) (u.2.2 5) (u.1 6) (u.1 7) (u.1 8) (u.1 9) (u.1 10) (u.1 11) (u.1 12) (u.1 13) 0 0 (fun _ => 0) (fun _ => 0) := by
        rcases Y0 with Y0 | Y0
        · exfalso
          exact Y0 w0
        · exact Y0
      exact gz_c24 S r u hW hW2 hn 200 0 _ ⟨Y1, Y2⟩ Z2 ⟨Y3, Y4⟩ ⟨Y7, Y8⟩ iS ⟨Pg, t.1, t.2.1, t.2.2.1, t.2.2.2, w2, w3, w5, w6, w7⟩ hR' rfl hb (fun k a1 a2 a3 => by
        have o := (iS.1 k a1 a2).2.1
        have a3 : ((u.1 13) k).toInt < (0 : Int32).toInt := a3
        exfalso
        omega) (by omega) (show (0 : Int32).toInt ≤ ((u.1 6) (Int32.toNatClampNeg (u.2.2 5))).toInt from by rw [z0]; exact Y7) (show ((u.1 6) (Int32.toNatClampNeg (u.2.2 5))).toInt < (0 : Int32).toInt + (200 : Nat) by have : ((u.1 6) (Int32.toNatClampNeg (u.2.2 5))).toInt ≤ 8 := Y8; omega)
