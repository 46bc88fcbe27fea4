/-! The reference's match, by its table. -/
theorem gc_gatherS (x : Int32) (S : gm_S) {P fed : Nat} (hC : gp_WC S P fed) {rank : Nat → Nat} (RK : gp_RK (S.1 10) (S.1 11) (S.1 12) (gp_Mz S) (S.1 15) (gp_Bs S) P rank) {rk : Nat → Nat} {t : Nat} (hF : gp_FT S P fed rk t) {cp : Nat → Nat → Nat} (hcp : gp_CP S P fed rk cp) (hka : gp_ka (S.1 10) (gp_Bs S) P ≤ 75) (hx : gp_vc S P fed (Int32.toNatClampNeg x) 0) (hx3 : 0 ≤ x.toInt) {Pg : Nat → Nat → Nat → Prop} {C : gv_C} (hTT : gy_T (S.1 10) (S.1 11) (S.1 12) (gp_Mz S) Pg (gp_So S fed) (gp_Sr S fed) (gp_Bs S) P fed (gp_Tb (gp_Bs S) (S.1 34)) (gp_Tb (gp_Bs S) (S.1 35)) C) {L : List (Nat × Nat × Int)} (hP : gc_P Pg (S.1 10) (S.1 11) (S.1 12) (gp_Bs S) C (Int32.toNatClampNeg x) 0 (-1) 0 L) (U : gm_S) : gc_Q U 0 L (gm_f_MD_gather x S) := by
  have f1 := hC.2.2.1.2
  have p1 := hC.2.1.2
  have z0 : (0 : Int32).toInt = 0 := by decide
  have c0 : Int32.toNatClampNeg 0 = 0 := by decide
  have n1 : (-1 : Int32).toInt = -1 := by decide
  have zq : ∀ (V : gm_S) z, gc_Q V 0 L z → gc_Q U 0 L z := fun V z h => ⟨h.1, fun i hi => absurd hi (by omega), h.2.2⟩
  unfold gm_f_MD_gather
  refine gf_ca (Q := gc_Q U 0 L) _ (gz_hold x 0 (-1) (S.1, S.2.1, va_up (va_up S.2.2 41 0) 38 0) hC (h := 0) hx.1 hx.2.1 hx3 (by omega) (by omega) z0 (by omega)).2 ?_
  intro r u hu
  obtain ⟨w1, r3, w2, w3⟩ := hu
  rw [c0] at w2
  have w3 : u.1 37 = upd (upd (S.1 37) (2 * 0) r3) (2 * 0 + 1) (-1) := w3
  have db := gp_dd_b (S.1 10) (gp_Bs S) P rk (11 * (Int32.toNatClampNeg x - gp_Bs S) + 0)
  have pu := gp_GI_push (S := S) (P := P) (fed := fed) (rk := rk) (cp := cp) (a := S.1 37) (h := 0) (nd := 0) (fun i hi => absurd hi (by omega)) hx f1 (by omega) (y := -1) w2
  generalize hN : gm_pw 500000 = N
  refine zq _ _ (gc_gather17 x S u hC RK hF hcp hTT N ((va_up S.1 37 (u.1 37)), S.2.1, (va_up (va_up S.2.2 41 0) 38 (u.2.2 38))) 1 0 L w1 z0 ?_ ?_).2
  · show gp_GI S P fed rk cp (u.1 37) 1 0 N
    rw [w3]
    refine ⟨pu.1, ?_, ?_⟩
    · rw [pu.2]
      have rl : gp_rr P rk (11 * (Int32.toNatClampNeg x - gp_Bs S) + 0) ≤ 11 * P := gp_c_le _ _
      have mo := gm_pw_mono (show gp_rr P rk (11 * (Int32.toNatClampNeg x - gp_Bs S) + 0) + 1 ≤ 500000 by omega)
      have po := gm_pw_pos (gp_rr P rk (11 * (Int32.toNatClampNeg x - gp_Bs S) + 0) + 1)
      rw [hN] at mo
      show 0 + gp_wt P rk (11 * (Int32.toNatClampNeg x - gp_Bs S) + 0) < N
      unfold gp_wt
      omega
    · rw [pu.2, gp_ei_c hx.1 (by omega)]
      have c20 := (hcp _ _ hx).1
      have sd := gp_vc_sd hC hF hx.1 hx.2.1 hx.2.2.1
      have vx := hx.2.2.2
      show 0 + (0 + gp_ev cp (gp_Tb (gp_Bs S) (S.1 34)) (Int32.toNatClampNeg x) 0) ≤ 200
      unfold gp_ev
      rcases sd with sd | ⟨-, sd, -⟩
      · omega
      · split <;> omega
  · show gc_S S P fed Pg C (u.1 37) (0 + 1) 0 L
    rw [w3]
    refine ⟨Int32.toNatClampNeg x, 0, L, [], hx, ?_, ?_, (List.append_nil L).symm, rfl⟩
    · rw [gx_un _ _ _ (by omega), gx_us]; exact w2
    · rw [gx_us, n1]; exact hP
/-- the state with the table full -/
abbrev gc_A (S : gm_S) (tk ck : Nat → Int32) : gm_S := (va_up (va_up S.1 34 tk) 35 ck, S.2.1, va_up (va_up (va_up S.2.2 0 0) 39 1) 41 0)
/-- nodes: none, or those of what the first rule took -/
def gc_nQ (A : gm_S) (P fed : Nat) (z : Int32 × gm_S) : Prop := (gy_tv A < 0 → z.2.2.2 41 = 0) ∧ (0 ≤ gy_tv A → ∀ (Pg : Nat → Nat → Nat → Prop) (C : gv_C) (L : List (Nat × Nat × Int)), gy_T (A.1 10) (A.1 11) (A.1 12) (gp_Mz A) Pg (gp_So A fed) (gp_Sr A fed) (gp_Bs A) P fed (gp_Tb (gp_Bs A) (A.1 34)) (gp_Tb (gp_Bs A) (A.1 35)) C → gc_P Pg (A.1 10) (A.1 11) (A.1 12) (gp_Bs A) C (gy_st A) 0 (-1) 0 L → gc_Q A 0 L z)
/-- the same with the work k0 -/
def gc_jQ (A : gm_S) (P fed : Nat) (k0 : Int32) (z : Int32 × gm_S) : Prop := (z.2.2.2 39 = 1 ∧ z.2.2.2 0 = 0) ∧ z.1.toInt = gy_tv A ∧ z.2.2.2 40 = k0 ∧ gc_nQ A P fed z
/-- how a match ends -/
def gc_mQ (x : Int32) (A : gm_S) (P fed : Nat) (z : Int32 × gm_S) : Prop := (z.2.2.2 39 = 1 ∧ z.2.2.2 0 = 0) ∧ (¬ x = 0 → 1000 < gy_td A → z.1 = -2 ∧ z.2.2.2 40 = 1000 ∧ z.2.2.2 41 = 0) ∧ (¬ x = 0 → gy_td A ≤ 1000 → z.1.toInt = gy_tv A ∧ (z.2.2.2 40).toInt = gy_td A ∧ gc_nQ A P fed z) ∧ (x = 0 → z.1.toInt = gy_tv A ∧ z.2.2.2 40 = (gm_f_MD_evaluations (A.1 8 (8 * Int32.toNatClampNeg (A.2.2 4) + 0)) A).1 ∧ gc_nQ A P fed z)
theorem gc_md (x : Int32) (S : gm_S) (h : gp_RI S) (hb : ¬ S.2.2 4 = -1) : ∃ (tk ck : Nat → Int32) (P fed : Nat), gp_WC (gc_A S tk ck) P fed ∧ P = Int32.toNatClampNeg ((S.1 9) (Int32.toNatClampNeg (S.2.2 4))) ∧ (∃ rank, gp_RK ((gc_A S tk ck).1 10) ((gc_A S tk ck).1 11) ((gc_A S tk ck).1 12) (gp_Mz (gc_A S tk ck)) ((gc_A S tk ck).1 15) (gp_Bs (gc_A S tk ck)) P rank) ∧ (∃ rk t, gp_FT (gc_A S tk ck) P fed rk t) ∧ gc_mQ x (gc_A S tk ck) P fed (gm_f_MD_match x S) := by
  obtain ⟨P, fed, hC, hP, hG, rank, RK⟩ := gp_WC_of (S := S) h hb
  have hC' := hC
  obtain ⟨⟨b0, b1⟩, ⟨p0, p1⟩, ⟨f0, f1⟩, ⟨ty, hU⟩, SC⟩ := hC'
  have z0 : (0 : Int32).toInt = 0 := by decide
  have cb := gx_cl (S.2.2 4) b0
  have m8 := gx_mk 8 (S.2.2 4) 8 (gx_lit 8 (by decide))
  have e8 : Int32.toNatClampNeg (8 * (S.2.2 4)) = 8 * Int32.toNatClampNeg (S.2.2 4) + 0 := by
    have := gx_cl (8 * (S.2.2 4)) (by omega)
    omega
  have hG' := hG
  obtain ⟨Pg, R, f, nA, nC, ⟨G1, G2, G3, G4, G5⟩, g1, g2, g3, g4⟩ := hG'
  have root := gp_ch_cl (G2 0 (by omega)).2.1
  have hM : gp_M (S.2.2 4) (S.1 9) = gp_Bs S + P := by rw [hP]
  rw [hM] at root
  have hka : gp_ka (S.1 10) (gp_Bs S) P ≤ 75 := by
    have : gp_ka (S.1 10) (gp_Bs S) P = nA := by rw [← G4, hP]
    omega
  have fill := (gz_fill (S.1, S.2.1, va_up S.2.2 0 0) (P := P) (fed := fed) hC RK).2
  obtain ⟨u33, hu33⟩ : ∃ u33, u33 = (gm_f_MD_fill (S.1, S.2.1, va_up S.2.2 0 0)).2 := ⟨_, rfl⟩
  have hf : gp_fQ (S.1, S.2.1, va_up S.2.2 0 0) P fed ((gm_f_MD_fill (S.1, S.2.1, va_up S.2.2 0 0)).1, u33) := by rw [hu33]; exact fill
  obtain ⟨⟨rk, t, hFI⟩, hall⟩ := hf
  have hFI : gp_FI (S.1 10) (S.1 11) (S.1 12) (gp_Mz S) (gp_So S fed) (gp_Sr S fed) (gp_Bs S) P fed (u33.1 34) (u33.1 35) rk t := hFI
  have hall : ∀ k q, k < P → q ≤ fed → ¬ gp_Tb (gp_Bs S) (u33.1 34) (gp_Bs S + k) q = -3 := hall
  refine ⟨u33.1 34, u33.1 35, P, fed, hC, hP, ⟨rank, RK⟩, ⟨rk, t, hFI, hall⟩, ?_⟩
  obtain ⟨A, hA⟩ : ∃ A, A = gc_A S (u33.1 34) (u33.1 35) := ⟨_, rfl⟩
  have tv : gy_tv A = gp_Tb (gp_Bs S) (u33.1 34) (Int32.toNatClampNeg (S.1 8 (8 * Int32.toNatClampNeg (S.2.2 4) + 0))) 0 := by rw [hA]; rfl
  have td : gy_td A = gp_Tb (gp_Bs S) (u33.1 35) (Int32.toNatClampNeg (S.1 8 (8 * Int32.toNatClampNeg (S.2.2 4) + 0))) 0 := by rw [hA]; rfl
  rw [← hA]
  obtain ⟨Q, hQ⟩ : ∃ Q, Q = gc_mQ x A P fed := ⟨_, rfl⟩
  rw [← hQ]
  unfold gm_f_MD_match
  rw [if_neg hb, e8]
  refine gf_ca (Q := Q) (fun z => z.2 = u33) hu33.symm (fun _ u hu => ?_)
  have hu : u = u33 := hu
  rw [hu]
  have s8 : A.1 8 (8 * Int32.toNatClampNeg (A.2.2 4) + 0) = S.1 8 (8 * Int32.toNatClampNeg (S.2.2 4) + 0) := by rw [hA]; rfl
  generalize hst : S.1 8 (8 * Int32.toNatClampNeg (S.2.2 4) + 0) = st at root tv td s8 ⊢
  have rt1 := root.1
  have rt2 := root.2.1
  have rt3 := root.2.2
  have c0 : Int32.toNatClampNeg 0 = 0 := by decide
  refine gf_ca (Q := Q) _ (gz_costOf st 0 (va_up (va_up S.1 34 (u33.1 34)) 35 (u33.1 35), S.2.1, va_up (va_up (va_up S.2.2 0 0) 39 1) 41 0) (P := P) (fed := fed) hC rt1 rt2 (by omega) (by omega) (by omega)).2 (fun r49 u49 h49 => ?_)
  have h49 : r49.toInt = gp_Tb (gp_Bs S) (u33.1 35) (Int32.toNatClampNeg st) (Int32.toNatClampNeg 0) := h49
  rw [c0] at h49
  have j97 : ∀ (k0 : Int32) (A' B : gm_S), B.1 34 = u33.1 34 → B.1 35 = u33.1 35 → B.2.2 41 = 0 → B.2.2 39 = 1 → B.2.2 0 = 0 → B.2.2 40 = k0 → gc_jQ A P fed k0 (gm_f_MD_match_j97 x S u33 r49 u49 k0 A' B) := by
    intro k0 A' B e34 e35 e41 e39 e00 e40
    have WC : gp_WC ((va_up (va_up (va_up (va_up (va_up (va_up (va_up S.1 34 (B.1 34)) 35 (B.1 35)) 36 (B.1 36)) 37 (B.1 37)) 42 (B.1 42)) 43 (B.1 43)) 44 (B.1 44)), S.2.1, (va_up (va_up (va_up (va_up (va_up S.2.2 0 (B.2.2 0)) 38 (B.2.2 38)) 39 (B.2.2 39)) 40 (B.2.2 40)) 41 (B.2.2 41))) P fed := hC
    have FTB : gp_FT ((va_up (va_up (va_up (va_up (va_up (va_up (va_up S.1 34 (B.1 34)) 35 (B.1 35)) 36 (B.1 36)) 37 (B.1 37)) 42 (B.1 42)) 43 (B.1 43)) 44 (B.1 44)), S.2.1, (va_up (va_up (va_up (va_up (va_up S.2.2 0 (B.2.2 0)) 38 (B.2.2 38)) 39 (B.2.2 39)) 40 (B.2.2 40)) 41 (B.2.2 41))) P fed rk t := by
      show gp_FI (S.1 10) (S.1 11) (S.1 12) (gp_Mz S) (gp_So S fed) (gp_Sr S fed) (gp_Bs S) P fed (B.1 34) (B.1 35) rk t ∧ ∀ k q, k < P → q ≤ fed → ¬ gp_Tb (gp_Bs S) (B.1 34) (gp_Bs S + k) q = -3
      rw [e34, e35]
      exact ⟨hFI, hall⟩
    obtain ⟨cp, hcp⟩ := gp_CP_ex (S := ((va_up (va_up (va_up (va_up (va_up (va_up (va_up S.1 34 (B.1 34)) 35 (B.1 35)) 36 (B.1 36)) 37 (B.1 37)) 42 (B.1 42)) 43 (B.1 43)) 44 (B.1 44)), S.2.1, (va_up (va_up (va_up (va_up (va_up S.2.2 0 (B.2.2 0)) 38 (B.2.2 38)) 39 (B.2.2 39)) 40 (B.2.2 40)) 41 (B.2.2 41)))) WC hP hG rk
    obtain ⟨Q2, hQ2⟩ : ∃ Q2, Q2 = gc_jQ A P fed k0 := ⟨_, rfl⟩
    rw [← hQ2]
    unfold gm_f_MD_match_j97
    have s8 : (S.1 8) (Int32.toNatClampNeg (8 * (S.2.2 4))) = st := by rw [e8]; exact hst
    rw [s8]
    refine gf_ca (Q := Q2) _ (gz_taken st 0 _ (P := P) (fed := fed) WC rt1 rt2 (by omega) (by omega) (by omega)).2 (fun r100 u100 h100 => ?_)
    have h100 : r100.toInt = gp_Tb (gp_Bs S) (B.1 34) (Int32.toNatClampNeg st) (Int32.toNatClampNeg 0) := h100
    rw [c0, e34, ← tv] at h100
    refine gf_if (Q := Q2) (fun w => ?_) (fun w => ?_)
    · have w0 := gx_ltr (k := 0) z0 w
      rw [hQ2]
      exact ⟨⟨e39, e00⟩, h100, e40, fun _ => e41, fun v0 => absurd v0 (by omega)⟩
    · have w0 := gx_ltnr (k := 0) z0 w
      refine gf_ca (Q := Q2) (fun z => ∀ (Pg : Nat → Nat → Nat → Prop) (C : gv_C) (L : List (Nat × Nat × Int)), gy_T (A.1 10) (A.1 11) (A.1 12) (gp_Mz A) Pg (gp_So A fed) (gp_Sr A fed) (gp_Bs A) P fed (gp_Tb (gp_Bs A) (A.1 34)) (gp_Tb (gp_Bs A) (A.1 35)) C → gc_P Pg (A.1 10) (A.1 11) (A.1 12) (gp_Bs A) C (gy_st A) 0 (-1) 0 L → gc_Q A 0 L z) (fun Pg' C L hTT hPP => ?_) (fun _ u112 h112 => ?_)
      · have eT : gy_T (S.1 10) (S.1 11) (S.1 12) (gp_Mz S) Pg' (gp_So S fed) (gp_Sr S fed) (gp_Bs S) P fed (gp_Tb (gp_Bs S) (u33.1 34)) (gp_Tb (gp_Bs S) (u33.1 35)) C := by rw [hA] at hTT; exact hTT
        have eP : gc_P Pg' (S.1 10) (S.1 11) (S.1 12) (gp_Bs S) C (Int32.toNatClampNeg st) 0 (-1) 0 L := by rw [hA, ← hst] at *; exact hPP
        rw [← e34, ← e35] at eT
        exact gc_gatherS st _ (P := P) (fed := fed) WC RK FTB hcp hka ⟨rt1, rt2, Nat.zero_le _, (show 0 ≤ gp_Tb (gp_Bs S) (B.1 34) (Int32.toNatClampNeg st) 0 by rw [e34, ← tv]; omega)⟩ (by omega) eT eP A
      · rw [hQ2]
        exact ⟨⟨e39, e00⟩, h100, e40, fun v0 => absurd v0 (by omega), fun _ => h112⟩
  have j80 : ∀ (k0 : Int32) (A' : gm_S), A'.1 34 = u33.1 34 → A'.1 35 = u33.1 35 → A'.2.2 41 = 0 → A'.2.2 39 = 1 → A'.2.2 0 = 0 → (¬ x = 0 → ¬ r49 ≤ 1000 → k0 = 1000) → (¬ x = 0 → r49 ≤ 1000 → k0 = r49) → (x = 0 → k0 = (gm_f_MD_evaluations st A).1) → Q (gm_f_MD_match_j80 x S u33 r49 u49 k0 A') := by
    intro k0 A' e34 e35 e41 e39 e00 k1 k2 k3
    unfold gm_f_MD_match_j80
    refine gf_if (Q := Q) (fun x0 => ?_) (fun x0 => ?_)
    · obtain ⟨q1, q2, q3, q4⟩ := j97 k0 A' ((va_up (va_up (va_up (va_up (va_up (va_up (va_up S.1 34 (A'.1 34)) 35 (A'.1 35)) 36 (A'.1 36)) 37 (A'.1 37)) 42 (A'.1 42)) 43 (A'.1 43)) 44 (A'.1 44)), S.2.1, (va_up (va_up (va_up (va_up (va_up S.2.2 0 (A'.2.2 0)) 38 (A'.2.2 38)) 39 (A'.2.2 39)) 40 k0) 41 (A'.2.2 41))) e34 e35 e41 e39 e00 rfl
      rw [hQ]
      exact ⟨q1, fun n => absurd x0 n, fun n => absurd x0 n, fun _ => ⟨q2, by rw [q3, k3 x0, s8], q4⟩⟩
    · refine gf_if (Q := Q) (fun r0 => ?_) (fun r0 => ?_)
      · obtain ⟨q1, q2, q3, q4⟩ := j97 k0 A' ((va_up (va_up (va_up (va_up (va_up (va_up (va_up S.1 34 (A'.1 34)) 35 (A'.1 35)) 36 (A'.1 36)) 37 (A'.1 37)) 42 (A'.1 42)) 43 (A'.1 43)) 44 (A'.1 44)), S.2.1, (va_up (va_up (va_up (va_up (va_up S.2.2 0 (A'.2.2 0)) 38 (A'.2.2 38)) 39 (A'.2.2 39)) 40 k0) 41 (A'.2.2 41))) e34 e35 e41 e39 e00 rfl
        have r1 := gx_ler (k := 1000) (gx_lit 1000 (by decide)) r0
        rw [hQ]
        exact ⟨q1, fun _ w => absurd w (by rw [td]; omega), fun _ _ => ⟨q2, by rw [q3, k2 x0 r0, td]; omega, q4⟩, fun n => absurd n x0⟩
      · have r1 := gx_lenr (k := 1000) (gx_lit 1000 (by decide)) r0
        rw [hQ]
        exact ⟨⟨e39, e00⟩, fun _ _ => ⟨rfl, k1 x0 r0, e41⟩, fun _ w => absurd w (by rw [td]; omega), fun n => absurd n x0⟩
  refine gf_if (Q := Q) (fun x0 => ?_) (fun x0 => ?_)
  · refine gf_ca (Q := Q) (fun z => z.1 = (gm_f_MD_evaluations st A).1) (by rw [hA]) (fun r77 u77 h77 => j80 _ _ rfl rfl rfl rfl rfl (fun n => absurd x0 n) (fun n => absurd x0 n) (fun _ => h77))
  · exact gf_if (Q := Q) (fun r0 => j80 _ _ rfl rfl rfl rfl rfl (fun _ n => absurd r0 n) (fun _ _ => rfl) (fun n => absurd n x0)) (fun r0 => j80 _ _ rfl rfl rfl rfl rfl (fun _ _ => rfl) (fun _ n => absurd n r0) (fun n => absurd n x0))
