/-! The class's run, by the reference's table. -/
/-- all that a match goes by: the class's tree, code and subject, the reference with its table full -/
def gy_W (tx : Nat → Int) (ty R P fed : Nat) (f : Nat → Int × Lean.ParserDescr) (T Cc s2 S : gm_S) : Prop :=
  gy_G tx ty R f ∧ gp_WC S P fed ∧ gs_half tx ty R f (S.2.2 4) S ∧ (∃ rank, gp_RK (S.1 10) (S.1 11) (S.1 12) (gp_Mz S) (S.1 15) (gp_Bs S) P rank) ∧ (∃ rk t, gp_FT S P fed rk t) ∧ 2 * gp_kc (S.1 10) (gp_Bs S) P + 3 * R ≤ 50 ∧ gs_cod tx ty R f T Cc ∧ (T.2.2 13).toInt = (R : Nat) ∧ gs_SK s2 S
theorem gy_W_s {tx : Nat → Int} {ty R P fed : Nat} {f : Nat → Int × Lean.ParserDescr} {T Cc s2 S : gm_S} (h : gy_W tx ty R P fed f T Cc s2 S) : fed ≤ 10 ∧ (s2.2.2 1).toInt = fed ∧ ∀ q, q < fed → (s2.1 0 q).toInt = (S.1 33 q).toInt ∧ 32 ≤ (S.1 33 q).toInt ∧ (S.1 33 q).toInt ≤ 126 := by
  obtain ⟨-, hC, -, -, -, -, -, -, k1, k2⟩ := h
  obtain ⟨f0, f1⟩ := hC.2.2.1
  have sb := hC.2.2.2.2.2.2.2.2
  refine ⟨f1, by rw [k1]; exact f0, fun q hq => ⟨by rw [k2 q (by omega)], (sb q hq).1, (sb q hq).2⟩⟩
abbrev gy_st (S : gm_S) : Nat := gr_rt (S.2.2 4) (S.1 8) 0
def gy_tv (S : gm_S) : Int := gp_Tb (gp_Bs S) (S.1 34) (gy_st S) 0
def gy_td (S : gm_S) : Int := gp_Tb (gp_Bs S) (S.1 35) (gy_st S) 0
theorem gy_runM {tx : Nat → Int} {ty R P fed : Nat} {f : Nat → Int × Lean.ParserDescr} {T Cc s2 S : gm_S} (h : gy_W tx ty R P fed f T Cc s2 S) (S0 K Me Ke g : gm_S) {x : Int32} (hx : ¬ x = 0) : ∃ k, gy_E tx ty R f fed (fun q => (S.1 33 q).toInt) true (gy_tv S) (gy_td S) k ∧ (gy_td S ≤ 1000 → ((gm_f_Runner_run x (S0, s2, K, Me, Ke, g, Cc, T)).2.1.2.2 14).toInt = gy_td S ∧ (0 ≤ gy_tv S → (gm_f_Runner_run x (S0, s2, K, Me, Ke, g, Cc, T)).1.toInt = gy_tv S ∧ gw_K 275 (gv_rv (gv_L (gy_C tx ty R f fed (fun q => (S.1 33 q).toInt) true) k (gp_e0 3 (f 0).1.toNat 0) 0)) (gm_f_Runner_run x (S0, s2, K, Me, Ke, g, Cc, T)).2.2.2.1) ∧ (gy_tv S = -1 → (gm_f_Runner_run x (S0, s2, K, Me, Ke, g, Cc, T)).1 = -1 ∧ (gm_f_Runner_run x (S0, s2, K, Me, Ke, g, Cc, T)).2.2.2.1.2.2 2 = 0)) ∧ (1000 < gy_td S → ((gm_f_Runner_run x (S0, s2, K, Me, Ke, g, Cc, T)).2.1.2.2 14).toInt = 1000 ∧ (gm_f_Runner_run x (S0, s2, K, Me, Ke, g, Cc, T)).1 = -2 ∧ (gm_f_Runner_run x (S0, s2, K, Me, Ke, g, Cc, T)).2.2.2.1.2.2 2 = 0) := by
  have hW := h
  obtain ⟨f1, hs, hsub⟩ := gy_W_s h
  obtain ⟨hG, hC, hh, ⟨rank, RK⟩, ⟨rk, t, hF⟩, hN, ⟨n, n1, n2, hc, hv⟩, hR, -⟩ := h
  obtain ⟨k, hE⟩ := (gy_evE hG hC hh RK hF hN true).1
  have hE : gy_E tx ty R f fed (fun q => (S.1 33 q).toInt) true (gy_tv S) (gy_td S) k := hE
  refine ⟨k, hE, ?_⟩
  obtain ⟨e1, e2, e3, e4, e5⟩ := hE
  obtain ⟨e5, e6⟩ := e5 rfl
  have hX := gy_X_of hG hc hs f1 hsub
  have fx := gy_fx0 hG.1 hG.2.2.2.2.2.2.1
  obtain ⟨m, s, m1, m2, m3⟩ := gv_main (A := gy_A Cc T s2 n R true) rfl hX (c0 := (f 0).1.toNat) fx hc.1 hc.2.1 hc.2.2.1 hc.2.2.2.1 (by show 0 < R; have := hG.1; omega) k gw_M0 (by rw [e1]; omega) e3 e4
  rw [e1] at m3
  have cap : gy_td S = gp_cp (gv_c (gy_C tx ty R f fed (fun q => (S.1 33 q).toInt) true) k (gp_e0 3 (f 0).1.toNat 0) 0 : Nat) := e5
  have s123 : s.1 = 1 ∨ s.1 = 2 ∨ s.1 = 3 := by
    by_cases c : gv_c (gy_C tx ty R f fed (fun q => (S.1 33 q).toInt) true) k (gp_e0 3 (f 0).1.toNat 0) 0 ≤ 1000
    · by_cases v0 : 0 ≤ gy_tv S
      · exact Or.inl ((m3.1 c).1 v0).1
      · exact Or.inr (Or.inl ((m3.1 c).2 (by omega)).1)
    · exact Or.inr (Or.inr (m3.2 (by omega)).1)
  have gC := gy_gwC hG n1 n2 hc hv hR hs f1 (S0.1, S0.2.1, (va_up S0.2.2 10 x)) K Me Ke (lo := true) ⟨fun w => absurd w hx, fun w => absurd w (by decide)⟩
  have fin := gw_run x (S0, s2, K, Me, Ke, g, Cc, T) (n := m) gC s123 (by omega) m2
  obtain ⟨q1, q2, q3, q4⟩ := fin
  generalize gv_c (gy_C tx ty R f fed (fun q => (S.1 33 q).toInt) true) k (gp_e0 3 (f 0).1.toNat 0) 0 = c at m3 cap
  generalize gv_L (gy_C tx ty R f fed (fun q => (S.1 33 q).toInt) true) k (gp_e0 3 (f 0).1.toNat 0) 0 = L at m3 ⊢
  generalize gm_f_Runner_run x (S0, s2, K, Me, Ke, g, Cc, T) = z at q1 q2 q3 q4 ⊢
  generalize gy_tv S = v at m3 e2 ⊢
  generalize gy_td S = d at cap ⊢
  unfold gp_cp at cap
  by_cases c1 : c ≤ 1000
  · rw [if_pos (by omega)] at cap
    obtain ⟨u1, u2⟩ := m3.1 c1
    refine ⟨fun _ => ⟨?_, fun v0 => ?_, fun v1 => ?_⟩, fun w => absurd w (by omega)⟩
    · rw [q1]
      have : s.2.2.2.2.2.1 = c := by
        by_cases v0 : 0 ≤ v
        · exact (u1 v0).2.2.2
        · exact (u2 (by omega)).2
      rw [this, cap]
    · obtain ⟨a1, a2, a3, -⟩ := u1 v0
      obtain ⟨b1, b2⟩ := q2 a1
      rw [a2] at b1
      rw [a3] at b2
      exact ⟨by omega, b2⟩
    · obtain ⟨a1, -⟩ := u2 v1
      exact q3 a1
  · rw [if_neg (by omega)] at cap
    obtain ⟨u1, u2⟩ := m3.2 (by omega)
    refine ⟨fun w => absurd w (by omega), fun _ => ⟨?_, q4 u1⟩⟩
    rw [q1, u2]
    rfl
theorem gy_runY {tx : Nat → Int} {ty R P fed : Nat} {f : Nat → Int × Lean.ParserDescr} {T Cc s2 S : gm_S} (h : gy_W tx ty R P fed f T Cc s2 S) (S0 K Me Ke g : gm_S) : ∃ k, gy_E tx ty R f fed (fun q => (S.1 33 q).toInt) false (gy_tv S) (gy_td S) k ∧ (0 ≤ gy_tv S → (gm_f_Runner_run 0 (S0, s2, K, Me, Ke, g, Cc, T)).1.toInt = gy_tv S ∧ gw_K 275 (gv_rv (gv_L (gy_C tx ty R f fed (fun q => (S.1 33 q).toInt) false) k (gp_e0 3 (f 0).1.toNat 0) 0)) (gm_f_Runner_run 0 (S0, s2, K, Me, Ke, g, Cc, T)).2.2.2.1) ∧ (gy_tv S = -1 → (gm_f_Runner_run 0 (S0, s2, K, Me, Ke, g, Cc, T)).1 = -1 ∧ (gm_f_Runner_run 0 (S0, s2, K, Me, Ke, g, Cc, T)).2.2.2.1.2.2 2 = 0) ∧ ∃ M : gv_Mm, ((gm_f_Runner_run 0 (S0, s2, K, Me, Ke, g, Cc, T)).2.1.2.2 14).toInt = (gv_kc R M : Nat) ∧ ∀ r p : Nat, ¬ M.1 (r : Nat) p = -2 ↔ (r, p) ∈ gv_r (gy_C tx ty R f fed (fun q => (S.1 33 q).toInt) false) (fun c => gq_fx f (c : Int) R) k (gp_e0 3 (f 0).1.toNat 0) 0 := by
  obtain ⟨f1, hs, hsub⟩ := gy_W_s h
  obtain ⟨hG, hC, hh, ⟨rank, RK⟩, ⟨rk, t, hF⟩, hN, ⟨n, n1, n2, hc, hv⟩, hR, -⟩ := h
  obtain ⟨⟨k, hE⟩, hL⟩ := gy_evE hG hC hh RK hF hN false
  have hE : gy_E tx ty R f fed (fun q => (S.1 33 q).toInt) false (gy_tv S) (gy_td S) k := hE
  refine ⟨k, hE, ?_⟩
  obtain ⟨e1, e2, e3, e4, -⟩ := hE
  have hY := gy_Y_of hG hc hs f1 hsub
  have fx := gy_fx0 hG.1 hG.2.2.2.2.2.2.1
  obtain ⟨m, s, w, m1, m2, m3, M, m4, m5⟩ := gv_mainY (A := gy_A Cc T s2 n R false) (B := 2917201) (W := fun p => gp_kc (S.1 10) (gp_Bs S) P * (fed - p)) rfl hY f1 (fun r p k' hr hp _ => gn_lB (fun _ => rfl) hG.2.2.2.2.2.1 (gy_C_le tx ty R f fed _ false) f1 hG.2.2.2.2.2.2.2.2.2.2 hG.2.2.2.2.2.2.2.2.1 k' r p hr hp) (fun r p k' hr hp hv => hL r p k' hr hp hv) (gy_W5720 hG.2.1 hN f1) (c0 := (f 0).1.toNat) fx hc.1 hc.2.1 hc.2.2.1 hc.2.2.2.1 (by show 0 < R; have := hG.1; omega) k (by rw [e1]; omega) e3 e4
  rw [e1] at m3
  have R8 := hG.2.1
  have s123 : s.1 = 1 ∨ s.1 = 2 ∨ s.1 = 3 := by
    by_cases v0 : 0 ≤ gy_tv S
    · exact Or.inl (m3.1 v0).1
    · exact Or.inr (Or.inl (m3.2 (by omega)).1)
  have gC := gy_gwC hG n1 n2 hc hv hR hs f1 (S0.1, S0.2.1, (va_up S0.2.2 10 0)) K Me Ke (lo := false) ⟨fun _ => rfl, fun _ => by show va_up S0.2.2 10 0 10 = 0; exact if_pos rfl⟩
  have m1 : m ≤ 2 + 2917201 * (11 * R) := m1
  have fin := gw_run 0 (S0, s2, K, Me, Ke, g, Cc, T) (n := m) gC s123 (by omega) m2
  obtain ⟨q1, q2, q3, -⟩ := fin
  have m4 : w = gv_kc R M := m4
  refine ⟨fun v0 => ?_, fun v1 => ?_, M, ?_, m5⟩
  · obtain ⟨a1, a2, a3, -⟩ := m3.1 v0
    obtain ⟨b1, b2⟩ := q2 a1
    rw [a2] at b1
    rw [a3] at b2
    exact ⟨by omega, b2⟩
  · exact q3 (m3.2 v1).1
  · rw [q1, ← m4]
    have : s.2.2.2.2.2.1 = w := by
      by_cases v0 : 0 ≤ gy_tv S
      · exact (m3.1 v0).2.2.2
      · exact (m3.2 (by omega)).2
    rw [this]
