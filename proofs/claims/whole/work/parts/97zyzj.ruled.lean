/-! The reference counts the rules that were evaluated. -/
/-- a name of the rule r that was met at p -/
def gc_hit (S : gm_S) (r p n : Nat) : Prop := (S.1 10 n).toInt = 3 ∧ (gp_rz (S.1 6) (S.1 7) (S.2.2 4) (S.1 11 n)).toInt = (r : Nat) ∧ ¬ S.1 36 (11 * (n - gp_Bs S) + p) = 0
theorem gc_isRuled12 (x y : Int32) (S : gm_S) {P fed r p : Nat} (hC : gp_WC S P fed) (hx : x.toInt = (r : Nat)) (hy : y.toInt = (p : Nat)) (hp : p ≤ fed) : ∀ (n : Nat) (v4 v3 : Int32) (U : gm_S) (j : Nat), v4.toInt = (j : Nat) → gp_Bs S ≤ j → j ≤ gp_Bs S + P → gp_Bs S + P < j + n → ((v3 = 0 ∧ ∀ n, gp_Bs S ≤ n → n < j → ¬ gc_hit S r p n) ∨ (v3 = 1 ∧ ∃ n, gp_Bs S ≤ n ∧ n < gp_Bs S + P ∧ gc_hit S r p n)) → (fun z : Int32 × gm_S => (z.1 = 0 ∧ ∀ n, gp_Bs S ≤ n → n < gp_Bs S + P → ¬ gc_hit S r p n) ∨ (z.1 = 1 ∧ ∃ n, gp_Bs S ≤ n ∧ n < gp_Bs S + P ∧ gc_hit S r p n)) (gm_f_MD_isRuled_12 x y S n v4 v3 U) := by
  obtain ⟨⟨b0, b1⟩, ⟨p0, p1⟩, ⟨f0, f1⟩, ⟨ty, hU⟩, -⟩ := hC
  have r1 := hU.2.2.1.2
  have cb := gx_cl (S.2.2 4) b0
  have hB : gp_Bs S = 160 * Int32.toNatClampNeg (S.2.2 4) := rfl
  have m := gx_mk 160 (S.2.2 4) 160 (gx_lit 160 (by decide))
  have s := gx_ad (160 * (S.2.2 4)) ((S.1 9) (Int32.toNatClampNeg (S.2.2 4)))
  have T : (160 * (S.2.2 4) + (S.1 9) (Int32.toNatClampNeg (S.2.2 4))).toInt = 160 * (S.2.2 4).toInt + P := by omega
  clear m s
  obtain ⟨Q, hQ⟩ : ∃ Q, Q = (fun z : Int32 × gm_S => (z.1 = 0 ∧ ∀ n, gp_Bs S ≤ n → n < gp_Bs S + P → ¬ gc_hit S r p n) ∨ (z.1 = 1 ∧ ∃ n, gp_Bs S ≤ n ∧ n < gp_Bs S + P ∧ gc_hit S r p n)) := ⟨_, rfl⟩
  rw [← hQ]
  intro n
  induction n with
  | zero => intro v4 v3 U j _ _ _ h; exfalso; omega
  | succ n ih =>
    intro v4 v3 U j hj h0 h1 h2 h3
    rw [gm_f_MD_isRuled_12]
    have cj := gp_cl_n hj
    have b := gx_ak v4 1 1 (by decide)
    refine gf_if (Q := Q) (fun q => ?_) (fun q => ?_)
    · have q1 := gx_le q
      rw [T] at q1
      have ej : j = gp_Bs S + P := by omega
      rw [hQ]
      rcases h3 with ⟨a, c⟩ | ⟨a, c⟩
      · exact Or.inl ⟨a, fun n n1 n2 => c n n1 (by omega)⟩
      · exact Or.inr ⟨a, c⟩
    have q1 := gx_len q
    rw [T] at q1
    refine gf_if (Q := Q) (fun v0 => ?_) (fun v0 => ?_)
    · have h3 : ∀ n, gp_Bs S ≤ n → n < j → ¬ gc_hit S r p n := by
        rcases h3 with ⟨-, c⟩ | ⟨a, -⟩
        · exact c
        · rw [v0] at a; exact absurd a (by decide)
      have no : ¬ gc_hit S r p j → Q (gm_f_MD_isRuled_12 x y S n (v4 + 1) 0 S) := fun h => ih (v4 + 1) 0 S (j + 1) (by omega) (by omega) (by omega) (by omega) (Or.inl ⟨rfl, fun n n1 n2 => by
        by_cases e : n = j
        · rw [e]; exact h
        · exact h3 n n1 (by omega)⟩)
      rw [cj]
      refine gf_if (Q := Q) (fun k3 => ?_) (fun k3 => no (fun h => k3 (Int32.toInt_inj.mp (by rw [h.1]; exact (gx_lit 3 (by decide)).symm))))
      have kk := gx_eqr (k := 3) (gx_lit 3 (by decide)) k3
      refine gf_ca (Q := Q) (fun z : Int32 × gm_S => gp_ru (S.1 6) (S.1 7) (S.2.2 4) (S.1 11 j) z.1) (gy_s_MD_ruleOf (S.2.2 4) _ S b0 b1 r1).2 (fun r62 u hr => ?_)
      have hr : gp_ru (S.1 6) (S.1 7) (S.2.2 4) (S.1 11 j) r62 := hr
      have er := gp_rz_eq b0 hr
      refine gf_if (Q := Q) (fun ex => ?_) (fun ex => no (fun h => ex (Int32.toInt_inj.mp (by rw [er, h.2.1, hx]))))
      refine gf_ca (Q := Q) _ (gz_cell v4 y S b0 b1 (by omega) (by omega) (by omega) (by omega)).2 (fun r2 u2 h2 => ?_)
      have h2 : Int32.toNatClampNeg r2 = 11 * (Int32.toNatClampNeg v4 - gp_Bs S) + Int32.toNatClampNeg y := h2.2
      rw [cj, gp_cl_n hy] at h2
      rw [h2]
      refine gf_if (Q := Q) (fun m0 => no (fun h => h.2.2 m0)) (fun m0 => ?_)
      refine ih (v4 + 1) 1 S (j + 1) (by omega) (by omega) (by omega) (by omega) (Or.inr ⟨rfl, j, h0, by omega, kk, ?_, m0⟩)
      rw [← er, ex, hx]
    · have h3 : ∃ n, gp_Bs S ≤ n ∧ n < gp_Bs S + P ∧ gc_hit S r p n := by
        rcases h3 with ⟨a, -⟩ | ⟨-, c⟩
        · exact absurd a v0
        · exact c
      exact ih (v4 + 1) 1 S (j + 1) (by omega) (by omega) (by omega) (by omega) (Or.inr ⟨rfl, h3⟩)
/-- a rule at a place, as the count goes -/
noncomputable def gc_Y (x : Int32) (S : gm_S) (P fed : Nat) (i : Nat) : Bool := gy_dc (i % 11 ≤ fed ∧ ((∃ n, gp_Bs S ≤ n ∧ n < gp_Bs S + P ∧ gc_hit S (i / 11) (i % 11) n) ∨ (S.1 8 (8 * Int32.toNatClampNeg (S.2.2 4) + i / 11) = x ∧ i % 11 = 0)))
theorem gc_c1 (y : Nat → Bool) (n : Nat) : gp_c y (n + 1) = gp_c y n + if y n = true then 1 else 0 := rfl
theorem gc_ruled20 (x : Int32) (S : gm_S) (c3 c2 : Int32) (C4 : gm_S) {P fed r : Nat} (hC : gp_WC S P fed) (hc : c3.toInt = (r : Nat)) (hc2 : r ≤ 7) {Q : Int32 × gm_S → Prop} (kf : Int32 → Int32 → gm_S → Int32 × gm_S) (hk : ∀ a b : Int32, b.toInt = (gp_c (gc_Y x S P fed) (11 * r + (fed + 1)) : Nat) → Q (kf a b S)) : ∀ (n : Nat) (v4 v2 : Int32) (U : gm_S) (j : Nat), v4.toInt = (j : Nat) → j ≤ fed + 1 → fed + 1 < j + n → v2.toInt = (gp_c (gc_Y x S P fed) (11 * r + j) : Nat) → Q (gm_f_MD_ruled_20 x S c3 c2 C4 n v4 v2 U kf) := by
  have hC' := hC
  obtain ⟨⟨b0, b1⟩, ⟨p0, p1⟩, ⟨f0, f1⟩, -⟩ := hC'
  have cb := gx_cl (S.2.2 4) b0
  have hB : gp_Bs S = 160 * Int32.toNatClampNeg (S.2.2 4) := rfl
  have m8 := gx_mk 8 (S.2.2 4) 8 (gx_lit 8 (by decide))
  have s8 := gx_ad (8 * (S.2.2 4)) c3
  have c8 : Int32.toNatClampNeg ((8 * (S.2.2 4)) + c3) = 8 * Int32.toNatClampNeg (S.2.2 4) + r := gp_cl_n (by omega)
  have m160 := gx_mk 160 (S.2.2 4) 160 (gx_lit 160 (by decide))
  intro n
  induction n with
  | zero => intro v4 v2 U j _ _ h; exfalso; omega
  | succ n ih =>
    intro v4 v2 U j hj h1 h2 hv
    rw [gm_f_MD_ruled_20]
    refine gf_if (Q := Q) (fun q => ?_) (fun q => ?_)
    · have q1 := gx_lt q
      have ej : j = fed + 1 := by omega
      exact hk _ _ (by rw [hv, ej])
    have q1 := gx_ltn q
    have b := gx_ak v4 1 1 (by decide)
    have le := gp_c_le (gc_Y x S P fed) (11 * r + j)
    have b1' := gx_ak v2 1 1 (by decide)
    have b0' := gx_ak v2 0 0 (by decide)
    have e1 : (11 * r + j) / 11 = r := by omega
    have e2 : (11 * r + j) % 11 = j := by omega
    have yes : gc_Y x S P fed (11 * r + j) = true → Q (gm_f_MD_ruled_20 x S c3 c2 C4 n (v4 + 1) (v2 + 1) S kf) := fun h => ih (v4 + 1) (v2 + 1) S (j + 1) (by omega) (by omega) (by omega) (by
      have c := gc_c1 (gc_Y x S P fed) (11 * r + j)
      rw [if_pos h] at c
      rw [← Nat.add_assoc, c]
      omega)
    have no : ¬ gc_Y x S P fed (11 * r + j) = true → Q (gm_f_MD_ruled_20 x S c3 c2 C4 n (v4 + 1) (v2 + 0) S kf) := fun h => ih (v4 + 1) (v2 + 0) S (j + 1) (by omega) (by omega) (by omega) (by
      have c := gc_c1 (gc_Y x S P fed) (11 * r + j)
      rw [if_neg h] at c
      rw [← Nat.add_assoc, c]
      omega)
    have is := gc_isRuled12 c3 v4 S (p := j) hC hc hj (by omega) 200 (160 * (S.2.2 4)) 0 S (gp_Bs S) (by omega) (Nat.le_refl _) (by omega) (by omega) (Or.inl ⟨rfl, fun n n1 n2 => absurd n1 (by omega)⟩)
    refine gf_ca (Q := Q) (fun z : Int32 × gm_S => (z.1 = 0 ∧ ∀ n, gp_Bs S ≤ n → n < gp_Bs S + P → ¬ gc_hit S r j n) ∨ (z.1 = 1 ∧ ∃ n, gp_Bs S ≤ n ∧ n < gp_Bs S + P ∧ gc_hit S r j n)) is (fun r34 u h34 => ?_)
    have h34 : (r34 = 0 ∧ ∀ n, gp_Bs S ≤ n → n < gp_Bs S + P → ¬ gc_hit S r j n) ∨ (r34 = 1 ∧ ∃ n, gp_Bs S ≤ n ∧ n < gp_Bs S + P ∧ gc_hit S r j n) := h34
    have Yi : gc_Y x S P fed (11 * r + j) = true ↔ ((∃ n, gp_Bs S ≤ n ∧ n < gp_Bs S + P ∧ gc_hit S r j n) ∨ (S.1 8 (8 * Int32.toNatClampNeg (S.2.2 4) + r) = x ∧ j = 0)) := by
      refine gy_dc_i.trans ?_
      rw [e1, e2]
      exact ⟨fun h => h.2, fun h => ⟨by omega, h⟩⟩
    rw [c8]
    refine gf_if (Q := Q) (fun q0 => ?_) (fun q0 => ?_)
    · have nh : ∀ n, gp_Bs S ≤ n → n < gp_Bs S + P → ¬ gc_hit S r j n := by
        rcases h34 with ⟨-, h⟩ | ⟨a, -⟩
        · exact h
        · rw [q0] at a; exact absurd a (by decide)
      refine gf_if (Q := Q) (fun w => gf_if (Q := Q) (fun z => yes (Yi.mpr (Or.inr ⟨w, ?_⟩))) (fun z => no (fun h => ?_))) (fun w => no (fun h => ?_))
      · have := gx_eqr (k := 0) (by decide) z
        omega
      · rcases Yi.mp h with ⟨n, n1, n2, n3⟩ | ⟨-, e⟩
        · exact nh n n1 n2 n3
        · exact z (Int32.toInt_inj.mp (by rw [hj, e]; decide))
      · rcases Yi.mp h with ⟨n, n1, n2, n3⟩ | ⟨e, -⟩
        · exact nh n n1 n2 n3
        · exact w e
    · refine yes (Yi.mpr (Or.inl ?_))
      rcases h34 with ⟨a, -⟩ | ⟨-, h⟩
      · exact absurd a q0
      · exact h
theorem gc_pad (x : Int32) (S : gm_S) (P : Nat) {fed r : Nat} : ∀ d, fed + 1 + d ≤ 11 → gp_c (gc_Y x S P fed) (11 * r + (fed + 1) + d) = gp_c (gc_Y x S P fed) (11 * r + (fed + 1)) := by
  intro d
  induction d with
  | zero => intro _; rfl
  | succ d ih =>
    intro h
    have ne : ¬ gc_Y x S P fed (11 * r + (fed + 1) + d) = true := fun w => by
      have := (gy_dc_i.mp w).1
      omega
    rw [← Nat.add_assoc, gc_c1, ih (by omega), if_neg ne, Nat.add_zero]
theorem gc_ruled4 (x : Int32) (S : gm_S) {P fed : Nat} (hC : gp_WC S P fed) {R : Nat} (hR : ((S.1 6) (Int32.toNatClampNeg (S.2.2 4))).toInt = (R : Nat)) : ∀ (n : Nat) (v3 v2 : Int32) (U : gm_S) (r : Nat), v3.toInt = (r : Nat) → r ≤ R → R < r + n → v2.toInt = (gp_c (gc_Y x S P fed) (11 * r) : Nat) → (fun z : Int32 × gm_S => z.1.toInt = (gp_c (gc_Y x S P fed) (11 * R) : Nat)) (gm_f_MD_ruled_4 x S n v3 v2 U) := by
  have hC' := hC
  obtain ⟨⟨b0, b1⟩, ⟨p0, p1⟩, ⟨f0, f1⟩, ⟨ty, hU⟩, -⟩ := hC'
  have r1 := hU.2.2.1.2
  have z0 : (0 : Int32).toInt = 0 := by decide
  obtain ⟨Q, hQ⟩ : ∃ Q, Q = (fun z : Int32 × gm_S => z.1.toInt = (gp_c (gc_Y x S P fed) (11 * R) : Nat)) := ⟨_, rfl⟩
  rw [← hQ]
  intro n
  induction n with
  | zero => intro v3 v2 U r _ _ h; exfalso; omega
  | succ n ih =>
    intro v3 v2 U r hr h1 h2 hv
    rw [gm_f_MD_ruled_4]
    refine gf_if (Q := Q) (fun q => ?_) (fun q => ?_)
    · have q1 := gx_le q
      have er : r = R := by omega
      rw [hQ, ← er]
      exact hv
    have q1 := gx_len q
    have b := gx_ak v3 1 1 (by decide)
    refine gc_ruled20 x S v3 v2 U hC hr (by omega) (Q := Q) (fun _ c _ => gm_f_MD_ruled_4 x S n (v3 + 1) c S) (fun a c hc => ih (v3 + 1) c S (r + 1) (by omega) (by omega) (by omega) ?_) 200 0 v2 S 0 z0 (by omega) (by omega) hv
    rw [hc]
    have pd := gc_pad x S P (fed := fed) (r := r) (10 - fed) (by omega)
    rw [show 11 * r + (fed + 1) + (10 - fed) = 11 * (r + 1) by omega] at pd
    rw [pd]
theorem gc_ruled (x : Int32) (S : gm_S) {P fed : Nat} (hC : gp_WC S P fed) {R : Nat} (hR : ((S.1 6) (Int32.toNatClampNeg (S.2.2 4))).toInt = (R : Nat)) : (gm_f_MD_ruled x S).1.toInt = (gp_c (gc_Y x S P fed) (11 * R) : Nat) := by
  have r1 := (hC.2.2.2.1.choose_spec).2.2.1.2
  unfold gm_f_MD_ruled
  exact gc_ruled4 x S hC hR 200 0 0 S 0 (by decide) (Nat.zero_le _) (by omega) (show (0 : Int32).toInt = ((0 : Nat) : Int) by decide)
theorem gc_eval2 (x : Int32) (S : gm_S) {P fed : Nat} (hC : gp_WC S P fed) {rk : Nat → Nat} {t : Nat} (hF : gp_FT S P fed rk t) {J : Nat → Nat → Prop} (hJ : ∀ m q, gp_Bs S ≤ m → m < gp_Bs S + P → q ≤ fed → J m q → gc_sj S J m q) (hx : gp_Bs S ≤ Int32.toNatClampNeg x) (hx2 : Int32.toNatClampNeg x < gp_Bs S + P) (hx3 : 0 ≤ x.toInt) (hx0 : J (Int32.toNatClampNeg x) 0) : ∀ (n : Nat) (v : Int32) (U : gm_S), 0 ≤ v.toInt → v.toInt ≤ 11 * P → 11 * (P : Int) < v.toInt + n → (∀ c : Nat, (c : Int) < v.toInt → U.1 36 c = 0) → gc_vQ x S P fed J (11 * (Int32.toNatClampNeg x - gp_Bs S) + 0) (gm_f_MD_evaluations_2 x S n v U) := by
  have hC' := hC
  obtain ⟨⟨b0, b1⟩, ⟨p0, p1⟩, ⟨f0, f1⟩, ⟨ty, hU⟩, SC⟩ := hC'
  have z0 : (0 : Int32).toInt = 0 := by decide
  have c0 : Int32.toNatClampNeg 0 = 0 := by decide
  have m := gx_mk 11 ((S.1 9) (Int32.toNatClampNeg (S.2.2 4))) 11 (gx_lit 11 (by decide))
  have T : (11 * ((S.1 9) (Int32.toNatClampNeg (S.2.2 4)))).toInt = 11 * P := by omega
  clear m
  obtain ⟨Q, hQ⟩ : ∃ Q, Q = gc_vQ x S P fed J (11 * (Int32.toNatClampNeg x - gp_Bs S) + 0) := ⟨_, rfl⟩
  rw [← hQ]
  intro n
  induction n with
  | zero => intro v U _ _ h; exfalso; omega
  | succ n ih =>
    intro v U h0 h1 h2 hc
    rw [gm_f_MD_evaluations_2]
    refine gf_if (Q := Q) (fun q => ?_) (fun q => ?_)
    · have q1 := gx_le q
      rw [T] at q1
      have all0 : ∀ c : Nat, c < 11 * P → U.1 36 c = 0 := fun c h => hc c (by omega)
      have cnt : gp_c (fun c => decide (¬ U.1 36 c = 0)) (11 * P) = 0 := by
        have : ∀ N, N ≤ 11 * P → gp_c (fun c => decide (¬ U.1 36 c = 0)) N = 0 := by
          intro N
          induction N with
          | zero => intro _; rfl
          | succ N ihN =>
            intro hN
            unfold gp_c
            have z : ¬ (decide (¬ U.1 36 N = 0) = true) := fun h => (of_decide_eq_true h : ¬ U.1 36 N = 0) (hc N (by omega))
            rw [ihN (by omega), if_neg z]
        exact this _ (Nat.le_refl _)
      have cellz : ∀ m q, gp_Bs S ≤ m → m < gp_Bs S + P → q ≤ fed → ¬ U.1 36 (11 * (m - gp_Bs S) + q) = 0 → False := fun m q a b c h => h (all0 _ (by omega))
      have co := gc_come x 0 (va_up (va_up S.1 36 (U.1 36)) 37 (U.1 37), S.2.1, va_up S.2.2 38 0) (P := P) (fed := fed) (J := J) hC hx hx2 hx3 (by omega) (by omega) (by rw [c0]; exact hx0) (w := 0) z0 ⟨⟨fun i hi => absurd hi (by omega), cnt⟩, fun m q a b c h => (cellz m q a b c h).elim, fun m q a b c h => (cellz m q a b c h).elim, fun i hi => absurd hi (by omega)⟩
      refine gf_ca (Q := Q) _ co.2 (fun _ u2 h2 => ?_)
      obtain ⟨w', a1, a2, a3, a4, a5, a6⟩ := h2
      rw [c0] at a5
      rw [hQ]
      generalize hN : (2000 : Nat) = N
      exact (gc_eval44 x S v U u2 hC hF hJ (st := 11 * (Int32.toNatClampNeg x - gp_Bs S) + 0) N 0 (va_up (va_up S.1 36 (u2.1 36)) 37 (u2.1 37), S.2.1, va_up S.2.2 38 (u2.2.2 38)) w' a2 (by omega) (by omega) (by omega) a3 (fun i hi => absurd hi (by rw [c0]; omega)) a5).2
    · have q1 := gx_len q
      rw [T] at q1
      have cv := gx_cl v h0
      have b := gx_ak v 1 1 (by decide)
      refine ih _ _ (by omega) (by omega) (by omega) (fun c hc1 => ?_)
      show upd (U.1 36) (Int32.toNatClampNeg v) (vp_nar .boolean 0) c = 0
      by_cases e : c = Int32.toNatClampNeg v
      · rw [e, gx_us]; decide
      · rw [gx_un _ _ _ e]
        exact hc c (by omega)
theorem gc_evals (x : Int32) (S : gm_S) {P fed : Nat} (hC : gp_WC S P fed) {rk : Nat → Nat} {t : Nat} (hF : gp_FT S P fed rk t) {J : Nat → Nat → Prop} (hJ : ∀ m q, gp_Bs S ≤ m → m < gp_Bs S + P → q ≤ fed → J m q → gc_sj S J m q) (hx : gp_Bs S ≤ Int32.toNatClampNeg x) (hx2 : Int32.toNatClampNeg x < gp_Bs S + P) (hx3 : 0 ≤ x.toInt) (hx0 : J (Int32.toNatClampNeg x) 0) : gc_vQ x S P fed J (11 * (Int32.toNatClampNeg x - gp_Bs S) + 0) (gm_f_MD_evaluations x S) := by
  have p1 := hC.2.1.2
  have z0 : (0 : Int32).toInt = 0 := by decide
  unfold gm_f_MD_evaluations
  exact gc_eval2 x S hC hF hJ hx hx2 hx3 hx0 2000 0 S (by omega) (by omega) (by omega) (fun c hc => by omega)
