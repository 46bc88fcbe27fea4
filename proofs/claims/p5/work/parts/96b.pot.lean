/-! How much gather can need: potentials. -/
theorem gm_pw_s (k : Nat) : gm_pw (k + 1) = 2 * gm_pw k := by
  rw [gm_pw, dif_neg (by omega), Nat.add_sub_cancel]
theorem gm_pw_0 : gm_pw 0 = 1 := by
  rw [gm_pw, dif_pos rfl]
theorem gm_pw_pos : ∀ k, 1 ≤ gm_pw k := by
  intro k
  induction k with
  | zero => rw [gm_pw_0]; exact Nat.le_refl 1
  | succ k ih => rw [gm_pw_s]; omega
theorem gm_pw_le : ∀ (d a : Nat), gm_pw a ≤ gm_pw (a + d) := by
  intro d
  induction d with
  | zero => intro a; exact Nat.le_refl _
  | succ d ih =>
    intro a
    have := ih a
    rw [← Nat.add_assoc, gm_pw_s]
    omega
theorem gm_pw_mono {a b : Nat} (h : a ≤ b) : gm_pw a ≤ gm_pw b := by
  have := gm_pw_le (b - a) a
  rw [show a + (b - a) = b by omega] at this
  exact this
theorem gp_c_11 (y : Nat → Bool) : ∀ P, gp_c (fun x => y (x / 11)) (11 * P) = 11 * gp_c y P := by
  intro P
  induction P with
  | zero => rfl
  | succ P ih =>
    have step : ∀ i, i ≤ 11 → gp_c (fun x => y (x / 11)) (11 * P + i) = gp_c (fun x => y (x / 11)) (11 * P) + i * (if y P = true then 1 else 0) := by
      intro i
      induction i with
      | zero => intro _; rw [Nat.add_zero, Nat.zero_mul, Nat.add_zero]
      | succ i ih2 =>
        intro hi
        have e : gp_c (fun x => y (x / 11)) (11 * P + (i + 1)) = gp_c (fun x => y (x / 11)) (11 * P + i) + (if y ((11 * P + i) / 11) = true then 1 else 0) := rfl
        rw [e, ih2 (by omega), show (11 * P + i) / 11 = P by omega]
        by_cases q : y P = true
        · rw [if_pos q]; omega
        · rw [if_neg q]; omega
    have e : gp_c y (P + 1) = gp_c y P + (if y P = true then 1 else 0) := rfl
    rw [show 11 * (P + 1) = 11 * P + 11 by omega, step 11 (Nat.le_refl _), ih, e]
    omega
/-- how many cells were known before -/
def gp_rr (P : Nat) (rk : Nat → Nat) (c : Nat) : Nat := gp_c (fun x => decide (rk x < rk c)) (11 * P)
theorem gp_rr_lt {P : Nat} {rk : Nat → Nat} {c c' : Nat} (h : rk c' < rk c) (hc : c' < 11 * P) : gp_rr P rk c' < gp_rr P rk c :=
  gp_c_lt (k := c') (fun k _ q => decide_eq_true (by have := of_decide_eq_true q; omega)) hc (decide_eq_true h) (fun q => by have := of_decide_eq_true q; omega)
/-- how many steps gather can make below a cell -/
def gp_wt (P : Nat) (rk : Nat → Nat) (c : Nat) : Nat := gm_pw (gp_rr P rk c + 1) - 1
theorem gp_wt_1 {P : Nat} {rk : Nat → Nat} {c c1 : Nat} (h1 : rk c1 < rk c) (hc1 : c1 < 11 * P) : gp_wt P rk c1 + 1 ≤ gp_wt P rk c := by
  have a := gp_rr_lt h1 hc1
  have m1 := gm_pw_mono (show gp_rr P rk c1 + 1 ≤ gp_rr P rk c by omega)
  have p1 := gm_pw_pos (gp_rr P rk c1 + 1)
  have s := gm_pw_s (gp_rr P rk c)
  unfold gp_wt
  omega
theorem gp_wt_2 {P : Nat} {rk : Nat → Nat} {c c1 c2 : Nat} (h1 : rk c1 < rk c) (hc1 : c1 < 11 * P) (h2 : rk c2 < rk c) (hc2 : c2 < 11 * P) : gp_wt P rk c1 + gp_wt P rk c2 + 1 ≤ gp_wt P rk c := by
  have a := gp_rr_lt h1 hc1
  have b := gp_rr_lt h2 hc2
  have m1 := gm_pw_mono (show gp_rr P rk c1 + 1 ≤ gp_rr P rk c by omega)
  have m2 := gm_pw_mono (show gp_rr P rk c2 + 1 ≤ gp_rr P rk c by omega)
  have p1 := gm_pw_pos (gp_rr P rk c1 + 1)
  have p2 := gm_pw_pos (gp_rr P rk c2 + 1)
  have s := gm_pw_s (gp_rr P rk c)
  unfold gp_wt
  omega
theorem gp_wt_pos (P : Nat) (rk : Nat → Nat) (c : Nat) : 1 ≤ gp_wt P rk c := by
  have p := gm_pw_pos (gp_rr P rk c)
  have s := gm_pw_s (gp_rr P rk c)
  unfold gp_wt
  omega
/-- how high the stack can grow above a cell -/
def gp_dd (kd : Nat → Int32) (B P : Nat) (rk : Nat → Nat) (c : Nat) : Nat := gp_c (fun x => decide ((kd (B + x / 11)).toInt = 4 ∨ (kd (B + x / 11)).toInt = 7) && decide (rk x ≤ rk c)) (11 * P)
theorem gp_dd_le {kd : Nat → Int32} {B P : Nat} {rk : Nat → Nat} {c c' : Nat} (h : rk c' < rk c) : gp_dd kd B P rk c' ≤ gp_dd kd B P rk c := gp_c_mono (fun k _ q => by
  rw [Bool.and_eq_true] at q ⊢
  exact ⟨q.1, decide_eq_true (by have := of_decide_eq_true q.2; omega)⟩)
theorem gp_dd_lt {kd : Nat → Int32} {B P : Nat} {rk : Nat → Nat} {c c' : Nat} (h : rk c' < rk c) (hc : c < 11 * P) (hk : (kd (B + c / 11)).toInt = 4 ∨ (kd (B + c / 11)).toInt = 7) : gp_dd kd B P rk c' + 1 ≤ gp_dd kd B P rk c := gp_c_lt (k := c) (fun k _ q => by
  rw [Bool.and_eq_true] at q ⊢
  exact ⟨q.1, decide_eq_true (by have := of_decide_eq_true q.2; omega)⟩) hc (by rw [Bool.and_eq_true]; exact ⟨decide_eq_true hk, decide_eq_true (Nat.le_refl _)⟩) (fun q => by
  rw [Bool.and_eq_true] at q
  have := of_decide_eq_true q.2
  omega)
theorem gp_dd_b (kd : Nat → Int32) (B P : Nat) (rk : Nat → Nat) (c : Nat) : gp_dd kd B P rk c ≤ 11 * gp_ka kd B P := by
  have a : gp_dd kd B P rk c ≤ gp_c (fun x => decide ((kd (B + x / 11)).toInt = 4 ∨ (kd (B + x / 11)).toInt = 7)) (11 * P) := gp_c_mono (fun k _ q => by rw [Bool.and_eq_true] at q; exact q.1)
  have b := gp_c_11 (fun k => decide ((kd (B + k)).toInt = 4 ∨ (kd (B + k)).toInt = 7)) P
  have b' : gp_c (fun x => decide ((kd (B + x / 11)).toInt = 4 ∨ (kd (B + x / 11)).toInt = 7)) (11 * P) = 11 * gp_ka kd B P := b
  omega
/-- captures at one place, at most: 20 -/
def gp_CP (S : gm_S) (P fed : Nat) (rk : Nat → Nat) (cp : Nat → Nat → Nat) : Prop := ∀ m q, gp_vc S P fed m q → cp m q ≤ 20 ∧ ((S.1 10 m).toInt = 3 → gp_kid S P fed rk m q (Int32.toNatClampNeg (gp_Mz S m)) q → cp (Int32.toNatClampNeg (gp_Mz S m)) q ≤ cp m q) ∧ (4 ≤ (S.1 10 m).toInt → gp_kid S P fed rk m q (Int32.toNatClampNeg (S.1 11 m)) q → cp (Int32.toNatClampNeg (S.1 11 m)) q ≤ cp m q) ∧ ((S.1 10 m).toInt = 4 ∨ (S.1 10 m).toInt = 5 → gp_kid S P fed rk m q (Int32.toNatClampNeg (S.1 12 m)) q → cp (Int32.toNatClampNeg (S.1 12 m)) q ≤ cp m q) ∧ ((S.1 10 m).toInt = 10 → gp_kid S P fed rk m q (Int32.toNatClampNeg (S.1 11 m)) q → cp (Int32.toNatClampNeg (S.1 11 m)) q + 1 ≤ cp m q)
theorem gp_cd_u {Pg : Nat → Nat → Nat → Prop} {B : Nat} {kd on tw : Nat → Int32} : ∀ (e e' : Lean.ParserDescr) (n : Nat), gp_rep Pg B kd on tw e n → gp_rep Pg B kd on tw e' n → gp_cd e = gp_cd e' := by
  intro e
  induction e with
  | cat nm k =>
    intro e' n r r'
    unfold gp_rep at r
    cases e' with
    | cat nm' k' => rfl
    | node nm' k' x => unfold gp_rep at r'; exfalso; have := r'.1; have := r'.2.1; have := r.1; have := r.2.1; omega
    | binary nm' x y => unfold gp_rep at r'; exfalso; have := r'.1; have := r'.2.1; have := r.1; have := r.2.1; omega
    | _ => unfold gp_rep at r'; exact r'.elim
  | node nm k x ih =>
    intro e' n r r'
    unfold gp_rep at r
    cases e' with
    | cat nm' k' => unfold gp_rep at r'; exfalso; have := r'.1; have := r'.2.1; have := r.1; have := r.2.1; omega
    | node nm' k' y =>
      unfold gp_rep at r'
      have e1 : k = k' := by have := r'.2.1; have := r.2.1; omega
      have e2 := ih y _ r.2.2.2 r'.2.2.2
      show (if k = 10 then gp_cd x + 1 else gp_cd x) = (if k' = 10 then gp_cd y + 1 else gp_cd y)
      rw [e1, e2]
    | binary nm' x y => unfold gp_rep at r'; exfalso; have := r'.1; have := r'.2.1; have := r.1; have := r.2.1; omega
    | _ => unfold gp_rep at r'; exact r'.elim
  | binary nm x y ih1 ih2 =>
    intro e' n r r'
    unfold gp_rep at r
    cases e' with
    | cat nm' k' => unfold gp_rep at r'; exfalso; have := r'.1; have := r'.2.1; have := r.1; have := r.2.1; omega
    | node nm' k' y => unfold gp_rep at r'; exfalso; have := r'.1; have := r'.2.1; have := r.1; have := r.2.1; omega
    | binary nm' x' y' =>
      unfold gp_rep at r'
      have e1 := ih1 x' _ r.2.2.2.2.1 r'.2.2.2.2.1
      have e2 := ih2 y' _ r.2.2.2.2.2 r'.2.2.2.2.2
      show max (gp_cd x) (gp_cd y) = max (gp_cd x') (gp_cd y')
      rw [e1, e2]
    | _ => unfold gp_rep at r'; exact r'.elim
  | _ =>
    intro e' n r r'
    unfold gp_rep at r
    exact r.elim
theorem gp_cd_sb : ∀ (e e' : Lean.ParserDescr), e' ∈ gp_sb e → gp_cd e' ≤ gp_cd e := by
  intro e
  induction e with
  | node nm k x ih =>
    intro e' h
    have h : e' ∈ Lean.ParserDescr.node nm k x :: gp_sb x := h
    rcases List.mem_cons.mp h with h | h
    · rw [h]; exact Nat.le_refl _
    · have := ih e' h
      show gp_cd e' ≤ (if k = 10 then gp_cd x + 1 else gp_cd x)
      split <;> omega
  | binary nm x y ih1 ih2 =>
    intro e' h
    have h : e' ∈ Lean.ParserDescr.binary nm x y :: (gp_sb x ++ gp_sb y) := h
    rcases List.mem_cons.mp h with h | h
    · rw [h]; exact Nat.le_refl _
    · show gp_cd e' ≤ max (gp_cd x) (gp_cd y)
      rcases List.mem_append.mp h with h | h
      · have := ih1 e' h; omega
      · have := ih2 e' h; omega
  | _ =>
    intro e' h
    unfold gp_sb at h
    rw [List.mem_singleton.mp h]
    exact Nat.le_refl _
noncomputable def gp_cn' (Pg : Nat → Nat → Nat → Prop) (B : Nat) (kd on tw : Nat → Int32) (n : Nat) : Nat := Classical.epsilon (fun d => ∃ e, gp_rep Pg B kd on tw e n ∧ gp_cd e = d)
theorem gp_cn_eq {Pg : Nat → Nat → Nat → Prop} {B : Nat} {kd on tw : Nat → Int32} {n : Nat} {e : Lean.ParserDescr} (h : gp_rep Pg B kd on tw e n) : gp_cn' Pg B kd on tw n = gp_cd e := by
  obtain ⟨e', h1, h2⟩ := Classical.epsilon_spec (p := fun d => ∃ e, gp_rep Pg B kd on tw e n ∧ gp_cd e = d) ⟨_, e, h, rfl⟩
  have := gp_cd_u e' e n h1 h
  unfold gp_cn'
  omega
theorem gp_cn_1 {Pg : Nat → Nat → Nat → Prop} {B : Nat} {kd on tw : Nat → Int32} {n : Nat} {e : Lean.ParserDescr} (h : gp_rep Pg B kd on tw e n) (hk : 6 ≤ (kd n).toInt) : gp_cn' Pg B kd on tw (Int32.toNatClampNeg (on n)) + (if (kd n).toInt = 10 then 1 else 0) = gp_cn' Pg B kd on tw n := by
  rw [gp_cn_eq h]
  cases e with
  | cat nm k => unfold gp_rep at h; exfalso; have := h.1; have := h.2.1; omega
  | node nm k x =>
    unfold gp_rep at h
    rw [gp_cn_eq h.2.2.2]
    show _ = (if k = 10 then gp_cd x + 1 else gp_cd x)
    have := h.2.1
    by_cases q : k = 10
    · rw [if_pos q, if_pos (by omega)]
    · rw [if_neg q, if_neg (by omega)]
      rfl
  | binary nm x y => unfold gp_rep at h; exfalso; have := h.1; have := h.2.1; omega
  | _ => unfold gp_rep at h; exact h.elim
theorem gp_cn_2 {Pg : Nat → Nat → Nat → Prop} {B : Nat} {kd on tw : Nat → Int32} {n : Nat} {e : Lean.ParserDescr} (h : gp_rep Pg B kd on tw e n) (hk : (kd n).toInt = 4 ∨ (kd n).toInt = 5) : gp_cn' Pg B kd on tw (Int32.toNatClampNeg (on n)) ≤ gp_cn' Pg B kd on tw n ∧ gp_cn' Pg B kd on tw (Int32.toNatClampNeg (tw n)) ≤ gp_cn' Pg B kd on tw n := by
  rw [gp_cn_eq h]
  cases e with
  | cat nm k => unfold gp_rep at h; exfalso; have := h.1; have := h.2.1; omega
  | node nm k x => unfold gp_rep at h; exfalso; have := h.1; have := h.2.1; omega
  | binary nm x y =>
    unfold gp_rep at h
    rw [gp_cn_eq h.2.2.2.2.1, gp_cn_eq h.2.2.2.2.2]
    show gp_cd x ≤ max (gp_cd x) (gp_cd y) ∧ gp_cd y ≤ max (gp_cd x) (gp_cd y)
    omega
  | _ => unfold gp_rep at h; exact h.elim
theorem gp_CP_ex {S : gm_S} {P fed : Nat} (hC : gp_WC S P fed) (hP : P = Int32.toNatClampNeg ((S.1 9) (Int32.toNatClampNeg (S.2.2 4)))) (hG : gp_GB (S.2.2 4) (S.1 6) (S.1 7) (S.1 8) (S.1 9) (S.1 10) (S.1 11) (S.1 12) (S.1 13)) (rk : Nat → Nat) : ∃ cp, gp_CP S P fed rk cp := by
  obtain ⟨Pg, R, f, nA, nC, ⟨G1, G2, G3, G4, G5⟩, g1, g2, g3, g4⟩ := hG
  have hM : gp_M (S.2.2 4) (S.1 9) = gp_Bs S + P := by rw [hP]
  have hB : gp_B (S.2.2 4) = gp_Bs S := rfl
  rw [hM, hB] at G3
  by_cases r3 : 3 ≤ R
  · refine ⟨fun m q => gp_c (fun k => decide ((S.1 10 (gp_Bs S + k)).toInt = 10) && decide (rk (11 * k + q) ≤ rk (11 * (m - gp_Bs S) + q))) P, fun m q hv => ?_⟩
    have mono : ∀ m', gp_kid S P fed rk m q m' q → gp_c (fun k => decide ((S.1 10 (gp_Bs S + k)).toInt = 10) && decide (rk (11 * k + q) ≤ rk (11 * (m' - gp_Bs S) + q))) P ≤ gp_c (fun k => decide ((S.1 10 (gp_Bs S + k)).toInt = 10) && decide (rk (11 * k + q) ≤ rk (11 * (m - gp_Bs S) + q))) P := by
      intro m' hk
      have hk := hk.2.1
      refine gp_c_mono (fun k _ w => ?_)
      rw [Bool.and_eq_true] at w ⊢
      exact ⟨w.1, decide_eq_true (by have := of_decide_eq_true w.2; omega)⟩
    refine ⟨?_, fun _ h => mono _ h, fun _ h => mono _ h, fun _ h => mono _ h, fun k10 h => ?_⟩
    · have a : gp_c (fun k => decide ((S.1 10 (gp_Bs S + k)).toInt = 10) && decide (rk (11 * k + q) ≤ rk (11 * (m - gp_Bs S) + q))) P ≤ gp_c (fun k => decide ((S.1 10 (gp_Bs S + k)).toInt = 10)) P := gp_c_mono (fun k _ w => by rw [Bool.and_eq_true] at w; exact w.1)
      have b : gp_c (fun k => decide ((S.1 10 (gp_Bs S + k)).toInt = 10)) P = nC := by rw [← G5, hP]; rfl
      show gp_c (fun k => decide ((S.1 10 (gp_Bs S + k)).toInt = 10) && decide (rk (11 * k + q) ≤ rk (11 * (m - gp_Bs S) + q))) P ≤ 20
      omega
    · have h2 := h.2.1
      have e : gp_Bs S + (m - gp_Bs S) = m := by have := hv.1; omega
      refine gp_c_lt (k := m - gp_Bs S) (fun k _ w => ?_) (by have := hv.1; have := hv.2.1; omega) ?_ (fun w => ?_)
      · rw [Bool.and_eq_true] at w ⊢
        exact ⟨w.1, decide_eq_true (by have := of_decide_eq_true w.2; omega)⟩
      · rw [Bool.and_eq_true]
        exact ⟨decide_eq_true (by rw [e]; exact k10), decide_eq_true (Nat.le_refl _)⟩
      · rw [Bool.and_eq_true] at w
        have := of_decide_eq_true w.2
        omega
  · obtain ⟨⟨b0, b1⟩, -, -, ⟨ty, hU⟩, SC⟩ := hC
    obtain ⟨-, -, ⟨r0, r1⟩, hS, hN⟩ := hU
    have cb := gx_cl (S.2.2 4) b0
    refine ⟨fun m q => gp_cn' Pg (gp_Bs S) (S.1 10) (S.1 11) (S.1 12) m + 6 * gp_c (fun r => decide (rk (11 * (Int32.toNatClampNeg (S.1 8 (8 * Int32.toNatClampNeg (S.2.2 4) + r)) - gp_Bs S) + q) < rk (11 * (m - gp_Bs S) + q))) R, fun m q hv => ?_⟩
    have le6 : ∀ n, gp_Bs S ≤ n → n < gp_Bs S + P → gp_cn' Pg (gp_Bs S) (S.1 10) (S.1 11) (S.1 12) n ≤ 6 ∧ ∃ e, gp_rep Pg (gp_Bs S) (S.1 10) (S.1 11) (S.1 12) e n := by
      intro n a b
      obtain ⟨r, h1, -, e', h2, h3⟩ := G3 n a b
      have := gp_cd_sb _ _ h2
      have := g4 r h1
      rw [gp_cn_eq h3]
      exact ⟨by omega, e', h3⟩
    obtain ⟨l6, e, he⟩ := le6 m hv.1 hv.2.1
    have cnt : ∀ m', gp_kid S P fed rk m q m' q → gp_c (fun r => decide (rk (11 * (Int32.toNatClampNeg (S.1 8 (8 * Int32.toNatClampNeg (S.2.2 4) + r)) - gp_Bs S) + q) < rk (11 * (m' - gp_Bs S) + q))) R ≤ gp_c (fun r => decide (rk (11 * (Int32.toNatClampNeg (S.1 8 (8 * Int32.toNatClampNeg (S.2.2 4) + r)) - gp_Bs S) + q) < rk (11 * (m - gp_Bs S) + q))) R := by
      intro m' hk
      have hk := hk.2.1
      exact gp_c_mono (fun k _ w => decide_eq_true (by have := of_decide_eq_true w; omega))
    refine ⟨?_, fun k3 h => ?_, fun k4 h => ?_, fun k45 h => ?_, fun k10 h => ?_⟩
    · have a := gp_c_le (fun r => decide (rk (11 * (Int32.toNatClampNeg (S.1 8 (8 * Int32.toNatClampNeg (S.2.2 4) + r)) - gp_Bs S) + q) < rk (11 * (m - gp_Bs S) + q))) R
      dsimp only
      omega
    · have l := (le6 _ h.1.1 h.1.2.1).1
      obtain ⟨z, hz⟩ := gp_me_ex (S.1 6) (S.1 7) (S.1 8) (S.2.2 4) (S.1 11 m) b0 r1
      have ez := gp_mz_eq b0 hz
      have x := (SC.1 m hv.1 hv.2.1).2.2.2.2 k3
      obtain ⟨r, hr, hr2⟩ := hz
      rcases hr2 with ⟨t1, t2⟩ | ⟨t1, t2, t3⟩
      · have x3 := x.2.2
        have ez' : gp_Mz S m = -1 := by rw [← t2]; exact ez.symm
        rw [ez'] at x3
        exact absurd x3 (by decide)
      · have cr := gx_cl r t1
        have ew : gp_Mz S m = S.1 8 (8 * Int32.toNatClampNeg (S.2.2 4) + Int32.toNatClampNeg r) := ez.symm.trans (t3 _ (by omega))
        have lt : gp_c (fun r => decide (rk (11 * (Int32.toNatClampNeg (S.1 8 (8 * Int32.toNatClampNeg (S.2.2 4) + r)) - gp_Bs S) + q) < rk (11 * (Int32.toNatClampNeg (gp_Mz S m) - gp_Bs S) + q))) R < gp_c (fun r => decide (rk (11 * (Int32.toNatClampNeg (S.1 8 (8 * Int32.toNatClampNeg (S.2.2 4) + r)) - gp_Bs S) + q) < rk (11 * (m - gp_Bs S) + q))) R := by
          have hk := h.2.1
          refine gp_c_lt (k := Int32.toNatClampNeg r) (fun k _ w => decide_eq_true (by have := of_decide_eq_true w; omega)) (by omega) (decide_eq_true ?_) (fun w => ?_)
          · rw [← ew]; exact hk
          · have := of_decide_eq_true w
            rw [← ew] at this
            omega
        dsimp only
        omega
    · have c := cnt _ h
      by_cases k6 : 6 ≤ (S.1 10 m).toInt
      · have a := gp_cn_1 he k6
        dsimp only
        omega
      · have a := gp_cn_2 he (by omega)
        dsimp only
        omega
    · have c := cnt _ h
      have a := gp_cn_2 he k45
      dsimp only
      omega
    · have c := cnt _ h
      have a := gp_cn_1 he (by omega)
      rw [if_pos k10] at a
      dsimp only
      omega
