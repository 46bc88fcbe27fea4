/-! The class's reader against the machine: the whole text. -/
theorem gq_rule' {tx : Nat → Int} {ty : Nat} (S : gq_St) {a n m R nA nC : Nat} {f : Nat → Int × Lean.ParserDescr} (ht : gp_tx (S.2.1.2.2 1) (S.2.1.1 0) tx ty) (hN : gq_N S a 0 n m) (hG : gq_G tx ty S n R f) (hR : R < 8) (hc : 2 * n ≤ 3 * a) (hty : a ≤ ty) (hA : 2 * nA ≤ 3 * a) (hC : 2 * nC + 3 * R ≤ a) : gq_rlQ tx ty R f (gp_rl tx ty R f a nA nC) (gm_f_Reader_readRule S) := gq_rule S ht hN hG hR hc hty hA hC
theorem gq_Rt_E2 {tx : Nat → Int} {ty : Nat} {u V : gq_St} (h0 : V.2.2.1 0 = u.2.2.1 0) (h1 : V.2.2.1 1 = u.2.2.1 1) (h2 : V.2.2.1 2 = u.2.2.1 2) (h3 : V.2.2.1 3 = u.2.2.1 3) (h4 : V.2.2.1 4 = u.2.2.1 4) (h7 : V.2.2.2.1 7 = u.2.2.2.1 7) (h8 : V.2.2.2.1 8 = u.2.2.2.1 8) {n R : Nat} {f : Nat → Int × Lean.ParserDescr} (h9 : V.2.2.1 9 = u.2.2.1 9) (h10 : V.2.2.1 10 = u.2.2.1 10) (h13 : V.2.2.2.2 13 = u.2.2.2.2 13) (h : gq_G tx ty u n R f) : gq_G tx ty V n R f := by
  unfold gq_G gq_cv gq_Rk gq_Rt at *
  rw [h0, h1, h2, h3, h4, h7, h8, h9, h10, h13]
  exact h
def gq_rdQ (tx : Nat → Int) (ty : Nat) (res : Nat ⊕ (Nat × (Nat → Int × Lean.ParserDescr) × Nat × Nat)) (z : Int32 × gq_St) : Prop := match res with
  | .inl j => z.1.toInt = j
  | .inr t => z.1 = -1 ∧ ∃ a n m, gq_N z.2 a 0 n m ∧ gq_G tx ty z.2 n t.1 t.2.1 ∧ 2 * n ≤ 3 * a ∧ a ≤ ty
theorem gq_read28w (S : gq_St) (u4 : gm_S) (u23 : gq_St) (f : Nat) (v : Int32) (U : gq_St) {j : Nat} (h : gq_W U j) : (gm_f_Reader_read_28 S u4 u23 (f + 1) v U).1.toInt = j := by
  obtain ⟨Q, hQ⟩ : ∃ Q : Int32 × gq_St → Prop, Q = fun z => z.1.toInt = (j : Int) := ⟨_, rfl⟩
  show (fun z : Int32 × gq_St => z.1.toInt = (j : Int)) (gm_f_Reader_read_28 S u4 u23 (f + 1) v U)
  rw [← hQ, gm_f_Reader_read_28]
  have h5 : ¬ U.1.2.2 5 = 0 := by rw [h.1]; decide
  refine gq_if (Q := Q) (fun _ => ?_) (fun _ => ?_)
  · rw [if_neg h5, hQ]; exact h.2
  · rw [if_neg h5, if_neg h5, hQ]; exact h.2
theorem gq_read28 {tx : Nat → Int} {ty : Nat} (S : gq_St) (ht : gp_tx (S.2.1.2.2 1) (S.2.1.1 0) tx ty) (u4 : gm_S) (u23 : gq_St) : ∀ (F N R : Nat) (f : Nat → Int × Lean.ParserDescr) (a n m nA nC : Nat) (v : Int32) (U : gq_St), v.toInt = R → 1 ≤ R → R ≤ 8 → 8 < F + R → ty + 1 ≤ N + a → gq_N U a 0 n m → gq_G tx ty U n R f → 2 * n ≤ 3 * a → a ≤ ty → 2 * nA ≤ 3 * a → 2 * nC + 3 * R ≤ a → gq_rdQ tx ty (gp_rd tx ty N R f a nA nC) (gm_f_Reader_read_28 S u4 u23 F v U) := by
  have t1 := ht.1
  intro F
  induction F with
  | zero => intro N R f a n m nA nC v U _ _ h1 h2; exact absurd h2 (by omega)
  | succ F ih =>
    intro N R f a n m nA nC v U hv h1 h8 hF hNa hN hG hc hty hA hC
    cases N with
    | zero => exact absurd hNa (by omega)
    | succ N =>
      obtain ⟨res, hres⟩ : ∃ res, res = gp_rd tx ty (N + 1) R f a nA nC := ⟨_, rfl⟩
      rw [← hres]
      obtain ⟨Q, hQ⟩ : ∃ Q, Q = gq_rdQ tx ty res := ⟨_, rfl⟩
      rw [← hQ, gm_f_Reader_read_28]
      have pl := hN.2.1
      have done : ¬ a < ty → ∀ z : gq_St, gq_N z a 0 n m → gq_G tx ty z n R f → Q (-1, z) := by
        intro h z z1 z2
        have er : res = .inr (R, f, nA, nC) := by
          rw [hres]
          unfold gp_rd
          rw [if_neg (by omega)]
        rw [hQ, er]
        exact ⟨rfl, a, n, m, z1, z2, hc, hty⟩
      have E : ∀ V : gq_St, V.1.2.2 5 = U.1.2.2 5 → V.1.2.2 4 = U.1.2.2 4 → V.1.2.2 3 = U.1.2.2 3 → V.2.2.1 3 = U.2.2.1 3 → V.2.2.2.2 11 = U.2.2.2.2 11 → V.2.2.2.2 12 = U.2.2.2.2 12 → V.2.2.1 0 = U.2.2.1 0 → V.2.2.1 5 = U.2.2.1 5 → V.2.2.1 6 = U.2.2.1 6 → V.2.2.2.1 7 = U.2.2.2.1 7 → V.2.2.2.1 8 = U.2.2.2.1 8 → V.2.2.1 2 = U.2.2.1 2 → gq_N V a 0 n m := by
        intro V e5 e4 e3 e7 e11 e12 f0 f5 f6 f7 f8 f2
        obtain ⟨c1, c2, c3, c4, c5, c6, c7⟩ := hN
        exact ⟨by rw [e5]; exact c1, by rw [e4]; exact c2, by rw [e3]; exact c3, by rw [e11]; exact c4, by rw [e12]; exact c5, c6, fun d hd => by unfold gq_nf; rw [e7, f0, f5, f6, f7, f8, f2]; exact c7 d hd⟩
      have lp : S.2.1.2.2 1 ≤ U.1.2.2 4 ↔ ¬ a < ty := by
        rw [Int32.le_iff_toInt_le]
        omega
      refine gq_if (Q := Q) (fun l => ?_) (fun l => ?_)
      · rw [Int32.le_iff_toInt_le, gx_lit 8 (by decide)] at l
        rw [if_pos hN.1]
        refine gq_if (Q := Q) (fun w => done (lp.mp w) _ (E _ rfl rfl rfl rfl rfl rfl rfl rfl rfl rfl rfl rfl) (gq_Rt_E2 rfl rfl rfl rfl rfl rfl rfl rfl rfl rfl hG)) (fun w => ?_)
        have lt : a < ty := by
          rcases Nat.lt_or_ge a ty with q | q
          · exact q
          · exact absurd (lp.mpr (by omega)) w
        have er : res = .inl a := by
          rw [hres]
          unfold gp_rd
          rw [if_pos (Or.inl lt)]
          unfold gp_rl
          rw [if_pos (Or.inr (Or.inl (by omega)))]
        rw [hQ, er]
        exact pl
      · rw [Int32.le_iff_toInt_le, gx_lit 8 (by decide)] at l
        rw [if_pos hN.1]
        refine gq_if (Q := Q) (fun w => ?_) (fun w => ?_)
        · rw [if_pos hN.1, if_pos w]
          exact done (lp.mp w) _ (E _ rfl rfl rfl rfl rfl rfl rfl rfl rfl rfl rfl rfl) (gq_Rt_E2 rfl rfl rfl rfl rfl rfl rfl rfl rfl rfl hG)
        have lt : a < ty := by
          rcases Nat.lt_or_ge a ty with q | q
          · exact q
          · exact absurd (lp.mpr (by omega)) w
        have er : res = (match gp_rl tx ty R f a nA nC with
          | .inl j => .inl j
          | .inr t => gp_rd tx ty N (R + 1) (gp_ad f R t.2.1) t.1 t.2.2.1 t.2.2.2) := hres.trans (if_pos (Or.inl lt))
        refine gq_cb (Q := Q) (gq_rlQ tx ty R f (gp_rl tx ty R f a nA nC)) (gq_rule' _ ht (E _ rfl rfl rfl rfl rfl rfl rfl rfl rfl rfl rfl rfl) (gq_Rt_E2 rfl rfl rfl rfl rfl rfl rfl rfl rfl rfl hG) (by omega) hc hty hA hC) (fun r56 u56 h56 => ?_)
        have kp := fun t => gp_rl_kp tx ty R f a nA nC hA hC (t := t)
        have av := gx_ak v 1 1 (by decide)
        generalize gp_rl tx ty R f a nA nC = rl at er h56 kp
        match rl, er, h56, kp with
        | .inl j, er, h56, _ =>
          have er : res = .inl j := er
          rw [hQ, er]
          cases F with
          | zero => exact absurd hF (by omega)
          | succ F => exact gq_read28w S u4 u23 F _ _ h56
        | .inr t, er, h56, kp =>
          have er : res = gp_rd tx ty N (R + 1) (gp_ad f R t.2.1) t.1 t.2.2.1 t.2.2.2 := er
          obtain ⟨k1, k2, k3, k4, k5⟩ := kp t rfl
          obtain ⟨n', m', ⟨c1, c2, c3, c4, c5, c6, c7⟩, p2, p3, p4⟩ := h56
          rw [hQ, er]
          exact ih N (R + 1) _ t.1 n' m' _ _ _ _ (by omega) (by omega) (by omega) (by omega) (by omega) ⟨c1, c2, c3, c4, c5, c6, c7⟩ (gq_Rt_E2 rfl rfl rfl rfl rfl rfl rfl rfl rfl rfl p2) p3 p4 k2 k3
theorem gq_read {tx : Nat → Int} {ty : Nat} (S : gq_St) (ht : gp_tx (S.2.1.2.2 1) (S.2.1.1 0) tx ty) (f : Nat → Int × Lean.ParserDescr) : gq_rdQ tx ty (gp_rd tx ty (ty + 1) 0 f 0 0 0) (gm_f_Reader_read S) := by
  obtain ⟨res, hres⟩ : ∃ res, res = gp_rd tx ty (ty + 1) 0 f 0 0 0 := ⟨_, rfl⟩
  rw [← hres]
  obtain ⟨Q, hQ⟩ : ∃ Q, Q = gq_rdQ tx ty res := ⟨_, rfl⟩
  rw [← hQ]
  have z0 : (0 : Int32).toInt = 0 := by decide
  unfold gm_f_Reader_read
  refine gq_cb (Q := Q) (fun z => z.2.2.2 11 = 0 ∧ z.2.2.2 12 = 0 ∧ z.2.2.2 13 = 0) ⟨rfl, rfl, rfl⟩ (fun r4 u4 h4 => ?_)
  obtain ⟨e11, e12, e13⟩ := h4
  have e11 : u4.2.2 11 = 0 := e11
  have e12 : u4.2.2 12 = 0 := e12
  have e13 : u4.2.2 13 = 0 := e13
  have er : res = (match gp_rl tx ty 0 f 0 0 0 with
    | .inl j => .inl j
    | .inr t => gp_rd tx ty ty (0 + 1) (gp_ad f 0 t.2.1) t.1 t.2.2.1 t.2.2.2) := hres.trans (if_pos (Or.inr rfl))
  refine gq_cb (Q := Q) (gq_rlQ tx ty 0 f (gp_rl tx ty 0 f 0 0 0)) (gq_rule' _ (n := 0) (m := 0) ht ⟨rfl, z0, z0, ?_, ?_, by omega, fun d hd => absurd hd (by omega)⟩ ⟨?_, by omega, rfl, fun r hr => absurd hr (by omega)⟩ (by omega) (by omega) (by omega) (by omega) (by omega)) (fun r23 u23 h23 => ?_)
  · show (u4.2.2 11).toInt = _
    rw [e11]; exact z0
  · show (u4.2.2 12).toInt = _
    rw [e12]; exact z0
  · show (u4.2.2 13).toInt = _
    rw [e13]; exact z0
  have kp := fun t => gp_rl_kp tx ty 0 f 0 0 0 (by omega) (by omega) (t := t)
  generalize gp_rl tx ty 0 f 0 0 0 = rl at er h23 kp
  match rl, er, h23, kp with
  | .inl j, er, h23, _ =>
    have er : res = .inl j := er
    rw [hQ, er]
    exact gq_read28w S u4 u23 199 _ _ h23
  | .inr t, er, h23, kp =>
    have er : res = gp_rd tx ty ty (0 + 1) (gp_ad f 0 t.2.1) t.1 t.2.2.1 t.2.2.2 := er
    obtain ⟨k1, k2, k3, k4, k5⟩ := kp t rfl
    obtain ⟨n', m', ⟨c1, c2, c3, c4, c5, c6, c7⟩, p2, p3, p4⟩ := h23
    rw [hQ, er]
    exact gq_read28 S ht u4 u23 200 ty 1 _ t.1 n' m' _ _ 1 _ (by decide) (by omega) (by omega) (by omega) (by omega) ⟨c1, c2, c3, c4, c5, c6, c7⟩ (gq_Rt_E2 rfl rfl rfl rfl rfl rfl rfl rfl rfl rfl p2) p3 p4 k2 k3
