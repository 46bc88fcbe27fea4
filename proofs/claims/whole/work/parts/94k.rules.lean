/-! The reference's reader against the machine: all rules. -/
def gp_fd (f : Nat → Int × Lean.ParserDescr) (c : Int) : Nat → Bool
  | 0 => false
  | n + 1 => gp_fd f c n || decide ((f n).1 = c)
theorem gp_fd_iff (f : Nat → Int × Lean.ParserDescr) (c : Int) : ∀ n, gp_fd f c n = true ↔ ∃ r, r < n ∧ (f r).1 = c := by
  intro n
  induction n with
  | zero => exact ⟨fun h => (by cases h), fun ⟨r, h, _⟩ => absurd h (by omega)⟩
  | succ n ih =>
    unfold gp_fd
    rw [Bool.or_eq_true, ih, decide_eq_true_iff]
    constructor
    · rintro (⟨r, h1, h2⟩ | h)
      · exact ⟨r, by omega, h2⟩
      · exact ⟨n, by omega, h⟩
    · rintro ⟨r, h1, h2⟩
      by_cases q : r = n
      · rw [q] at h2; exact Or.inr h2
      · exact Or.inl ⟨r, by omega, h2⟩
/-- one rule: R rules f were read, a where it is -/
def gp_rl (tx : Nat → Int) (ty R : Nat) (f : Nat → Int × Lean.ParserDescr) (a nA nC : Nat) : Nat ⊕ (Nat × (Int × Lean.ParserDescr) × Nat × Nat) :=
  if ¬ (65 ≤ gp_pk tx ty a ∧ gp_pk tx ty a ≤ 90) ∨ R = 8 ∨ gp_fd f (gp_pk tx ty a) R = true then .inl a
  else if gp_pk tx ty (a + 1) = 61 then
    (match gp_mr tx ty (ty + 3) (a + 2, 0, [(59, 0, [], [])], nA, nC) with
    | .inl j => .inl j
    | .inr t => .inr (t.1, (gp_pk tx ty a, t.2.1), t.2.2.1, t.2.2.2))
  else .inl (a + 1)
def gp_ad (f : Nat → Int × Lean.ParserDescr) (R : Nat) (x : Int × Lean.ParserDescr) : Nat → Int × Lean.ParserDescr := fun r => if r = R then x else f r
/-- the rules in the arrays of a half -/
def gp_G (Pg : Nat → Nat → Nat → Prop) (fr : Int32) (rc nm wh pa kd on tw ow : Nat → Int32) (R : Nat) (f : Nat → Int × Lean.ParserDescr) (nA nC : Nat) : Prop :=
  (rc (Int32.toNatClampNeg fr)).toInt = R ∧
  (∀ r, r < R → (nm (8 * Int32.toNatClampNeg fr + r)).toInt = (f r).1 ∧ gp_ch (gp_B fr) (wh (8 * Int32.toNatClampNeg fr + r)) (gp_M fr pa) ∧ gp_rep Pg (gp_B fr) kd on tw (f r).2 (Int32.toNatClampNeg (wh (8 * Int32.toNatClampNeg fr + r)))) ∧
  (∀ n, gp_B fr ≤ n → n < gp_M fr pa → ∃ r, r < R ∧ (ow n).toInt = (r : Nat) ∧ ∃ e', e' ∈ gp_sb (f r).2 ∧ gp_rep Pg (gp_B fr) kd on tw e' n) ∧
  gp_ka kd (gp_B fr) (Int32.toNatClampNeg (pa (Int32.toNatClampNeg fr))) = nA ∧ gp_kc kd (gp_B fr) (Int32.toNatClampNeg (pa (Int32.toNatClampNeg fr))) = nC
/-- the rules, what their sets hold, and that a rule's parts come after those of the rules before -/
def gp_GL (tx : Nat → Int) (ty : Nat) (fr : Int32) (rc nm wh pa kd on tw ow : Nat → Int32) (lw hg : Nat → Int64) (R : Nat) (f : Nat → Int × Lean.ParserDescr) (nA nC : Nat) : Prop :=
  ∃ Pg : Nat → Nat → Nat → Prop, gp_G Pg fr rc nm wh pa kd on tw ow R f nA nC ∧ gp_LB Pg tx ty (gp_M fr pa) lw hg ∧ (∀ r n, r < R → gp_B fr ≤ n → n ≤ Int32.toNatClampNeg (wh (8 * Int32.toNatClampNeg fr + r)) → (ow n).toInt ≤ r) ∧ ∀ r, r < R → (ow (Int32.toNatClampNeg (wh (8 * Int32.toNatClampNeg fr + r)))).toInt = (r : Nat)
def gp_O2 (fr : Int32) (rc nm wh rc' nm' wh' : Nat → Int32) : Prop := (∀ n, n ≠ Int32.toNatClampNeg fr → rc' n = rc n) ∧ ∀ n, (n < 8 * Int32.toNatClampNeg fr ∨ 8 * Int32.toNatClampNeg fr + 8 ≤ n) → nm' n = nm n ∧ wh' n = wh n
theorem gp_O2_r (fr : Int32) (rc nm wh : Nat → Int32) : gp_O2 fr rc nm wh rc nm wh := ⟨fun _ _ => rfl, fun _ _ => ⟨rfl, rfl⟩⟩
theorem gp_O2_t {fr : Int32} {rc nm wh rc' nm' wh' rc2 nm2 wh2 : Nat → Int32} (h : gp_O2 fr rc nm wh rc' nm' wh') (h2 : gp_O2 fr rc' nm' wh' rc2 nm2 wh2) : gp_O2 fr rc nm wh rc2 nm2 wh2 := ⟨fun n hn => (h2.1 n hn).trans (h.1 n hn), fun n hn => ⟨(h2.2 n hn).1.trans (h.2 n hn).1, (h2.2 n hn).2.trans (h.2 n hn).2⟩⟩
/-- what the reading of a rule leaves -/
def gp_Ql (tx : Nat → Int) (ty : Nat) (S : gm_S) (R : Nat) (f : Nat → Int × Lean.ParserDescr) (res : Nat ⊕ (Nat × (Int × Lean.ParserDescr) × Nat × Nat)) (z : Int32 × gm_S) : Prop :=
  (match res with
    | .inl j => (z.2.2.2 24).toInt ≠ 0 ∧ (z.2.2.2 19).toInt = j
    | .inr t => (z.2.2.2 24).toInt = 0 ∧ (z.2.2.2 19).toInt = t.1 ∧ gp_GL tx ty (S.2.2 5) (z.2.1 6) (z.2.1 7) (z.2.1 8) (z.2.1 9) (z.2.1 10) (z.2.1 11) (z.2.1 12) (z.2.1 13) (z.2.2.1 17) (z.2.2.1 18) (R + 1) (gp_ad f R t.2.1) t.2.2.1 t.2.2.2) ∧ gp_O (S.2.2 5) (gp_B (S.2.2 5)) (S.1 9) (S.1 10) (S.1 11) (S.1 12) (S.1 13) (S.2.1 17) (S.2.1 18) (z.2.1 9) (z.2.1 10) (z.2.1 11) (z.2.1 12) (z.2.1 13) (z.2.2.1 17) (z.2.2.1 18) ∧ gp_O2 (S.2.2 5) (S.1 6) (S.1 7) (S.1 8) (z.2.1 6) (z.2.1 7) (z.2.1 8)
theorem gz_readRule (S : gm_S) {tx : Nat → Int} {ty R a nA nC : Nat} {f : Nat → Int × Lean.ParserDescr} (ht : gp_tx (S.2.2 2) (S.1 3) tx ty) (hW : gm_iW 50 (S.2.2 2) (S.1 3)) (hN : gm_iN 1 (S.2.2 5)) (hG : gp_GL tx ty (S.2.2 5) (S.1 6) (S.1 7) (S.1 8) (S.1 9) (S.1 10) (S.1 11) (S.1 12) (S.1 13) (S.2.1 17) (S.2.1 18) R f nA nC) (ha : (S.2.2 19).toInt = a) (ha2 : a ≤ ty) (hp : 0 ≤ ((S.1 9) (Int32.toNatClampNeg (S.2.2 5))).toInt) (hp2 : ((S.1 9) (Int32.toNatClampNeg (S.2.2 5))).toInt ≤ 2 * (a : Int)) (hw : S.2.2 24 = 0) (hR : R ≤ 8) (hA : 2 * nA ≤ 3 * a) (hC : 2 * nC + 3 * R ≤ a) : gp_Ql tx ty S R f (gp_rl tx ty R f a nA nC) (gm_f_MD_readRule S) := by
  have ty1 := ht.1
  have ty2 := ht.2.1
  have hf := hN
  have l1 : (1 : Int32).toInt = 1 := by decide
  have b := gx_ak (S.2.2 19) 1 1 (by decide)
  have b1 : ((S.2.2 19) + 1).toInt = ((a + 1 : Nat) : Int) := by omega
  have b2 := gx_ak ((S.2.2 19) + 1) 1 1 (by decide)
  have b3 : (((S.2.2 19) + 1) + 1).toInt = ((a + 2 : Nat) : Int) := by omega
  have cf := gx_cl (S.2.2 5) hf.1
  obtain ⟨Pg, ⟨G1, G2, G3, G4, G5⟩, GL, GO, GW⟩ := hG
  have pka := gp_pk_t (j := a) ht
  have pkb := gp_pk_t (j := a + 1) ht
  generalize hres : gp_rl tx ty R f a nA nC = res
  have bad : ∀ r1 u1, (¬ (65 ≤ gp_pk tx ty a ∧ gp_pk tx ty a ≤ 90) ∨ R = 8 ∨ gp_fd f (gp_pk tx ty a) R = true) → gp_Ql tx ty S R f res (gm_f_MD_readRule_j44 S r1 u1 S) := by
    intro r1 u1 q
    rw [← hres, (show gp_rl tx ty R f a nA nC = .inl a from if_pos q)]
    exact ⟨⟨(show (1 : Int32).toInt ≠ 0 by omega), ha⟩, gp_O_r _ _ _ _ _ _ _ _ _, gp_O2_r _ _ _ _⟩
  unfold gm_f_MD_readRule
  refine gf_ca (Q := gp_Ql tx ty S R f res) (fun z => z.1.toInt = gp_pk tx ty a) (gz_peek S ht ha) ?_
  intro r1 u1 h1
  have h1 : r1.toInt = gp_pk tx ty a := h1
  refine gf_if (Q := gp_Ql tx ty S R f res) (fun q => ?_) (fun q => ?_)
  · have q1 := gx_ltr (k := 65) (gx_lit 65 (by decide)) q
    exact bad r1 u1 (Or.inl (by omega))
  have q1 := gx_ltnr (k := 65) (gx_lit 65 (by decide)) q
  refine gf_if (Q := gp_Ql tx ty S R f res) (fun q => ?_) (fun q => ?_)
  · have q2 := gx_ltl (k := 90) (gx_lit 90 (by decide)) q
    exact bad r1 u1 (Or.inl (by omega))
  have q2 := gx_ltnl (k := 90) (gx_lit 90 (by decide)) q
  refine gf_if (Q := gp_Ql tx ty S R f res) (fun q => ?_) (fun q => ?_)
  · have q3 := gx_eqr (k := 8) (gx_lit 8 (by decide)) q
    exact bad r1 u1 (Or.inr (Or.inl (by omega)))
  have q3 := gx_eqnr (k := 8) (gx_lit 8 (by decide)) q
  refine gf_ca (Q := gp_Ql tx ty S R f res) (fun z : Int32 × gm_S => gp_ru (S.1 6) (S.1 7) (S.2.2 5) r1 z.1) (gy_s_MD_ruleOf (S.2.2 5) r1 S hf.1 hf.2 (by omega)).2 ?_
  intro r37 u37 h37
  have h37 : gp_ru (S.1 6) (S.1 7) (S.2.2 5) r1 r37 := h37
  refine gf_if (Q := gp_Ql tx ty S R f res) (fun q => ?_) (fun q => ?_)
  · have nofd : ¬ gp_fd f (gp_pk tx ty a) R = true := by
      rw [gp_fd_iff]
      rintro ⟨r, t1, t2⟩
      rcases h37 with ⟨-, h⟩ | ⟨h, -⟩
      · exact h r (by omega) (8 * Int32.toNatClampNeg (S.2.2 5) + r) (by omega) (Int32.toInt_inj.mp (by rw [(G2 r t1).1, t2, h1]))
      · rw [q] at h; exact absurd h (by decide)
    have c1 : ¬ (¬ (65 ≤ gp_pk tx ty a ∧ gp_pk tx ty a ≤ 90) ∨ R = 8 ∨ gp_fd f (gp_pk tx ty a) R = true) := by
      rintro (t | t | t)
      · exact t (by omega)
      · omega
      · exact nofd t
    refine gf_ca (Q := gp_Ql tx ty S R f res) (fun z => z.1.toInt = gp_pk tx ty (a + 1)) (gz_peek _ ht b1) ?_
    intro r60 u60 h60
    have h60 : r60.toInt = gp_pk tx ty (a + 1) := h60
    refine gf_if (Q := gp_Ql tx ty S R f res) (fun q => ?_) (fun q => ?_)
    · have q4 := gx_eqr (k := 61) (gx_lit 61 (by decide)) q
      have z0 : (0 : Int32).toInt = 0 := by decide
      have c0 : Int32.toNatClampNeg 0 = 0 := by decide
      have Z := gz_rule130 S r1 u1 r37 u37 r60 u60 (lo := (gp_M (S.2.2 5) (S.1 9), gp_M (S.2.2 5) (S.1 9))) (R0 := R) ht hW hN G1 (by omega) 200 (ty + 3) (a + 2, 0, [(59, 0, [], [])], nA, nC) ((va_up (va_up (va_up S.1 26 (upd (S.1 26) (Int32.toNatClampNeg 0) 59)) 28 (upd (S.1 28) (Int32.toNatClampNeg 0) 0)) 29 (upd (S.1 29) (Int32.toNatClampNeg 0) 0)), S.2.1, (va_up (va_up (va_up (va_up (va_up (va_up S.2.2 19 (((S.2.2 19) + 1) + 1)) 20 0) 21 0) 22 0) 23 0) 25 1)) Pg rfl rfl rfl hw (show ¬ (1 : Int32) = 0 by decide) ⟨⟨?_, ?_⟩, z0, b3⟩ (gx_iC_0 _ _ _) ?_ ?_ (gp_O_r _ _ _ _ _ _ _ _ _) (by show ty + 2 ≤ 200 + (a + 2); omega) (by show ty + 1 ≤ ty + 3 + (a + 2); omega) GL
      · rw [← hres, (show gp_rl tx ty R f a nA nC = (match gp_mr tx ty (ty + 3) (a + 2, 0, [(59, 0, [], [])], nA, nC) with
          | .inl j => .inl j
          | .inr t => .inr (t.1, (gp_pk tx ty a, t.2.1), t.2.2.1, t.2.2.2)) from (if_neg c1).trans (if_pos (by omega)))]
        generalize gp_mr tx ty (ty + 3) (a + 2, 0, [(59, 0, [], [])], nA, nC) = mr at Z ⊢
        generalize gm_f_MD_readRule_130 S r1 u1 r37 u37 r60 u60 200 _ = z at Z ⊢
        obtain ⟨P2, ZP, ⟨Z1, Z2⟩, ZL⟩ := Z
        have Z3 := gp_O_w (L' := gp_B (S.2.2 5)) Z2 (by show 160 * Int32.toNatClampNeg (S.2.2 5) ≤ 160 * Int32.toNatClampNeg (S.2.2 5) + _; omega)
        have hJ : (Int32.toNatClampNeg ((8 * (S.2.2 5)) + (S.1 6) (Int32.toNatClampNeg (S.2.2 5)))) = 8 * Int32.toNatClampNeg (S.2.2 5) + R := by
          have m := gx_mk 8 (S.2.2 5) 8 (gx_lit 8 (by decide))
          have s := gx_ad (8 * (S.2.2 5)) ((S.1 6) (Int32.toNatClampNeg (S.2.2 5)))
          have e : ((8 * (S.2.2 5)) + (S.1 6) (Int32.toNatClampNeg (S.2.2 5))).toInt = 8 * (S.2.2 5).toInt + R := by omega
          have c := gx_cl ((8 * (S.2.2 5)) + (S.1 6) (Int32.toNatClampNeg (S.2.2 5))) (by omega)
          omega
        match mr, Z1, ZL with
        | .inl j, Z1, ZL =>
          obtain ⟨y1, y2, y3, y4, y5⟩ := Z1
          refine ⟨⟨y1, y2⟩, Z3, ?_⟩
          rw [y3, y4, y5]
          exact gp_O2_r _ _ _ _
        | .inr t, Z1, ZL =>
          obtain ⟨y1, y2, y3, y4, y5, v, y6, y7, y8⟩ := Z1
          rw [hJ] at y4 y6
          obtain ⟨k1, k2, k3, k4, k5⟩ := y5
          have k4 : gp_M (S.2.2 5) (S.1 9) ≤ gp_M (S.2.2 5) (z.2.1 9) := k4
          have bM : gp_B (S.2.2 5) ≤ gp_M (S.2.2 5) (S.1 9) := Nat.le_add_right _ _
          have k1 : ∀ n, gp_M (S.2.2 5) (S.1 9) ≤ n → n < gp_M (S.2.2 5) (z.2.1 9) → z.2.1 13 n = (S.1 6) (Int32.toNatClampNeg (S.2.2 5)) ∧ ∃ e, e ∈ [t.2.1] ∧ ∃ e', e' ∈ gp_sb e ∧ gp_rep P2 (gp_B (S.2.2 5)) (z.2.1 10) (z.2.1 11) (z.2.1 12) e' n := fun n n1 n2 => by
            obtain ⟨o, e, he, e', he', r⟩ := k1 n n1 n2
            exact ⟨o, e, he, e', he', gp_rep_b bM _ _ r⟩
          have y7' := y7
          have y7 : gp_ch (gp_B (S.2.2 5)) v (gp_M (S.2.2 5) (z.2.1 9)) := gp_ch_b bM y7
          have y8 : gp_rep P2 (gp_B (S.2.2 5)) (z.2.1 10) (z.2.1 11) (z.2.1 12) t.2.1 (Int32.toNatClampNeg v) := gp_rep_b bM _ _ y8
          have sm : gp_sm (S.1 10) (S.1 11) (S.1 12) (z.2.1 10) (z.2.1 11) (z.2.1 12) (gp_M (S.2.2 5) (S.1 9)) := fun m hm => ⟨(Z2.2 m (Or.inl hm)).1, (Z2.2 m (Or.inl hm)).2.1, (Z2.2 m (Or.inl hm)).2.2.1⟩
          have nw : ∀ r, r < R + 1 → (z.2.1 13 (Int32.toNatClampNeg (z.2.1 8 (8 * Int32.toNatClampNeg (S.2.2 5) + r)))).toInt = (r : Nat) := by
            intro r hr
            by_cases q5 : r = R
            · rw [y6, q5, gx_us]
              obtain ⟨w1, w2, -⟩ := gp_ch_cl y7'
              rw [(k1 _ w1 w2).1, G1]
            · have hr' : r < R := by omega
              rw [y6, gx_un _ _ _ (show 8 * Int32.toNatClampNeg (S.2.2 5) + r ≠ 8 * Int32.toNatClampNeg (S.2.2 5) + R by omega)]
              have q6 := (gp_ch_cl (G2 r hr').2.1).2.1
              rw [(Z2.2 _ (Or.inl q6)).2.2.2.1]
              exact GW r hr'
          refine ⟨⟨y1, y2, P2, ⟨?_, ?_, ?_, k2, k3⟩, ZL t rfl, ?_, nw⟩, Z3, ?_⟩
          · have bb := gx_ak ((S.1 6) (Int32.toNatClampNeg (S.2.2 5))) 1 1 (by decide)
            rw [y3, gx_us]
            omega
          · intro r hr
            by_cases q5 : r = R
            · have e1 : gp_ad f R (gp_pk tx ty a, t.2.1) r = (gp_pk tx ty a, t.2.1) := if_pos q5
              rw [e1, y4, y6, q5, gx_us, gx_us]
              exact ⟨h1, y7, y8⟩
            · have e1 : gp_ad f R (gp_pk tx ty a, t.2.1) r = f r := if_neg q5
              rw [e1, y4, y6, gx_un _ _ _ (show 8 * Int32.toNatClampNeg (S.2.2 5) + r ≠ 8 * Int32.toNatClampNeg (S.2.2 5) + R by omega), gx_un _ _ _ (show 8 * Int32.toNatClampNeg (S.2.2 5) + r ≠ 8 * Int32.toNatClampNeg (S.2.2 5) + R by omega)]
              have g := G2 r (by omega)
              exact ⟨g.1, gp_ch_w g.2.1 k4, gp_rep_pm ZP _ _ (gp_rep_tr sm _ _ (gp_ch_cl g.2.1).2.1 g.2.2)⟩
          · intro n n1 n2
            by_cases q5 : n < gp_M (S.2.2 5) (S.1 9)
            · obtain ⟨r, r1', r2, e', r3, r4⟩ := G3 n n1 q5
              refine ⟨r, by omega, ?_, e', ?_, gp_rep_pm ZP _ _ (gp_rep_tr sm _ _ q5 r4)⟩
              · rw [(Z2.2 n (Or.inl q5)).2.2.2.1]; exact r2
              · have e1 : gp_ad f R (gp_pk tx ty a, t.2.1) r = f r := if_neg (by omega)
                rw [e1]; exact r3
            · obtain ⟨o, e, he, e', r3, r4⟩ := k1 n (by omega) n2
              refine ⟨R, by omega, by rw [o]; exact G1, e', ?_, r4⟩
              have e1 : gp_ad f R (gp_pk tx ty a, t.2.1) R = (gp_pk tx ty a, t.2.1) := if_pos rfl
              rw [e1]
              rw [List.mem_singleton.mp he] at r3
              exact r3
          · intro r n hr n1 n2
            have own : ∀ n, gp_B (S.2.2 5) ≤ n → n < gp_M (S.2.2 5) (z.2.1 9) → (z.2.1 13 n).toInt ≤ R := by
              intro n n1 n2
              by_cases q5 : n < gp_M (S.2.2 5) (S.1 9)
              · obtain ⟨r', r1', r2, -⟩ := G3 n n1 q5
                rw [(Z2.2 n (Or.inl q5)).2.2.2.1, r2]
                omega
              · obtain ⟨o, -⟩ := k1 n (by omega) n2
                rw [o, G1]
                omega
            rw [y6] at n2
            by_cases q5 : r = R
            · rw [q5, gx_us] at n2
              rw [q5]
              exact own n n1 (Nat.lt_of_le_of_lt n2 (gp_ch_cl y7).2.1)
            · rw [gx_un _ _ _ (show 8 * Int32.toNatClampNeg (S.2.2 5) + r ≠ 8 * Int32.toNatClampNeg (S.2.2 5) + R by omega)] at n2
              have hr' : r < R := by omega
              have q6 : n < gp_M (S.2.2 5) (S.1 9) := Nat.lt_of_le_of_lt n2 (gp_ch_cl (G2 r hr').2.1).2.1
              rw [(Z2.2 n (Or.inl q6)).2.2.2.1]
              exact GO r n hr' n1 n2
          · rw [y3, y4, y6]
            exact ⟨fun n hn => gx_un _ _ _ hn, fun n hn => ⟨gx_un _ _ _ (by omega), gx_un _ _ _ (by omega)⟩⟩
      · show gp_stk Pg (gp_B (S.2.2 5)) (gp_M (S.2.2 5) (S.1 9)) (S.1 10) (S.1 11) (S.1 12) (upd (S.1 26) (Int32.toNatClampNeg 0) 59) (S.1 27) (upd (S.1 28) (Int32.toNatClampNeg 0) 0) (upd (S.1 29) (Int32.toNatClampNeg 0) 0) (S.1 30) (S.1 31) [(59, 0, [], [])] (Int32.toNatClampNeg 0) (Int32.toNatClampNeg 0) (Int32.toNatClampNeg 0)
        rw [c0]
        refine ⟨0, 0, ?_, ?_, ?_, rfl, rfl, Or.inl ⟨rfl, rfl, rfl, rfl⟩⟩
        · rw [gx_us]; exact gx_lit 59 (by decide)
        · rw [gx_us]; exact z0
        · rw [gx_us]; exact z0
      · exact ⟨fun n n1 n2 => absurd n2 (by have : gp_M (S.2.2 5) (S.1 9) ≤ n := n1; have hM : gp_M (S.2.2 5) (S.1 9) = 160 * Int32.toNatClampNeg (S.2.2 5) + Int32.toNatClampNeg ((S.1 9) (Int32.toNatClampNeg (S.2.2 5))) := rfl; show ¬ n < 160 * Int32.toNatClampNeg (S.2.2 5) + Int32.toNatClampNeg ((S.1 9) (Int32.toNatClampNeg (S.2.2 5))); omega), G4, G5, Nat.le_refl _, Nat.le_refl _⟩
      · show gp_bs (S.2.2 2).toInt ((S.1 9) (Int32.toNatClampNeg (S.2.2 5))).toInt (((S.2.2 19) + 1) + 1).toInt (0 : Int32).toInt (0 : Int32).toInt (0 : Int32).toInt (0 : Int32).toInt
        rw [z0, b3]
        exact ⟨hp, by omega, by omega, by omega, by omega, by omega, by omega, by omega, Or.inl rfl, by omega⟩
      · refine ⟨?_, ?_, ⟨⟨?_, Or.inl ⟨rfl, rfl⟩⟩, fun e he => (by cases he), fun e he => (by cases he), trivial⟩, ?_⟩
        · show 2 * nA + 2 * (0 + 0) ≤ 3 * (a + 2)
          omega
        · show 2 * nC + 3 * R + 1 + 1 ≤ a + 2
          omega
        · show 0 ≤ 6
          omega
        · show 1 ≤ 1
          omega
    · have q4 := gx_eqnr (k := 61) (gx_lit 61 (by decide)) q
      rw [← hres, (show gp_rl tx ty R f a nA nC = .inl (a + 1) from (if_neg c1).trans (if_neg (by omega)))]
      exact ⟨⟨(show (1 : Int32).toInt ≠ 0 by omega), b1⟩, gp_O_r _ _ _ _ _ _ _ _ _, gp_O2_r _ _ _ _⟩
  · refine bad r1 u1 (Or.inr (Or.inr ?_))
    rw [gp_fd_iff]
    rcases h37 with ⟨h, -⟩ | ⟨t1, t2, t3, -⟩
    · exact absurd h q
    · have cr := gx_cl r37 t1
      refine ⟨Int32.toNatClampNeg r37, by omega, ?_⟩
      rw [← (G2 (Int32.toNatClampNeg r37) (by omega)).1, t3 (8 * Int32.toNatClampNeg (S.2.2 5) + Int32.toNatClampNeg r37) (by omega), h1]
