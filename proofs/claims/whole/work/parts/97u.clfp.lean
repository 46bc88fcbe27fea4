/-! Rules, by their numbers: what can be empty is the least solution; the class finds it. -/
/-- the first rule with a name, or R -/
def gq_fx (f : Nat → Int × Lean.ParserDescr) (c : Int) : Nat → Nat
  | 0 => 0
  | R + 1 => if gq_fx f c R < R then gq_fx f c R else if (f R).1 = c then R else R + 1
theorem gq_ix_fx {f : Nat → Int × Lean.ParserDescr} {nm : Nat → Int32} {y : Int32} {c : Int} (hy : y.toInt = c) : ∀ R, (∀ r, r < R → (nm r).toInt = (f r).1) → gq_ix nm y R = gq_fx f c R := by
  intro R
  induction R with
  | zero => intro _; rfl
  | succ R ih =>
    intro h
    unfold gq_ix gq_fx
    rw [ih (fun r hr => h r (by omega))]
    by_cases q : gq_fx f c R < R
    · rw [if_pos q, if_pos q]
    · rw [if_neg q, if_neg q]
      by_cases w : nm R = y
      · rw [if_pos w, if_pos (by rw [← h R (by omega), w, hy])]
      · rw [if_neg w, if_neg (fun e => w (Int32.toInt_inj.mp (by rw [h R (by omega), e, hy])))]
/-- what can be empty: the least solution over the rules -/
def gq_lE (f : Nat → Int × Lean.ParserDescr) (R r : Nat) : Prop := ∀ E : Nat → Prop, (∀ s, s < R → gq_em (fun c => E (gq_fx f (c : Int) R)) (f s).2 → E s) → E r
theorem gq_lE_step {f : Nat → Int × Lean.ParserDescr} {R r : Nat} (hr : r < R) (h : gq_em (fun c => gq_lE f R (gq_fx f (c : Int) R)) (f r).2) : gq_lE f R r := by
  intro E hE
  refine hE r hr (gq_em_mono (fun c q => q E hE) _ h)
/-- a name inside a rule that no rule has -/
def gq_un (f : Nat → Int × Lean.ParserDescr) (R r : Nat) : Prop := ∃ c : Nat, gp_e0 3 c 0 ∈ gp_sb (f r).2 ∧ gq_fx f (c : Int) R = R
/-- a node that can be empty by its parts stands for what can -/
theorem gq_em_up {tx : Nat → Int} {ty : Nat} {kd lt fr to pt : Nat → Int32} {lw hg : Nat → Int64} {rb : Nat → Nat} {Y E : Nat → Prop} {d : Nat} {e : Lean.ParserDescr} (hY : ∀ d e, Y d → gq_R tx ty kd lt fr to pt lw hg d e → gq_em E e) (hn : ∀ c : Nat, (kd d).toInt = 1 → (lt d).toInt = c → Y (rb d) → E c) (hset : ∀ p, (kd p).toInt = 0 → ¬ Y p) (r : gq_R tx ty kd lt fr to pt lw hg d e) (h : gq_nE kd fr to pt rb Y d) : gq_em E e := by
  rw [gq_R] at r
  rcases r with ⟨r0, -⟩ | ⟨r0, c, r1, r2⟩ | ⟨lo, hi, f1, f2, r⟩
  · rcases h with h | h | h | h | h <;> omega
  · rw [r1]
    rcases h with h | h | h | h | h
    · exact Or.inr ⟨rfl, hn c r0 r2 h.2⟩
    all_goals omega
  · unfold gq_nE at h
    rw [f1, f2] at h
    rcases r with ⟨q, es, re, sg⟩ | ⟨q, a, n, re, n1, -, hie, rows⟩ | ⟨q, es, ne, re, sg⟩ | ⟨x, sg, ks⟩
    · rw [re, gq_em_4]
      rcases h with h | h | h | h | h
      · omega
      · intro x hx
        obtain ⟨i, i1, i2, i3, i4⟩ := gq_sg_mem es lo hi sg x hx
        exact hY _ _ (h.2 i (by omega) (by omega)) i4
      all_goals omega
    · exfalso
      rcases h with h | h | h | h | h
      · omega
      · obtain ⟨p1, p2, p3, -⟩ := rows 0 (by omega)
        rw [Nat.add_zero] at p3
        exact hset _ p3 (h.2 lo (by omega) (by omega))
      all_goals omega
    · rw [re, gq_em_5 E es ne]
      rcases h with h | h | h | h | h
      · omega
      · omega
      · obtain ⟨i, i1, i2, i3⟩ := h.2
        have fnd : ∀ (es : List Lean.ParserDescr) (lo hi : Nat), gq_sg (fun d' e' => ∃ _h : d' < d, gq_R tx ty kd lt fr to pt lw hg d' e') pt es lo hi → ∀ i, lo ≤ i → i < hi → ∃ x, x ∈ es ∧ gq_R tx ty kd lt fr to pt lw hg (Int32.toNatClampNeg (pt i)) x := by
          intro es
          induction es with
          | nil => intro lo hi h i a b; have h : hi = lo := h; omega
          | cons x es ih =>
            intro lo hi h i a b
            obtain ⟨k, k1, k2, ⟨k3, k5⟩, k4⟩ := h
            by_cases w : i = k
            · rw [w]; exact ⟨x, List.mem_cons_self .., k5⟩
            · obtain ⟨y, y1, y2⟩ := ih lo k k4 i a (by omega)
              exact ⟨y, List.mem_cons_of_mem _ y1, y2⟩
        obtain ⟨x, x1, x2⟩ := fnd es lo hi sg i (by omega) (by omega)
        exact ⟨x, x1, hY _ _ i3 x2⟩
      all_goals omega
    · obtain ⟨k, k1, kp, ⟨kr, kr2⟩, k4⟩ := sg
      have k4 : k = lo := k4
      rw [k4] at k1 kp kr kr2
      have cl : Int32.toNatClampNeg (fr d) = lo := gp_cl_n f1
      rw [cl] at h
      have one : ((kd d).toInt = 6 ∨ (kd d).toInt = 9) → gq_em E x := by
        intro w
        rcases h with h | h | h | h | h
        · omega
        · omega
        · omega
        · exact hY _ _ h.2 kr2
        · omega
      rcases ks with ⟨q, re⟩ | ⟨q, re⟩ | ⟨q, re⟩ | ⟨q, re⟩ | ⟨q, re⟩ | ⟨q, re⟩
      · rw [re]; exact fun w => absurd w (by decide)
      · rw [re]; exact fun w => absurd w (by decide)
      · rw [re]; exact Or.inl ⟨rfl, one (Or.inl q), fun w => absurd w (by decide)⟩
      · rw [re]; exact fun w => absurd w (by decide)
      · rw [re]; exact fun w => absurd w (by decide)
      · rw [re]; exact fun _ => one (Or.inr q)
/-- the class's tree, as it was read -/
def gq_Tr (tx : Nat → Int) (ty : Nat) (T : gm_S) (d : Nat) (e : Lean.ParserDescr) : Prop := gq_R tx ty (T.1 0) (T.1 1) (T.1 2) (T.1 3) (T.1 4) (T.2.1 7) (T.2.1 8) d e
/-- rules in the class's tree: names and nodes -/
def gq_RT (tx : Nat → Int) (ty : Nat) (T : gm_S) (n R : Nat) (f : Nat → Int × Lean.ParserDescr) : Prop := gq_T T n R ∧ gq_T0 T n ∧ (∀ r, r < R → gq_fn (T.1 10) r ≤ Int32.toNatClampNeg (T.1 10 r)) ∧ n = gq_fn (T.1 10) R ∧ (∀ r, r < R → (T.1 9 r).toInt = (f r).1 ∧ gq_Tr tx ty T (Int32.toNatClampNeg (T.1 10 r)) (f r).2) ∧ ∀ r d, r < R → gq_fn (T.1 10) r ≤ d → d ≤ Int32.toNatClampNeg (T.1 10 r) → ¬ (T.1 0 d).toInt = 0 → ∃ e', e' ∈ gp_sb (f r).2 ∧ gq_Tr tx ty T d e'
theorem gq_RT_of {tx : Nat → Int} {ty : Nat} {S : gq_St} {a n m R : Nat} {f : Nat → Int × Lean.ParserDescr} (hN : gq_N S a 0 n m) (hG : gq_G tx ty S n R f) (hn : n ≤ 75) : gq_RT tx ty S.2.2 n R f := by
  obtain ⟨t1, t2⟩ := gq_T_of hN hG hn
  obtain ⟨g1, g2, g3, g4⟩ := hG
  refine ⟨t1, t2, fun r hr => (g4 r hr).2.2.1, g3, fun r hr => ⟨(g4 r hr).1, (g4 r hr).2.2.2.2.1.1⟩, fun r d hr h1 h2 h3 => ?_⟩
  obtain ⟨e, he, e', he', q⟩ := (g4 r hr).2.2.2.2.2 d h1 (by omega) h3
  rw [List.mem_singleton.mp he] at he'
  exact ⟨e', he', q⟩
/-- a name's node and its rule -/
theorem gq_RT_nm {tx : Nat → Int} {ty : Nat} {T : gm_S} {n R : Nat} {f : Nat → Int × Lean.ParserDescr} (h : gq_RT tx ty T n R f) {d c : Nat} (hc : (T.1 1 d).toInt = (c : Nat)) : gq_ix (T.1 9) (T.1 1 d) R = gq_fx f (c : Int) R := gq_ix_fx hc R (fun r hr => (h.2.2.2.2.1 r hr).1)
/-- undefined, in the class's nodes and in the rules: the first is the same -/
theorem gq_un_of {tx : Nat → Int} {ty : Nat} {T : gm_S} {n R : Nat} {f : Nat → Int × Lean.ParserDescr} (h : gq_RT tx ty T n R f) : (∀ r, r < R → gq_in (T.1 10) (gq_uN T R) r → gq_un f R r) ∧ ∀ r, r < R → gq_un f R r → ∃ r', r' ≤ r ∧ gq_in (T.1 10) (gq_uN T R) r' := by
  have h' := h
  obtain ⟨hT, hT0, hfn, hn, hr, hcv⟩ := h'
  constructor
  · rintro r r1 ⟨d, d1, d2, d3, d4⟩
    obtain ⟨e', e1, e2⟩ := hcv r d r1 d1 d2 (by omega)
    unfold gq_Tr at e2
    rw [gq_R] at e2
    rcases e2 with ⟨q, -⟩ | ⟨-, c, q1, q2⟩ | ⟨lo, hi, -, -, q⟩
    · omega
    · rw [q1] at e1
      refine ⟨c, e1, ?_⟩
      rw [← gq_RT_nm h q2]
      exact d4
    · exfalso
      rcases q with ⟨q, -⟩ | ⟨q, -⟩ | ⟨q, -⟩ | ⟨x, -, q⟩
      · omega
      · omega
      · omega
      · rcases q with ⟨r, -⟩ | ⟨r, -⟩ | ⟨r, -⟩ | ⟨r, -⟩ | ⟨r, -⟩ | ⟨r, -⟩ <;> omega
  · rintro r r1 ⟨c, c1, c2⟩
    obtain ⟨d', d1, d2⟩ := gq_R_sub (Or.inl ⟨c, rfl⟩) (Int32.toNatClampNeg (T.1 10 r) + 1) _ _ (by omega) (hr r r1).2 c1
    have dn : d' < gq_fn (T.1 10) R := by
      have := (hT.2.2.2.2.1 r r1).2
      omega
    obtain ⟨r', q1, q2, q3⟩ := gq_fn_le hfn d' dn
    refine ⟨r', ?_, d', q2, q3, ?_⟩
    · rcases Nat.lt_or_ge r r' with w | w
      · have := gq_fn_mono hfn r' r w (by omega)
        omega
      · exact w
    · rcases d2 with ⟨d2, k1⟩ | ⟨x, d2, -⟩
      · rw [gq_R] at d2
        rcases d2 with ⟨k0, -⟩ | ⟨k1, c', q, q4⟩ | ⟨lo, hi, -, -, q⟩
        · omega
        · injection q with q _
          injection q with q _
          injection q with _ q
          rw [← q] at q4
          exact ⟨k1, by rw [gq_RT_nm h q4]; exact c2⟩
        · exfalso
          rcases q with ⟨q, -⟩ | ⟨q, -⟩ | ⟨q, -⟩ | ⟨x, -, q⟩
          · omega
          · omega
          · omega
          · rcases q with ⟨-, q⟩ | ⟨-, q⟩ | ⟨-, q⟩ | ⟨-, q⟩ | ⟨-, q⟩ | ⟨-, q⟩ <;> cases q
      · cases d2
