/-! The class's reader against the machine: rules. -/
theorem gq_mr_go {tx : Nat → Int} {ty : Nat} : ∀ (k N : Nat) (s t : gp_Sg), gq_go tx ty k s t → gp_mr tx ty (k + N) s = gp_mr tx ty N t := by
  intro k
  induction k with
  | zero => intro N s t h; have h : s = t := h; rw [h, Nat.zero_add]
  | succ k ih =>
    intro N s t h
    obtain ⟨u, h1, h2⟩ := h
    rw [show k + 1 + N = (k + N) + 1 by omega, gp_mr, h1]
    exact ih N u t h2
theorem gq_go_kp {tx : Nat → Int} {ty R : Nat} : ∀ (k : Nat) (s t : gp_Sg), gq_go tx ty k s t → gp_kp R s → s.1 + k ≤ t.1 := by
  intro k
  induction k with
  | zero => intro s t h _; have h : s = t := h; rw [h]; exact Nat.le_refl _
  | succ k ih =>
    intro s t h hk
    obtain ⟨u, h1, h2⟩ := h
    obtain ⟨a, b⟩ := (gp_ms_kp tx ty R s hk).1 u h1
    have := ih u t h2 a
    omega
theorem gq_mr_bad {tx : Nat → Int} {ty R : Nat} {s : gp_Sg} {j : Nat} (h : gq_bad tx ty s j) (hk : gp_kp R s) : gp_mr tx ty (ty + 3) s = .inl j := by
  obtain ⟨t, ⟨k, h1⟩, h2, h3⟩ := h
  have := gq_go_kp k s t h1 hk
  have e := gq_mr_go k (ty + 2 - k + 1) s t h1
  rw [show k + (ty + 2 - k + 1) = ty + 3 by omega] at e
  rw [e, gp_mr, h2]
theorem gq_mr_ok {tx : Nat → Int} {ty R : Nat} {s t : gp_Sg} {w : Nat × Lean.ParserDescr × Nat × Nat} (h : gq_to tx ty s t) (hk : gp_kp R s) (h2 : gp_ms tx ty t = .inr (.inr w)) (h3 : t.1 ≤ ty) : gp_mr tx ty (ty + 3) s = .inr w := by
  obtain ⟨k, h1⟩ := h
  have := gq_go_kp k s t h1 hk
  have e := gq_mr_go k (ty + 2 - k + 1) s t h1
  rw [show k + (ty + 2 - k + 1) = ty + 3 by omega] at e
  rw [e, gp_mr, h2]
/-- ruleOf: the first rule of a name -/
def gq_ruQ (T : gm_S) (x : Int32) (R : Nat) (z : Int32 × gm_S) : Prop := (z.1 = -1 ∧ ∀ r, r < R → ¬ T.1 9 r = x) ∨ (∃ r, r < R ∧ z.1.toInt = (r : Nat) ∧ T.1 9 r = x ∧ ∀ r', r' < r → ¬ T.1 9 r' = x)
theorem gq_ruleOf2 (x : Int32) (T : gm_S) {R : Nat} (hR : (T.2.2 13).toInt = R) (h8 : R ≤ 8) : ∀ (f k : Nat) (v : Int32) (U : gm_S), v.toInt = k → k ≤ R → R < f + k → (∀ r, r < k → ¬ T.1 9 r = x) → gq_ruQ T x R (gm_f_Tree_ruleOf_2 x T f v U) := by
  intro f
  induction f with
  | zero => intro k v U _ _ h; exact absurd h (by omega)
  | succ f ih =>
    intro k v U hv h1 h2 h3
    rw [gm_f_Tree_ruleOf_2]
    have cv : Int32.toNatClampNeg v = k := gp_cl_n hv
    have av := gx_ak v 1 1 (by decide)
    by_cases q : k = R
    · have l : T.2.2 13 ≤ v := by rw [Int32.le_iff_toInt_le]; omega
      rw [if_pos l]
      exact Or.inl ⟨rfl, by rw [← q]; exact h3⟩
    · have l : ¬ T.2.2 13 ≤ v := by rw [Int32.le_iff_toInt_le]; omega
      rw [if_neg l, cv]
      by_cases w : T.1 9 k = x
      · rw [if_pos w]
        exact Or.inr ⟨k, by omega, hv, w, h3⟩
      · rw [if_neg w]
        refine ih (k + 1) (v + 1) T (by omega) (by omega) (by omega) (fun r hr => ?_)
        by_cases e : r = k
        · rw [e]; exact w
        · exact h3 r (by omega)
theorem gq_ruleOf (x : Int32) (T0 T : gm_S) {R : Nat} (h9 : T.1 9 = T0.1 9) (hR : (T.2.2 13).toInt = R) (h8 : R ≤ 8) : gq_ruQ T0 x R (gm_f_Tree_ruleOf x T) := by
  unfold gm_f_Tree_ruleOf gq_ruQ
  rw [← h9]
  exact gq_ruleOf2 x T hR h8 9 0 0 T (by decide) (by omega) (by omega) (fun r hr => absurd hr (by omega))
/-- the first node of a rule -/
def gq_fn (rt : Nat → Int32) (r : Nat) : Nat := if r = 0 then 0 else Int32.toNatClampNeg (rt (r - 1)) + 1
/-- the rules of the class's tree -/
def gq_G (tx : Nat → Int) (ty : Nat) (S : gq_St) (n R : Nat) (f : Nat → Int × Lean.ParserDescr) : Prop := (S.2.2.2.2 13).toInt = R ∧ R ≤ 8 ∧ n = gq_fn (S.2.2.1 10) R ∧ ∀ r, r < R → (S.2.2.1 9 r).toInt = (f r).1 ∧ 0 ≤ (S.2.2.1 10 r).toInt ∧ gq_fn (S.2.2.1 10) r ≤ Int32.toNatClampNeg (S.2.2.1 10 r) ∧ Int32.toNatClampNeg (S.2.2.1 10 r) < n ∧ gq_Rk tx ty 35 S (Int32.toNatClampNeg (S.2.2.1 10 r)) (f r).2 ∧ gq_cv tx ty S (gq_fn (S.2.2.1 10) r) (Int32.toNatClampNeg (S.2.2.1 10 r) + 1) [(f r).2]
theorem gq_exprw (fx : Int32 → gq_St → Int32 × gq_St) (x : Int32) (S : gq_St) {j : Nat} (h : gq_W S j) : gq_W (gm_f_Reader_readExpression fx x S).2 j := by
  obtain ⟨Q, hQ⟩ : ∃ Q : Int32 × gq_St → Prop, Q = fun z => gq_W z.2 j := ⟨_, rfl⟩
  show (fun z : Int32 × gq_St => gq_W z.2 j) (gm_f_Reader_readExpression fx x S)
  rw [← hQ]
  unfold gm_f_Reader_readExpression
  refine gq_cb (Q := Q) (fun z => gq_W z.2 j) ?_ (fun r u hu => ?_)
  · unfold gm_f_Reader_readSequence
    exact gq_seq7w fx x S 199 0 _ h
  · rw [hQ]
    exact gq_expr12w fx x S u 199 0 _ hu
def gq_arQ (T : gm_S) (x y : Int32) (R : Nat) (z : Int32 × gm_S) : Prop := z.2.1 9 = upd (T.1 9) R x ∧ z.2.1 10 = upd (T.1 10) R y ∧ (z.2.2.2 13).toInt = ((R + 1 : Nat) : Int)
theorem gq_addRule (x y : Int32) (T0 T : gm_S) {R n : Nat} (h9 : T.1 9 = T0.1 9) (h10 : T.1 10 = T0.1 10) (hR : (T.2.2 13).toInt = R) (h8 : R < 8) (hn : (T.2.2 11).toInt = n) (hy : 0 ≤ y.toInt) (hy2 : y.toInt < n) : gq_arQ T0 x y R (gm_f_Tree_addRule x y T) := by
  have z0 : (0 : Int32).toInt = 0 := by decide
  have cR : Int32.toNatClampNeg (T.2.2 13) = R := gp_cl_n hR
  have aR := gx_ak (T.2.2 13) 1 1 (by decide)
  have l1 : ¬ (8 : Int32) ≤ T.2.2 13 := by rw [Int32.le_iff_toInt_le, gx_lit 8 (by decide)]; omega
  have l2 : ¬ y < 0 := by rw [Int32.lt_iff_toInt_lt]; omega
  have l3 : ¬ T.2.2 11 ≤ y := by rw [Int32.le_iff_toInt_le]; omega
  unfold gm_f_Tree_addRule gq_arQ
  rw [if_neg l1, if_neg l2, if_neg l3, cR, ← h9, ← h10]
  refine ⟨rfl, rfl, ?_⟩
  show (T.2.2 13 + 1).toInt = _
  omega
def gq_rlQ (tx : Nat → Int) (ty R : Nat) (f : Nat → Int × Lean.ParserDescr) (res : Nat ⊕ (Nat × (Int × Lean.ParserDescr) × Nat × Nat)) (z : Int32 × gq_St) : Prop := match res with
  | .inl j => gq_W z.2 j
  | .inr t => ∃ n' m', gq_N z.2 t.1 0 n' m' ∧ gq_G tx ty z.2 n' (R + 1) (gp_ad f R t.2.1) ∧ 2 * n' ≤ 3 * t.1 ∧ t.1 ≤ ty
theorem gq_rule {tx : Nat → Int} {ty : Nat} (S : gq_St) (ht : gp_tx (S.2.1.2.2 1) (S.2.1.1 0) tx ty) {a n m R nA nC : Nat} {f : Nat → Int × Lean.ParserDescr} (hN : gq_N S a 0 n m) (hG : gq_G tx ty S n R f) (hR : R < 8) (hc : 2 * n ≤ 3 * a) (hty : a ≤ ty) (hA : 2 * nA ≤ 3 * a) (hC : 2 * nC + 3 * R ≤ a) : gq_rlQ tx ty R f (gp_rl tx ty R f a nA nC) (gm_f_Reader_readRule S) := by
  have ht' := ht
  obtain ⟨t1, t2, t3⟩ := ht'
  have hN' := hN
  obtain ⟨w0, pl, ho, h11, h12, hmo, hto⟩ := hN'
  have hG' := hG
  obtain ⟨g1, g2, g3, g4⟩ := hG'
  have l61 : (61 : Int32).toInt = 61 := gx_lit 61 (by decide)
  have l59 : (59 : Int32).toInt = 59 := gx_lit 59 (by decide)
  obtain ⟨res, hres⟩ : ∃ res, res = gp_rl tx ty R f a nA nC := ⟨_, rfl⟩
  rw [← hres]
  obtain ⟨Q, hQ⟩ : ∃ Q, Q = gq_rlQ tx ty R f res := ⟨_, rfl⟩
  rw [← hQ]
  have bad : ∀ (j : Nat) (z : gq_St), res = .inl j → gq_W z j → Q (0, z) := by
    intro j z e hz
    rw [hQ, e]
    exact hz
  unfold gm_f_Reader_readRule
  refine gq_cb (Q := Q) (gq_atQ tx ty a) (gq_at' _ _ ht pl) (fun r8 u8 h8 => ?_)
  have h8 : r8.toInt = gq_pk tx ty a := h8
  refine gq_cb (Q := Q) (gq_nmQ r8) (gq_isName r8) (fun r13 u13 h13 => ?_)
  have h13 : (r13 = 0 ∧ ¬ gq_inm r8.toInt) ∨ (r13 = 1 ∧ gq_inm r8.toInt) := h13
  rw [h8] at h13
  rcases h13 with ⟨e13, nm⟩ | ⟨e13, nm⟩
  · rw [e13, if_pos rfl]
    refine bad a _ ?_ ⟨rfl, pl⟩
    rw [hres]
    exact if_pos (Or.inl (fun w => nm (gq_inm_pk.mpr w)))
  rw [e13, if_neg (show ¬ (1 : Int32) = 0 by decide)]
  have lt := gq_pk_lt (tx := tx) (ty := ty) (i := a) (by have := nm.1; omega)
  refine gq_cb (Q := Q) (gq_ruQ S.2.2 r8 R) (gq_ruleOf r8 _ _ rfl g1 g2) (fun r24 u24 h24 => ?_)
  rcases h24 with ⟨e24, no⟩ | ⟨r, r1, r2, r3, -⟩
  · have e24 : r24 = -1 := e24
    rw [e24, if_pos rfl]
    have cnd : ¬ (¬ (65 ≤ gp_pk tx ty a ∧ gp_pk tx ty a ≤ 90) ∨ R = 8 ∨ gp_fd f (gp_pk tx ty a) R = true) := by
      rintro (w | w | w)
      · exact w (gq_inm_pk.mp nm)
      · omega
      · obtain ⟨r, w1, w2⟩ := (gp_fd_iff f _ R).mp w
        refine no r w1 (Int32.toInt_inj.mp ?_)
        have := (g4 r w1).1
        omega
    have ap := gx_ak (S.1.2.2 4) 1 1 (by decide)
    refine gq_cb (Q := Q) (gq_neQ tx ty 61 (a + 1)) (gq_need' 61 _ ht w0 (show (S.1.2.2 4 + 1).toInt = _ by omega) (by omega)) (fun r50 u50 h50 => ?_)
    rcases h50 with ⟨b1, b2, b3⟩ | ⟨b1, b2, b3⟩
    · rw [l61] at b1
      have lt2 := gq_pk_lt (tx := tx) (ty := ty) (i := a + 1) (by omega)
      have kp : gp_kp R (a + 2, 0, [(59, 0, [], [])], nA, nC) := by
        refine ⟨?_, ?_, ⟨⟨?_, Or.inl ⟨rfl, rfl⟩⟩, fun e he => (by cases he), fun e he => (by cases he), trivial⟩, ?_⟩
        · show 2 * nA + 2 * (0 + 0) ≤ 3 * (a + 2)
          omega
        · show 2 * nC + 3 * R + 1 + 1 ≤ a + 2
          omega
        · show 0 ≤ 6
          omega
        · show 1 ≤ 1
          omega
      have eres : res = (match gp_mr tx ty (ty + 3) (a + 2, 0, [(59, 0, [], [])], nA, nC) with
        | .inl j => .inl j
        | .inr t => .inr (t.1, (gp_pk tx ty a, t.2.1), t.2.2.1, t.2.2.2)) := by
        rw [hres]
        unfold gp_rl
        rw [if_neg cnd, if_pos ((gq_pk_eq (tx := tx) (ty := ty) (i := a + 1) 61 (by decide)).mp b1)]
        rfl
      refine gq_cb (Q := Q) (gq_exQ tx ty 0 S (a + 2) 0 n m) (gq_ring tx ty 7 0 rfl (by decide) 0 _ _ (a + 2) 0 n m ⟨fun _ _ => ⟨rfl, rfl, rfl, rfl, rfl, rfl, rfl, rfl⟩, fun _ _ => rfl, fun _ _ => rfl, rfl, rfl, rfl, rfl⟩ (by decide) ht ⟨b3, b2, ho, h11, h12, hmo, hto⟩ (by omega) (by omega) (by omega)) (fun r55 u55 h55 => ?_)
      rcases h55 59 0 [] nA nC rfl with ⟨j, j1, j2⟩ | ⟨is, as, a2, nA2, nC2, j1, j2, j3, j4⟩
      · have er : res = .inl j := by rw [eres, gq_mr_bad j1 kp]
        refine gq_cb (Q := Q) (gq_nwQ u55) (gq_need_w' 59 _ _ j2.1 rfl) (fun r61 u61 h61 => ?_)
        have h61 : u61.1.2.2 4 = u55.1.2.2 4 ∧ u61.1.2.2 5 = 1 := h61
        rw [if_neg (by rw [h61.2]; decide)]
        exact bad j _ er ⟨h61.2, by show (u61.1.2.2 4).toInt = j; rw [h61.1]; exact j2.2⟩
      · have j4 : gq_P tx ty 35 S (a + 2) 0 n m 4 (gp_jn 5 (gp_jn 4 is :: as)) a2 u55 := j4
        obtain ⟨n', m', q1, q2, q3, q4, q5, q6, q7, q8, q9, q10⟩ := j4
        have mc := gq_ms_cl (b := 59) (p := 0) (is := is) (as := as) (fs := []) (nA := nA2) (nC := nC2) j2 j3
        rw [show gp_cg 59 = 59 from (if_neg (by decide)).trans (if_neg (by decide))] at mc
        refine gq_cb (Q := Q) (gq_neQ tx ty 59 a2) (gq_need' 59 _ ht q1.1 q1.2.1 (by omega)) (fun r61 u61 h61 => ?_)
        rcases h61 with ⟨i1, i2, i3⟩ | ⟨i1, i2, i3⟩
        · rw [l59] at i1
          have lt3 := gq_pk_lt (tx := tx) (ty := ty) (i := a2) (by omega)
          rw [if_pos ((gq_pk_eq (tx := tx) (ty := ty) (i := a2) 59 (by decide)).mp i1)] at mc
          have mc' : gp_ms tx ty (a2, 0, [(59, 0, is, as)], nA2, nC2) = .inr (.inr (a2 + 1, gp_jn 5 (gp_jn 4 is :: as), nA2 + (is.length - 1), nC2)) := mc
          have er : res = .inr (a2 + 1, (gp_pk tx ty a, gp_jn 5 (gp_jn 4 is :: as)), nA2 + (is.length - 1), nC2) := by rw [eres, gq_mr_ok j1 kp mc' q6]
          have i3 : u61.1.2.2 5 = 0 := i3
          have i2 : (u61.1.2.2 4).toInt = ((a2 + 1 : Nat) : Int) := i2
          rw [if_pos i3]
          have s1 := gx_sk (u55.2.2.2.2 11) 1 1 (by decide)
          have u11 : (u55.2.2.2.2 11).toInt = n' := q1.2.2.2.1
          have y1 : (u55.2.2.2.2 11 - 1).toInt = ((n' - 1 : Nat) : Int) := by omega
          have z0 : (0 : Int32).toInt = 0 := by decide
          have cR : Int32.toNatClampNeg (S.2.2.2.2 13) = R := gp_cl_n g1
          have aR := gx_ak (S.2.2.2.2 13) 1 1 (by decide)
          refine gq_cb (Q := Q) (gq_arQ S.2.2 r8 (u55.2.2.2.2 11 - 1) R) (gq_addRule r8 (u55.2.2.2.2 11 - 1) _ _ rfl rfl g1 hR u11 (by omega) (by omega)) (fun r85 u85 h85 => ?_)
          obtain ⟨k1, k2, k3⟩ := h85
          have k1 : u85.1 9 = upd (S.2.2.1 9) R r8 := k1
          have k2 : u85.1 10 = upd (S.2.2.1 10) R (u55.2.2.2.2 11 - 1) := k2
          rw [hQ, er]
          have cn : Int32.toNatClampNeg (u55.2.2.2.2 11 - 1) = n' - 1 := gp_cl_n y1
          have lo : ∀ r, r < R → u85.1 10 r = S.2.2.1 10 r := fun r hr => by rw [k2, gx_un _ _ _ (by omega)]
          have fn : ∀ r, r ≤ R → gq_fn (u85.1 10) r = gq_fn (S.2.2.1 10) r := fun r hr => by
            unfold gq_fn
            by_cases e : r = 0
            · rw [if_pos e, if_pos e]
            · rw [if_neg e, if_neg e, lo (r - 1) (by omega)]
          have top : u85.1 10 R = u55.2.2.2.2 11 - 1 := by rw [k2, gx_us]
          have E : gq_E u55 ((va_up S.1.1 2 (u55.1.1 2), S.1.2.1, va_up (va_up (va_up S.1.2.2 4 (u61.1.2.2 4)) 5 (u55.1.2.2 5)) 3 (u55.1.2.2 3)), S.2.1, ((va_up (va_up (va_up (va_up (va_up (va_up (va_up (va_up (va_up S.2.2.1 0 (u55.2.2.1 0)) 1 (u55.2.2.1 1)) 2 (u55.2.2.1 2)) 3 (u55.2.2.1 3)) 4 (u55.2.2.1 4)) 5 (u55.2.2.1 5)) 6 (u55.2.2.1 6)) 9 (u85.1 9)) 10 (u85.1 10)), (va_up (va_up S.2.2.2.1 7 (u55.2.2.2.1 7)) 8 (u55.2.2.2.1 8)), (va_up (va_up (va_up S.2.2.2.2 11 (u55.2.2.2.2 11)) 12 (u55.2.2.2.2 12)) 13 (u85.2.2 13)))) := ⟨rfl, rfl, rfl, rfl, rfl, rfl, rfl, rfl, rfl, rfl, rfl, rfl, rfl, rfl⟩
          refine ⟨n', m', ⟨i3, i2, z0, u11, q1.2.2.2.2.1, by have := q1.2.2.2.2.2.1; omega, q1.2.2.2.2.2.2⟩, ⟨k3, by omega, ?_, fun r hr => ?_⟩, by omega, by omega⟩
          · show n' = gq_fn (u85.1 10) (R + 1)
            unfold gq_fn
            rw [if_neg (by omega), show R + 1 - 1 = R by omega, top, cn]
            omega
          · show (u85.1 9 r).toInt = (gp_ad f R (gp_pk tx ty a, gp_jn 5 (gp_jn 4 is :: as)) r).1 ∧ 0 ≤ (u85.1 10 r).toInt ∧ gq_fn (u85.1 10) r ≤ Int32.toNatClampNeg (u85.1 10 r) ∧ Int32.toNatClampNeg (u85.1 10 r) < n' ∧ gq_Rk tx ty 35 u55 (Int32.toNatClampNeg (u85.1 10 r)) (gp_ad f R (gp_pk tx ty a, gp_jn 5 (gp_jn 4 is :: as)) r).2 ∧ gq_cv tx ty u55 (gq_fn (u85.1 10) r) (Int32.toNatClampNeg (u85.1 10 r) + 1) [(gp_ad f R (gp_pk tx ty a, gp_jn 5 (gp_jn 4 is :: as)) r).2]
            by_cases e : r = R
            · have ad : gp_ad f R (gp_pk tx ty a, gp_jn 5 (gp_jn 4 is :: as)) r = (gp_pk tx ty a, gp_jn 5 (gp_jn 4 is :: as)) := if_pos e
              rw [ad, fn r (by omega), e, top, cn, ← g3, k1, gx_us]
              refine ⟨by rw [h8, lt.2.1, lt.2.2], by omega, by omega, by omega, q9, ?_⟩
              rw [show n' - 1 + 1 = n' by omega]
              exact q10
            · have ad : gp_ad f R (gp_pk tx ty a, gp_jn 5 (gp_jn 4 is :: as)) r = f r := if_neg e
              obtain ⟨o1, o2, o3, o4, o5, o6⟩ := g4 r (by omega)
              rw [ad, fn r (by omega), lo r (by omega), k1, gx_un _ _ _ e]
              exact ⟨o1, o2, o3, by omega, gq_Rk_X hN q2 o4 o5, gq_cv_X hN q2 (by omega) o6⟩
        · rw [l59] at i1
          rw [if_neg (fun w => i1 ((gq_pk_eq (tx := tx) (ty := ty) (i := a2) 59 (by decide)).mpr w))] at mc
          have er : res = .inl a2 := by rw [eres, gq_mr_bad (gq_to_b j1 (gq_bad_1 mc q6)) kp]
          have i3 : u61.1.2.2 5 = 1 := i3
          rw [if_neg (by rw [i3]; decide)]
          exact bad a2 _ er ⟨i3, i2⟩
    · rw [l61] at b1
      have er : res = .inl (a + 1) := by
        rw [hres]
        unfold gp_rl
        rw [if_neg cnd, if_neg (fun w => b1 ((gq_pk_eq (tx := tx) (ty := ty) (i := a + 1) 61 (by decide)).mpr w))]
      refine gq_cb (Q := Q) (fun z => gq_W z.2 (a + 1)) ?_ (fun r55 u55 h55 => ?_)
      · exact gq_exprw (gm_g_Reader_readExpression 6) 0 _ ⟨b3, b2⟩
      have h55 : gq_W u55 (a + 1) := h55
      refine gq_cb (Q := Q) (gq_nwQ u55) (gq_need_w' 59 _ _ h55.1 rfl) (fun r61 u61 h61 => ?_)
      have h61 : u61.1.2.2 4 = u55.1.2.2 4 ∧ u61.1.2.2 5 = 1 := h61
      rw [if_neg (by rw [h61.2]; decide)]
      exact bad (a + 1) _ er ⟨h61.2, by show (u61.1.2.2 4).toInt = _; rw [h61.1]; exact h55.2⟩
  · have r2 : r24.toInt = (r : Nat) := r2
    have n24 : ¬ r24 = -1 := by
      intro e
      rw [e] at r2
      have n1 : (-1 : Int32).toInt = -1 := by decide
      omega
    rw [if_neg n24]
    refine bad a _ ?_ ⟨rfl, pl⟩
    rw [hres]
    refine if_pos (Or.inr (Or.inr ((gp_fd_iff f _ R).mpr ⟨r, r1, ?_⟩)))
    have := (g4 r r1).1
    have e3 := congrArg Int32.toInt r3
    omega
