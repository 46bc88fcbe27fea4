/-! The class: what can be empty is the least solution over the rules; so is what begins. -/
/-- what names can be, empty -/
abbrev gq_EL (f : Nat → Int × Lean.ParserDescr) (R : Nat) (c : Nat) : Prop := gq_lE f R (gq_fx f (c : Int) R)
theorem gq_emC {tx : Nat → Int} {ty : Nat} {T : gm_S} {n R : Nat} {f : Nat → Int × Lean.ParserDescr} (h : gq_RT tx ty T n R f) (hk : gq_kn T n R) {em : Nat → Prop} (rest : ∀ d, d < n → (em d ↔ gq_nE (T.1 0) (T.1 2) (T.1 3) (T.1 4) (gq_rb T R) em d)) (least : ∀ Y : Nat → Prop, (∀ d, d < n → gq_nE (T.1 0) (T.1 2) (T.1 3) (T.1 4) (gq_rb T R) Y d → Y d) → ∀ d, d < n → em d → Y d) : (∀ r, r < R → (em (Int32.toNatClampNeg (T.1 10 r)) ↔ gq_lE f R r)) ∧ ∀ d e, d < n → gq_Tr tx ty T d e → (em d ↔ gq_em (gq_EL f R) e) := by
  have h' := h
  obtain ⟨hT, hT0, hfn, hn, hr, hcv⟩ := h'
  have rtn := hT.2.2.2.2.1
  have rbe : ∀ (d c : Nat), (T.1 1 d).toInt = (c : Nat) → gq_rb T R d = Int32.toNatClampNeg (T.1 10 (gq_fx f (c : Int) R)) := fun d c hc => by
    unfold gq_rb
    rw [gq_RT_nm h hc]
  have A := gq_em_nd (tx := tx) (ty := ty) (lt := T.1 1) (lw := T.2.1 7) (hg := T.2.1 8) (E := fun c => em (Int32.toNatClampNeg (T.1 10 (gq_fx f (c : Int) R)))) rest (fun d c _ _ hc => by rw [rbe d c hc])
  have B : ∀ r, r < R → (em (Int32.toNatClampNeg (T.1 10 r)) ↔ gq_lE f R r) := by
    intro r hr1
    constructor
    · intro q E hE
      have Y := least (fun d => ¬ (T.1 0 d).toInt = 0 ∧ ∀ e, gq_Tr tx ty T d e → gq_em (fun c => E (gq_fx f (c : Int) R)) e) (fun d hd w => ?_) _ (rtn r hr1).2 q
      · exact hE r hr1 (Y.2 _ (hr r hr1).2)
      · refine ⟨fun z => ?_, fun e he => ?_⟩
        · rcases w with w | w | w | w | w <;> omega
        · refine gq_em_up (Y := fun d => ¬ (T.1 0 d).toInt = 0 ∧ ∀ e, gq_Tr tx ty T d e → gq_em (fun c => E (gq_fx f (c : Int) R)) e) (fun d e y q => y.2 e q) (fun c k1 kc y => ?_) (fun p p0 y => y.1 p0) he w
          have lt := hk d hd k1
          rw [gq_RT_nm h kc] at lt
          have y : ¬ (T.1 0 (gq_rb T R d)).toInt = 0 ∧ ∀ e, gq_Tr tx ty T (gq_rb T R d) e → gq_em (fun c => E (gq_fx f (c : Int) R)) e := y
          rw [rbe d c kc] at y
          exact hE _ lt (y.2 _ (hr _ lt).2)
    · intro q
      refine q (fun s => em (Int32.toNatClampNeg (T.1 10 s))) (fun s hs w => ?_)
      exact (A _ _ _ (Nat.lt_succ_self _) (rtn s hs).2 (hr s hs).2).mpr w
  refine ⟨B, fun d e hd he => ?_⟩
  refine gq_em_nd (tx := tx) (ty := ty) (lt := T.1 1) (lw := T.2.1 7) (hg := T.2.1 8) (E := gq_EL f R) rest (fun d c hd k1 hc => ?_) (d + 1) d e (Nat.lt_succ_self _) hd he
  have lt := hk d hd k1
  rw [gq_RT_nm h hc] at lt
  rw [rbe d c hc]
  exact B _ lt
/-- a node that begins so by its parts stands for what does -/
theorem gq_fb_up {tx : Nat → Int} {ty : Nat} {kd lt fr to pt : Nat → Int32} {lw hg : Nat → Int64} {rb : Nat → Nat} {em E base Y X : Nat → Prop} {lf : Lean.ParserDescr → Prop} {sp : Int → Prop} {sx : Nat → Prop} {N d : Nat} {e : Lean.ParserDescr} (hd : d < N) (hY : ∀ d e, Y d → gq_R tx ty kd lt fr to pt lw hg d e → gq_fb E lf sx X e) (hem : ∀ d e, d < N → gq_R tx ty kd lt fr to pt lw hg d e → (em d ↔ gq_em E e)) (hes : ∀ d, d < N → (kd d).toInt = 0 → ¬ em d) (hbase2 : 2 ≤ (kd d).toInt → ¬ base d) (hset : (kd d).toInt = 0 → base d → lf e) (hname : ∀ c : Nat, (kd d).toInt = 1 → (lt d).toInt = c → (base d → lf (gp_e0 3 c 0)) ∧ (Y (rb d) → X c)) (hrow : ∀ p a n, p < N → (kd p).toInt = 0 → (∀ c : Int, 32 ≤ c → c ≤ 126 → (gp_ih lw hg p c ↔ c = tx a)) → a < ty → Y p → lf (gp_e0 1 a n))
    (hsp : (sx 6 → sp 4) ∧ (sx 7 → sp 5) ∧ (sx 8 → sp 7) ∧ (sx 9 → sp 8) ∧ (sx 10 → sp 9)) (r : gq_R tx ty kd lt fr to pt lw hg d e) (h : gq_nB kd fr to pt rb em base sp Y d) : gq_fb E lf sx X e := by
  obtain ⟨s4, s5, s7, s8, s9⟩ := hsp
  rw [gq_R] at r
  rcases r with ⟨r0, a, b, r1, -⟩ | ⟨r0, c, r1, r2⟩ | ⟨lo, hi, f1, f2, r⟩
  · rcases h with h | h | h
    · have := hset r0 h
      rw [r1] at this ⊢
      exact Or.inl this
    · omega
    · omega
  · rw [r1]
    obtain ⟨n1, n2⟩ := hname c r0 r2
    rcases h with h | h | h
    · exact Or.inl (n1 h)
    · exact Or.inr ⟨rfl, n2 h.2⟩
    · omega
  · have k2 : 2 ≤ (kd d).toInt := by
      rcases r with ⟨r, -⟩ | ⟨r, -⟩ | ⟨r, -⟩ | ⟨x, -, r⟩
      · omega
      · omega
      · omega
      · rcases r with ⟨r, -⟩ | ⟨r, -⟩ | ⟨r, -⟩ | ⟨r, -⟩ | ⟨r, -⟩ | ⟨r, -⟩ <;> omega
    unfold gq_nB at h
    rw [f1, f2] at h
    rcases h with h | h | ⟨-, hs, i, i1, i2, i3, i4⟩
    · exact absurd h (hbase2 k2)
    · omega
    have i1 : lo ≤ i := by omega
    have i2 : i < hi := by omega
    rcases r with ⟨q, es, re, sg⟩ | ⟨q, a, n, re, n1, an, hie, rows⟩ | ⟨q, es, ne, re, sg⟩ | ⟨x, sg, ks⟩
    · rw [re]
      have i4 : ∀ j : Nat, lo ≤ j → j < i → em (Int32.toNatClampNeg (pt j)) := fun j j1 j2 => i4 q j (by omega) j2
      have main : ∀ (r : List Lean.ParserDescr) (k : Nat) (acc : Lean.ParserDescr), k ≤ hi → gq_sg (fun d' e' => ∃ _h : d' < d, gq_R tx ty kd lt fr to pt lw hg d' e') pt r lo k → (k ≤ i → gq_fb E lf sx X acc) → gq_fb E lf sx X (r.foldl (fun acc y => gp_e2 4 y acc) acc) ∨ False := by
        intro r
        induction r with
        | nil =>
          intro k acc _ h1 h2
          have h1 : k = lo := h1
          exact Or.inl (h2 (by omega))
        | cons y r ih =>
          intro k acc hk h1 h2
          obtain ⟨j, j1, j2, ⟨j3, j5⟩, j4⟩ := h1
          rw [List.foldl_cons]
          refine ih j _ (by omega) j4 (fun hj => ?_)
          by_cases w : i = j
          · rw [w] at i3
            exact Or.inl (hY _ _ i3 j5)
          · have lj := gq_sg_le r lo j j4
            exact Or.inr ⟨fun _ => (hem _ _ (by omega) j5).mp (i4 j (by omega) (by omega)), h2 (by omega)⟩
      cases es with
      | nil =>
        have sg : hi = lo := sg
        omega
      | cons x r =>
        obtain ⟨m, m1, m2, ⟨m3, m5⟩, m4⟩ := sg
        refine (main r m x (by omega) m4 (fun hm => ?_)).resolve_right id
        have w : i = m := by omega
        rw [w] at i3
        exact hY _ _ i3 m5
    · rw [re]
      obtain ⟨p1, p2, p3, p4⟩ := rows 0 (by omega)
      rw [Nat.add_zero, Nat.add_zero] at p4
      rw [Nat.add_zero] at p1 p2 p3
      by_cases w : i = lo
      · rw [w] at i3
        exact Or.inl (hrow _ a n (by omega) p3 p4 (by omega) i3)
      · exact absurd (i4 q lo (by omega) (by omega)) (hes _ (by omega) p3)
    · rw [re]
      have fnd : ∀ (es : List Lean.ParserDescr) (lo hi : Nat), gq_sg (fun d' e' => ∃ _h : d' < d, gq_R tx ty kd lt fr to pt lw hg d' e') pt es lo hi → ∀ i, lo ≤ i → i < hi → ∃ x, x ∈ es ∧ gq_R tx ty kd lt fr to pt lw hg (Int32.toNatClampNeg (pt i)) x := by
        intro es
        induction es with
        | nil => intro lo hi h i a b; have h : hi = lo := h; omega
        | cons x es ih =>
          intro lo hi h i a b
          obtain ⟨k, k1, k2, ⟨k3, k5⟩, k4⟩ := h
          by_cases w : i = k
          · rw [w]; exact ⟨x, List.mem_cons_self .., k5⟩
          · obtain ⟨y, y1, y2⟩ := ih lo k k4 i a (by omega)
            exact ⟨y, List.mem_cons_of_mem _ y1, y2⟩
      obtain ⟨x, x1, x2⟩ := fnd es lo hi sg i i1 i2
      have fx := hY _ _ i3 x2
      cases es with
      | nil => exact absurd rfl ne
      | cons y r =>
        refine (gq_fb_f5 r y).mpr ?_
        rcases List.mem_cons.mp x1 with w | w
        · rw [w] at fx; exact Or.inl fx
        · exact Or.inr ⟨x, w, fx⟩
    · obtain ⟨m, m1, mp, ⟨mr, mr2⟩, m4⟩ := sg
      have m4 : m = lo := m4
      rw [m4] at m1 mp mr mr2
      have w : i = lo := by omega
      rw [w] at i3
      have one := hY _ _ i3 mr2
      rcases ks with ⟨q, re⟩ | ⟨q, re⟩ | ⟨q, re⟩ | ⟨q, re⟩ | ⟨q, re⟩ | ⟨q, re⟩
      · rw [q] at hs; rw [re]; exact ⟨fun z => hs (s4 z), one⟩
      · rw [q] at hs; rw [re]; exact ⟨fun z => hs (s5 z), one⟩
      · rw [re]; exact Or.inl one
      · rw [q] at hs; rw [re]; exact ⟨fun z => hs (s7 z), one⟩
      · rw [q] at hs; rw [re]; exact ⟨fun z => hs (s8 z), one⟩
      · rw [q] at hs; rw [re]; exact ⟨fun z => hs (s9 z), one⟩
/-- what begins so: the least solution over the rules -/
def gq_lX (f : Nat → Int × Lean.ParserDescr) (R : Nat) (lf : Lean.ParserDescr → Prop) (sx : Nat → Prop) (r : Nat) : Prop := ∀ X : Nat → Prop, (∀ s, s < R → gq_fb (gq_EL f R) lf sx (fun c => X (gq_fx f (c : Int) R)) (f s).2 → X s) → X r
