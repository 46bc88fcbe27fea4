/-! The class's reader against the machine over expressions: a primary. -/
def gq_go (tx : Nat → Int) (ty : Nat) : Nat → gp_Sg → gp_Sg → Prop
  | 0, s, t => s = t
  | k + 1, s, t => ∃ u, gp_ms tx ty s = .inr (.inl u) ∧ gq_go tx ty k u t
def gq_to (tx : Nat → Int) (ty : Nat) (s t : gp_Sg) : Prop := ∃ k, gq_go tx ty k s t
def gq_bad (tx : Nat → Int) (ty : Nat) (s : gp_Sg) (j : Nat) : Prop := ∃ t, gq_to tx ty s t ∧ gp_ms tx ty t = .inl j ∧ t.1 ≤ ty
theorem gq_to_r {tx : Nat → Int} {ty : Nat} (s : gp_Sg) : gq_to tx ty s s := ⟨0, rfl⟩
theorem gq_to_1 {tx : Nat → Int} {ty : Nat} {s t : gp_Sg} (h : gp_ms tx ty s = .inr (.inl t)) : gq_to tx ty s t := ⟨1, t, h, rfl⟩
theorem gq_go_t {tx : Nat → Int} {ty : Nat} : ∀ (k : Nat) {j : Nat} {s t u : gp_Sg}, gq_go tx ty k s t → gq_go tx ty j t u → gq_go tx ty (k + j) s u := by
  intro k
  induction k with
  | zero => intro j s t u h1 h2; have h1 : s = t := h1; rw [h1, Nat.zero_add]; exact h2
  | succ k ih =>
    intro j s t u h1 h2
    obtain ⟨v, h3, h4⟩ := h1
    rw [show k + 1 + j = (k + j) + 1 by omega]
    exact ⟨v, h3, ih h4 h2⟩
theorem gq_to_t {tx : Nat → Int} {ty : Nat} {s t u : gp_Sg} (h1 : gq_to tx ty s t) (h2 : gq_to tx ty t u) : gq_to tx ty s u := by
  obtain ⟨k, h1⟩ := h1
  obtain ⟨j, h2⟩ := h2
  exact ⟨k + j, gq_go_t k h1 h2⟩
theorem gq_to_b {tx : Nat → Int} {ty : Nat} {s t : gp_Sg} {j : Nat} (h1 : gq_to tx ty s t) (h2 : gq_bad tx ty t j) : gq_bad tx ty s j := by
  obtain ⟨u, h3, h4, h5⟩ := h2
  exact ⟨u, gq_to_t h1 h3, h4, h5⟩
theorem gq_bad_1 {tx : Nat → Int} {ty : Nat} {s : gp_Sg} {j : Nat} (h : gp_ms tx ty s = .inl j) (hs : s.1 ≤ ty) : gq_bad tx ty s j := ⟨s, gq_to_r s, h, hs⟩
theorem gq_B_X {S V : gq_St} {o n m : Nat} (h : gq_X S V o n m) : gq_B S V := h.2.2.2
theorem gq_N_E {u V : gq_St} {a a' o n m : Nat} (h : gq_N u a o n m) (e : gq_E u V) (hp : (V.1.2.2 4).toInt = a') : gq_N V a' o n m := by
  obtain ⟨h1, h2, h3, h4, h5, h6, h7⟩ := h
  obtain ⟨e1, e2, e3, e4, e5, e6, e7, e8, e9, e10, e11, e12, e13, e14⟩ := e
  exact ⟨by rw [e1]; exact h1, hp, by rw [e2]; exact h3, by rw [e11]; exact h4, by rw [e12]; exact h5, h6, fun d hd => by unfold gq_nf; rw [e7, e13, e14, e4, e9, e10, e6]; exact h7 d hd⟩
theorem gq_X_E {S u V : gq_St} {o n m : Nat} (h : gq_X S u o n m) (e : gq_E u V) (b : gq_B S V) : gq_X S V o n m := by
  obtain ⟨e1, e2, e3, e4, e5, e6, e7, e8, e9, e10, e11, e12, e13, e14⟩ := e
  refine ⟨fun d hd => ?_, fun i hi => by rw [e8]; exact h.2.1 i hi, fun i hi => by rw [e3]; exact h.2.2.1 i hi, b⟩
  rw [e4, e5, e6, e7, e9, e10, e13, e14]
  exact h.1 d hd
theorem gq_Rt_E {tx : Nat → Int} {ty : Nat} {u V : gq_St} {d : Nat} {x : Lean.ParserDescr} (h : gq_Rt tx ty u d x) (e : gq_E u V) : gq_Rt tx ty V d x := by
  obtain ⟨e1, e2, e3, e4, e5, e6, e7, e8, e9, e10, e11, e12, e13, e14⟩ := e
  unfold gq_Rt
  rw [e4, e5, e6, e7, e8, e9, e10]
  exact h
theorem gq_Rk_E {tx : Nat → Int} {ty K : Nat} {u V : gq_St} {d : Nat} {x : Lean.ParserDescr} (h : gq_Rk tx ty K u d x) (e : gq_E u V) : gq_Rk tx ty K V d x := by
  refine ⟨gq_Rt_E h.1 e, ?_⟩
  obtain ⟨e1, e2, e3, e4, e5, e6, e7, e8, e9, e10, e11, e12, e13, e14⟩ := e
  rw [e4, e6, e7, e8]
  exact h.2
theorem gq_cv_E {tx : Nat → Int} {ty : Nat} {u V : gq_St} {lo hi : Nat} {L : List Lean.ParserDescr} (h : gq_cv tx ty u lo hi L) (e : gq_E u V) : gq_cv tx ty V lo hi L := by
  intro d d1 d2 d3
  rw [e.2.2.2.1] at d3
  obtain ⟨x, hx, x', hx', r⟩ := h d d1 d2 d3
  exact ⟨x, hx, x', hx', gq_Rt_E r e⟩
/-- what was read, told of another state and from another place -/
theorem gq_P_E {tx : Nat → Int} {ty K : Nat} {S S0 u V : gq_St} {a a0 o n m a' a2 : Nat} {k k0 : Int} {e : Lean.ParserDescr} (h : gq_P tx ty K S0 a0 o n m k0 e a' u) (hX : gq_X S S0 o n m) (he : gq_E u V) (hb : gq_B S V) (hp : (V.1.2.2 4).toInt = a2) (h1 : a' ≤ a2) (h2 : a2 ≤ ty) (h3 : a ≤ a0) (hk : 3 * (a : Int) + k0 + 3 * a' ≤ 3 * a0 + 3 * a2 + k) : gq_P tx ty K S a o n m k e a2 V := by
  obtain ⟨n', m', p1, p2, p3, p4, p5, p6, p7, p8, p9, p10⟩ := h
  refine ⟨n', m', gq_N_E p1 he hp, gq_X_E (gq_X_t hX p2 (Nat.le_refl o) (Nat.le_refl n) (Nat.le_refl m)) he hb, p3, p4, by omega, h2, by omega, ?_, gq_Rk_E p9 he, gq_cv_E p10 he⟩
  rw [he.2.2.1]
  exact p8
def gq_one (x : Int32) (z e : Lean.ParserDescr) : Prop := (x.toInt = 4 ∧ e = gp_e1 6 z) ∨ (x.toInt = 5 ∧ e = gp_e1 7 z) ∨ (x.toInt = 6 ∧ e = gp_ep z) ∨ (x.toInt = 7 ∧ e = gp_e1 8 z) ∨ (x.toInt = 8 ∧ e = gp_e1 9 z) ∨ (x.toInt = 9 ∧ e = gp_e1 10 z)
theorem gq_one_sb {x : Int32} {z e : Lean.ParserDescr} (h : gq_one x z e) : ∀ e', e' ∈ gp_sb z → e' ∈ gp_sb e := by
  intro e' h'
  rcases h with ⟨-, h⟩ | ⟨-, h⟩ | ⟨-, h⟩ | ⟨-, h⟩ | ⟨-, h⟩ | ⟨-, h⟩
  all_goals rw [h]
  · exact List.mem_cons_of_mem _ h'
  · exact List.mem_cons_of_mem _ h'
  · exact List.mem_cons_of_mem _ (List.mem_append.mpr (Or.inl h'))
  · exact List.mem_cons_of_mem _ h'
  · exact List.mem_cons_of_mem _ h'
  · exact List.mem_cons_of_mem _ h'
/-- what a join of one leaves -/
def gq_j1Q (tx : Nat → Int) (ty K : Nat) (S : gq_St) (a o n m : Nat) (k : Int) (e : Lean.ParserDescr) (a' : Nat) (z : Int32 × gq_St) : Prop := gq_P tx ty K S a o n m k e a' z.2
/-- what is less deep -/
theorem gq_P_k {tx : Nat → Int} {ty K K' : Nat} {S u : gq_St} {a o n m a' : Nat} {k : Int} {e : Lean.ParserDescr} (hk : K ≤ K') (h : gq_P tx ty K S a o n m k e a' u) : gq_P tx ty K' S a o n m k e a' u := by
  obtain ⟨n', m', p1, p2, p3, p4, p5, p6, p7, p8, p9, p10⟩ := h
  exact ⟨n', m', p1, p2, p3, p4, p5, p6, p7, p8, gq_Rk_k hk p9, p10⟩
theorem gq_join1 {tx : Nat → Int} {ty K : Nat} (x y : Int32) {S V : gq_St} {a o n m a' : Nat} {k k' : Int} {z e : Lean.ParserDescr} (h : gq_P tx ty K S a o n m k z a' V) (hy : y.toInt = o) (h1 : gq_one x z e) (h50 : ty ≤ 50) (hc : 2 * (n : Int) + k + 2 ≤ 3 * a) (hk : k + 2 ≤ k') : gq_j1Q tx ty (K + 1) S a o n m k' e a' (gm_f_Reader_join x y V) := by
  obtain ⟨n', m', p1, p2, p3, p4, p5, p6, p7, p8, p9, p10⟩ := h
  have c8 : Int32.toNatClampNeg (V.1.1 2 o) = n' - 1 := gp_cl_n (by omega)
  have hs : gq_sg (fun d e => d < n' ∧ gq_Rk tx ty K V d e) (V.1.1 2) [z] o (o + 1) := ⟨o, rfl, by omega, by rw [c8]; exact ⟨by omega, p9⟩, rfl⟩
  obtain ⟨q1, q2, q3, q4, q5⟩ := gq_joinE x y V p1 hy (by omega) hs p10 (Or.inr (Or.inr ⟨z, rfl, h1⟩)) (fun w hw => by rw [List.mem_singleton.mp hw]; exact gq_one_sb h1)
  refine ⟨n' + 1, m' + (o + 1 - o), q1, gq_X_t p2 q2 (Nat.le_refl o) (by omega) p4, by omega, by omega, p5, p6, by omega, ?_, ?_, q5⟩
  · rw [q3]; omega
  · rw [show n' + 1 - 1 = n' by omega]; exact q4
theorem gq_join1V {tx : Nat → Int} {ty K : Nat} (x y : Int32) {S u : gq_St} (V : gq_St) {a o n m a' a2 : Nat} {k k' : Int} {z e : Lean.ParserDescr} (h : gq_P tx ty K S a o n m k z a' u) (he : gq_E u V) (hb : gq_B S V) (hp : (V.1.2.2 4).toInt = a2) (h1 : a' ≤ a2) (h2 : a2 ≤ ty) (hy : y.toInt = o) (h3 : gq_one x z e) (h50 : ty ≤ 50) (hc : 2 * (n : Int) + k + 2 ≤ 3 * a) (hk : k + 3 * a' + 2 ≤ 3 * a2 + k') : gq_j1Q tx ty (K + 1) S a o n m k' e a2 (gm_f_Reader_join x y V) :=
  gq_join1 x y (gq_P_E (k := k + 3 * a' - 3 * a2) h (gq_X_r S o n m) he hb hp h1 h2 (Nat.le_refl a) (by omega)) hy h3 h50 (by omega) (by omega)
def gq_tkQ (tx : Nat → Int) (ty : Nat) (x : Int32) (a : Nat) (z : Int32 × gq_St) : Prop := (gq_pk tx ty a = x.toInt ∧ z.1 = 1 ∧ (z.2.1.2.2 4).toInt = ((a + 1 : Nat) : Int)) ∨ (¬ gq_pk tx ty a = x.toInt ∧ z.1 = 0 ∧ (z.2.1.2.2 4).toInt = a)
theorem gq_take' {tx : Nat → Int} {ty : Nat} (x : Int32) (S : gq_St) {a : Nat} (ht : gp_tx (S.2.1.2.2 1) (S.2.1.1 0) tx ty) (hw : S.1.2.2 5 = 0) (hx : (S.1.2.2 4).toInt = a) (ha : a ≤ 50) : gq_tkQ tx ty x a (gm_f_Reader_take x S) := by
  unfold gq_tkQ
  rcases gq_take x S ht hw hx ha with ⟨q, e, v⟩ | ⟨q, e⟩
  · rw [e]; exact Or.inl ⟨q, rfl, v⟩
  · rw [e]; exact Or.inr ⟨q, rfl, hx⟩
def gq_twQ (S : gq_St) (z : Int32 × gq_St) : Prop := z.1 = 0 ∧ z.2.1.2.2 4 = S.1.2.2 4
theorem gq_take_w' (x : Int32) (S0 S : gq_St) (hw : S.1.2.2 5 = 1) (h4 : S.1.2.2 4 = S0.1.2.2 4) : gq_twQ S0 (gm_f_Reader_take x S) := by
  rw [gq_take_w x S hw]; exact ⟨rfl, h4⟩
def gq_inm (c : Int) : Prop := 65 ≤ c ∧ c ≤ 90
def gq_nmQ (x : Int32) (z : Int32 × Unit) : Prop := (z.1 = 0 ∧ ¬ gq_inm x.toInt) ∨ (z.1 = 1 ∧ gq_inm x.toInt)
theorem gq_isName (x : Int32) : gq_nmQ x (gm_f_Reader_isName x) := by
  unfold gm_f_Reader_isName gq_nmQ gq_inm
  have l1 : (65 : Int32).toInt = 65 := gx_lit 65 (by decide)
  have l2 : (90 : Int32).toInt = 90 := gx_lit 90 (by decide)
  by_cases q : x < 65
  · rw [if_pos q]
    rw [Int32.lt_iff_toInt_lt, l1] at q
    exact Or.inl ⟨rfl, by omega⟩
  · rw [if_neg q]
    rw [Int32.lt_iff_toInt_lt, l1] at q
    by_cases w : 90 < x
    · rw [if_pos w]
      rw [Int32.lt_iff_toInt_lt, l2] at w
      exact Or.inl ⟨rfl, by omega⟩
    · rw [if_neg w]
      rw [Int32.lt_iff_toInt_lt, l2] at w
      exact Or.inr ⟨rfl, by omega⟩
/-- a character with which a piece begins -/
def gq_bp (c : Int) : Prop := gq_inm c ∨ c = 38 ∨ c = 33 ∨ c = 39 ∨ c = 91 ∨ c = 46 ∨ c = 40 ∨ c = 123
def gq_bpQ (x : Int32) (z : Int32 × Unit) : Prop := (z.1 = 0 ∧ ¬ gq_bp x.toInt) ∨ (z.1 = 1 ∧ gq_bp x.toInt)
theorem gq_beginsPiece (x : Int32) : gq_bpQ x (gm_f_Reader_beginsPiece x) := by
  obtain ⟨Q, hQ⟩ : ∃ Q, Q = gq_bpQ x := ⟨_, rfl⟩
  rw [← hQ]
  unfold gm_f_Reader_beginsPiece
  refine gq_cb (Q := Q) (gq_nmQ x) (gq_isName x) (fun r u h => ?_)
  have h : (r = 0 ∧ ¬ gq_inm x.toInt) ∨ (r = 1 ∧ gq_inm x.toInt) := h
  have e : ∀ k : Nat, k < 2147483648 → x = (OfNat.ofNat k : Int32) → x.toInt = k := fun k hk q => by rw [q]; exact gx_lit k hk
  refine gq_if (Q := Q) (fun q0 => ?_) (fun q0 => ?_)
  · have nm : ¬ gq_inm x.toInt := by
      rcases h with h | h
      · exact h.2
      · rw [h.1] at q0; exact absurd q0 (by decide)
    refine gq_if (Q := Q) (fun q => ?_) (fun q1 => ?_)
    · rw [hQ]; exact Or.inr ⟨rfl, Or.inr (Or.inl (e 38 (by decide) q))⟩
    refine gq_if (Q := Q) (fun q => ?_) (fun q2 => ?_)
    · rw [hQ]; exact Or.inr ⟨rfl, Or.inr (Or.inr (Or.inl (e 33 (by decide) q)))⟩
    refine gq_if (Q := Q) (fun q => ?_) (fun q3 => ?_)
    · rw [hQ]; exact Or.inr ⟨rfl, Or.inr (Or.inr (Or.inr (Or.inl (e 39 (by decide) q))))⟩
    refine gq_if (Q := Q) (fun q => ?_) (fun q4 => ?_)
    · rw [hQ]; exact Or.inr ⟨rfl, Or.inr (Or.inr (Or.inr (Or.inr (Or.inl (e 91 (by decide) q)))))⟩
    refine gq_if (Q := Q) (fun q => ?_) (fun q5 => ?_)
    · rw [hQ]; exact Or.inr ⟨rfl, Or.inr (Or.inr (Or.inr (Or.inr (Or.inr (Or.inl (e 46 (by decide) q))))))⟩
    refine gq_if (Q := Q) (fun q => ?_) (fun q6 => ?_)
    · rw [hQ]; exact Or.inr ⟨rfl, Or.inr (Or.inr (Or.inr (Or.inr (Or.inr (Or.inr (Or.inl (e 40 (by decide) q)))))))⟩
    refine gq_if (Q := Q) (fun q => ?_) (fun q7 => ?_)
    · rw [hQ]; exact Or.inr ⟨rfl, Or.inr (Or.inr (Or.inr (Or.inr (Or.inr (Or.inr (Or.inr (e 123 (by decide) q)))))))⟩
    rw [hQ]
    refine Or.inl ⟨rfl, ?_⟩
    have f : ∀ (k : Nat), k < 2147483648 → ¬ x = (OfNat.ofNat k : Int32) → ¬ x.toInt = k := fun k hk q w => q (Int32.toInt_inj.mp (w.trans (gx_lit k hk).symm))
    have f1 := f 38 (by decide) q1
    have f2 := f 33 (by decide) q2
    have f3 := f 39 (by decide) q3
    have f4 := f 91 (by decide) q4
    have f5 := f 46 (by decide) q5
    have f6 := f 40 (by decide) q6
    have f7 := f 123 (by decide) q7
    rintro (w | w | w | w | w | w | w | w)
    · exact nm w
    all_goals omega
  · rw [hQ]
    refine Or.inr ⟨rfl, Or.inl ?_⟩
    rcases h with h | h
    · exact absurd h.1 q0
    · exact h.2
/-- an expression has been read: the machine stands before its end -/
def gq_exQ (tx : Nat → Int) (ty k : Nat) (S : gq_St) (a o n m : Nat) (z : Int32 × gq_St) : Prop := ∀ (b q : Int) (fs : List gp_Fm) (nA nC : Nat), fs.length = k → (∃ j, gq_bad tx ty (a, 0, (b, q, [], []) :: fs, nA, nC) j ∧ gq_W z.2 j) ∨ (∃ is as a' nA' nC', gq_to tx ty (a, 0, (b, q, [], []) :: fs, nA, nC) (a', 0, (b, q, is, as) :: fs, nA', nC') ∧ ¬ gq_bp (gq_pk tx ty a') ∧ ¬ gq_pk tx ty a' = 47 ∧ gq_P tx ty (5 * (6 - k) + 5) S a o n m 4 (gp_jn 5 (gp_jn 4 is :: as)) a' z.2)
def gq_Hx (tx : Nat → Int) (ty : Nat) (fx : Int32 → gq_St → Int32 × gq_St) (k : Nat) : Prop := ∀ (y : Int32) (V0 V : gq_St) (a o n m : Nat), gq_X V0 V o n m → y.toInt = k → gp_tx (V.2.1.2.2 1) (V.2.1.1 0) tx ty → gq_N V a o n m → 2 * n + 6 ≤ 3 * a → 1 ≤ a → a ≤ ty → gq_exQ tx ty k V0 a o n m (fx y V)
/-- a primary has been read -/
def gq_prQ (tx : Nat → Int) (ty k : Nat) (S : gq_St) (a o n m : Nat) (z : Int32 × gq_St) : Prop := ∀ (p : Int) (F : gp_Fm) (fs : List gp_Fm) (nA nC : Nat), fs.length = k → (p ≠ 0 ∨ (gq_bp (gq_pk tx ty a) ∧ ¬ gq_pk tx ty a = 38 ∧ ¬ gq_pk tx ty a = 33)) → (∃ j, gq_bad tx ty (a, p, F :: fs, nA, nC) j ∧ gq_W z.2 j) ∨ (∃ e a' nA' nC', gq_to tx ty (a, p, F :: fs, nA, nC) (gp_pm tx ty e (a', p, F :: fs, nA', nC')) ∧ gq_P tx ty (5 * (6 - k) + 1) S a o n m 0 e a' z.2)
theorem gq_ms_nm {tx : Nat → Int} {ty a : Nat} {p : Int} {fs : List gp_Fm} {nA nC : Nat} (h : gq_inm (gp_pk tx ty a)) : gp_ms tx ty (a, p, fs, nA, nC) = .inr (.inl (gp_pm tx ty (gp_e0 3 (gp_pk tx ty a).toNat 0) (a + 1, p, fs, nA, nC))) := if_pos h
theorem gq_ms_dot {tx : Nat → Int} {ty a : Nat} {p : Int} {fs : List gp_Fm} {nA nC : Nat} (h : gp_pk tx ty a = 46) : gp_ms tx ty (a, p, fs, nA, nC) = .inr (.inl (gp_pm tx ty (gp_e0 2 (a + 1) (a + 1)) (a + 1, p, fs, nA, nC))) := by
  unfold gp_ms
  rw [if_neg (by show ¬ (65 ≤ gp_pk tx ty a ∧ gp_pk tx ty a ≤ 90); omega), if_pos h]
theorem gq_ms_row {tx : Nat → Int} {ty a : Nat} {p : Int} {fs : List gp_Fm} {nA nC : Nat} (h : gp_pk tx ty a = 39) : gp_ms tx ty (a, p, fs, nA, nC) = if gp_pk tx ty (gp_rw tx ty (a + 1)) = 0 ∨ gp_rw tx ty (a + 1) = a + 1 then .inl (gp_rw tx ty (a + 1)) else .inr (.inl (gp_pm tx ty (gp_e0 1 (a + 1) (gp_rw tx ty (a + 1) - (a + 1))) (gp_rw tx ty (a + 1) + 1, p, fs, nA, nC))) := by
  unfold gp_ms
  rw [if_neg (by show ¬ (65 ≤ gp_pk tx ty a ∧ gp_pk tx ty a ≤ 90); omega), if_neg (by show ¬ gp_pk tx ty a = 46; omega), if_pos h]
theorem gq_ms_cls {tx : Nat → Int} {ty a : Nat} {p : Int} {fs : List gp_Fm} {nA nC : Nat} (h : gp_pk tx ty a = 91) : gp_ms tx ty (a, p, fs, nA, nC) = if gp_pk tx ty (gp_cl tx ty (a + 1)) = 0 ∨ gp_cl tx ty (a + 1) = a + 1 then .inl (gp_cl tx ty (a + 1)) else .inr (.inl (gp_pm tx ty (gp_e0 2 (a + 1) (gp_cl tx ty (a + 1))) (gp_cl tx ty (a + 1) + 1, p, fs, nA, nC))) := by
  unfold gp_ms
  rw [if_neg (by show ¬ (65 ≤ gp_pk tx ty a ∧ gp_pk tx ty a ≤ 90); omega), if_neg (by show ¬ gp_pk tx ty a = 46; omega), if_neg (by show ¬ gp_pk tx ty a = 39; omega), if_pos h]
theorem gq_ms_br {tx : Nat → Int} {ty a : Nat} {p : Int} {fs : List gp_Fm} {nA nC : Nat} (h : gp_pk tx ty a = 40 ∨ gp_pk tx ty a = 123) (hl : fs.length < 7) : gp_ms tx ty (a, p, fs, nA, nC) = .inr (.inl (a + 1, 0, (gp_pk tx ty a, p, [], []) :: fs, nA, nC)) := by
  unfold gp_ms
  rw [if_neg (by show ¬ (65 ≤ gp_pk tx ty a ∧ gp_pk tx ty a ≤ 90); omega), if_neg (by show ¬ gp_pk tx ty a = 46; omega), if_neg (by show ¬ gp_pk tx ty a = 39; omega), if_neg (by show ¬ gp_pk tx ty a = 91; omega), if_pos ⟨h, hl⟩]
/-- what is no piece, and no bracket that may be opened -/
theorem gq_ms_no {tx : Nat → Int} {ty a : Nat} {p : Int} {fs : List gp_Fm} {nA nC : Nat} (h1 : ¬ gq_inm (gp_pk tx ty a)) (h2 : ¬ gp_pk tx ty a = 46) (h3 : ¬ gp_pk tx ty a = 39) (h4 : ¬ gp_pk tx ty a = 91) (h5 : ¬ ((gp_pk tx ty a = 40 ∨ gp_pk tx ty a = 123) ∧ fs.length < 7)) : gp_ms tx ty (a, p, fs, nA, nC) = if p = 0 then gp_sg tx ty (gp_pk tx ty a) (a, p, fs, nA, nC) else .inl a := by
  unfold gp_ms
  rw [if_neg (by exact h1), if_neg (by exact h2), if_neg (by exact h3), if_neg (by exact h4), if_neg (by exact h5)]
