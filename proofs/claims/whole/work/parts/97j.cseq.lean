/-! The class's reader against the machine over expressions: sequences and expressions. -/
theorem gq_piece' {tx : Nat → Int} {ty : Nat} (fx : Int32 → gq_St → Int32 × gq_St) (k : Nat) (hfx : k < 6 → gq_Hx tx ty fx (k + 1)) (x : Int32) (S0 S : gq_St) {a o n m : Nat} (hX : gq_X S0 S o n m) (hx : x.toInt = k) (ht : gp_tx (S.2.1.2.2 1) (S.2.1.1 0) tx ty) (hN : gq_N S a o n m) (hc : 2 * n + 6 ≤ 3 * a) (ha : 1 ≤ a) (hty : a ≤ ty) (hb : gq_bp (gq_pk tx ty a)) : gq_pcQ tx ty k S0 a o n m (gm_f_Reader_readPiece fx x S) := by
  intro F fs nA nC hl
  rcases gq_piece fx k hfx x S hx ht hN hc ha hty hb F fs nA nC hl with h | ⟨e, a', nA', nC', h1, h2⟩
  · exact Or.inl h
  · exact Or.inr ⟨e, a', nA', nC', h1, gq_P_X h2 hX⟩
/-- one more on the row of what was read -/
theorem gq_step {tx : Nat → Int} {ty K : Nat} {S U u : gq_St} (V : gq_St) {o n m a1 o1 n1 m1 a' : Nat} {k : Int} {e : Lean.ParserDescr} {es : List Lean.ParserDescr} (hN : gq_N U a1 o1 n1 m1) (hX : gq_X S U o n m) (hno : o ≤ o1) (hn : n ≤ n1) (hm : m ≤ m1) (hs : gq_sg (fun d e => d < n1 ∧ gq_Rk tx ty K U d e) (U.1.1 2) es o o1) (hc : gq_cv tx ty U n n1 es) (hP : gq_P tx ty K U a1 o1 n1 m1 k e a' u) (he : gq_E u V) (hb : gq_B S V) (h4 : V.1.2.2 4 = u.1.2.2 4) : ∃ n' m' : Nat, gq_N V a' (o1 + 1) n' m' ∧ gq_X S V o n m ∧ n1 < n' ∧ m1 ≤ m' ∧ a1 ≤ a' ∧ a' ≤ ty ∧ gq_sg (fun d e => d < n' ∧ gq_Rk tx ty K V d e) (V.1.1 2) (e :: es) o (o1 + 1) ∧ gq_cv tx ty V n n' (e :: es) ∧ 2 * (n' : Int) + 3 * a1 ≤ 3 * a' + 2 * n1 + k := by
  obtain ⟨n', m', p1, p2, p3, p4, p5, p6, p7, p8, p9, p10⟩ := hP
  have c8 : Int32.toNatClampNeg (u.1.1 2 o1) = n' - 1 := gp_cl_n (by omega)
  have eo : V.1.1 2 = u.1.1 2 := he.2.2.1
  refine ⟨n', m', gq_N_E p1 he (by rw [h4]; exact p1.2.1), gq_X_E (gq_X_t hX p2 hno hn hm) he hb, p3, p4, p5, p6, ⟨o1, rfl, ?_, ?_, ?_⟩, ?_, p7⟩
  · rw [eo]; omega
  · rw [eo, c8]
    exact ⟨by omega, gq_Rk_E p9 he⟩
  · refine gq_sg_tr (s := 0) (s' := 0) es o o1 o o1 (fun j j1 j2 => ?_) (fun j z j1 j2 _ r => ?_) (by omega) hs
    · rw [show j - o + o = j by omega, eo]
      exact p2.2.2.1 j j2
    · exact ⟨by have := r.1; omega, gq_Rk_E (gq_Rk_X hN p2 r.1 r.2) he⟩
  · refine gq_cv_E (u := u) ?_ he
    refine gq_cv_a (mi := n1) (gq_cv_s (gq_cv_X hN p2 (Nat.le_refl n1) hc) (fun z hz => ⟨z, List.mem_cons_of_mem _ hz, fun _ h => h⟩)) (gq_cv_s p10 (fun z hz => ⟨e, List.mem_cons_self .., fun _ h => by rw [List.mem_singleton.mp hz] at h; exact h⟩))
/-- a join of a row -/
theorem gq_joinL {tx : Nat → Int} {ty K : Nat} (x y : Int32) {S U : gq_St} (V : gq_St) {a o n m a1 o1 n1 m1 : Nat} {k : Int} {e : Lean.ParserDescr} {es : List Lean.ParserDescr} (hN : gq_N U a1 o1 n1 m1) (hX : gq_X S U o n m) (hn : n ≤ n1) (hm : m ≤ m1) (he : gq_E U V) (hb : gq_B S V) (h4 : (V.1.2.2 4).toInt = a1) (hy : y.toInt = o) (h75 : n1 < 75) (hs : gq_sg (fun d e => d < n1 ∧ gq_Rk tx ty K U d e) (U.1.1 2) es o o1) (hc : gq_cv tx ty U n n1 es) (hK : (x.toInt = 2 ∧ e = gp_jn 4 es) ∨ (x.toInt = 3 ∧ es ≠ [] ∧ e = gp_jn 5 es)) (ha : a ≤ a1) (hty : a1 ≤ ty) (hk : 2 * ((n1 : Int) + 1) + 3 * a ≤ 3 * a1 + 2 * n + k) : gq_j1Q tx ty (K + 1) S a o n m k e a1 (gm_f_Reader_join x y V) := by
  have eo : V.1.1 2 = U.1.1 2 := he.2.2.1
  have N' := gq_N_E hN he h4
  have s' : gq_sg (fun d e => d < n1 ∧ gq_Rk tx ty K V d e) (V.1.1 2) es o o1 := by
    rw [eo]
    have := gq_sg_le _ _ _ hs
    exact gq_sg_tr (s := 0) (s' := 0) es o o1 o o1 (fun j j1 j2 => by rw [show j - o + o = j by omega]) (fun j z j1 j2 _ r => ⟨r.1, gq_Rk_E r.2 he⟩) (by omega) hs
  have sub : ∀ z, z ∈ es → ∀ e', e' ∈ gp_sb z → e' ∈ gp_sb e := by
    rcases hK with ⟨-, h⟩ | ⟨-, -, h⟩
    · rw [h]; exact gp_sb_jn 4 es
    · rw [h]; exact gp_sb_jn 5 es
  obtain ⟨q1, q2, q3, q4, q5⟩ := gq_joinE x y V N' hy h75 s' (gq_cv_E hc he) (hK.elim Or.inl (fun h => Or.inr (Or.inl h))) sub
  refine ⟨n1 + 1, m1 + (o1 - o), q1, gq_X_t (gq_X_E hX he hb) q2 (Nat.le_refl o) hn hm, by omega, by omega, ha, hty, by omega, ?_, ?_, q5⟩
  · rw [q3]; omega
  · rw [show n1 + 1 - 1 = n1 by omega]; exact q4
def gq_sqR (tx : Nat → Int) (ty k : Nat) (S : gq_St) (a o n m : Nat) (b q : Int) (as : List Lean.ParserDescr) (fs : List gp_Fm) (nA nC : Nat) (z : Int32 × gq_St) : Prop := (∃ j, gq_bad tx ty (a, 0, (b, q, [], as) :: fs, nA, nC) j ∧ gq_W z.2 j) ∨ (∃ es a' nA' nC', gq_to tx ty (a, 0, (b, q, [], as) :: fs, nA, nC) (a', 0, (b, q, es, as) :: fs, nA', nC') ∧ ¬ gq_bp (gq_pk tx ty a') ∧ gq_P tx ty (5 * (6 - k) + 4) S a o n m 2 (gp_jn 4 es) a' z.2)
def gq_sqQ (tx : Nat → Int) (ty k : Nat) (S : gq_St) (a o n m : Nat) (z : Int32 × gq_St) : Prop := ∀ (b q : Int) (as : List Lean.ParserDescr) (fs : List gp_Fm) (nA nC : Nat), fs.length = k → gq_sqR tx ty k S a o n m b q as fs nA nC z
theorem gq_seq7w (fx : Int32 → gq_St → Int32 × gq_St) (x : Int32) (S : gq_St) (f : Nat) (v : Int32) (U : gq_St) {j : Nat} (h : gq_W U j) : gq_W (gm_f_Reader_readSequence_7 fx x S (f + 1) v U).2 j := by
  obtain ⟨Q, hQ⟩ : ∃ Q : Int32 × gq_St → Prop, Q = fun z => gq_W z.2 j := ⟨_, rfl⟩
  show (fun z : Int32 × gq_St => gq_W z.2 j) (gm_f_Reader_readSequence_7 fx x S (f + 1) v U)
  rw [← hQ, gm_f_Reader_readSequence_7]
  have h5 : ¬ U.1.2.2 5 = 0 := by rw [h.1]; decide
  refine gq_if (Q := Q) (fun _ => ?_) (fun _ => ?_)
  · refine gq_cb (Q := Q) (fun _ => True) trivial (fun r u _ => ?_)
    rw [hQ]; exact h
  · rw [if_neg h5]
    refine gq_cb (Q := Q) (fun _ => True) trivial (fun r u _ => ?_)
    rw [hQ]; exact h
theorem gq_seq7 {tx : Nat → Int} {ty : Nat} (fx : Int32 → gq_St → Int32 × gq_St) (k : Nat) (hfx : k < 6 → gq_Hx tx ty fx (k + 1)) (x : Int32) (S : gq_St) (hx : x.toInt = k) (ht : gp_tx (S.2.1.2.2 1) (S.2.1.1 0) tx ty) {a o n m : Nat} (ho : (S.1.2.2 3).toInt = o) (hc : 2 * n + 6 ≤ 3 * a) (ha : 1 ≤ a) {b q : Int} {as : List Lean.ParserDescr} {fs : List gp_Fm} {nA nC : Nat} (hl : fs.length = k) : ∀ (f j : Nat) (v : Int32) (U : gq_St) (es : List Lean.ParserDescr) (a1 o1 n1 m1 nA1 nC1 : Nat), v.toInt = j → a + j ≤ a1 → a1 ≤ ty → 50 < f + j → gq_to tx ty (a, 0, (b, q, [], as) :: fs, nA, nC) (a1, 0, (b, q, es, as) :: fs, nA1, nC1) → gq_N U a1 o1 n1 m1 → gq_X S U o n m → o ≤ o1 → n ≤ n1 → m ≤ m1 → gq_sg (fun d e => d < n1 ∧ gq_Rk tx ty (5 * (6 - k) + 3) U d e) (U.1.1 2) es o o1 → gq_cv tx ty U n n1 es → 2 * (n1 : Int) + 3 * a ≤ 3 * a1 + 2 * n → gq_sqR tx ty k S a o n m b q as fs nA nC (gm_f_Reader_readSequence_7 fx x S f v U) := by
  have t2 := ht.2.1
  obtain ⟨Q, hQ⟩ : ∃ Q, Q = gq_sqR tx ty k S a o n m b q as fs nA nC := ⟨_, rfl⟩
  rw [← hQ]
  intro f
  induction f with
  | zero => intro j v U es a1 o1 n1 m1 nA1 nC1 _ h1 h2 h3; exact absurd h3 (by omega)
  | succ f ih =>
    intro j v U es a1 o1 n1 m1 nA1 nC1 hv h1 h2 h3 hm hN hX hoo hnn hmm hs hcv hk
    have l50 : ¬ (50 : Int32) ≤ v := by rw [Int32.le_iff_toInt_le, gx_lit 50 (by decide)]; omega
    have BX : gq_X U (U.1, S.2.1, U.2.2) o1 n1 m1 := ⟨fun _ _ => ⟨rfl, rfl, rfl, rfl, rfl, rfl, rfl, rfl⟩, fun _ _ => rfl, fun _ _ => rfl, hX.2.2.2.1.symm, rfl, rfl, rfl⟩
    rw [gm_f_Reader_readSequence_7, if_neg l50, if_pos hN.1]
    refine gq_cb (Q := Q) (gq_atQ tx ty a1) (gq_at' _ _ ht hN.2.1) (fun r28 u28 h28 => ?_)
    have h28 : r28.toInt = gq_pk tx ty a1 := h28
    refine gq_cb (Q := Q) (gq_bpQ r28) (gq_beginsPiece r28) (fun r31 u31 h31 => ?_)
    have h31 : (r31 = 0 ∧ ¬ gq_bp r28.toInt) ∨ (r31 = 1 ∧ gq_bp r28.toInt) := h31
    rw [h28] at h31
    rcases h31 with ⟨e31, nb⟩ | ⟨e31, yb⟩
    · rw [e31, if_pos rfl]
      refine gq_cb (Q := Q) (gq_j1Q tx ty (5 * (6 - k) + 4) S a o n m 2 (gp_jn 4 es) a1) (gq_joinL 2 (S.1.2.2 3) _ hN hX hnn hmm ⟨rfl, rfl, rfl, rfl, rfl, rfl, rfl, rfl, rfl, rfl, rfl, rfl, rfl, rfl⟩ ⟨rfl, rfl, rfl, rfl⟩ hN.2.1 ho (by omega) hs hcv (Or.inl ⟨gx_lit 2 (by decide), rfl⟩) (by omega) h2 (by omega)) (fun r51 u51 h51 => ?_)
      have h51 : gq_P tx ty (5 * (6 - k) + 4) S a o n m 2 (gp_jn 4 es) a1 u51 := h51
      have h51' := h51
      obtain ⟨n2, m2, y1, -⟩ := h51'
      rw [hQ]
      exact Or.inr ⟨es, a1, nA1, nC1, hm, nb, gq_P_E h51 (gq_X_r S o n m) ⟨hN.1.trans y1.1.symm, rfl, rfl, rfl, rfl, rfl, rfl, rfl, rfl, rfl, rfl, rfl, rfl, rfl⟩ ⟨rfl, rfl, rfl, rfl⟩ hN.2.1 (Nat.le_refl _) h2 (Nat.le_refl _) (by omega)⟩
    · rw [e31, if_neg (show ¬ (1 : Int32) = 0 by decide)]
      refine gq_cb (Q := Q) (gq_pcQ tx ty k U a1 o1 n1 m1) (gq_piece' fx k hfx x _ _ ⟨fun _ _ => ⟨rfl, rfl, rfl, rfl, rfl, rfl, rfl, rfl⟩, fun _ _ => rfl, fun _ _ => rfl, hX.2.2.2.1.symm, hX.2.2.2.2.1.symm, hX.2.2.2.2.2.1.symm, hX.2.2.2.2.2.2.symm⟩ hx ht (gq_N_E hN ⟨rfl, rfl, rfl, rfl, rfl, rfl, rfl, rfl, rfl, rfl, rfl, rfl, rfl, rfl⟩ hN.2.1) (by omega) (by omega) h2 yb) (fun r39 u39 h39 => ?_)
      have av := gx_ak v 1 1 (by decide)
      rcases h39 (b, q, es, as) fs nA1 nC1 hl with ⟨j', b1, b2⟩ | ⟨e, a', nA', nC', b1, b2⟩
      · rw [hQ]
        cases f with
        | zero => exact absurd h3 (by omega)
        | succ f => exact Or.inl ⟨j', gq_to_b hm b1, gq_seq7w fx x S f _ _ b2⟩
      · have b2 : gq_P tx ty (5 * (6 - k) + 3) U a1 o1 n1 m1 0 e a' u39 := b2
        obtain ⟨n', m', p1, p2, p3, p4, p5, p6, p7, p8, p9⟩ := gq_step hN hX hoo hnn hmm hs hcv b2 (V := ((va_up S.1.1 2 (u39.1.1 2), S.1.2.1, va_up (va_up (va_up S.1.2.2 3 (u39.1.2.2 3)) 4 (u39.1.2.2 4)) 5 (u39.1.2.2 5)), S.2.1, ((va_up (va_up (va_up (va_up (va_up (va_up (va_up S.2.2.1 0 (u39.2.2.1 0)) 1 (u39.2.2.1 1)) 2 (u39.2.2.1 2)) 3 (u39.2.2.1 3)) 4 (u39.2.2.1 4)) 5 (u39.2.2.1 5)) 6 (u39.2.2.1 6)), (va_up (va_up S.2.2.2.1 7 (u39.2.2.2.1 7)) 8 (u39.2.2.2.1 8)), (va_up (va_up S.2.2.2.2 11 (u39.2.2.2.2 11)) 12 (u39.2.2.2.2 12))))) ⟨rfl, rfl, rfl, rfl, rfl, rfl, rfl, rfl, rfl, rfl, rfl, rfl, rfl, rfl⟩ ⟨rfl, rfl, rfl, rfl⟩ rfl
        exact ih (j + 1) (v + 1) _ (e :: es) a' (o1 + 1) n' m' nA' nC' (by omega) (by omega) p6 (by omega) (gq_to_t hm b1) p1 p2 (by omega) (by omega) (by omega) p7 p8 (by omega)
theorem gq_seq {tx : Nat → Int} {ty : Nat} (fx : Int32 → gq_St → Int32 × gq_St) (k : Nat) (hfx : k < 6 → gq_Hx tx ty fx (k + 1)) (x : Int32) (S0 S : gq_St) {a o n m : Nat} (hX : gq_X S0 S o n m) (hx : x.toInt = k) (ht : gp_tx (S.2.1.2.2 1) (S.2.1.1 0) tx ty) (hN : gq_N S a o n m) (hc : 2 * n + 6 ≤ 3 * a) (ha : 1 ≤ a) (hty : a ≤ ty) : gq_sqQ tx ty k S0 a o n m (gm_f_Reader_readSequence fx x S) := by
  intro b q as fs nA nC hl
  unfold gm_f_Reader_readSequence
  rcases gq_seq7 fx k hfx x S hx ht hN.2.2.1 hc ha (b := b) (q := q) (as := as) (nA := nA) (nC := nC) hl 200 0 0 (S.1, S.2.1, S.2.2) [] a o n m nA nC (by decide) (by omega) hty (by omega) (gq_to_r _) hN (gq_X_r S o n m) (Nat.le_refl _) (Nat.le_refl _) (Nat.le_refl _) rfl (fun d d1 d2 => by omega) (by omega) with h | ⟨es, a', nA', nC', h1, h2, h3⟩
  · exact Or.inl h
  · exact Or.inr ⟨es, a', nA', nC', h1, h2, gq_P_X h3 hX⟩
def gq_exR (tx : Nat → Int) (ty k : Nat) (S : gq_St) (a o n m : Nat) (b q : Int) (fs : List gp_Fm) (nA nC : Nat) (z : Int32 × gq_St) : Prop := (∃ j, gq_bad tx ty (a, 0, (b, q, [], []) :: fs, nA, nC) j ∧ gq_W z.2 j) ∨ (∃ is as a' nA' nC', gq_to tx ty (a, 0, (b, q, [], []) :: fs, nA, nC) (a', 0, (b, q, is, as) :: fs, nA', nC') ∧ ¬ gq_bp (gq_pk tx ty a') ∧ ¬ gq_pk tx ty a' = 47 ∧ gq_P tx ty (5 * (6 - k) + 5) S a o n m 4 (gp_jn 5 (gp_jn 4 is :: as)) a' z.2)
theorem gq_expr12w (fx : Int32 → gq_St → Int32 × gq_St) (x : Int32) (S u7 : gq_St) (f : Nat) (v : Int32) (U : gq_St) {j : Nat} (h : gq_W U j) : gq_W (gm_f_Reader_readExpression_12 fx x S u7 (f + 1) v U).2 j := by
  obtain ⟨Q, hQ⟩ : ∃ Q : Int32 × gq_St → Prop, Q = fun z => gq_W z.2 j := ⟨_, rfl⟩
  show (fun z : Int32 × gq_St => gq_W z.2 j) (gm_f_Reader_readExpression_12 fx x S u7 (f + 1) v U)
  rw [← hQ, gm_f_Reader_readExpression_12]
  refine gq_if (Q := Q) (fun _ => ?_) (fun _ => ?_)
  · refine gq_cb (Q := Q) (fun _ => True) trivial (fun r u _ => ?_)
    rw [hQ]; exact h
  · refine gq_cb (Q := Q) (gq_twQ U) (gq_take_w' 47 _ _ h.1 rfl) (fun r21 u21 h21 => ?_)
    have e21 : r21 = 0 := h21.1
    have f21 : u21.1.2.2 4 = U.1.2.2 4 := h21.2
    rw [e21, if_pos rfl]
    refine gq_cb (Q := Q) (fun _ => True) trivial (fun r u _ => ?_)
    rw [hQ]
    exact ⟨h.1, by show (u21.1.2.2 4).toInt = j; rw [f21]; exact h.2⟩
theorem gq_expr12 {tx : Nat → Int} {ty : Nat} (fx : Int32 → gq_St → Int32 × gq_St) (k : Nat) (hfx : k < 6 → gq_Hx tx ty fx (k + 1)) (x : Int32) (S u7 : gq_St) (hx : x.toInt = k) (ht : gp_tx (S.2.1.2.2 1) (S.2.1.1 0) tx ty) {a o n m : Nat} (ho : (S.1.2.2 3).toInt = o) (hc : 2 * n + 6 ≤ 3 * a) (ha : 1 ≤ a) {b q : Int} {fs : List gp_Fm} {nA nC : Nat} (hl : fs.length = k) : ∀ (f j : Nat) (v : Int32) (U : gq_St) (is as : List Lean.ParserDescr) (a1 o1 n1 m1 nA1 nC1 : Nat), v.toInt = j → a + j ≤ a1 → a1 ≤ ty → 50 < f + j → gq_to tx ty (a, 0, (b, q, [], []) :: fs, nA, nC) (a1, 0, (b, q, is, as) :: fs, nA1, nC1) → ¬ gq_bp (gq_pk tx ty a1) → gq_N U a1 o1 n1 m1 → gq_X S U o n m → o ≤ o1 → n ≤ n1 → m ≤ m1 → gq_sg (fun d e => d < n1 ∧ gq_Rk tx ty (5 * (6 - k) + 4) U d e) (U.1.1 2) (gp_jn 4 is :: as) o o1 → gq_cv tx ty U n n1 (gp_jn 4 is :: as) → 2 * (n1 : Int) + 3 * a ≤ 3 * a1 + 2 * n + 2 → gq_exR tx ty k S a o n m b q fs nA nC (gm_f_Reader_readExpression_12 fx x S u7 f v U) := by
  have t2 := ht.2.1
  have l47 : (47 : Int32).toInt = 47 := gx_lit 47 (by decide)
  obtain ⟨Q, hQ⟩ : ∃ Q, Q = gq_exR tx ty k S a o n m b q fs nA nC := ⟨_, rfl⟩
  rw [← hQ]
  intro f
  induction f with
  | zero => intro j v U is as a1 o1 n1 m1 nA1 nC1 _ h1 h2 h3; exact absurd h3 (by omega)
  | succ f ih =>
    intro j v U is as a1 o1 n1 m1 nA1 nC1 hv h1 h2 h3 hm hnb hN hX hoo hnn hmm hs hcv hk
    have l50 : ¬ (50 : Int32) ≤ v := by rw [Int32.le_iff_toInt_le, gx_lit 50 (by decide)]; omega
    rw [gm_f_Reader_readExpression_12, if_neg l50]
    refine gq_cb (Q := Q) (gq_tkQ tx ty 47 a1) (gq_take' 47 _ ht hN.1 hN.2.1 (by omega)) (fun r21 u21 h21 => ?_)
    rcases h21 with ⟨c1, c2, c3⟩ | ⟨c1, c2, c3⟩
    · have c2 : r21 = 1 := c2
      rw [l47] at c1
      have lt := gq_pk_lt (tx := tx) (ty := ty) (i := a1) (by omega)
      rw [c2, if_neg (show ¬ (1 : Int32) = 0 by decide)]
      have g47 : gp_pk tx ty a1 = 47 := (gq_pk_eq 47 (by decide)).mp c1
      have st : gp_ms tx ty (a1, 0, (b, q, is, as) :: fs, nA1, nC1) = .inr (.inl (a1 + 1, 0, (b, q, [], gp_jn 4 is :: as) :: fs, nA1 + gp_nis ((b, q, is, as) :: fs), nC1)) := by
        rw [gq_ms_no (by unfold gq_inm; omega) (by omega) (by omega) (by omega) (by omega), if_pos rfl, g47]
        unfold gp_sg
        rw [if_neg (by decide), if_pos rfl]
        rfl
      refine gq_cb (Q := Q) (gq_sqQ tx ty k U (a1 + 1) o1 n1 m1) (gq_seq fx k hfx x _ _ ⟨fun _ _ => ⟨rfl, rfl, rfl, rfl, rfl, rfl, rfl, rfl⟩, fun _ _ => rfl, fun _ _ => rfl, hX.2.2.2.1.symm, hX.2.2.2.2.1.symm, hX.2.2.2.2.2.1.symm, hX.2.2.2.2.2.2.symm⟩ hx ht (gq_N_E hN ⟨rfl, rfl, rfl, rfl, rfl, rfl, rfl, rfl, rfl, rfl, rfl, rfl, rfl, rfl⟩ c3) (by omega) (by omega) (by omega)) (fun r29 u29 h29 => ?_)
      have av := gx_ak v 1 1 (by decide)
      rcases h29 b q (gp_jn 4 is :: as) fs (nA1 + gp_nis ((b, q, is, as) :: fs)) nC1 hl with ⟨j', b1, b2⟩ | ⟨es, a', nA', nC', b1, b0, b2⟩
      · rw [hQ]
        cases f with
        | zero => exact absurd h3 (by omega)
        | succ f => exact Or.inl ⟨j', gq_to_b hm (gq_to_b (gq_to_1 st) b1), gq_expr12w fx x S u7 f _ _ b2⟩
      · have b2 : gq_P tx ty (5 * (6 - k) + 4) U (a1 + 1) o1 n1 m1 2 (gp_jn 4 es) a' u29 := b2
        have N2 : gq_N (((U.1.1, U.1.2.1, va_up U.1.2.2 4 (u21.1.2.2 4)), U.2)) (a1 + 1) o1 n1 m1 := gq_N_E hN ⟨rfl, rfl, rfl, rfl, rfl, rfl, rfl, rfl, rfl, rfl, rfl, rfl, rfl, rfl⟩ c3
        obtain ⟨n', m', p1, p2, p3, p4, p5, p6, p7, p8, p9⟩ := gq_step N2 (S := S) hX hoo hnn hmm hs hcv (u := u29) b2 (V := ((va_up S.1.1 2 (u29.1.1 2), S.1.2.1, va_up (va_up (va_up S.1.2.2 3 (u29.1.2.2 3)) 4 (u29.1.2.2 4)) 5 (u29.1.2.2 5)), S.2.1, ((va_up (va_up (va_up (va_up (va_up (va_up (va_up S.2.2.1 0 (u29.2.2.1 0)) 1 (u29.2.2.1 1)) 2 (u29.2.2.1 2)) 3 (u29.2.2.1 3)) 4 (u29.2.2.1 4)) 5 (u29.2.2.1 5)) 6 (u29.2.2.1 6)), (va_up (va_up S.2.2.2.1 7 (u29.2.2.2.1 7)) 8 (u29.2.2.2.1 8)), (va_up (va_up S.2.2.2.2 11 (u29.2.2.2.2 11)) 12 (u29.2.2.2.2 12))))) ⟨rfl, rfl, rfl, rfl, rfl, rfl, rfl, rfl, rfl, rfl, rfl, rfl, rfl, rfl⟩ ⟨rfl, rfl, rfl, rfl⟩ rfl
        exact ih (j + 1) (v + 1) _ es (gp_jn 4 is :: as) a' (o1 + 1) n' m' nA' nC' (by omega) (by omega) p6 (by omega) (gq_to_t hm (gq_to_t (gq_to_1 st) b1)) b0 p1 p2 (by omega) (by omega) (by omega) p7 p8 (by omega)
    · have c2 : r21 = 0 := c2
      rw [l47] at c1
      rw [c2, if_pos rfl]
      refine gq_cb (Q := Q) (gq_j1Q tx ty (5 * (6 - k) + 5) S a o n m 4 (gp_jn 5 (gp_jn 4 is :: as)) a1) (gq_joinL 3 (S.1.2.2 3) _ hN hX hnn hmm ⟨rfl, rfl, rfl, rfl, rfl, rfl, rfl, rfl, rfl, rfl, rfl, rfl, rfl, rfl⟩ ⟨rfl, rfl, rfl, rfl⟩ c3 ho (by omega) hs hcv (Or.inr ⟨gx_lit 3 (by decide), List.cons_ne_nil _ _, rfl⟩) (by omega) h2 (by omega)) (fun r41 u41 h41 => ?_)
      have h41 : gq_P tx ty (5 * (6 - k) + 5) S a o n m 4 (gp_jn 5 (gp_jn 4 is :: as)) a1 u41 := h41
      have h41' := h41
      obtain ⟨n2, m2, y1, -⟩ := h41'
      rw [hQ]
      exact Or.inr ⟨is, as, a1, nA1, nC1, hm, hnb, c1, gq_P_E h41 (gq_X_r S o n m) ⟨hN.1.trans y1.1.symm, rfl, rfl, rfl, rfl, rfl, rfl, rfl, rfl, rfl, rfl, rfl, rfl, rfl⟩ ⟨rfl, rfl, rfl, rfl⟩ c3 (Nat.le_refl _) h2 (Nat.le_refl _) (by omega)⟩
theorem gq_expr {tx : Nat → Int} {ty : Nat} (fx : Int32 → gq_St → Int32 × gq_St) (k : Nat) (hfx : k < 6 → gq_Hx tx ty fx (k + 1)) (x : Int32) (S : gq_St) {a o n m : Nat} (hx : x.toInt = k) (ht : gp_tx (S.2.1.2.2 1) (S.2.1.1 0) tx ty) (hN : gq_N S a o n m) (hc : 2 * n + 6 ≤ 3 * a) (ha : 1 ≤ a) (hty : a ≤ ty) : gq_exQ tx ty k S a o n m (gm_f_Reader_readExpression fx x S) := by
  intro b q fs nA nC hl
  show gq_exR tx ty k S a o n m b q fs nA nC (gm_f_Reader_readExpression fx x S)
  obtain ⟨Q, hQ⟩ : ∃ Q, Q = gq_exR tx ty k S a o n m b q fs nA nC := ⟨_, rfl⟩
  rw [← hQ]
  unfold gm_f_Reader_readExpression
  refine gq_cb (Q := Q) (gq_sqQ tx ty k S a o n m) (gq_seq fx k hfx x _ _ ⟨fun _ _ => ⟨rfl, rfl, rfl, rfl, rfl, rfl, rfl, rfl⟩, fun _ _ => rfl, fun _ _ => rfl, rfl, rfl, rfl, rfl⟩ hx ht hN hc ha hty) (fun r7 u7 h7 => ?_)
  rw [hQ]
  rcases h7 b q [] fs nA nC hl with ⟨j', b1, b2⟩ | ⟨es, a', nA', nC', b1, b0, b2⟩
  · exact Or.inl ⟨j', b1, gq_expr12w fx x S u7 199 _ _ b2⟩
  · have b2 : gq_P tx ty (5 * (6 - k) + 4) S a o n m 2 (gp_jn 4 es) a' u7 := b2
    obtain ⟨n', m', p1, p2, p3, p4, p5, p6, p7, p8, p9, p10⟩ := b2
    have c8 : Int32.toNatClampNeg (u7.1.1 2 o) = n' - 1 := gp_cl_n (by omega)
    refine gq_expr12 fx k hfx x S u7 hx ht hN.2.2.1 hc ha hl 200 0 0 _ es [] a' (o + 1) n' m' nA' nC' (by decide) (by omega) p6 (by omega) b1 b0 (gq_N_E p1 ⟨rfl, rfl, rfl, rfl, rfl, rfl, rfl, rfl, rfl, rfl, rfl, rfl, rfl, rfl⟩ p1.2.1) (gq_X_E p2 ⟨rfl, rfl, rfl, rfl, rfl, rfl, rfl, rfl, rfl, rfl, rfl, rfl, rfl, rfl⟩ ⟨rfl, rfl, rfl, rfl⟩) (by omega) (by omega) p4 ⟨o, rfl, ?_, ?_, rfl⟩ (gq_cv_E p10 ⟨rfl, rfl, rfl, rfl, rfl, rfl, rfl, rfl, rfl, rfl, rfl, rfl, rfl, rfl⟩) (by omega)
    · show 0 ≤ (u7.1.1 2 o).toInt
      omega
    · show Int32.toNatClampNeg (u7.1.1 2 o) < n' ∧ _
      rw [show Int32.toNatClampNeg (va_up S.1.1 2 (u7.1.1 2) 2 o) = n' - 1 from c8]
      exact ⟨by omega, gq_Rk_E p9 ⟨rfl, rfl, rfl, rfl, rfl, rfl, rfl, rfl, rfl, rfl, rfl, rfl, rfl, rfl⟩⟩
theorem gq_ring (tx : Nat → Int) (ty : Nat) : ∀ (d k : Nat), k + d = 7 → 1 ≤ d → gq_Hx tx ty (gm_g_Reader_readExpression d) k := by
  intro d
  induction d with
  | zero => intro k _ h; exact absurd h (by omega)
  | succ d ih =>
    intro k hk _ y V0 V a o n m hX hy ht hN hc ha hty
    have h := gq_expr (gm_g_Reader_readExpression d) k (fun h6 => ih (k + 1) (by omega) (by omega)) y V hy ht hN hc ha hty
    rw [gm_g_Reader_readExpression]
    intro b q fs nA nC hl
    rcases h b q fs nA nC hl with h | ⟨is, as, a', nA', nC', h1, h2, h3, h4⟩
    · exact Or.inl h
    · exact Or.inr ⟨is, as, a', nA', nC', h1, h2, h3, gq_P_X h4 hX⟩
