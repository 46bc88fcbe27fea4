/-! The class's reader against the machine over expressions: a piece. -/
def gq_pcR (tx : Nat → Int) (ty k : Nat) (S : gq_St) (a o n m : Nat) (F : gp_Fm) (fs : List gp_Fm) (nA nC : Nat) (z : Int32 × gq_St) : Prop := (∃ j, gq_bad tx ty (a, 0, F :: fs, nA, nC) j ∧ gq_W z.2 j) ∨ (∃ e a' nA' nC', gq_to tx ty (a, 0, F :: fs, nA, nC) (a', 0, gp_ps e (F :: fs), nA', nC') ∧ gq_P tx ty (5 * (6 - k) + 3) S a o n m 0 e a' z.2)
def gq_pcQ (tx : Nat → Int) (ty k : Nat) (S : gq_St) (a o n m : Nat) (z : Int32 × gq_St) : Prop := ∀ (F : gp_Fm) (fs : List gp_Fm) (nA nC : Nat), fs.length = k → gq_pcR tx ty k S a o n m F fs nA nC z
/-- the sign before a piece: its character and its kind -/
def gq_sgn (p : Int) (k0 : Int32) : Prop := (p = 0 ∧ k0 = -1) ∨ (p = 38 ∧ k0 = 7) ∨ (p = 33 ∧ k0 = 8)
theorem gq_p92w (fx : Int32 → gq_St → Int32 × gq_St) (x : Int32) (S : gq_St) (r8 : Int32) (u8 : gq_St) (k0 : Int32) (V u37 : gq_St) (r43 : Int32) (u43 W : gq_St) {j : Nat} (h : gq_W W j) : gq_W (gm_f_Reader_readPiece_j92 fx x S r8 u8 k0 V u37 r43 u43 W).2 j := by
  obtain ⟨Q, hQ⟩ : ∃ Q : Int32 × gq_St → Prop, Q = fun z => gq_W z.2 j := ⟨_, rfl⟩
  show (fun z : Int32 × gq_St => gq_W z.2 j) (gm_f_Reader_readPiece_j92 fx x S r8 u8 k0 V u37 r43 u43 W)
  rw [← hQ]
  unfold gm_f_Reader_readPiece_j92
  refine gq_if (Q := Q) (fun _ => ?_) (fun _ => ?_)
  · rw [hQ]; exact h
  · refine gq_cb (Q := Q) (fun _ => True) trivial (fun r u _ => ?_)
    rw [hQ]; exact h
theorem gq_p92 {tx : Nat → Int} {ty K : Nat} (fx : Int32 → gq_St → Int32 × gq_St) (x : Int32) (S : gq_St) (r8 : Int32) (u8 : gq_St) (k0 : Int32) (V u37 : gq_St) (r43 : Int32) (u43 W : gq_St) {a a1 o n m a3 : Nat} {p : Int} {e : Lean.ParserDescr} (ho : (S.1.2.2 3).toInt = o) (hs : gq_sgn p k0) (h1 : (p = 0 ∧ a1 = a) ∨ a1 = a + 1) (h50 : ty ≤ 50) (hc : 2 * n + 6 ≤ 3 * a) (h : gq_P tx ty K S a1 o n m 0 e a3 W) : gq_P tx ty (K + 1) S a o n m 0 (gp_sn p e) a3 (gm_f_Reader_readPiece_j92 fx x S r8 u8 k0 V u37 r43 u43 W).2 := by
  obtain ⟨Q, hQ⟩ : ∃ Q : Int32 × gq_St → Prop, Q = fun z => gq_P tx ty (K + 1) S a o n m 0 (gp_sn p e) a3 z.2 := ⟨_, rfl⟩
  show (fun z : Int32 × gq_St => gq_P tx ty (K + 1) S a o n m 0 (gp_sn p e) a3 z.2) (gm_f_Reader_readPiece_j92 fx x S r8 u8 k0 V u37 r43 u43 W)
  rw [← hQ]
  have hh := h
  obtain ⟨n', m', q1, q2, q3, q4, q5, q6, q7, q8, q9, q10⟩ := hh
  unfold gm_f_Reader_readPiece_j92
  refine gq_if (Q := Q) (fun e0 => ?_) (fun e0 => ?_)
  · have p0 : p = 0 := by
      rcases hs with ⟨hs, -⟩ | ⟨-, hs⟩ | ⟨-, hs⟩
      · exact hs
      · rw [hs] at e0; exact absurd e0 (by decide)
      · rw [hs] at e0; exact absurd e0 (by decide)
    rw [hQ, p0]
    exact gq_P_E (gq_P_k (Nat.le_succ K) h) (gq_X_r S o n m) ⟨rfl, rfl, rfl, rfl, rfl, rfl, rfl, rfl, rfl, rfl, rfl, rfl, rfl, rfl⟩ ⟨rfl, rfl, rfl, rfl⟩ q1.2.1 (Nat.le_refl _) q6 (by omega) (by omega)
  · have hp : a1 = a + 1 := by
      rcases h1 with ⟨h1, -⟩ | h1
      · rcases hs with ⟨-, hs⟩ | ⟨hs, -⟩ | ⟨hs, -⟩
        · exact absurd hs e0
        · omega
        · omega
      · exact h1
    have one : gq_one k0 e (gp_sn p e) := by
      rcases hs with ⟨-, hs⟩ | ⟨hs, hk⟩ | ⟨hs, hk⟩
      · exact absurd hs e0
      · rw [hs, hk]; exact Or.inr (Or.inr (Or.inr (Or.inl ⟨gx_lit 7 (by decide), rfl⟩)))
      · rw [hs, hk]; exact Or.inr (Or.inr (Or.inr (Or.inr (Or.inl ⟨gx_lit 8 (by decide), rfl⟩))))
    have P0 : gq_P tx ty K S a o n m (-3) e a3 W := gq_P_E h (gq_X_r S o n m) ⟨rfl, rfl, rfl, rfl, rfl, rfl, rfl, rfl, rfl, rfl, rfl, rfl, rfl, rfl⟩ (gq_B_X q2) q1.2.1 (Nat.le_refl _) q6 (by omega) (by omega)
    refine gq_cb (Q := Q) (gq_j1Q tx ty (K + 1) S a o n m 0 (gp_sn p e) a3) (gq_join1V k0 (S.1.2.2 3) _ P0 ⟨rfl, rfl, rfl, rfl, rfl, rfl, rfl, rfl, rfl, rfl, rfl, rfl, rfl, rfl⟩ ⟨rfl, rfl, rfl, rfl⟩ q1.2.1 (Nat.le_refl _) q6 ho one h50 (by omega) (by omega)) (fun r u hu => ?_)
    have hu : gq_P tx ty (K + 1) S a o n m 0 (gp_sn p e) a3 u := hu
    rw [hQ]
    have hu' := hu
    obtain ⟨n2, m2, y1, -, -, -, -, y6, -⟩ := hu'
    exact gq_P_E hu (gq_X_r S o n m) ⟨q1.1.trans y1.1.symm, rfl, rfl, rfl, rfl, rfl, rfl, rfl, rfl, rfl, rfl, rfl, rfl, rfl⟩ ⟨rfl, rfl, rfl, rfl⟩ q1.2.1 (Nat.le_refl _) q6 (by omega) (by omega)
theorem gq_piece34 {tx : Nat → Int} {ty : Nat} (fx : Int32 → gq_St → Int32 × gq_St) (k : Nat) (hfx : k < 6 → gq_Hx tx ty fx (k + 1)) (x : Int32) (S : gq_St) (hx : x.toInt = k) (ht : gp_tx (S.2.1.2.2 1) (S.2.1.1 0) tx ty) (r8 : Int32) (u8 : gq_St) (k0 v : Int32) {a a1 o n m : Nat} (hN : gq_N S a o n m) (hv : v.toInt = a1) (hc : 2 * n + 6 ≤ 3 * a) (ha : 1 ≤ a) (hty : a1 ≤ ty) {p : Int} (hs : gq_sgn p k0) (h1 : (p = 0 ∧ a1 = a) ∨ a1 = a + 1) (hp : p ≠ 0 ∨ (gq_bp (gq_pk tx ty a1) ∧ ¬ gq_pk tx ty a1 = 38 ∧ ¬ gq_pk tx ty a1 = 33)) {F : gp_Fm} {fs : List gp_Fm} {nA nC nA1 nC1 : Nat} (hl : fs.length = k) (hm : gq_to tx ty (a, 0, F :: fs, nA, nC) (a1, p, F :: fs, nA1, nC1)) : gq_pcR tx ty k S a o n m F fs nA nC (gm_f_Reader_readPiece_j34 fx x S r8 u8 k0 ((S.1.1, S.1.2.1, va_up S.1.2.2 4 v), S.2.1, S.2.2)) := by
  obtain ⟨Q, hQ⟩ : ∃ Q, Q = gq_pcR tx ty k S a o n m F fs nA nC := ⟨_, rfl⟩
  rw [← hQ]
  have ht' := ht
  obtain ⟨t1, t2, t3⟩ := ht'
  have ho := hN.2.2.1
  have l63 : (63 : Int32).toInt = 63 := gx_lit 63 (by decide)
  have l42 : (42 : Int32).toInt = 42 := gx_lit 42 (by decide)
  have l43 : (43 : Int32).toInt = 43 := gx_lit 43 (by decide)
  have n10 : ¬ (1 : Int32) = 0 := by decide
  unfold gm_f_Reader_readPiece_j34
  refine gq_cb (Q := Q) (gq_prQ tx ty k S a1 o n m) (gq_primary fx k hfx x _ _ ⟨fun _ _ => ⟨rfl, rfl, rfl, rfl, rfl, rfl, rfl, rfl⟩, fun _ _ => rfl, fun _ _ => rfl, rfl, rfl, rfl, rfl⟩ hx ht (gq_N_E hN ⟨rfl, rfl, rfl, rfl, rfl, rfl, rfl, rfl, rfl, rfl, rfl, rfl, rfl, rfl⟩ hv) (by omega) (by omega) hty) (fun r37 u37 h37 => ?_)
  rcases h37 p F fs nA1 nC1 hl hp with ⟨j, b1, b2⟩ | ⟨e, a2, nA2, nC2, b1, b2⟩
  · have fin : ∀ (V : gq_St) (r43 : Int32) (u43 W : gq_St), gq_W W j → Q (gm_f_Reader_readPiece_j92 fx x S r8 u8 k0 V u37 r43 u43 W) := by
      intro V r43 u43 W hW
      rw [hQ]
      exact Or.inl ⟨j, gq_to_b hm b1, gq_p92w fx x S r8 u8 k0 V u37 r43 u43 W hW⟩
    have b2' : u37.1.2.2 5 = 1 := b2.1
    refine gq_cb (Q := Q) (gq_twQ u37) (gq_take_w' 63 _ _ b2' rfl) (fun r43 u43 h43 => ?_)
    have e43 : r43 = 0 := h43.1
    have f43 : u43.1.2.2 4 = u37.1.2.2 4 := h43.2
    rw [e43, if_pos rfl]
    refine gq_cb (Q := Q) (gq_twQ u43) (gq_take_w' 42 _ _ b2' rfl) (fun r61 u61 h61 => ?_)
    have e61 : r61 = 0 := h61.1
    have f61 : u61.1.2.2 4 = u43.1.2.2 4 := h61.2
    rw [e61, if_pos rfl]
    refine gq_cb (Q := Q) (gq_twQ u61) (gq_take_w' 43 _ _ b2' rfl) (fun r79 u79 h79 => ?_)
    have e79 : r79 = 0 := h79.1
    have f79 : u79.1.2.2 4 = u61.1.2.2 4 := h79.2
    rw [e79, if_pos rfl]
    refine fin _ _ _ _ ⟨b2', ?_⟩
    show (u79.1.2.2 4).toInt = j
    rw [f79, f61, f43]
    exact b2.2
  · have b2' := b2
    obtain ⟨n', m', q1, q2, q3, q4, q5, q6, q7, q8, q9, q10⟩ := b2'
    have fin : ∀ (V : gq_St) (r43 : Int32) (u43 W : gq_St), gq_P tx ty (5 * (6 - k) + 2) S a1 o n m 0 (gp_sx (gp_pk tx ty a2) e) (gp_sa (gp_pk tx ty a2) a2) W → Q (gm_f_Reader_readPiece_j92 fx x S r8 u8 k0 V u37 r43 u43 W) := by
      intro V r43 u43 W hW
      rw [hQ]
      exact Or.inr ⟨gp_sn p (gp_sx (gp_pk tx ty a2) e), gp_sa (gp_pk tx ty a2) a2, _, _, gq_to_t hm b1, gq_p92 fx x S r8 u8 k0 V u37 r43 u43 W ho hs h1 t2 hc hW⟩
    have suf : ∀ (V : gq_St) (kk : Int32) (e2 : Lean.ParserDescr), gq_one kk e e2 → gq_E u37 V → gq_B S V → (V.1.2.2 4).toInt = ((a2 + 1 : Nat) : Int) → a2 < ty → gq_j1Q tx ty (5 * (6 - k) + 2) S a1 o n m 0 e2 (a2 + 1) (gm_f_Reader_join kk (S.1.2.2 3) V) := by
      intro V kk e2 g1 g2 g3 g4 g5
      exact gq_join1 kk (S.1.2.2 3) (gq_P_E (k := -3) b2 (gq_X_r S o n m) g2 g3 g4 (by omega) (by omega) (Nat.le_refl _) (by omega)) ho g1 t2 (by omega) (by omega)
    refine gq_cb (Q := Q) (gq_tkQ tx ty 63 a2) (gq_take' 63 _ ht q1.1 q1.2.1 (by omega)) (fun r43 u43 h43 => ?_)
    rcases h43 with ⟨c1, c2, c3⟩ | ⟨c1, c2, c3⟩
    · have c2 : r43 = 1 := c2
      rw [l63] at c1
      have lt := gq_pk_lt (tx := tx) (ty := ty) (i := a2) (by omega)
      have g := (gq_pk_eq (tx := tx) (ty := ty) (i := a2) 63 (by decide)).mp c1
      rw [c2, if_neg n10]
      refine gq_cb (Q := Q) (gq_j1Q tx ty (5 * (6 - k) + 2) S a1 o n m 0 (gp_e1 6 e) (a2 + 1)) (suf _ 4 _ (Or.inl ⟨gx_lit 4 (by decide), rfl⟩) ⟨rfl, rfl, rfl, rfl, rfl, rfl, rfl, rfl, rfl, rfl, rfl, rfl, rfl, rfl⟩ ⟨rfl, rfl, rfl, rfl⟩ c3 lt.1) (fun r u hu => fin _ _ _ _ ?_)
      have hu : gq_P tx ty (5 * (6 - k) + 2) S a1 o n m 0 (gp_e1 6 e) (a2 + 1) u := hu
      have hu' := hu
      obtain ⟨n2, m2, y1, -, -, -, -, y6, -⟩ := hu'
      rw [g]
      show gq_P tx ty (5 * (6 - k) + 2) S a1 o n m 0 (gp_e1 6 e) (a2 + 1) _
      exact gq_P_E hu (gq_X_r S o n m) ⟨q1.1.trans y1.1.symm, rfl, rfl, rfl, rfl, rfl, rfl, rfl, rfl, rfl, rfl, rfl, rfl, rfl⟩ ⟨rfl, rfl, rfl, rfl⟩ c3 (Nat.le_refl _) y6 (by omega) (by omega)
    have c2 : r43 = 0 := c2
    rw [l63] at c1
    rw [c2, if_pos rfl]
    refine gq_cb (Q := Q) (gq_tkQ tx ty 42 a2) (gq_take' 42 _ ht q1.1 c3 (by omega)) (fun r61 u61 h61 => ?_)
    rcases h61 with ⟨d1, d2, d3⟩ | ⟨d1, d2, d3⟩
    · have d2 : r61 = 1 := d2
      rw [l42] at d1
      have lt := gq_pk_lt (tx := tx) (ty := ty) (i := a2) (by omega)
      have g := (gq_pk_eq (tx := tx) (ty := ty) (i := a2) 42 (by decide)).mp d1
      rw [d2, if_neg n10]
      refine gq_cb (Q := Q) (gq_j1Q tx ty (5 * (6 - k) + 2) S a1 o n m 0 (gp_e1 7 e) (a2 + 1)) (suf _ 5 _ (Or.inr (Or.inl ⟨gx_lit 5 (by decide), rfl⟩)) ⟨rfl, rfl, rfl, rfl, rfl, rfl, rfl, rfl, rfl, rfl, rfl, rfl, rfl, rfl⟩ ⟨rfl, rfl, rfl, rfl⟩ d3 lt.1) (fun r u hu => fin _ _ _ _ ?_)
      have hu : gq_P tx ty (5 * (6 - k) + 2) S a1 o n m 0 (gp_e1 7 e) (a2 + 1) u := hu
      have hu' := hu
      obtain ⟨n2, m2, y1, -, -, -, -, y6, -⟩ := hu'
      rw [g]
      show gq_P tx ty (5 * (6 - k) + 2) S a1 o n m 0 (gp_e1 7 e) (a2 + 1) _
      exact gq_P_E hu (gq_X_r S o n m) ⟨q1.1.trans y1.1.symm, rfl, rfl, rfl, rfl, rfl, rfl, rfl, rfl, rfl, rfl, rfl, rfl, rfl⟩ ⟨rfl, rfl, rfl, rfl⟩ d3 (Nat.le_refl _) y6 (by omega) (by omega)
    have d2 : r61 = 0 := d2
    rw [l42] at d1
    rw [d2, if_pos rfl]
    refine gq_cb (Q := Q) (gq_tkQ tx ty 43 a2) (gq_take' 43 _ ht q1.1 d3 (by omega)) (fun r79 u79 h79 => ?_)
    rcases h79 with ⟨f1, f2, f3⟩ | ⟨f1, f2, f3⟩
    · have f2 : r79 = 1 := f2
      rw [l43] at f1
      have lt := gq_pk_lt (tx := tx) (ty := ty) (i := a2) (by omega)
      have g := (gq_pk_eq (tx := tx) (ty := ty) (i := a2) 43 (by decide)).mp f1
      rw [f2, if_neg n10]
      refine gq_cb (Q := Q) (gq_j1Q tx ty (5 * (6 - k) + 2) S a1 o n m 0 (gp_ep e) (a2 + 1)) (suf _ 6 _ (Or.inr (Or.inr (Or.inl ⟨gx_lit 6 (by decide), rfl⟩))) ⟨rfl, rfl, rfl, rfl, rfl, rfl, rfl, rfl, rfl, rfl, rfl, rfl, rfl, rfl⟩ ⟨rfl, rfl, rfl, rfl⟩ f3 lt.1) (fun r u hu => fin _ _ _ _ ?_)
      have hu : gq_P tx ty (5 * (6 - k) + 2) S a1 o n m 0 (gp_ep e) (a2 + 1) u := hu
      have hu' := hu
      obtain ⟨n2, m2, y1, -, -, -, -, y6, -⟩ := hu'
      rw [g]
      show gq_P tx ty (5 * (6 - k) + 2) S a1 o n m 0 (gp_ep e) (a2 + 1) _
      exact gq_P_E hu (gq_X_r S o n m) ⟨q1.1.trans y1.1.symm, rfl, rfl, rfl, rfl, rfl, rfl, rfl, rfl, rfl, rfl, rfl, rfl, rfl⟩ ⟨rfl, rfl, rfl, rfl⟩ f3 (Nat.le_refl _) y6 (by omega) (by omega)
    · have f2 : r79 = 0 := f2
      rw [l43] at f1
      rw [f2, if_pos rfl]
      refine fin _ _ _ _ ?_
      have ee : ∀ c : Int, 0 < c → ¬ gq_pk tx ty a2 = c → ¬ gp_pk tx ty a2 = c := fun c hc w v => w ((gq_pk_eq c hc).mpr v)
      have k1 := ee 63 (by decide) c1
      have k2 := ee 42 (by decide) d1
      have k3 := ee 43 (by decide) f1
      have s1 : gp_sx (gp_pk tx ty a2) e = e := by
        unfold gp_sx
        rw [if_neg k1, if_neg k2, if_neg k3]
      have s2 : gp_sa (gp_pk tx ty a2) a2 = a2 := by
        unfold gp_sa
        rw [if_neg (by omega)]
      rw [s1, s2]
      exact gq_P_E (gq_P_k (Nat.le_succ _) b2) (gq_X_r S o n m) ⟨rfl, rfl, rfl, rfl, rfl, rfl, rfl, rfl, rfl, rfl, rfl, rfl, rfl, rfl⟩ ⟨rfl, rfl, rfl, rfl⟩ f3 (Nat.le_refl _) q6 (Nat.le_refl _) (by omega)
theorem gq_piece {tx : Nat → Int} {ty : Nat} (fx : Int32 → gq_St → Int32 × gq_St) (k : Nat) (hfx : k < 6 → gq_Hx tx ty fx (k + 1)) (x : Int32) (S : gq_St) (hx : x.toInt = k) (ht : gp_tx (S.2.1.2.2 1) (S.2.1.1 0) tx ty) {a o n m : Nat} (hN : gq_N S a o n m) (hc : 2 * n + 6 ≤ 3 * a) (ha : 1 ≤ a) (hty : a ≤ ty) (hb : gq_bp (gq_pk tx ty a)) : gq_pcQ tx ty k S a o n m (gm_f_Reader_readPiece fx x S) := by
  intro F fs nA nC hl
  obtain ⟨Q, hQ⟩ : ∃ Q, Q = gq_pcR tx ty k S a o n m F fs nA nC := ⟨_, rfl⟩
  rw [← hQ]
  have t2 := ht.2.1
  have l38 : (38 : Int32).toInt = 38 := gx_lit 38 (by decide)
  have l33 : (33 : Int32).toInt = 33 := gx_lit 33 (by decide)
  have n10 : ¬ (1 : Int32) = 0 := by decide
  have sgn : ∀ c : Int, (c = 38 ∨ c = 33) → gq_pk tx ty a = c → gp_ms tx ty (a, 0, F :: fs, nA, nC) = .inr (.inl (a + 1, c, F :: fs, nA, nC)) := by
    intro c hc1 hc2
    have e : gp_pk tx ty a = c := (gq_pk_eq c (by omega)).mp hc2
    rw [gq_ms_no (by unfold gq_inm; omega) (by omega) (by omega) (by omega) (by omega), if_pos rfl, e]
    unfold gp_sg
    rw [if_pos hc1]
  unfold gm_f_Reader_readPiece
  refine gq_cb (Q := Q) (gq_tkQ tx ty 38 a) (gq_take' 38 _ ht hN.1 hN.2.1 (by omega)) (fun r8 u8 h8 => ?_)
  rcases h8 with ⟨c1, c2, c3⟩ | ⟨c1, c2, c3⟩
  · have c2 : r8 = 1 := c2
    rw [l38] at c1
    have lt := gq_pk_lt (tx := tx) (ty := ty) (i := a) (by omega)
    rw [c2, if_neg n10, hQ]
    exact gq_piece34 fx k hfx x S hx ht _ _ 7 _ hN c3 hc ha (by omega) (p := 38) (Or.inr (Or.inl ⟨rfl, rfl⟩)) (Or.inr rfl) (Or.inl (by decide)) hl (gq_to_1 (sgn 38 (Or.inl rfl) c1))
  have c2 : r8 = 0 := c2
  rw [l38] at c1
  rw [c2, if_pos rfl]
  refine gq_cb (Q := Q) (gq_tkQ tx ty 33 a) (gq_take' 33 _ ht hN.1 c3 (by omega)) (fun r22 u22 h22 => ?_)
  rcases h22 with ⟨d1, d2, d3⟩ | ⟨d1, d2, d3⟩
  · have d2 : r22 = 1 := d2
    rw [l33] at d1
    have lt := gq_pk_lt (tx := tx) (ty := ty) (i := a) (by omega)
    rw [d2, if_neg n10, hQ]
    exact gq_piece34 fx k hfx x S hx ht _ _ 8 _ hN d3 hc ha (by omega) (p := 33) (Or.inr (Or.inr ⟨rfl, rfl⟩)) (Or.inr rfl) (Or.inl (by decide)) hl (gq_to_1 (sgn 33 (Or.inr rfl) d1))
  · have d2 : r22 = 0 := d2
    rw [l33] at d1
    rw [d2, if_pos rfl, hQ]
    exact gq_piece34 fx k hfx x S hx ht _ _ (-1) _ hN d3 hc ha hty (p := 0) (Or.inl ⟨rfl, rfl⟩) (Or.inl ⟨rfl, rfl⟩) (Or.inr ⟨hb, c1, d1⟩) hl (gq_to_r _)
