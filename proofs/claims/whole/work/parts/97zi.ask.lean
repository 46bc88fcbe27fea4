/-! Both sides are asked: empty and head. -/
theorem gq_us64 : ∀ q : Nat, q < 64 → (UInt64.ofNat q).toBitVec % 64 = BitVec.ofNat 64 q := by decide +kernel
theorem gq_bit64 (v : Int64) (q : Nat) (hq : q < 64) : ((v.toUInt64 >>> UInt64.ofNat q).toInt64 &&& 1) = 0 ↔ gp_bl v q = false := by
  rw [← Int64.toBitVec_inj, Int64.toBitVec_and]
  have e : (v.toUInt64 >>> UInt64.ofNat q).toInt64.toBitVec = v.toBitVec >>> q := by
    show (v.toUInt64 >>> UInt64.ofNat q).toBitVec = _
    rw [UInt64.toBitVec_shiftRight, gq_us64 q hq, BitVec.ushiftRight_eq', BitVec.toNat_ofNat, Nat.mod_eq_of_lt (by omega)]
    rfl
  have o : (1 : Int64).toBitVec = 1#64 := rfl
  rw [e, o, BitVec.and_one_eq_setWidth_ofBool_getLsbD, BitVec.getLsbD_ushiftRight, Nat.add_zero]
  unfold gp_bl
  cases v.toBitVec.getLsbD q
  · exact ⟨fun _ => rfl, fun _ => rfl⟩
  · exact ⟨fun h => absurd h (by decide), fun h => by cases h⟩
theorem gq_sq_lo : ∀ j : Nat, j < 64 → (nI (j + 32) - 32).toInt64.toUInt64 &&& Int64.toUInt64 63 = UInt64.ofNat j := by decide +kernel
theorem gq_sq_hi : ∀ j : Nat, j < 31 → ((nI (j + 96) - 32) - 64).toInt64.toUInt64 &&& Int64.toUInt64 63 = UInt64.ofNat j := by decide +kernel
def gs_haQ (T : gm_S) (x y : Int32) (z : Int32 × gm_S) : Prop := (z.1 = 0 ∧ ¬ gp_ih (T.2.1 7) (T.2.1 8) (Int32.toNatClampNeg x) y.toInt) ∨ (z.1 = 1 ∧ gp_ih (T.2.1 7) (T.2.1 8) (Int32.toNatClampNeg x) y.toInt)
theorem gs_holds (x y : Int32) (T : gm_S) (hx : 0 ≤ x.toInt) (hx2 : x.toInt < (T.2.2 11).toInt) : gs_haQ T x y (gm_f_Tree_holds x y T) := by
  obtain ⟨Q, hQ⟩ : ∃ Q : Int32 × gm_S → Prop, Q = (gs_haQ T x y) := ⟨_, rfl⟩
  rw [← hQ]
  have yes : gp_ih (T.2.1 7) (T.2.1 8) (Int32.toNatClampNeg x) y.toInt → Q (1, T) := fun h => by rw [hQ]; exact Or.inr ⟨rfl, h⟩
  have no : ¬ gp_ih (T.2.1 7) (T.2.1 8) (Int32.toNatClampNeg x) y.toInt → Q (0, T) := fun h => by rw [hQ]; exact Or.inl ⟨rfl, h⟩
  unfold gm_f_Tree_holds
  refine gf_if (Q := Q) (fun q => ?_) (fun _ => ?_)
  · have q1 := gx_ltr (k := 0) (by decide) q
    exfalso; omega
  refine gf_if (Q := Q) (fun q => ?_) (fun _ => ?_)
  · have q1 := gx_le q
    exfalso; omega
  refine gf_if (Q := Q) (fun q => ?_) (fun q => ?_)
  · have q1 := gx_ltr (k := 32) (gx_lit 32 (by decide)) q
    exact no (fun h => by unfold gp_ih at h; omega)
  have q1 := gx_ltnr (k := 32) (gx_lit 32 (by decide)) q
  refine gf_if (Q := Q) (fun q => ?_) (fun q => ?_)
  · have q2 := gx_ler (k := 126) (gx_lit 126 (by decide)) q
    have ey : y = nI (Int32.toNatClampNeg y) := by
      obtain ⟨j, hj, e⟩ := nI_of (x := y) (fun h9 => by have := gx_ltr (k := 0) (by decide) h9; omega)
      rw [e, nI_clamp hj]
    have cy := gx_cl y (by omega)
    have s32 := gx_sk y 32 32 (gx_lit 32 (by decide))
    refine gf_if (Q := Q) (fun q => ?_) (fun q => ?_)
    · have q3 := gx_lel (k := 64) (gx_lit 64 (by decide)) q
      have e1 : ((y - 32) - 64).toInt64.toUInt64 &&& Int64.toUInt64 63 = UInt64.ofNat (y.toInt - 96).toNat := by
        have := gq_sq_hi (y.toInt - 96).toNat (by omega)
        rw [show (y.toInt - 96).toNat + 96 = Int32.toNatClampNeg y by omega, ← ey] at this
        exact this
      rw [e1]
      refine gf_if (Q := Q) (fun t => no ?_) (fun t => yes ?_)
      · rw [gp_cmp0, gq_bit64 _ _ (by omega)] at t
        rintro (h | h)
        · omega
        · rw [t] at h; exact absurd h.2.2 (by decide)
      · rw [gp_cmp0, gq_bit64 _ _ (by omega)] at t
        exact Or.inr ⟨by omega, q2, by rw [Bool.not_eq_false] at t; exact t⟩
    · have q3 := gx_lenl (k := 64) (gx_lit 64 (by decide)) q
      have e1 : (y - 32).toInt64.toUInt64 &&& Int64.toUInt64 63 = UInt64.ofNat (y.toInt - 32).toNat := by
        have := gq_sq_lo (y.toInt - 32).toNat (by omega)
        rw [show (y.toInt - 32).toNat + 32 = Int32.toNatClampNeg y by omega, ← ey] at this
        exact this
      rw [e1]
      refine gf_if (Q := Q) (fun t => no ?_) (fun t => yes ?_)
      · rw [gp_cmp0, gq_bit64 _ _ (by omega)] at t
        rintro (h | h)
        · rw [t] at h; exact absurd h.2.2 (by decide)
        · omega
      · rw [gp_cmp0, gq_bit64 _ _ (by omega)] at t
        exact Or.inl ⟨q1, by omega, by rw [Bool.not_eq_false] at t; exact t⟩
  · have q2 := gx_lenr (k := 126) (gx_lit 126 (by decide)) q
    exact no (fun h => by unfold gp_ih at h; omega)
def gs_aQ (T : gm_S) (R r : Nat) (z : Int32 × gm_S) : Prop := (r = R ∧ z.1 = -1) ∨ (r < R ∧ z.1 = T.1 10 r)
theorem gs_rootOf (x : Int32) (T : gm_S) {R : Nat} {f : Nat → Int × Lean.ParserDescr} (h9 : ∀ r, r < R → (T.1 9 r).toInt = (f r).1) (hR : (T.2.2 13).toInt = R) (h8 : R ≤ 8) : gs_aQ T R (gq_fx f x.toInt R) (gm_f_Tree_rootOf x T) := by
  have d1 : (-1 : Int32).toInt = -1 := by decide
  unfold gm_f_Tree_rootOf
  refine gf_ca (Q := gs_aQ T R (gq_fx f x.toInt R)) (gq_ruQ T x R) (gq_ruleOf x T T rfl hR h8) (fun r u hr => ?_)
  rcases hr with ⟨hr, hn⟩ | ⟨k, hk, hr, h1, h2⟩
  · have hr : r = -1 := hr
    refine gf_if (Q := gs_aQ T R (gq_fx f x.toInt R)) (fun _ => Or.inl ⟨gq_fx_no R (fun k hk e => hn k hk (Int32.toInt_inj.mp (by rw [h9 k hk, e]))), rfl⟩) (fun q => absurd hr q)
  · have hr : r.toInt = (k : Nat) := hr
    refine gf_if (Q := gs_aQ T R (gq_fx f x.toInt R)) (fun q => ?_) (fun q => ?_)
    · rw [q, d1] at hr
      exfalso; omega
    · have e : gq_fx f x.toInt R = k := gq_fx_at (by rw [← h9 k hk, h1]) (fun j hj e => h2 j hj (Int32.toInt_inj.mp (by rw [h9 j (by omega), e]))) R hk
      have cr := gx_cl r (by omega)
      refine Or.inr ⟨by omega, ?_⟩
      show T.1 10 (Int32.toNatClampNeg r) = T.1 10 (gq_fx f x.toInt R)
      rw [e, show Int32.toNatClampNeg r = k by omega]
def gs_kQ (S : gm_S) (R r : Nat) (z : Int32 × gm_S) : Prop := (r = R ∧ z.2.2.2 0 = 2) ∨ (r < R ∧ z.2.2.2 0 = 0 ∧ z.1 = S.1 8 (8 * Int32.toNatClampNeg (S.2.2 4) + r))
theorem gs_asked (x : Int32) (S : gm_S) {tx : Nat → Int} {ty R : Nat} {f : Nat → Int × Lean.ParserDescr} (hb : ¬ S.2.2 4 = -1) (hH : gs_half tx ty R f (S.2.2 4) S) : gs_kQ S R (gq_fx f x.toInt R) (gm_f_MD_asked x S) := by
  obtain ⟨Pg, nA, nC, ⟨t, t1, t2, hU⟩, hG, -⟩ := hH
  obtain ⟨⟨f0, f1⟩, ⟨p0, p1⟩, ⟨r0, r1⟩, hS, hN⟩ := hU
  have g1 := hG.1
  have cf := gx_cl (S.2.2 4) f0
  have m8 := gx_mk 8 (S.2.2 4) 8 (gx_lit 8 (by decide))
  unfold gm_f_MD_asked
  refine gf_if (Q := gs_kQ S R (gq_fx f x.toInt R)) (fun q => absurd q hb) (fun _ => ?_)
  refine gf_ca (Q := gs_kQ S R (gq_fx f x.toInt R)) (fun z : Int32 × gm_S => gp_ru (S.1 6) (S.1 7) (S.2.2 4) x z.1) (gy_s_MD_ruleOf (S.2.2 4) x S f0 f1 r1).2 (fun r u hr => ?_)
  have hr : gp_ru (S.1 6) (S.1 7) (S.2.2 4) x r := hr
  unfold gm_f_MD_asked_j21
  refine gf_if (Q := gs_kQ S R (gq_fx f x.toInt R)) (fun q => absurd q hb) (fun _ => ?_)
  refine gf_if (Q := gs_kQ S R (gq_fx f x.toInt R)) (fun q => ?_) (fun q => ?_)
  · rcases hr with ⟨-, hn⟩ | ⟨h1, -⟩
    · exact Or.inl ⟨gq_fx_no R (fun k hk e => hn k (by omega) (8 * Int32.toNatClampNeg (S.2.2 4) + k) (by omega) (Int32.toInt_inj.mp (by rw [(hG.2.1 k hk).1, e]))), rfl⟩
    · rw [q] at h1
      exact absurd h1 (by decide)
  · rcases hr with ⟨hr, -⟩ | ⟨h1, h2, h3, h4⟩
    · exact absurd hr q
    · have cr := gx_cl r h1
      have s8 := gx_ad (8 * (S.2.2 4)) r
      have c8 := gx_cl (8 * (S.2.2 4) + r) (by omega)
      have hk : Int32.toNatClampNeg r < R := by omega
      have e : gq_fx f x.toInt R = Int32.toNatClampNeg r := gq_fx_at (by rw [← (hG.2.1 _ hk).1, h3 (8 * Int32.toNatClampNeg (S.2.2 4) + Int32.toNatClampNeg r) (by omega)]) (fun j hj e => h4 j (by omega) (8 * Int32.toNatClampNeg (S.2.2 4) + j) (by omega) (Int32.toInt_inj.mp (by rw [(hG.2.1 j (by omega)).1, e]))) R hk
      refine Or.inr ⟨by omega, rfl, ?_⟩
      show S.1 8 (Int32.toNatClampNeg (8 * (S.2.2 4) + r)) = S.1 8 (8 * Int32.toNatClampNeg (S.2.2 4) + gq_fx f x.toInt R)
      rw [e, show Int32.toNatClampNeg (8 * (S.2.2 4) + r) = 8 * Int32.toNatClampNeg (S.2.2 4) + Int32.toNatClampNeg r by omega]
def gs_pair (tx : Nat → Int) (ty R : Nat) (f : Nat → Int × Lean.ParserDescr) (T C U : gm_S) : Prop := gs_cls tx ty R f T ∧ gs_half tx ty R f (U.2.2 4) U ∧ (∃ a b, gp_tx a b tx ty) ∧ (∃ nA nC, gs_rd tx ty = .inr (R, f, nA, nC)) ∧ gs_no R (gq_un f R) ∧ gs_no R (gq_wd f R) ∧ gs_cod tx ty R f T C
/-- both hold the same grammar, or none -/
def gs_GK (s0 s4 s6 s17 : gm_S) : Prop := (s0.2.2 5 = 0 ∧ s17.2.2 4 = -1) ∨ (¬ s0.2.2 5 = 0 ∧ ¬ s17.2.2 4 = -1 ∧ ∃ tx ty R f, gs_pair tx ty R f s4 s6 s17)
theorem gf_b3 {S A : Type} {x : Int32 × Int32 × S} {k h : Int32 → S → A} {Q : A → Prop} (T : Int32 × Int32 × S → Prop) (hc : T x) (h1 : ∀ r u, T (0, r, u) → Q (k r u)) (h2 : ∀ n r u, ¬ n = 0 → T (n, r, u) → Q (h n u)) : Q (gm_b3 x k h) := by
  obtain ⟨n, r, u⟩ := x
  unfold gm_b3
  by_cases q : n = 0
  · rw [if_pos q]; subst q; exact h1 r u hc
  · rw [if_neg q]; exact h2 n r u q hc
/-- how a question ends on the class's side: b the answer that is due -/
def gs_qQ {S : Type} (A : Prop) (R r : Nat) (b : Prop) (z : Int32 × Int32 × S) : Prop := (A ∧ z.1 = 2) ∨ (¬ A ∧ r = R ∧ z.1 = 4) ∨ (¬ A ∧ r < R ∧ z.1 = 0 ∧ (z.2.1 = 0 ↔ ¬ b))
def gs_lQ (A : Prop) (R r : Nat) (b : Prop) (z : Int32 × (gm_S × gm_S × gm_S × gm_S)) : Prop := (A ∧ z.1 = 1) ∨ (¬ A ∧ r = R ∧ z.1 = 2) ∨ (¬ A ∧ r < R ∧ z.1 = 0 ∧ ((b ∧ z.2.2.2.2.2.1 0 (Int32.toNatClampNeg 0) = 1) ∨ (¬ b ∧ z.2.2.2.2.2.1 0 (Int32.toNatClampNeg 0) = 0)))
def gs_mdQ (A : Prop) (R r : Nat) (b : Prop) (z : Int32 × gm_S) : Prop := (A ∧ z.2.2.2 0 = 1) ∨ (¬ A ∧ r = R ∧ z.2.2.2 0 = 2) ∨ (¬ A ∧ r < R ∧ z.2.2.2 0 = 0 ∧ ((b ∧ z.1 = 1) ∨ (¬ b ∧ z.1 = 0)))
/-- the two answers are alike -/
def gs_eQ (z : Int32 × (gm_S × gm_S × gm_S × gm_S)) (z' : Int32 × gm_S) : Prop := z'.2.2.2 0 = z.1 ∧ (z.1 = 0 → (z'.1 = 0 → z.2.2.2.2.2.1 0 (Int32.toNatClampNeg 0) = 0) ∧ (¬ z'.1 = 0 → z.2.2.2.2.2.1 0 (Int32.toNatClampNeg 0) = 1))
theorem gs_eQ_of {A : Prop} {R r : Nat} {b : Prop} {z : Int32 × (gm_S × gm_S × gm_S × gm_S)} {z' : Int32 × gm_S} (h : gs_lQ A R r b z) (h' : gs_mdQ A R r b z') : gs_eQ z z' := by
  rcases h with ⟨a, h⟩ | ⟨a, e, h⟩ | ⟨a, e, h, hb⟩
  · rcases h' with ⟨-, h'⟩ | ⟨a', -⟩ | ⟨a', -⟩
    · exact ⟨by rw [h, h'], fun q => absurd q (by rw [h]; decide)⟩
    · exact absurd a a'
    · exact absurd a a'
  · rcases h' with ⟨a', -⟩ | ⟨-, -, h'⟩ | ⟨-, e', -⟩
    · exact absurd a' a
    · exact ⟨by rw [h, h'], fun q => absurd q (by rw [h]; decide)⟩
    · exfalso; omega
  · rcases h' with ⟨a', -⟩ | ⟨-, e', -⟩ | ⟨-, -, h', hb'⟩
    · exact absurd a' a
    · exfalso; omega
    · refine ⟨by rw [h, h'], fun _ => ⟨fun q => ?_, fun q => ?_⟩⟩
      · rcases hb' with ⟨-, w⟩ | ⟨w, -⟩
        · rw [w] at q; exact absurd q (by decide)
        · rcases hb with ⟨w', -⟩ | ⟨-, w'⟩
          · exact absurd w' w
          · exact w'
      · rcases hb' with ⟨w, -⟩ | ⟨-, w⟩
        · rcases hb with ⟨-, w'⟩ | ⟨w', -⟩
          · exact w'
          · exact absurd w w'
        · exact absurd w q
theorem gs_emptyC (x : Int32) (s0 s3 s4 s18 : gm_S) {R : Nat} {f : Nat → Int × Lean.ParserDescr} (h : ¬ s0.2.2 5 = 0 → (∀ r, r < R → (s4.1 9 r).toInt = (f r).1 ∧ 0 ≤ (s4.1 10 r).toInt ∧ (s4.1 5 (Int32.toNatClampNeg (s4.1 10 r)) = 1 ↔ gq_lE f R r)) ∧ (s4.2.2 13).toInt = R ∧ R ≤ 8 ∧ ∀ j, s4.1 5 j = 0 ∨ s4.1 5 j = 1) : gs_lQ (s0.2.2 5 = 0) R (gq_fx f x.toInt R) (gq_lE f R (gq_fx f x.toInt R)) (gm_f_LW_empty x (s0, s3, s4, s18)) := by
  have d1 : (-1 : Int32).toInt = -1 := by decide
  unfold gm_f_LW_empty
  refine gf_b3 (Q := gs_lQ (s0.2.2 5 = 0) R (gq_fx f x.toInt R) (gq_lE f R (gq_fx f x.toInt R))) (gs_qQ (s0.2.2 5 = 0) R (gq_fx f x.toInt R) (gq_lE f R (gq_fx f x.toInt R))) ?_ (fun r u hr => ?_) (fun n r u hn hr => ?_)
  · unfold gm_f_GM_empty
    refine gf_if (Q := gs_qQ (s0.2.2 5 = 0) R (gq_fx f x.toInt R) (gq_lE f R (gq_fx f x.toInt R))) (fun q => Or.inl ⟨q, rfl⟩) (fun q => ?_)
    have q : ¬ s0.2.2 5 = 0 := q
    obtain ⟨h1, h2, h3, h4⟩ := h q
    refine gf_ca (Q := gs_qQ (s0.2.2 5 = 0) R (gq_fx f x.toInt R) (gq_lE f R (gq_fx f x.toInt R))) (gs_aQ s4 R (gq_fx f x.toInt R)) (gs_rootOf x s4 (fun r hr => (h1 r hr).1) h2 h3) (fun r u hr => ?_)
    rcases hr with ⟨e, hr⟩ | ⟨e, hr⟩
    · have hr : r = -1 := hr
      exact gf_if (Q := gs_qQ (s0.2.2 5 = 0) R (gq_fx f x.toInt R) (gq_lE f R (gq_fx f x.toInt R))) (fun _ => Or.inr (Or.inl ⟨q, e, rfl⟩)) (fun w => absurd hr w)
    · have hr : r = s4.1 10 (gq_fx f x.toInt R) := hr
      have w := h1 _ e
      refine gf_if (Q := gs_qQ (s0.2.2 5 = 0) R (gq_fx f x.toInt R) (gq_lE f R (gq_fx f x.toInt R))) (fun t => ?_) (fun _ => Or.inr (Or.inr ⟨q, e, rfl, ?_⟩))
      · rw [← hr, t, d1] at w
        exfalso; omega
      · show s4.1 5 (Int32.toNatClampNeg r) = 0 ↔ _
        rw [← w.2.2, hr]
        rcases h4 (Int32.toNatClampNeg (s4.1 10 (gq_fx f x.toInt R))) with t | t
        · rw [t]; exact ⟨fun _ => by decide, fun _ => rfl⟩
        · rw [t]; exact ⟨fun t => absurd t (by decide), fun t => absurd rfl t⟩
  · rcases hr with ⟨a, hr⟩ | ⟨a, e, hr⟩ | ⟨a, e, -, hr⟩
    · exact absurd (show (0 : Int32) = 2 from hr) (by decide)
    · exact absurd (show (0 : Int32) = 4 from hr) (by decide)
    · have hr : r = 0 ↔ _ := hr
      refine gf_if (Q := gs_lQ (s0.2.2 5 = 0) R (gq_fx f x.toInt R) (gq_lE f R (gq_fx f x.toInt R))) (fun t => Or.inr (Or.inr ⟨a, e, rfl, Or.inr ⟨hr.mp t, ?_⟩⟩)) (fun t => Or.inr (Or.inr ⟨a, e, rfl, Or.inl ⟨Classical.not_not.mp (fun w => t (hr.mpr w)), ?_⟩⟩))
      · show vp_updL (s18.2.1 0) (Int32.toNatClampNeg 0) 0 (Int32.toNatClampNeg 0) = 0
        exact gx_lus _ _ _
      · show vp_updL (s18.2.1 0) (Int32.toNatClampNeg 0) 1 (Int32.toNatClampNeg 0) = 1
        exact gx_lus _ _ _
  · rcases hr with ⟨a, hr⟩ | ⟨a, e, hr⟩ | ⟨a, e, hr, -⟩
    · have hr : n = 2 := hr
      exact gf_if (Q := gs_lQ (s0.2.2 5 = 0) R (gq_fx f x.toInt R) (gq_lE f R (gq_fx f x.toInt R))) (fun _ => Or.inl ⟨a, rfl⟩) (fun t => absurd hr t)
    · have hr : n = 4 := hr
      exact gf_if (Q := gs_lQ (s0.2.2 5 = 0) R (gq_fx f x.toInt R) (gq_lE f R (gq_fx f x.toInt R))) (fun t => absurd t (by rw [hr]; decide)) (fun _ => Or.inr (Or.inl ⟨a, e, rfl⟩))
    · exact absurd hr hn
theorem gs_emptyM (x : Int32) (S : gm_S) {tx : Nat → Int} {ty R : Nat} {f : Nat → Int × Lean.ParserDescr} (h : ¬ S.2.2 4 = -1 → gs_half tx ty R f (S.2.2 4) S) (hb : ∀ j, S.1 15 j = 0 ∨ S.1 15 j = 1) : gs_mdQ (S.2.2 4 = -1) R (gq_fx f x.toInt R) (gq_lE f R (gq_fx f x.toInt R)) (gm_f_MD_empty x S) := by
  unfold gm_f_MD_empty
  by_cases q : S.2.2 4 = -1
  · refine gf_ca (Q := gs_mdQ (S.2.2 4 = -1) R (gq_fx f x.toInt R) (gq_lE f R (gq_fx f x.toInt R))) (fun z : Int32 × gm_S => z.2.2.2 0 = 1) ?_ (fun r u hr => ?_)
    · unfold gm_f_MD_asked gm_f_MD_asked_j21
      rw [if_pos q, if_pos q]
      rfl
    · have hr : u.2.2 0 = 1 := hr
      exact gf_if (Q := gs_mdQ (S.2.2 4 = -1) R (gq_fx f x.toInt R) (gq_lE f R (gq_fx f x.toInt R))) (fun t => absurd t (by rw [hr]; decide)) (fun _ => Or.inl ⟨q, hr⟩)
  · refine gf_ca (Q := gs_mdQ (S.2.2 4 = -1) R (gq_fx f x.toInt R) (gq_lE f R (gq_fx f x.toInt R))) (gs_kQ S R (gq_fx f x.toInt R)) (gs_asked x S q (h q)) (fun r u hr => ?_)
    obtain ⟨Pg, nA, nC, -, -, e1, -⟩ := h q
    rcases hr with ⟨e, hr⟩ | ⟨e, hr, hr2⟩
    · have hr : u.2.2 0 = 2 := hr
      exact gf_if (Q := gs_mdQ (S.2.2 4 = -1) R (gq_fx f x.toInt R) (gq_lE f R (gq_fx f x.toInt R))) (fun t => absurd t (by rw [hr]; decide)) (fun _ => Or.inr (Or.inl ⟨q, e, hr⟩))
    · have hr : u.2.2 0 = 0 := hr
      have hr2 : r = S.1 8 (8 * Int32.toNatClampNeg (S.2.2 4) + gq_fx f x.toInt R) := hr2
      have w := e1 _ e
      have w : S.1 15 (Int32.toNatClampNeg r) = 1 ↔ gq_lE f R (gq_fx f x.toInt R) := by rw [hr2]; exact w
      refine gf_if (Q := gs_mdQ (S.2.2 4 = -1) R (gq_fx f x.toInt R) (gq_lE f R (gq_fx f x.toInt R))) (fun _ => ?_) (fun t => absurd hr t)
      refine gf_if (Q := gs_mdQ (S.2.2 4 = -1) R (gq_fx f x.toInt R) (gq_lE f R (gq_fx f x.toInt R))) (fun t => Or.inr (Or.inr ⟨q, e, hr, Or.inr ⟨fun c => ?_, rfl⟩⟩)) (fun t => Or.inr (Or.inr ⟨q, e, hr, Or.inl ⟨w.mp ((hb _).resolve_left t), rfl⟩⟩))
      have := w.mpr c
      rw [t] at this
      exact absurd this (by decide)
/-- what the questions need of the class's tree -/
theorem gs_cls_q {tx : Nat → Int} {ty R : Nat} {f : Nat → Int × Lean.ParserDescr} {T : gm_S} (h : gs_cls tx ty R f T) : (∀ r, r < R → (T.1 9 r).toInt = (f r).1 ∧ 0 ≤ (T.1 10 r).toInt ∧ (T.1 10 r).toInt < (T.2.2 11).toInt ∧ (T.1 5 (Int32.toNatClampNeg (T.1 10 r)) = 1 ↔ gq_lE f R r) ∧ ∀ c : Int, 32 ≤ c → c ≤ 126 → (gp_ih (T.2.1 7) (T.2.1 8) (Int32.toNatClampNeg (T.1 10 r)) c ↔ gq_lH tx ty f R c r)) ∧ (T.2.2 13).toInt = R ∧ R ≤ 8 ∧ ∀ j, T.1 5 j = 0 ∨ T.1 5 j = 1 := by
  obtain ⟨T0, n, hRT, ⟨e0, e1, e2, e3, e4, e9, e10, e11, e13⟩, hb, h1, h2, h3, h4⟩ := h
  obtain ⟨⟨t1, t2, t3, t4, t5, t6⟩, -, -, -, g5, -⟩ := hRT
  rw [e9, e10, e11, e13]
  refine ⟨fun r hr => ⟨(g5 r hr).1, (t5 r hr).1, ?_, h1 r hr, fun c c1 c2 => (h4 c c1 c2).1 r hr⟩, t3, t4, hb⟩
  have c := gx_cl _ (t5 r hr).1
  have := (t5 r hr).2
  omega
theorem gs_emptyL (x : Int32) (s0 s3 s4 s18 s6 s17 : gm_S) (hG : gs_GK s0 s4 s6 s17) (hb : ∀ j, s17.1 15 j = 0 ∨ s17.1 15 j = 1) : gs_eQ (gm_f_LW_empty x (s0, s3, s4, s18)) (gm_f_MD_empty x s17) := by
  rcases hG with ⟨a, b⟩ | ⟨a, b, tx, ty, R, f, p1, p2, -⟩
  · have w1 := gs_emptyC x s0 s3 s4 s18 (R := 0) (f := gs_0) (fun q => absurd a q)
    have w2 := gs_emptyM x s17 (tx := fun _ => 0) (ty := 0) (R := 0) (f := gs_0) (fun q => absurd b q) hb
    rw [show (s0.2.2 5 = 0) = (s17.2.2 4 = -1) from propext ⟨fun _ => b, fun _ => a⟩] at w1
    exact gs_eQ_of w1 w2
  · obtain ⟨q1, q2, q3, q4⟩ := gs_cls_q p1
    have w1 := gs_emptyC x s0 s3 s4 s18 (R := R) (f := f) (fun _ => ⟨fun r hr => ⟨(q1 r hr).1, (q1 r hr).2.1, (q1 r hr).2.2.2.1⟩, q2, q3, q4⟩)
    have w2 := gs_emptyM x s17 (R := R) (f := f) (fun _ => p2) hb
    rw [show (s0.2.2 5 = 0) = (s17.2.2 4 = -1) from propext ⟨fun t => absurd t a, fun t => absurd t b⟩] at w1
    exact gs_eQ_of w1 w2
