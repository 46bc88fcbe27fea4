/-! What the reference holds for empty: one part by the others. -/
theorem gp_ru_uniq {rc nm : Nat → Int32} {x y r r' : Int32} (hx : 0 ≤ x.toInt) (h : gp_ru rc nm x y r) (h' : gp_ru rc nm x y r') : r = r' := by
  have cx := gx_cl x hx
  rcases h with ⟨a, b⟩ | ⟨a, b, c, d⟩
  · rcases h' with ⟨a', b'⟩ | ⟨a', b', c', d'⟩
    · rw [a, a']
    · have cr := gx_cl r' a'
      exact absurd (c' (8 * Int32.toNatClampNeg x + Int32.toNatClampNeg r') (by omega)) (b (Int32.toNatClampNeg r') (by omega) _ (by omega))
  · have cr := gx_cl r a
    rcases h' with ⟨a', b'⟩ | ⟨a', b', c', d'⟩
    · exact absurd (c (8 * Int32.toNatClampNeg x + Int32.toNatClampNeg r) (by omega)) (b' (Int32.toNatClampNeg r) (by omega) _ (by omega))
    · have cr' := gx_cl r' a'
      apply Int32.toInt_inj.mp
      apply Classical.byContradiction
      intro q
      rcases Int.lt_or_gt_of_ne q with q | q
      · exact absurd (c (8 * Int32.toNatClampNeg x + Int32.toNatClampNeg r) (by omega)) (d' (Int32.toNatClampNeg r) (by omega) _ (by omega))
      · exact absurd (c' (8 * Int32.toNatClampNeg x + Int32.toNatClampNeg r') (by omega)) (d (Int32.toNatClampNeg r') (by omega) _ (by omega))
theorem gp_me_uniq {rc nm wh : Nat → Int32} {fr y z z' : Int32} (hf : 0 ≤ fr.toInt) (h : gp_me rc nm wh fr y z) (h' : gp_me rc nm wh fr y z') : z = z' := by
  have cf := gx_cl fr hf
  obtain ⟨r, a, b⟩ := h
  obtain ⟨r', a', b'⟩ := h'
  cases gp_ru_uniq hf a a'
  rcases b with ⟨b1, b2⟩ | ⟨b1, b2, b3⟩
  · rcases b' with ⟨c1, c2⟩ | ⟨c1, c2, c3⟩
    · rw [b2, c2]
    · rw [b1] at c1; exact absurd c1 (by decide)
  · rcases b' with ⟨c1, c2⟩ | ⟨c1, c2, c3⟩
    · rw [c1] at b1; exact absurd b1 (by decide)
    · have cr := gx_cl r b1
      rw [b3 (8 * Int32.toNatClampNeg fr + Int32.toNatClampNeg r) (by omega), c3 (8 * Int32.toNatClampNeg fr + Int32.toNatClampNeg r) (by omega)]
/-- the part that a name means -/
noncomputable def gp_mz (rc nm wh : Nat → Int32) (fr y : Int32) : Int32 := Classical.epsilon (fun z => gp_me rc nm wh fr y z)
theorem gp_mz_eq {rc nm wh : Nat → Int32} {fr y z : Int32} (hf : 0 ≤ fr.toInt) (h : gp_me rc nm wh fr y z) : z = gp_mz rc nm wh fr y := gp_me_uniq hf h (Classical.epsilon_spec (p := fun z => gp_me rc nm wh fr y z) ⟨z, h⟩)
/-- a part is empty, as far as the others are: M what its name means -/
def gp_eF (kd on tw : Nat → Int32) (M : Nat → Int32) (em : Nat → Prop) (n : Nat) : Prop :=
  ¬ (kd n).toInt = 1 ∧ ¬ (kd n).toInt = 2 ∧ ((kd n).toInt = 3 → em (Int32.toNatClampNeg (M n))) ∧ ((kd n).toInt = 4 → em (Int32.toNatClampNeg (on n)) ∧ em (Int32.toNatClampNeg (tw n))) ∧ ((kd n).toInt = 5 → em (Int32.toNatClampNeg (on n)) ∨ em (Int32.toNatClampNeg (tw n))) ∧ ((kd n).toInt = 10 → em (Int32.toNatClampNeg (on n)))
theorem gp_eF_3 {kd on tw M : Nat → Int32} {em : Nat → Prop} {n : Nat} (k : (kd n).toInt = 3) : gp_eF kd on tw M em n ↔ em (Int32.toNatClampNeg (M n)) :=
  ⟨fun h => h.2.2.1 k, fun h => ⟨by omega, by omega, fun _ => h, fun q => absurd q (by omega), fun q => absurd q (by omega), fun q => absurd q (by omega)⟩⟩
theorem gp_eF_4 {kd on tw M : Nat → Int32} {em : Nat → Prop} {n : Nat} (k : (kd n).toInt = 4) : gp_eF kd on tw M em n ↔ (em (Int32.toNatClampNeg (on n)) ∧ em (Int32.toNatClampNeg (tw n))) :=
  ⟨fun h => h.2.2.2.1 k, fun h => ⟨by omega, by omega, fun q => absurd q (by omega), fun _ => h, fun q => absurd q (by omega), fun q => absurd q (by omega)⟩⟩
theorem gp_eF_5 {kd on tw M : Nat → Int32} {em : Nat → Prop} {n : Nat} (k : (kd n).toInt = 5) : gp_eF kd on tw M em n ↔ (em (Int32.toNatClampNeg (on n)) ∨ em (Int32.toNatClampNeg (tw n))) :=
  ⟨fun h => h.2.2.2.2.1 k, fun h => ⟨by omega, by omega, fun q => absurd q (by omega), fun q => absurd q (by omega), fun _ => h, fun q => absurd q (by omega)⟩⟩
theorem gp_eF_10 {kd on tw M : Nat → Int32} {em : Nat → Prop} {n : Nat} (k : (kd n).toInt = 10) : gp_eF kd on tw M em n ↔ em (Int32.toNatClampNeg (on n)) :=
  ⟨fun h => h.2.2.2.2.2 k, fun h => ⟨by omega, by omega, fun q => absurd q (by omega), fun q => absurd q (by omega), fun q => absurd q (by omega), fun _ => h⟩⟩
theorem gp_eF_t {kd on tw M : Nat → Int32} {em : Nat → Prop} {n : Nat} (k : (kd n).toInt = 0 ∨ (kd n).toInt = 6 ∨ (kd n).toInt = 7 ∨ (kd n).toInt = 8 ∨ (kd n).toInt = 9) : gp_eF kd on tw M em n :=
  ⟨by omega, by omega, fun q => absurd q (by omega), fun q => absurd q (by omega), fun q => absurd q (by omega), fun q => absurd q (by omega)⟩
theorem gp_01 {v : Int32} (h : v = 0 ∨ v = 1) : ¬ v = 0 ↔ v = 1 := by
  rcases h with h | h
  · rw [h]; exact ⟨fun q => absurd rfl q, fun q => absurd q (by decide)⟩
  · rw [h]; exact ⟨fun _ => rfl, fun _ => by decide⟩
abbrev gp_eQ (kd on tw M em : Nat → Int32) (n : Nat) (z : Int32 × gm_S) : Prop := (z.1 = 0 ∨ z.1 = 1) ∧ (z.1 = 1 ↔ gp_eF kd on tw M (fun j => em j = 1) n)
theorem gp_eQ0 {kd on tw M em : Nat → Int32} {n : Nat} {S : gm_S} (h : ¬ gp_eF kd on tw M (fun j => em j = 1) n) : gp_eQ kd on tw M em n (0, S) := ⟨Or.inl rfl, ⟨fun q => absurd q (show ¬ (0 : Int32) = 1 by decide), fun q => absurd q h⟩⟩
theorem gp_eQ1 {kd on tw M em : Nat → Int32} {n : Nat} {S : gm_S} (h : gp_eF kd on tw M (fun j => em j = 1) n) : gp_eQ kd on tw M em n (1, S) := ⟨Or.inr rfl, ⟨fun _ => h, fun _ => rfl⟩⟩
/-- all that study and what follows know of a half: parts and rules in order, every name has a rule -/
def gm_iU (ty fr : Int32) (rc nm wh pa kd on tw ow : Nat → Int32) : Prop :=
  (0 ≤ fr.toInt ∧ fr.toInt ≤ 1) ∧ (0 ≤ (pa (Int32.toNatClampNeg fr)).toInt ∧ (pa (Int32.toNatClampNeg fr)).toInt ≤ 100) ∧ (0 ≤ (rc (Int32.toNatClampNeg fr)).toInt ∧ (rc (Int32.toNatClampNeg fr)).toInt ≤ 8) ∧ gm_iS 0 ty fr rc nm wh pa kd on tw ow 0 0 (fun _ => 0) (fun _ => 0) ∧
  ∀ n : Nat, 160 * fr.toInt ≤ n → (n : Int) < 160 * fr.toInt + (pa (Int32.toNatClampNeg fr)).toInt → kd n = 3 → ¬ gp_nd rc nm fr (on n)
theorem gy_s_MD_isEmpty (x : Int32) (S : gm_S) {ty fr : Int32} (hU : gm_iU ty fr (S.1 6) (S.1 7) (S.1 8) (S.1 9) (S.1 10) (S.1 11) (S.1 12) (S.1 13)) (hb : ∀ n, S.1 15 n = 0 ∨ S.1 15 n = 1) (hx : 160 * fr.toInt ≤ x.toInt) (hx2 : x.toInt < 160 * fr.toInt + ((S.1 9) (Int32.toNatClampNeg fr)).toInt) :
    gm_p_MD_isEmpty x S ∧ gp_eQ (S.1 10) (S.1 11) (S.1 12) (fun n => gp_mz (S.1 6) (S.1 7) (S.1 8) fr (S.1 11 n)) (S.1 15) (Int32.toNatClampNeg x) (gm_f_MD_isEmpty x S) := by
  obtain ⟨⟨f0, f1⟩, ⟨p0, p1⟩, ⟨r0, r1⟩, hG, hN⟩ := hU
  have cx := gx_cl x (by omega)
  have nd := (hG.1 (Int32.toNatClampNeg x) (by omega) (by omega)).1
  unfold gp_node at nd
  obtain ⟨k0, k1, n4, n45, -, -⟩ := nd
  have ix : vp_in x 320 := vp_in_iff.mpr (by omega)
  obtain ⟨Q, hQ⟩ : ∃ Q : Int32 × gm_S → Prop, Q = gp_eQ (S.1 10) (S.1 11) (S.1 12) (fun n => gp_mz (S.1 6) (S.1 7) (S.1 8) fr (S.1 11 n)) (S.1 15) (Int32.toNatClampNeg x) := ⟨_, rfl⟩
  rw [← hQ]
  unfold gm_p_MD_isEmpty gm_f_MD_isEmpty
  refine gx_in (Q := Q) ix ?_
  refine gx_if (Q := Q) (fun h => ⟨trivial, by rw [hQ]; exact gp_eQ0 (fun q => q.1 (by rw [h]; decide))⟩) (fun h1 => ?_)
  refine gx_if (Q := Q) (fun h => ⟨trivial, by rw [hQ]; exact gp_eQ0 (fun q => q.2.1 (by rw [h]; decide))⟩) (fun h2 => ?_)
  refine gx_if (Q := Q) (fun h => ?_) (fun h3 => ?_)
  · have k : ((S.1 10) (Int32.toNatClampNeg x)).toInt = 3 := by rw [h]; decide
    refine gx_ca (Q := Q) (fun z => gp_me (S.1 6) (S.1 7) (S.1 8) fr ((S.1 11) (Int32.toNatClampNeg x)) z.1) (gy_s_MD_meant x fr S f0 f1 r1 hx (by omega)) ?_
    intro r u h5
    have h5 : gp_me (S.1 6) (S.1 7) (S.1 8) fr ((S.1 11) (Int32.toNatClampNeg x)) r := h5
    have e := gp_mz_eq f0 h5
    have w := gp_me_un hG f0 h5
    have w2 : 160 * fr.toInt ≤ r.toInt ∧ r.toInt < 160 * fr.toInt + ((S.1 9) (Int32.toNatClampNeg fr)).toInt := by
      rcases w with ⟨-, q⟩ | ⟨-, -, q⟩
      · exact absurd q (hN _ (by omega) (by omega) h)
      · exact q
    refine gx_in (Q := Q) (vp_in_iff.mpr (by omega)) ?_
    refine gx_in (Q := Q) (hb _) ⟨trivial, ?_⟩
    rw [hQ]
    refine ⟨hb _, ?_⟩
    rw [gp_eF_3 k, ← e]
  refine gx_if (Q := Q) (fun h => ?_) (fun h4 => ?_)
  · have k : ((S.1 10) (Int32.toNatClampNeg x)).toInt = 4 := by rw [h]; decide
    have a := n4 (by omega)
    have b := n45 (by omega)
    refine gx_in (Q := Q) ix (gx_in (Q := Q) (vp_in_iff.mpr (by omega)) ?_)
    refine gx_if (Q := Q) (fun q => ⟨trivial, by rw [hQ]; exact gp_eQ0 (fun z => by have := ((gp_eF_4 k).mp z).1; rw [q] at this; exact absurd this (by decide))⟩) (fun q => ?_)
    refine gx_in (Q := Q) ix (gx_in (Q := Q) (vp_in_iff.mpr (by omega)) ?_)
    refine gx_if (Q := Q) (fun q2 => ⟨trivial, by rw [hQ]; exact gp_eQ0 (fun z => by have := ((gp_eF_4 k).mp z).2; rw [q2] at this; exact absurd this (by decide))⟩) (fun q2 => ⟨trivial, by rw [hQ]; exact gp_eQ1 ((gp_eF_4 k).mpr ⟨(gp_01 (hb _)).mp q, (gp_01 (hb _)).mp q2⟩)⟩)
  refine gx_if (Q := Q) (fun h => ?_) (fun h5 => ?_)
  · have k : ((S.1 10) (Int32.toNatClampNeg x)).toInt = 5 := by rw [h]; decide
    have a := n4 (by omega)
    have b := n45 (by omega)
    refine gx_in (Q := Q) ix (gx_in (Q := Q) (vp_in_iff.mpr (by omega)) ?_)
    refine gx_if (Q := Q) (fun q => ?_) (fun q => ⟨trivial, by rw [hQ]; exact gp_eQ1 ((gp_eF_5 k).mpr (Or.inl ((gp_01 (hb _)).mp q)))⟩)
    refine gx_in (Q := Q) ix (gx_in (Q := Q) (vp_in_iff.mpr (by omega)) ?_)
    refine gx_if (Q := Q) (fun q2 => ⟨trivial, by rw [hQ]; exact gp_eQ0 (fun z => by rcases (gp_eF_5 k).mp z with t | t; (rw [q] at t; exact absurd t (by decide)); (rw [q2] at t; exact absurd t (by decide)))⟩) (fun q2 => ⟨trivial, by rw [hQ]; exact gp_eQ1 ((gp_eF_5 k).mpr (Or.inr ((gp_01 (hb _)).mp q2)))⟩)
  refine gx_if (Q := Q) (fun h => ⟨trivial, by rw [hQ]; exact gp_eQ1 (gp_eF_t (Or.inr (Or.inl (by rw [h]; decide))))⟩) (fun h6 => ?_)
  refine gx_if (Q := Q) (fun h => ⟨trivial, by rw [hQ]; exact gp_eQ1 (gp_eF_t (Or.inr (Or.inr (Or.inl (by rw [h]; decide)))))⟩) (fun h7 => ?_)
  refine gx_if (Q := Q) (fun h => ⟨trivial, by rw [hQ]; exact gp_eQ1 (gp_eF_t (Or.inr (Or.inr (Or.inr (Or.inl (by rw [h]; decide))))))⟩) (fun h8 => ?_)
  refine gx_if (Q := Q) (fun h => ⟨trivial, by rw [hQ]; exact gp_eQ1 (gp_eF_t (Or.inr (Or.inr (Or.inr (Or.inr (by rw [h]; decide))))))⟩) (fun h9 => ?_)
  refine gx_if (Q := Q) (fun h => ?_) (fun h10 => ?_)
  · have k : ((S.1 10) (Int32.toNatClampNeg x)).toInt = 10 := by rw [h]; decide
    have a := n4 (by omega)
    refine gx_in (Q := Q) ix (gx_in (Q := Q) (vp_in_iff.mpr (by omega)) ?_)
    refine gx_in (Q := Q) (hb _) ⟨trivial, ?_⟩
    rw [hQ]
    refine ⟨hb _, ?_⟩
    rw [gp_eF_10 k]
  · have q1 := gx_eqnr (k := 1) (by decide) h1
    have q2 := gx_eqnr (k := 2) (by decide) h2
    have q3 := gx_eqnr (k := 3) (by decide) h3
    have q4 := gx_eqnr (k := 4) (by decide) h4
    have q5 := gx_eqnr (k := 5) (by decide) h5
    have q6 := gx_eqnr (k := 6) (by decide) h6
    have q7 := gx_eqnr (k := 7) (by decide) h7
    have q8 := gx_eqnr (k := 8) (by decide) h8
    have q9 := gx_eqnr (k := 9) (by decide) h9
    have q10 := gx_eqnr (k := 10) (by decide) h10
    refine ⟨trivial, ?_⟩
    rw [hQ]
    exact gp_eQ1 (gp_eF_t (Or.inl (by omega)))
