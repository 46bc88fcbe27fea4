/-! What the reference holds a part to begin with: one part by the others, bit by bit. -/
def gp_bt (v : Int32) (q : Nat) : Bool := v.toBitVec.getLsbD q
theorem gp_bt_or (a b : Int32) (q : Nat) : gp_bt (a ||| b) q = (gp_bt a q || gp_bt b q) := by
  unfold gp_bt
  rw [Int32.toBitVec_or, BitVec.getLsbD_or]
theorem gp_bt_0 (q : Nat) : gp_bt 0 q = false := by
  unfold gp_bt
  rw [Int32.toBitVec_zero]
  exact BitVec.getLsbD_zero
theorem gp_bt_sh0 : ∀ j : Nat, j < 8 → ∀ q : Nat, q < 32 → gp_bt (1 <<< (nI j &&& 31)) q = decide (q = j) := by decide +kernel
theorem gp_bt_sh {r : Int32} {q : Nat} (h0 : 0 ≤ r.toInt) (h1 : r.toInt < 8) (hq : q < 32) : gp_bt (1 <<< (r &&& 31)) q = decide ((q : Int) = r.toInt) := by
  obtain ⟨j, hj, e⟩ := nI_of (x := r) (fun h9 => by have := gx_ltr (k := 0) (by decide) h9; omega)
  have t : r.toInt = (j : Int) := by rw [e]; exact nI_toInt hj
  rw [e, gp_bt_sh0 j (by omega) q hq]
  have t2 : (nI j).toInt = (j : Int) := nI_toInt hj
  by_cases c : q = j
  · rw [decide_eq_true c, decide_eq_true (by omega)]
  · rw [decide_eq_false c, decide_eq_false (by omega)]
/-- a part begins with the rule q, as far as the others do -/
def gp_bF (kd on tw M R : Nat → Int32) (em bg : Nat → Prop) (q : Nat) (n : Nat) : Prop :=
  ((kd n).toInt = 3 ∧ ((q : Int) = (R n).toInt ∨ bg (Int32.toNatClampNeg (M n)))) ∨ ((kd n).toInt = 4 ∧ (bg (Int32.toNatClampNeg (on n)) ∨ (em (Int32.toNatClampNeg (on n)) ∧ bg (Int32.toNatClampNeg (tw n))))) ∨ ((kd n).toInt = 5 ∧ (bg (Int32.toNatClampNeg (on n)) ∨ bg (Int32.toNatClampNeg (tw n)))) ∨ (6 ≤ (kd n).toInt ∧ bg (Int32.toNatClampNeg (on n)))
/-- the rule that has a name -/
noncomputable def gp_rz (rc nm : Nat → Int32) (fr y : Int32) : Int32 := Classical.epsilon (fun r => gp_ru rc nm fr y r)
theorem gp_rz_eq {rc nm : Nat → Int32} {fr y r : Int32} (hf : 0 ≤ fr.toInt) (h : gp_ru rc nm fr y r) : r = gp_rz rc nm fr y := gp_ru_uniq hf h (Classical.epsilon_spec (p := fun r => gp_ru rc nm fr y r) ⟨r, h⟩)
theorem gy_s_MD_beginsOf (x : Int32) (S : gm_S) {ty fr : Int32} (hU : gm_iU ty fr (S.1 6) (S.1 7) (S.1 8) (S.1 9) (S.1 10) (S.1 11) (S.1 12) (S.1 13)) (hb : ∀ n, S.1 15 n = 0 ∨ S.1 15 n = 1) (hx : 160 * fr.toInt ≤ x.toInt) (hx2 : x.toInt < 160 * fr.toInt + ((S.1 9) (Int32.toNatClampNeg fr)).toInt) :
    gm_p_MD_beginsOf x S ∧ (fun z : Int32 × gm_S => ∀ q : Nat, q < 32 → (gp_bt z.1 q = true ↔ gp_bF (S.1 10) (S.1 11) (S.1 12) (fun n => gp_mz (S.1 6) (S.1 7) (S.1 8) fr (S.1 11 n)) (fun n => gp_rz (S.1 6) (S.1 7) fr (S.1 11 n)) (fun j => S.1 15 j = 1) (fun j => gp_bt (S.1 16 j) q = true) q (Int32.toNatClampNeg x))) (gm_f_MD_beginsOf x S) := by
  obtain ⟨⟨f0, f1⟩, ⟨p0, p1⟩, ⟨r0, r1⟩, hG, hN⟩ := hU
  have cx := gx_cl x (by omega)
  have nd := (hG.1 (Int32.toNatClampNeg x) (by omega) (by omega)).1
  unfold gp_node at nd
  obtain ⟨k0, k1, n4, n45, -, -⟩ := nd
  have ix : vp_in x 320 := vp_in_iff.mpr (by omega)
  obtain ⟨Q, hQ⟩ : ∃ Q : Int32 × gm_S → Prop, Q = (fun z : Int32 × gm_S => ∀ q : Nat, q < 32 → (gp_bt z.1 q = true ↔ gp_bF (S.1 10) (S.1 11) (S.1 12) (fun n => gp_mz (S.1 6) (S.1 7) (S.1 8) fr (S.1 11 n)) (fun n => gp_rz (S.1 6) (S.1 7) fr (S.1 11 n)) (fun j => S.1 15 j = 1) (fun j => gp_bt (S.1 16 j) q = true) q (Int32.toNatClampNeg x))) := ⟨_, rfl⟩
  rw [← hQ]
  have none : ((S.1 10) (Int32.toNatClampNeg x)).toInt < 3 → Q (0, S) := by
    intro k
    rw [hQ]
    intro q _
    constructor
    · intro t
      have t : gp_bt 0 q = true := t
      rw [gp_bt_0] at t
      cases t
    · intro t
      unfold gp_bF at t
      omega
  unfold gm_p_MD_beginsOf gm_f_MD_beginsOf
  refine gx_in (Q := Q) ix ?_
  refine gx_if (Q := Q) (fun h => ⟨trivial, none (by rw [h]; decide)⟩) (fun h0 => ?_)
  refine gx_if (Q := Q) (fun h => ⟨trivial, none (by rw [h]; decide)⟩) (fun h1 => ?_)
  refine gx_if (Q := Q) (fun h => ⟨trivial, none (by rw [h]; decide)⟩) (fun h2 => ?_)
  refine gx_if (Q := Q) (fun h => ?_) (fun h3 => ?_)
  · have k : ((S.1 10) (Int32.toNatClampNeg x)).toInt = 3 := by rw [h]; decide
    have d := gx_dv x (by omega)
    have ed : x / 160 = fr := Int32.toInt_inj.mp (by omega)
    rw [ed]
    refine gx_in (Q := Q) ix ?_
    refine gx_ca (Q := Q) (fun z => gp_ru (S.1 6) (S.1 7) fr ((S.1 11) (Int32.toNatClampNeg x)) z.1) (gy_s_MD_ruleOf fr _ S f0 f1 r1) ?_
    intro r9 u9 h9
    have h9 : gp_ru (S.1 6) (S.1 7) fr ((S.1 11) (Int32.toNatClampNeg x)) r9 := h9
    have e9 := gp_rz_eq f0 h9
    have b9 : 0 ≤ r9.toInt ∧ r9.toInt < 8 := by
      rcases h9 with ⟨-, q⟩ | ⟨a, b, -, -⟩
      · exact absurd q (hN _ (by omega) (by omega) h)
      · omega
    refine gx_ca (Q := Q) (fun z => gp_me (S.1 6) (S.1 7) (S.1 8) fr ((S.1 11) (Int32.toNatClampNeg x)) z.1) (gy_s_MD_meant x fr S f0 f1 r1 hx (by omega)) ?_
    intro r u h5
    have h5 : gp_me (S.1 6) (S.1 7) (S.1 8) fr ((S.1 11) (Int32.toNatClampNeg x)) r := h5
    have e := gp_mz_eq f0 h5
    have w2 : 160 * fr.toInt ≤ r.toInt ∧ r.toInt < 160 * fr.toInt + ((S.1 9) (Int32.toNatClampNeg fr)).toInt := by
      rcases gp_me_un hG f0 h5 with ⟨-, q⟩ | ⟨-, -, q⟩
      · exact absurd q (hN _ (by omega) (by omega) h)
      · exact q
    refine gx_in (Q := Q) (vp_in_iff.mpr (by omega)) ⟨trivial, ?_⟩
    rw [hQ]
    intro q hq
    show gp_bt (1 <<< (r9 &&& 31) ||| (S.1 16) (Int32.toNatClampNeg r)) q = true ↔ _
    rw [gp_bt_or, gp_bt_sh b9.1 b9.2 hq, Bool.or_eq_true, decide_eq_true_iff]
    constructor
    · intro t
      refine Or.inl ⟨k, ?_⟩
      show (q : Int) = (gp_rz (S.1 6) (S.1 7) fr (S.1 11 (Int32.toNatClampNeg x))).toInt ∨ gp_bt ((S.1 16) (Int32.toNatClampNeg (gp_mz (S.1 6) (S.1 7) (S.1 8) fr (S.1 11 (Int32.toNatClampNeg x))))) q = true
      rw [← e, ← e9]
      exact t
    · intro t
      rcases t with ⟨-, t⟩ | ⟨t, -⟩ | ⟨t, -⟩ | ⟨t, -⟩
      · have t : (q : Int) = (gp_rz (S.1 6) (S.1 7) fr (S.1 11 (Int32.toNatClampNeg x))).toInt ∨ gp_bt ((S.1 16) (Int32.toNatClampNeg (gp_mz (S.1 6) (S.1 7) (S.1 8) fr (S.1 11 (Int32.toNatClampNeg x))))) q = true := t
        rw [← e, ← e9] at t
        exact t
      · omega
      · omega
      · omega
  refine gx_if (Q := Q) (fun h => ?_) (fun h4 => ?_)
  · have k : ((S.1 10) (Int32.toNatClampNeg x)).toInt = 4 := by rw [h]; decide
    have a := n4 (by omega)
    have b := n45 (by omega)
    have iA : vp_in ((S.1 11) (Int32.toNatClampNeg x)) 320 := vp_in_iff.mpr (by omega)
    refine gx_in (Q := Q) ix (gx_in (Q := Q) iA (gx_in (Q := Q) ix (gx_in (Q := Q) iA ?_)))
    refine gx_if (Q := Q) (fun q => ⟨trivial, ?_⟩) (fun q => gx_in (Q := Q) ix (gx_in (Q := Q) (vp_in_iff.mpr (by omega)) ⟨trivial, ?_⟩))
    · rw [hQ]
      intro q1 hq
      show gp_bt ((S.1 16) (Int32.toNatClampNeg ((S.1 11) (Int32.toNatClampNeg x))) ||| 0) q1 = true ↔ _
      rw [gp_bt_or, gp_bt_0, Bool.or_false]
      constructor
      · exact fun t => Or.inr (Or.inl ⟨k, Or.inl t⟩)
      · intro t
        rcases t with ⟨t, -⟩ | ⟨-, t | ⟨t, -⟩⟩ | ⟨t, -⟩ | ⟨t, -⟩
        · omega
        · exact t
        · have t : (S.1 15) (Int32.toNatClampNeg ((S.1 11) (Int32.toNatClampNeg x))) = 1 := t
          rw [q] at t
          exact absurd t (by decide)
        · omega
        · omega
    · rw [hQ]
      intro q1 hq
      show gp_bt ((S.1 16) (Int32.toNatClampNeg ((S.1 11) (Int32.toNatClampNeg x))) ||| (S.1 16) (Int32.toNatClampNeg ((S.1 12) (Int32.toNatClampNeg x)))) q1 = true ↔ _
      rw [gp_bt_or, Bool.or_eq_true]
      constructor
      · exact fun t => Or.inr (Or.inl ⟨k, t.elim Or.inl (fun t => Or.inr ⟨(gp_01 (hb _)).mp q, t⟩)⟩)
      · intro t
        rcases t with ⟨t, -⟩ | ⟨-, t | ⟨-, t⟩⟩ | ⟨t, -⟩ | ⟨t, -⟩
        · omega
        · exact Or.inl t
        · exact Or.inr t
        · omega
        · omega
  have q0 := gx_eqnr (k := 0) (by decide) h0
  have q1 := gx_eqnr (k := 1) (by decide) h1
  have q2 := gx_eqnr (k := 2) (by decide) h2
  have q3 := gx_eqnr (k := 3) (by decide) h3
  have q4 := gx_eqnr (k := 4) (by decide) h4
  refine gx_if (Q := Q) (fun h => ?_) (fun h5 => ?_)
  · have k : ((S.1 10) (Int32.toNatClampNeg x)).toInt = 5 := by rw [h]; decide
    have a := n4 (by omega)
    have b := n45 (by omega)
    refine gx_in (Q := Q) ix (gx_in (Q := Q) (vp_in_iff.mpr (by omega)) (gx_in (Q := Q) ix (gx_in (Q := Q) (vp_in_iff.mpr (by omega)) ⟨trivial, ?_⟩)))
    rw [hQ]
    intro q9 hq
    show gp_bt ((S.1 16) (Int32.toNatClampNeg ((S.1 11) (Int32.toNatClampNeg x))) ||| (S.1 16) (Int32.toNatClampNeg ((S.1 12) (Int32.toNatClampNeg x)))) q9 = true ↔ _
    rw [gp_bt_or, Bool.or_eq_true]
    constructor
    · exact fun t => Or.inr (Or.inr (Or.inl ⟨k, t⟩))
    · intro t
      rcases t with ⟨t, -⟩ | ⟨t, -⟩ | ⟨-, t⟩ | ⟨t, -⟩
      · omega
      · omega
      · exact t
      · omega
  · have q5 := gx_eqnr (k := 5) (by decide) h5
    have a := n4 (by omega)
    refine gx_in (Q := Q) ix (gx_in (Q := Q) (vp_in_iff.mpr (by omega)) ⟨trivial, ?_⟩)
    rw [hQ]
    intro q9 hq
    constructor
    · exact fun t => Or.inr (Or.inr (Or.inr ⟨by omega, t⟩))
    · intro t
      rcases t with ⟨t, -⟩ | ⟨t, -⟩ | ⟨t, -⟩ | ⟨-, t⟩
      · omega
      · omega
      · omega
      · exact t
