/-! Safety: a method's predicate holds and its function leaves the invariants, both at once. -/
theorem gx_if {A : Type} {c : Prop} [Decidable c] {P1 P2 : Prop} {f1 f2 : A} {Q : A → Prop} (h1 : c → P1 ∧ Q f1) (h2 : ¬ c → P2 ∧ Q f2) : ((c → P1) ∧ (¬ c → P2)) ∧ Q (if c then f1 else f2) := by
  by_cases h : c
  · rw [if_pos h]; exact ⟨⟨fun _ => (h1 h).1, fun n => absurd h n⟩, (h1 h).2⟩
  · rw [if_neg h]; exact ⟨⟨fun y => absurd y h, fun _ => (h2 h).1⟩, (h2 h).2⟩
theorem gx_in {A : Type} {I P : Prop} {f : A} {Q : A → Prop} (hi : I) (h : P ∧ Q f) : (I ∧ P) ∧ Q f := ⟨⟨hi, h.1⟩, h.2⟩
theorem gx_ca {R S A : Type} {x : R × S} {Pc : Prop} {P : R → S → Prop} {f : R → S → A} {Q : A → Prop} (T : R × S → Prop) (hc : Pc ∧ T x) (h : ∀ r u, T (r, u) → P r u ∧ Q (f r u)) : (Pc ∧ gm_bd x P) ∧ Q (gm_bd x f) :=
  have k := h x.1 x.2 hc.2
  ⟨⟨hc.1, k.1⟩, k.2⟩
theorem gx_lt {x y : Int32} (h : x < y) : x.toInt < y.toInt := Int32.lt_iff_toInt_lt.mp h
theorem gx_ltn {x y : Int32} (h : ¬ x < y) : y.toInt ≤ x.toInt := by rw [Int32.lt_iff_toInt_lt] at h; omega
theorem gx_le {x y : Int32} (h : x ≤ y) : x.toInt ≤ y.toInt := Int32.le_iff_toInt_le.mp h
theorem gx_len {x y : Int32} (h : ¬ x ≤ y) : y.toInt < x.toInt := by rw [Int32.le_iff_toInt_le] at h; omega
theorem gx_eq {x y : Int32} (h : x = y) : x.toInt = y.toInt := by rw [h]
theorem gx_eqn {x y : Int32} (h : ¬ x = y) : x.toInt ≠ y.toInt := fun e => h (Int32.toInt_inj.mp e)
theorem gx_ad (x y : Int32) : (x + y).toInt = x.toInt + y.toInt ∨ 2147483648 ≤ x.toInt + y.toInt ∨ x.toInt + y.toInt < -2147483648 := by
  rw [Int32.toInt_add]
  by_cases h : 2147483648 ≤ x.toInt + y.toInt ∨ x.toInt + y.toInt < -2147483648
  · exact Or.inr h
  · exact Or.inl (Int.bmod_eq_of_le (by omega) (by omega))
theorem gx_sb (x y : Int32) : (x - y).toInt = x.toInt - y.toInt ∨ 2147483648 ≤ x.toInt - y.toInt ∨ x.toInt - y.toInt < -2147483648 := by
  rw [Int32.toInt_sub]
  by_cases h : 2147483648 ≤ x.toInt - y.toInt ∨ x.toInt - y.toInt < -2147483648
  · exact Or.inr h
  · exact Or.inl (Int.bmod_eq_of_le (by omega) (by omega))
theorem gx_ltr {x y : Int32} {k : Int} (hk : y.toInt = k) (h : x < y) : x.toInt < k := by rw [← hk]; exact gx_lt h
theorem gx_ltl {x y : Int32} {k : Int} (hk : x.toInt = k) (h : x < y) : k < y.toInt := by rw [← hk]; exact gx_lt h
theorem gx_ltnr {x y : Int32} {k : Int} (hk : y.toInt = k) (h : ¬ x < y) : k ≤ x.toInt := by rw [← hk]; exact gx_ltn h
theorem gx_ltnl {x y : Int32} {k : Int} (hk : x.toInt = k) (h : ¬ x < y) : y.toInt ≤ k := by rw [← hk]; exact gx_ltn h
theorem gx_ler {x y : Int32} {k : Int} (hk : y.toInt = k) (h : x ≤ y) : x.toInt ≤ k := by rw [← hk]; exact gx_le h
theorem gx_lel {x y : Int32} {k : Int} (hk : x.toInt = k) (h : x ≤ y) : k ≤ y.toInt := by rw [← hk]; exact gx_le h
theorem gx_lenr {x y : Int32} {k : Int} (hk : y.toInt = k) (h : ¬ x ≤ y) : k < x.toInt := by rw [← hk]; exact gx_len h
theorem gx_lenl {x y : Int32} {k : Int} (hk : x.toInt = k) (h : ¬ x ≤ y) : y.toInt < k := by rw [← hk]; exact gx_len h
theorem gx_eqr {x y : Int32} {k : Int} (hk : y.toInt = k) (h : x = y) : x.toInt = k := by rw [← hk]; exact gx_eq h
theorem gx_eql {x y : Int32} {k : Int} (hk : x.toInt = k) (h : x = y) : k = y.toInt := by rw [← hk]; exact gx_eq h
theorem gx_eqnr {x y : Int32} {k : Int} (hk : y.toInt = k) (h : ¬ x = y) : x.toInt ≠ k := by rw [← hk]; exact gx_eqn h
theorem gx_eqnl {x y : Int32} {k : Int} (hk : x.toInt = k) (h : ¬ x = y) : k ≠ y.toInt := by rw [← hk]; exact gx_eqn h
theorem gx_ak (x y : Int32) (k : Int) (hk : y.toInt = k) : (x + y).toInt = x.toInt + k ∨ 2147483648 ≤ x.toInt + k ∨ x.toInt + k < -2147483648 := by rw [← hk]; exact gx_ad x y
theorem gx_sk (x y : Int32) (k : Int) (hk : y.toInt = k) : (x - y).toInt = x.toInt - k ∨ 2147483648 ≤ x.toInt - k ∨ x.toInt - k < -2147483648 := by rw [← hk]; exact gx_sb x y
theorem gx_on (n : Nat) (h : n < 2147483648) : (Int32.ofNat n).toInt = (n : Int) := nI_toInt h
theorem gx_lit (n : Nat) (h : n < 2147483648) : (OfNat.ofNat n : Int32).toInt = (n : Int) := gx_on n h
theorem gx_u {P : Int32 → Prop} {f : Nat → Int32} (h : ∀ k, P (f k)) {i : Nat} {x : Int32} (hx : P x) : ∀ k, P (upd f i x k) := by
  intro k
  unfold upd
  by_cases e : k = i
  · rw [if_pos e]; exact hx
  · rw [if_neg e]; exact h k
theorem gx_nb (x : Int32) : vp_nar .boolean x = 0 ∨ vp_nar .boolean x = 1 := by
  have e : vp_nar .boolean x = x &&& 1 := rfl
  obtain ⟨j, hj, h⟩ := pk_andE x (m := 1) 1 (by decide)
  rw [e, h]
  have : j = 0 ∨ j = 1 := by omega
  rcases this with rfl | rfl
  · exact Or.inl (by decide)
  · exact Or.inr (by decide)
/-- a size within its row -/
abbrev gm_iN (n : Nat) (z : Int32) : Prop := 0 ≤ z.toInt ∧ z.toInt ≤ n
/-- a row of characters -/
abbrev gm_iW (n : Nat) (z : Int32) (a : Nat → Int32) : Prop := (0 ≤ z.toInt ∧ z.toInt ≤ n) ∧ ∀ k : Nat, (k : Int) < z.toInt → 32 ≤ (a k).toInt ∧ (a k).toInt ≤ 126
theorem gx_w0 (n : Nat) (a : Nat → Int32) : gm_iW n 0 a := by
  have e : (0 : Int32).toInt = 0 := by decide
  exact ⟨by omega, fun k hk => by omega⟩
/-- a tree: what its numbers and rows hold -/
abbrev gm_iT (n p r : Int32) (a2 a3 a4 a5 a10 : Nat → Int32) : Prop :=
  (0 ≤ n.toInt ∧ n.toInt ≤ 75) ∧ (0 ≤ p.toInt ∧ p.toInt ≤ 75) ∧ (0 ≤ r.toInt ∧ r.toInt ≤ 8) ∧ (∀ k, 0 ≤ (a2 k).toInt ∧ (a2 k).toInt ≤ 75) ∧ (∀ k, 0 ≤ (a3 k).toInt ∧ (a3 k).toInt ≤ 75) ∧ (∀ k, 0 ≤ (a4 k).toInt ∧ (a4 k).toInt ≤ 74) ∧ (∀ k, a5 k = 0 ∨ a5 k = 1) ∧ (∀ k, 0 ≤ (a10 k).toInt ∧ (a10 k).toInt ≤ 74)
abbrev gx_q_Tree_add (x : Int32) (y : Int32) (S : gm_S) (z : Int32 × (gm_S)) : Prop := (gm_iT (z.2.2.2 11) (S.2.2 12) (S.2.2 13) (z.2.1 2) (z.2.1 3) (S.1 4) (z.2.1 5) (S.1 10))
theorem gx_s_Tree_add (x : Int32) (y : Int32) (S : gm_S) (h1 : gm_iT (S.2.2 11) (S.2.2 12) (S.2.2 13) (S.1 2) (S.1 3) (S.1 4) (S.1 5) (S.1 10)) : gm_p_Tree_add x y S ∧ gx_q_Tree_add x y S (gm_f_Tree_add x y S) := by
  unfold gm_p_Tree_add gm_f_Tree_add
  refine gx_if (Q := gx_q_Tree_add x y S) (fun h2 => ?_) (fun h2 => ?_)
  · skip
    have h2_ := gx_ltr (k := 75) (gx_lit 75 (by decide)) h2
    refine gx_in (Q := gx_q_Tree_add x y S) (vp_in_iff.mpr (by omega)) ?_
    refine gx_in (Q := gx_q_Tree_add x y S) (vp_in_iff.mpr (by omega)) ?_
    refine gx_in (Q := gx_q_Tree_add x y S) (vp_in_iff.mpr (by omega)) ?_
    refine gx_in (Q := gx_q_Tree_add x y S) (vp_in_iff.mpr (by omega)) ?_
    refine gx_in (Q := gx_q_Tree_add x y S) (vp_in_iff.mpr (by omega)) ?_
    refine gx_in (Q := gx_q_Tree_add x y S) (vp_in_iff.mpr (by omega)) ?_
    refine gx_in (Q := gx_q_Tree_add x y S) (vp_in_iff.mpr (by omega)) ?_
    refine gx_in (Q := gx_q_Tree_add x y S) (vp_in_iff.mpr (by omega)) ?_
    exact ⟨trivial, ⟨(show 0 ≤ ((S.2.2 11) + 1).toInt ∧ ((S.2.2 11) + 1).toInt ≤ 75 from (by have := gx_ak (S.2.2 11) 1 (1) (by decide); omega)), h1.2.1, h1.2.2.1, (gx_u (P := fun x => 0 ≤ x.toInt ∧ x.toInt ≤ 75) h1.2.2.2.1 (show 0 ≤ (S.2.2 12).toInt ∧ (S.2.2 12).toInt ≤ 75 from (by omega))), (gx_u (P := fun x => 0 ≤ x.toInt ∧ x.toInt ≤ 75) h1.2.2.2.2.1 (show 0 ≤ (S.2.2 12).toInt ∧ (S.2.2 12).toInt ≤ 75 from (by omega))), h1.2.2.2.2.2.1, (gx_u (P := fun x => x = 0 ∨ x = 1) h1.2.2.2.2.2.2.1 (gx_nb _)), h1.2.2.2.2.2.2.2⟩⟩
  · skip
    have h2_ := gx_ltnr (k := 75) (gx_lit 75 (by decide)) h2
    exact ⟨trivial, h1⟩
abbrev gx_q_Tree_givePart (x : Int32) (y : Int32) (S : gm_S) (z : Int32 × (gm_S)) : Prop := (gm_iT (S.2.2 11) (z.2.2.2 12) (S.2.2 13) (S.1 2) (z.2.1 3) (z.2.1 4) (S.1 5) (S.1 10))
theorem gx_s_Tree_givePart (x : Int32) (y : Int32) (S : gm_S) (h1 : gm_iT (S.2.2 11) (S.2.2 12) (S.2.2 13) (S.1 2) (S.1 3) (S.1 4) (S.1 5) (S.1 10)) : gm_p_Tree_givePart x y S ∧ gx_q_Tree_givePart x y S (gm_f_Tree_givePart x y S) := by
  unfold gm_p_Tree_givePart gm_f_Tree_givePart
  refine gx_if (Q := gx_q_Tree_givePart x y S) (fun h2 => ?_) (fun h2 => ?_)
  · skip
    have h2_ := gx_ltr (k := 0) (by decide) h2
    exact ⟨trivial, h1⟩
  · skip
    have h2_ := gx_ltnr (k := 0) (by decide) h2
    refine gx_if (Q := gx_q_Tree_givePart x y S) (fun h3 => ?_) (fun h3 => ?_)
    · skip
      have h3_ := gx_le h3
      exact ⟨trivial, h1⟩
    · skip
      have h3_ := gx_len h3
      refine gx_if (Q := gx_q_Tree_givePart x y S) (fun h4 => ?_) (fun h4 => ?_)
      · skip
        have h4_ := gx_ltr (k := 0) (by decide) h4
        exact ⟨trivial, h1⟩
      · skip
        have h4_ := gx_ltnr (k := 0) (by decide) h4
        refine gx_if (Q := gx_q_Tree_givePart x y S) (fun h5 => ?_) (fun h5 => ?_)
        · skip
          have h5_ := gx_le h5
          exact ⟨trivial, h1⟩
        · skip
          have h5_ := gx_len h5
          refine gx_if (Q := gx_q_Tree_givePart x y S) (fun h6 => ?_) (fun h6 => ?_)
          · skip
            have h6_ := gx_lel (k := 75) (gx_lit 75 (by decide)) h6
            exact ⟨trivial, h1⟩
          · skip
            have h6_ := gx_lenl (k := 75) (gx_lit 75 (by decide)) h6
            refine gx_in (Q := gx_q_Tree_givePart x y S) (vp_in_iff.mpr (by omega)) ?_
            refine gx_in (Q := gx_q_Tree_givePart x y S) (vp_in_iff.mpr (by omega)) ?_
            exact ⟨trivial, ⟨h1.1, (show 0 ≤ ((S.2.2 12) + 1).toInt ∧ ((S.2.2 12) + 1).toInt ≤ 75 from (by have := gx_ak (S.2.2 12) 1 (1) (by decide); omega)), h1.2.2.1, h1.2.2.2.1, (gx_u (P := fun x => 0 ≤ x.toInt ∧ x.toInt ≤ 75) h1.2.2.2.2.1 (show 0 ≤ ((S.2.2 12) + 1).toInt ∧ ((S.2.2 12) + 1).toInt ≤ 75 from (by have := gx_ak (S.2.2 12) 1 (1) (by decide); omega))), (gx_u (P := fun x => 0 ≤ x.toInt ∧ x.toInt ≤ 74) h1.2.2.2.2.2.1 (show 0 ≤ y.toInt ∧ y.toInt ≤ 74 from (by omega))), h1.2.2.2.2.2.2.1, h1.2.2.2.2.2.2.2⟩⟩
abbrev gx_q_Tree_addRule (x : Int32) (y : Int32) (S : gm_S) (z : Int32 × (gm_S)) : Prop := (gm_iT (S.2.2 11) (S.2.2 12) (z.2.2.2 13) (S.1 2) (S.1 3) (S.1 4) (S.1 5) (z.2.1 10))
theorem gx_s_Tree_addRule (x : Int32) (y : Int32) (S : gm_S) (h1 : gm_iT (S.2.2 11) (S.2.2 12) (S.2.2 13) (S.1 2) (S.1 3) (S.1 4) (S.1 5) (S.1 10)) : gm_p_Tree_addRule x y S ∧ gx_q_Tree_addRule x y S (gm_f_Tree_addRule x y S) := by
  unfold gm_p_Tree_addRule gm_f_Tree_addRule
  refine gx_if (Q := gx_q_Tree_addRule x y S) (fun h2 => ?_) (fun h2 => ?_)
  · skip
    have h2_ := gx_lel (k := 8) (gx_lit 8 (by decide)) h2
    exact ⟨trivial, h1⟩
  · skip
    have h2_ := gx_lenl (k := 8) (gx_lit 8 (by decide)) h2
    refine gx_if (Q := gx_q_Tree_addRule x y S) (fun h3 => ?_) (fun h3 => ?_)
    · skip
      have h3_ := gx_ltr (k := 0) (by decide) h3
      exact ⟨trivial, h1⟩
    · skip
      have h3_ := gx_ltnr (k := 0) (by decide) h3
      refine gx_if (Q := gx_q_Tree_addRule x y S) (fun h4 => ?_) (fun h4 => ?_)
      · skip
        have h4_ := gx_le h4
        exact ⟨trivial, h1⟩
      · skip
        have h4_ := gx_len h4
        refine gx_in (Q := gx_q_Tree_addRule x y S) (vp_in_iff.mpr (by omega)) ?_
        refine gx_in (Q := gx_q_Tree_addRule x y S) (vp_in_iff.mpr (by omega)) ?_
        exact ⟨trivial, ⟨h1.1, h1.2.1, (show 0 ≤ ((S.2.2 13) + 1).toInt ∧ ((S.2.2 13) + 1).toInt ≤ 8 from (by have := gx_ak (S.2.2 13) 1 (1) (by decide); omega)), h1.2.2.2.1, h1.2.2.2.2.1, h1.2.2.2.2.2.1, h1.2.2.2.2.2.2.1, (gx_u (P := fun x => 0 ≤ x.toInt ∧ x.toInt ≤ 74) h1.2.2.2.2.2.2.2 (show 0 ≤ y.toInt ∧ y.toInt ≤ 74 from (by omega)))⟩⟩
abbrev gx_q_Tree_ruleOf (x : Int32) (S : gm_S) (z : Int32 × (gm_S)) : Prop := ((-1 ≤ z.1.toInt) ∧ (z.1.toInt ≤ 7))
theorem gx_s_Tree_ruleOf_2 (x : Int32) (S : gm_S) (h1 : gm_iT (S.2.2 11) (S.2.2 12) (S.2.2 13) (S.1 2) (S.1 3) (S.1 4) (S.1 5) (S.1 10)) : ∀ (n2 : Nat) (v2_2 : Int32) (S_2 : gm_S), (0 ≤ v2_2.toInt) → (v2_2.toInt ≤ 8) → (8 < v2_2.toInt + n2) → gm_p_Tree_ruleOf_2 x S n2 v2_2 S_2 ∧ gx_q_Tree_ruleOf x S (gm_f_Tree_ruleOf_2 x S n2 v2_2 S_2) := by
  intro n2
  induction n2 with
  | zero =>
    intro v2_2 S_2 h2 h3 h4; exfalso; skip; omega
  | succ n2 ih =>
    intro v2_2 S_2 h2 h3 h4
    rw [gm_p_Tree_ruleOf_2, gm_f_Tree_ruleOf_2]
    refine gx_if (Q := gx_q_Tree_ruleOf x S) (fun h5 => ?_) (fun h5 => ?_)
    · skip
      have h5_ := gx_le h5
      exact ⟨trivial, (show ((-1) ≤ ((-1) : Int32).toInt) ∧ (((-1) : Int32).toInt ≤ 7) from (by have : ((-1) : Int32).toInt = -1 := (by decide); omega))⟩
    · skip
      have h5_ := gx_len h5
      refine gx_in (Q := gx_q_Tree_ruleOf x S) (vp_in_iff.mpr (by omega)) ?_
      refine gx_if (Q := gx_q_Tree_ruleOf x S) (fun h6 => ?_) (fun h6 => ?_)
      · skip
        clear h6
        exact ⟨trivial, (show ((-1) ≤ v2_2.toInt) ∧ (v2_2.toInt ≤ 7) from (by omega))⟩
      · skip
        clear h6
        refine ih _ _ ?_ ?_ ?_
        · exact (show 0 ≤ (v2_2 + 1).toInt from (by have := gx_ak v2_2 1 (1) (by decide); omega))
        · exact (show (v2_2 + 1).toInt ≤ 8 from (by have := gx_ak v2_2 1 (1) (by decide); omega))
        · exact (show 8 < ((v2_2 + 1).toInt + n2) from (by have := gx_ak v2_2 1 (1) (by decide); omega))
theorem gx_s_Tree_ruleOf (x : Int32) (S : gm_S) (h1 : gm_iT (S.2.2 11) (S.2.2 12) (S.2.2 13) (S.1 2) (S.1 3) (S.1 4) (S.1 5) (S.1 10)) : gm_p_Tree_ruleOf x S ∧ gx_q_Tree_ruleOf x S (gm_f_Tree_ruleOf x S) := by
  unfold gm_p_Tree_ruleOf gm_f_Tree_ruleOf
  refine gx_s_Tree_ruleOf_2 _ _ ?_ _ _ _ ?_ ?_ ?_
  · exact h1
  · exact (show 0 ≤ (0 : Int32).toInt from (by have : (0 : Int32).toInt = 0 := (by decide); omega))
  · exact (show (0 : Int32).toInt ≤ 8 from (by have : (0 : Int32).toInt = 0 := (by decide); omega))
  · exact (show 8 < ((0 : Int32).toInt + 9) from (by have : (0 : Int32).toInt = 0 := (by decide); omega))
abbrev gx_q_Tree_rootOf (x : Int32) (S : gm_S) (z : Int32 × (gm_S)) : Prop := ((-1 ≤ z.1.toInt) ∧ (z.1.toInt ≤ 74))
theorem gx_s_Tree_rootOf (x : Int32) (S : gm_S) (h1 : gm_iT (S.2.2 11) (S.2.2 12) (S.2.2 13) (S.1 2) (S.1 3) (S.1 4) (S.1 5) (S.1 10)) : gm_p_Tree_rootOf x S ∧ gx_q_Tree_rootOf x S (gm_f_Tree_rootOf x S) := by
  unfold gm_p_Tree_rootOf gm_f_Tree_rootOf
  refine gx_ca (Q := gx_q_Tree_rootOf x S) (gx_q_Tree_ruleOf _ _) (gx_s_Tree_ruleOf _ _ h1) ?_
  intro r2 u2 h2
  have h2_0 : ((-1) ≤ r2.toInt) ∧ (r2.toInt ≤ 7) := h2
  refine gx_if (Q := gx_q_Tree_rootOf x S) (fun h3 => ?_) (fun h3 => ?_)
  · skip
    have h3_ := gx_eqr (k := -1) (by decide) h3
    exact ⟨trivial, (show ((-1) ≤ ((-1) : Int32).toInt) ∧ (((-1) : Int32).toInt ≤ 74) from (by have : ((-1) : Int32).toInt = -1 := (by decide); omega))⟩
  · skip
    have h3_ := gx_eqnr (k := -1) (by decide) h3
    refine gx_in (Q := gx_q_Tree_rootOf x S) (vp_in_iff.mpr (by omega)) ?_
    exact ⟨trivial, (show ((-1) ≤ (S.1 10 (Int32.toNatClampNeg r2)).toInt) ∧ ((S.1 10 (Int32.toNatClampNeg r2)).toInt ≤ 74) from (by have := h1.2.2.2.2.2.2.2 (Int32.toNatClampNeg r2); omega))⟩
abbrev gx_q_Tree_firstNodeOf (x : Int32) (S : gm_S) (z : Int32 × (gm_S)) : Prop := ((0 ≤ z.1.toInt) ∧ (z.1.toInt ≤ 75))
theorem gx_s_Tree_firstNodeOf (x : Int32) (S : gm_S) (h1 : gm_iT (S.2.2 11) (S.2.2 12) (S.2.2 13) (S.1 2) (S.1 3) (S.1 4) (S.1 5) (S.1 10)) : gm_p_Tree_firstNodeOf x S ∧ gx_q_Tree_firstNodeOf x S (gm_f_Tree_firstNodeOf x S) := by
  unfold gm_p_Tree_firstNodeOf gm_f_Tree_firstNodeOf
  refine gx_if (Q := gx_q_Tree_firstNodeOf x S) (fun h2 => ?_) (fun h2 => ?_)
  · skip
    have h2_ := gx_ler (k := 0) (by decide) h2
    exact ⟨trivial, (show (0 ≤ (0 : Int32).toInt) ∧ ((0 : Int32).toInt ≤ 75) from (by have : (0 : Int32).toInt = 0 := (by decide); omega))⟩
  · skip
    have h2_ := gx_lenr (k := 0) (by decide) h2
    refine gx_if (Q := gx_q_Tree_firstNodeOf x S) (fun h3 => ?_) (fun h3 => ?_)
    · skip
      have h3_ := gx_lt h3
      refine gx_in (Q := gx_q_Tree_firstNodeOf x S) (vp_in_iff.mpr (by have := gx_sk x 1 (1) (by decide); omega)) ?_
      exact ⟨trivial, (show (0 ≤ ((S.1 10 (Int32.toNatClampNeg (x - 1))) + 1).toInt) ∧ (((S.1 10 (Int32.toNatClampNeg (x - 1))) + 1).toInt ≤ 75) from (by have := h1.2.2.2.2.2.2.2 (Int32.toNatClampNeg (x - 1)); have := gx_ak (S.1 10 (Int32.toNatClampNeg (x - 1))) 1 (1) (by decide); have := gx_sk x 1 (1) (by decide); omega))⟩
    · skip
      have h3_ := gx_ltn h3
      exact ⟨trivial, (show (0 ≤ (0 : Int32).toInt) ∧ ((0 : Int32).toInt ≤ 75) from (by have : (0 : Int32).toInt = 0 := (by decide); omega))⟩
abbrev gx_q_Tree_partOf (x : Int32) (S : gm_S) (z : Int32 × (gm_S)) : Prop := ((0 ≤ z.1.toInt) ∧ (z.1.toInt ≤ 74))
theorem gx_s_Tree_partOf (x : Int32) (S : gm_S) (h1 : gm_iT (S.2.2 11) (S.2.2 12) (S.2.2 13) (S.1 2) (S.1 3) (S.1 4) (S.1 5) (S.1 10)) (h2 : 0 ≤ x.toInt) (h3 : x.toInt ≤ 74) : gm_p_Tree_partOf x S ∧ gx_q_Tree_partOf x S (gm_f_Tree_partOf x S) := by
  unfold gm_p_Tree_partOf gm_f_Tree_partOf
  refine gx_in (Q := gx_q_Tree_partOf x S) (vp_in_iff.mpr (by omega)) ?_
  refine gx_in (Q := gx_q_Tree_partOf x S) (vp_in_iff.mpr (by omega)) ?_
  refine gx_if (Q := gx_q_Tree_partOf x S) (fun h4 => ?_) (fun h4 => ?_)
  · skip
    have h4_ := gx_le h4
    exact ⟨trivial, (show (0 ≤ (0 : Int32).toInt) ∧ ((0 : Int32).toInt ≤ 74) from (by have := h1.2.2.2.2.1 (Int32.toNatClampNeg x); have := h1.2.2.2.1 (Int32.toNatClampNeg x); have : (0 : Int32).toInt = 0 := (by decide); omega))⟩
  · skip
    have h4_ := gx_len h4
    refine gx_in (Q := gx_q_Tree_partOf x S) (vp_in_iff.mpr (by have := h1.2.2.2.2.1 (Int32.toNatClampNeg x); have := h1.2.2.2.1 (Int32.toNatClampNeg x); omega)) ?_
    refine gx_in (Q := gx_q_Tree_partOf x S) (vp_in_iff.mpr (by have := h1.2.2.2.1 (Int32.toNatClampNeg x); have := h1.2.2.2.2.1 (Int32.toNatClampNeg x); omega)) ?_
    exact ⟨trivial, (show (0 ≤ (S.1 4 (Int32.toNatClampNeg (S.1 2 (Int32.toNatClampNeg x)))).toInt) ∧ ((S.1 4 (Int32.toNatClampNeg (S.1 2 (Int32.toNatClampNeg x)))).toInt ≤ 74) from (by have := h1.2.2.2.2.2.1 (Int32.toNatClampNeg (S.1 2 (Int32.toNatClampNeg x))); have := h1.2.2.2.1 (Int32.toNatClampNeg x); have := h1.2.2.2.2.1 (Int32.toNatClampNeg x); omega))⟩
abbrev gx_q_Tree_include (x : Int32) (y : Int32) (w : Int32) (S : gm_S) (z : Int32 × (gm_S)) : Prop := True
theorem gx_s_Tree_include_19 (x : Int32) (y : Int32) (w : Int32) (S : gm_S) (h1 : gm_iT (S.2.2 11) (S.2.2 12) (S.2.2 13) (S.1 2) (S.1 3) (S.1 4) (S.1 5) (S.1 10)) (h2 : 32 ≤ y.toInt) (h3 : y.toInt ≤ 126) (h4 : 32 ≤ w.toInt) (h5 : w.toInt ≤ 126) (h6 : 0 ≤ x.toInt) (h7 : x.toInt ≤ 74) : ∀ (n19 : Nat) (v4_19 : Int32) (S_19 : gm_S), (0 ≤ v4_19.toInt) → (v4_19.toInt ≤ 95) → (95 < v4_19.toInt + n19) → gm_p_Tree_include_19 x y w S n19 v4_19 S_19 ∧ gx_q_Tree_include x y w S (gm_f_Tree_include_19 x y w S n19 v4_19 S_19) := by
  intro n19
  induction n19 with
  | zero =>
    intro v4_19 S_19 h8 h9 h10; exfalso; skip; omega
  | succ n19 ih =>
    intro v4_19 S_19 h8 h9 h10
    rw [gm_p_Tree_include_19, gm_f_Tree_include_19]
    refine gx_if (Q := gx_q_Tree_include x y w S) (fun h11 => ?_) (fun h11 => ?_)
    · skip
      have h11_ := gx_lt h11
      exact ⟨trivial, trivial⟩
    · skip
      have h11_ := gx_ltn h11
      refine gx_if (Q := gx_q_Tree_include x y w S) (fun h12 => ?_) (fun h12 => ?_)
      · skip
        have h12_ := gx_lel (k := 64) (gx_lit 64 (by decide)) h12
        refine gx_in (Q := gx_q_Tree_include x y w S) (vp_in_iff.mpr (by have := gx_sk w 32 (32) (gx_lit 32 (by decide)); omega)) ?_
        refine gx_in (Q := gx_q_Tree_include x y w S) (vp_in_iff.mpr (by have := gx_sk w 32 (32) (gx_lit 32 (by decide)); omega)) ?_
        refine ih _ _ ?_ ?_ ?_
        · exact (show 0 ≤ (v4_19 + 1).toInt from (by have := gx_ak v4_19 1 (1) (by decide); have := gx_sk w 32 (32) (gx_lit 32 (by decide)); omega))
        · exact (show (v4_19 + 1).toInt ≤ 95 from (by have := gx_ak v4_19 1 (1) (by decide); have := gx_sk w 32 (32) (gx_lit 32 (by decide)); omega))
        · exact (show 95 < ((v4_19 + 1).toInt + n19) from (by have := gx_ak v4_19 1 (1) (by decide); have := gx_sk w 32 (32) (gx_lit 32 (by decide)); omega))
      · skip
        have h12_ := gx_lenl (k := 64) (gx_lit 64 (by decide)) h12
        refine gx_in (Q := gx_q_Tree_include x y w S) (vp_in_iff.mpr (by have := gx_sk w 32 (32) (gx_lit 32 (by decide)); omega)) ?_
        refine gx_in (Q := gx_q_Tree_include x y w S) (vp_in_iff.mpr (by have := gx_sk w 32 (32) (gx_lit 32 (by decide)); omega)) ?_
        refine ih _ _ ?_ ?_ ?_
        · exact (show 0 ≤ (v4_19 + 1).toInt from (by have := gx_ak v4_19 1 (1) (by decide); have := gx_sk w 32 (32) (gx_lit 32 (by decide)); omega))
        · exact (show (v4_19 + 1).toInt ≤ 95 from (by have := gx_ak v4_19 1 (1) (by decide); have := gx_sk w 32 (32) (gx_lit 32 (by decide)); omega))
        · exact (show 95 < ((v4_19 + 1).toInt + n19) from (by have := gx_ak v4_19 1 (1) (by decide); have := gx_sk w 32 (32) (gx_lit 32 (by decide)); omega))
theorem gx_s_Tree_include (x : Int32) (y : Int32) (w : Int32) (S : gm_S) (h1 : gm_iT (S.2.2 11) (S.2.2 12) (S.2.2 13) (S.1 2) (S.1 3) (S.1 4) (S.1 5) (S.1 10)) (h2 : 32 ≤ y.toInt) (h3 : y.toInt ≤ 126) (h4 : 32 ≤ w.toInt) (h5 : w.toInt ≤ 126) : gm_p_Tree_include x y w S ∧ gx_q_Tree_include x y w S (gm_f_Tree_include x y w S) := by
  unfold gm_p_Tree_include gm_f_Tree_include
  refine gx_if (Q := gx_q_Tree_include x y w S) (fun h6 => ?_) (fun h6 => ?_)
  · skip
    have h6_ := gx_ltr (k := 0) (by decide) h6
    exact ⟨trivial, trivial⟩
  · skip
    have h6_ := gx_ltnr (k := 0) (by decide) h6
    refine gx_if (Q := gx_q_Tree_include x y w S) (fun h7 => ?_) (fun h7 => ?_)
    · skip
      have h7_ := gx_lt h7
      refine gx_s_Tree_include_19 _ _ _ _ ?_ ?_ ?_ ?_ ?_ ?_ ?_ _ _ _ ?_ ?_ ?_
      · exact h1
      · exact (show 32 ≤ y.toInt from (by omega))
      · exact (show y.toInt ≤ 126 from (by omega))
      · exact (show 32 ≤ w.toInt from (by omega))
      · exact (show w.toInt ≤ 126 from (by omega))
      · exact (show 0 ≤ x.toInt from (by omega))
      · exact (show x.toInt ≤ 74 from (by omega))
      · exact (show 0 ≤ (y - 32).toInt from (by have := gx_sk y 32 (32) (gx_lit 32 (by decide)); omega))
      · exact (show (y - 32).toInt ≤ 95 from (by have := gx_sk y 32 (32) (gx_lit 32 (by decide)); omega))
      · exact (show 95 < ((y - 32).toInt + 100) from (by have := gx_sk y 32 (32) (gx_lit 32 (by decide)); omega))
    · skip
      have h7_ := gx_ltn h7
      exact ⟨trivial, trivial⟩
abbrev gx_q_Tree_holds (x : Int32) (y : Int32) (S : gm_S) (z : Int32 × (gm_S)) : Prop := ((z.1 = 0) ∨ (z.1 = 1))
theorem gx_s_Tree_holds (x : Int32) (y : Int32) (S : gm_S) (h1 : gm_iT (S.2.2 11) (S.2.2 12) (S.2.2 13) (S.1 2) (S.1 3) (S.1 4) (S.1 5) (S.1 10)) : gm_p_Tree_holds x y S ∧ gx_q_Tree_holds x y S (gm_f_Tree_holds x y S) := by
  unfold gm_p_Tree_holds gm_f_Tree_holds
  refine gx_if (Q := gx_q_Tree_holds x y S) (fun h2 => ?_) (fun h2 => ?_)
  · skip
    have h2_ := gx_ltr (k := 0) (by decide) h2
    exact ⟨trivial, (Or.inl rfl)⟩
  · skip
    have h2_ := gx_ltnr (k := 0) (by decide) h2
    refine gx_if (Q := gx_q_Tree_holds x y S) (fun h3 => ?_) (fun h3 => ?_)
    · skip
      have h3_ := gx_le h3
      exact ⟨trivial, (Or.inl rfl)⟩
    · skip
      have h3_ := gx_len h3
      refine gx_if (Q := gx_q_Tree_holds x y S) (fun h4 => ?_) (fun h4 => ?_)
      · skip
        have h4_ := gx_ltr (k := 32) (gx_lit 32 (by decide)) h4
        exact ⟨trivial, (Or.inl rfl)⟩
      · skip
        have h4_ := gx_ltnr (k := 32) (gx_lit 32 (by decide)) h4
        refine gx_if (Q := gx_q_Tree_holds x y S) (fun h5 => ?_) (fun h5 => ?_)
        · skip
          have h5_ := gx_ler (k := 126) (gx_lit 126 (by decide)) h5
          refine gx_if (Q := gx_q_Tree_holds x y S) (fun h6 => ?_) (fun h6 => ?_)
          · skip
            have h6_ := gx_lel (k := 64) (gx_lit 64 (by decide)) h6
            refine gx_in (Q := gx_q_Tree_holds x y S) (vp_in_iff.mpr (by have := gx_sk y 32 (32) (gx_lit 32 (by decide)); omega)) ?_
            refine gx_if (Q := gx_q_Tree_holds x y S) (fun h7 => ?_) (fun h7 => ?_)
            · skip
              have h7_ := gx_eqr (k := 0) (by decide) h7
              exact ⟨trivial, (Or.inl rfl)⟩
            · skip
              have h7_ := gx_eqnr (k := 0) (by decide) h7
              exact ⟨trivial, (Or.inr rfl)⟩
          · skip
            have h6_ := gx_lenl (k := 64) (gx_lit 64 (by decide)) h6
            refine gx_in (Q := gx_q_Tree_holds x y S) (vp_in_iff.mpr (by have := gx_sk y 32 (32) (gx_lit 32 (by decide)); omega)) ?_
            refine gx_if (Q := gx_q_Tree_holds x y S) (fun h7 => ?_) (fun h7 => ?_)
            · skip
              have h7_ := gx_eqr (k := 0) (by decide) h7
              exact ⟨trivial, (Or.inl rfl)⟩
            · skip
              have h7_ := gx_eqnr (k := 0) (by decide) h7
              exact ⟨trivial, (Or.inr rfl)⟩
        · skip
          have h5_ := gx_lenr (k := 126) (gx_lit 126 (by decide)) h5
          exact ⟨trivial, (Or.inl rfl)⟩
abbrev gx_q_Tree_reset (S : gm_S) (z : Int32 × (gm_S)) : Prop := (gm_iT (z.2.2.2 11) (z.2.2.2 12) (z.2.2.2 13) (S.1 2) (S.1 3) (S.1 4) (S.1 5) (S.1 10))
theorem gx_s_Tree_reset (S : gm_S) (h1 : gm_iT (S.2.2 11) (S.2.2 12) (S.2.2 13) (S.1 2) (S.1 3) (S.1 4) (S.1 5) (S.1 10)) : gm_p_Tree_reset S ∧ gx_q_Tree_reset S (gm_f_Tree_reset S) := by
  unfold gm_p_Tree_reset gm_f_Tree_reset
  exact ⟨trivial, ⟨(show 0 ≤ (0 : Int32).toInt ∧ (0 : Int32).toInt ≤ 75 from (by have : (0 : Int32).toInt = 0 := (by decide); omega)), (show 0 ≤ (0 : Int32).toInt ∧ (0 : Int32).toInt ≤ 75 from (by have : (0 : Int32).toInt = 0 := (by decide); omega)), (show 0 ≤ (0 : Int32).toInt ∧ (0 : Int32).toInt ≤ 8 from (by have : (0 : Int32).toInt = 0 := (by decide); omega)), h1.2.2.2.1, h1.2.2.2.2.1, h1.2.2.2.2.2.1, h1.2.2.2.2.2.2.1, h1.2.2.2.2.2.2.2⟩⟩
abbrev gx_q_Row_at (n : Nat) (x : Int32) (S : gm_S) (z : Int32 × (gm_S)) : Prop := ((z.1.toInt = -1) ∨ ((32 ≤ z.1.toInt) ∧ (z.1.toInt ≤ 126))) ∧ (z.1 = (gm_f_Row_at n x S).1)
theorem gx_s_Row_at (n : Nat) (x : Int32) (S : gm_S) (h1 : gm_iW n (S.2.2 1) (S.1 0)) : gm_p_Row_at n x S ∧ gx_q_Row_at n x S (gm_f_Row_at n x S) := by
  have e1 : (-1 : Int32).toInt = -1 := by decide
  have e0 : (0 : Int32).toInt = 0 := by decide
  refine (fun (h : gm_p_Row_at n x S ∧ (fun z : Int32 × gm_S => (z.1.toInt = -1) ∨ ((32 ≤ z.1.toInt) ∧ (z.1.toInt ≤ 126))) (gm_f_Row_at n x S)) => ⟨h.1, h.2, rfl⟩) ?_
  unfold gm_p_Row_at gm_f_Row_at
  refine gx_if (Q := fun z : Int32 × gm_S => (z.1.toInt = -1) ∨ ((32 ≤ z.1.toInt) ∧ (z.1.toInt ≤ 126))) (fun h => ⟨trivial, Or.inl e1⟩) (fun h => ?_)
  refine gx_if (Q := fun z : Int32 × gm_S => (z.1.toInt = -1) ∨ ((32 ≤ z.1.toInt) ∧ (z.1.toInt ≤ 126))) (fun h' => ⟨trivial, Or.inl e1⟩) (fun h' => ?_)
  have a := gx_ltn h
  have b := gx_len h'
  refine gx_in (Q := fun z : Int32 × gm_S => (z.1.toInt = -1) ∨ ((32 ≤ z.1.toInt) ∧ (z.1.toInt ≤ 126))) (vp_in_iff.mpr (by omega)) ⟨trivial, Or.inr ?_⟩
  have hc : ((Int32.toNatClampNeg x : Nat) : Int) = x.toInt := by
    obtain ⟨j, hj, rfl⟩ := nI_of h
    rw [nI_clamp hj, nI_toInt hj]
  exact h1.2 _ (by omega)
abbrev gx_q_Row_append (n : Nat) (x : Int32) (S : gm_S) (z : Int32 × (gm_S)) : Prop := gm_iW n (z.2.2.2 1) (z.2.1 0) ∧ (z.1 = 0 ∨ z.1 = 1)
theorem gx_s_Row_append (n : Nat) (x : Int32) (S : gm_S) (h1 : gm_iW n (S.2.2 1) (S.1 0)) (hn : n ≤ 5720) : gm_p_Row_append n x S ∧ gx_q_Row_append n x S (gm_f_Row_append n x S) := by
  have e1 : (1 : Int32).toInt = 1 := by decide
  have e0 : (32 : Int32).toInt = 32 := by decide
  have e2 : (126 : Int32).toInt = 126 := by decide
  have en := gx_on n (by omega)
  unfold gm_p_Row_append gm_f_Row_append
  refine gx_if (Q := gx_q_Row_append n x S) (fun h => ⟨trivial, h1, Or.inl rfl⟩) (fun h => ?_)
  refine gx_if (Q := gx_q_Row_append n x S) (fun h' => ⟨trivial, h1, Or.inl rfl⟩) (fun h' => ?_)
  refine gx_if (Q := gx_q_Row_append n x S) (fun h'' => ?_) (fun h'' => ⟨trivial, h1, Or.inl rfl⟩)
  have a := gx_ltn h
  have b := gx_ltn h'
  have c := gx_lt h''
  have d := gx_ad (S.2.2 1) 1
  refine gx_in (vp_in_iff.mpr (by omega)) ⟨trivial, ?_, Or.inr rfl⟩
  refine ⟨(show 0 ≤ (S.2.2 1 + 1).toInt ∧ (S.2.2 1 + 1).toInt ≤ n from by omega), fun k hk => ?_⟩
  have hk : (k : Int) < (S.2.2 1 + 1).toInt := hk
  show 32 ≤ (upd (S.1 0) (Int32.toNatClampNeg (S.2.2 1)) (vp_nar .char x) k).toInt ∧ (upd (S.1 0) (Int32.toNatClampNeg (S.2.2 1)) (vp_nar .char x) k).toInt ≤ 126
  obtain ⟨j, hj, rfl⟩ := nI_of (x := x) (fun h9 => by have := gx_lt h9; have z0 : (0 : Int32).toInt = 0 := (by decide); omega)
  have hc : ((Int32.toNatClampNeg (S.2.2 1) : Nat) : Int) = (S.2.2 1).toInt := by
    obtain ⟨i, hi, e⟩ := nI_of (x := S.2.2 1) (fun h9 => by have := gx_lt h9; have z0 : (0 : Int32).toInt = 0 := (by decide); omega)
    rw [e, nI_clamp hi, nI_toInt hi]
  rw [nI_toInt hj] at a b
  have hv : vp_nar .char (nI j) = nI j := by
    have := (pk_charN (q := j) (by omega)).1
    unfold vp_nar
    rw [this]
  unfold upd
  by_cases e : k = Int32.toNatClampNeg (S.2.2 1)
  · rw [if_pos e, hv, nI_toInt hj]; omega
  · rw [if_neg e]; exact h1.2 k (by omega)
abbrev gx_q_Captures_add (n : Nat) (x : Int32) (y : Int32) (S : gm_S) (z : Int32 × (gm_S)) : Prop := (gm_iN n (z.2.2.2 2))
theorem gx_s_Captures_add (n : Nat) (x : Int32) (y : Int32) (S : gm_S) (h1 : gm_iN n (S.2.2 2)) (h2 : n ≤ 5720) : gm_p_Captures_add n x y S ∧ gx_q_Captures_add n x y S (gm_f_Captures_add n x y S) := by
  unfold gm_p_Captures_add gm_f_Captures_add
  refine gx_if (Q := gx_q_Captures_add n x y S) (fun h3 => ?_) (fun h3 => ?_)
  · skip
    have h3_ := gx_le h3
    exact ⟨trivial, h1⟩
  · skip
    have h3_ := gx_len h3
    refine gx_in (Q := gx_q_Captures_add n x y S) (vp_in_iff.mpr (by have := gx_on n (by omega); omega)) ?_
    refine gx_in (Q := gx_q_Captures_add n x y S) (vp_in_iff.mpr (by have := gx_on n (by omega); omega)) ?_
    exact ⟨trivial, (show 0 ≤ ((S.2.2 2) + 1).toInt ∧ ((S.2.2 2) + 1).toInt ≤ n from (by have := gx_ak (S.2.2 2) 1 (1) (by decide); have := gx_on n (by omega); omega))⟩
abbrev gx_q_Captures_closeLatest (n : Nat) (x : Int32) (S : gm_S) (z : Int32 × (gm_S)) : Prop := True
theorem gx_s_Captures_closeLatest_7 (n : Nat) (x : Int32) (S : gm_S) (h1 : gm_iN n (S.2.2 2)) (h2 : n ≤ 5720) : ∀ (n7 : Nat) (v2_7 : Int32) (S_7 : gm_S), (-1 ≤ v2_7.toInt) → (v2_7.toInt < n) → (v2_7.toInt + 1 < n7) → gm_p_Captures_closeLatest_7 n x S n7 v2_7 S_7 ∧ gx_q_Captures_closeLatest n x S (gm_f_Captures_closeLatest_7 n x S n7 v2_7 S_7) := by
  intro n7
  induction n7 with
  | zero =>
    intro v2_7 S_7 h3 h4 h5; exfalso; skip; omega
  | succ n7 ih =>
    intro v2_7 S_7 h3 h4 h5
    rw [gm_p_Captures_closeLatest_7, gm_f_Captures_closeLatest_7]
    refine gx_if (Q := gx_q_Captures_closeLatest n x S) (fun h6 => ?_) (fun h6 => ?_)
    · skip
      have h6_ := gx_ltr (k := 0) (by decide) h6
      exact ⟨trivial, trivial⟩
    · skip
      have h6_ := gx_ltnr (k := 0) (by decide) h6
      refine gx_in (Q := gx_q_Captures_closeLatest n x S) (vp_in_iff.mpr (by omega)) ?_
      refine gx_if (Q := gx_q_Captures_closeLatest n x S) (fun h7 => ?_) (fun h7 => ?_)
      · skip
        clear h7
        refine gx_in (Q := gx_q_Captures_closeLatest n x S) (vp_in_iff.mpr (by omega)) ?_
        exact ⟨trivial, trivial⟩
      · skip
        clear h7
        refine ih _ _ ?_ ?_ ?_
        · exact (show (-1) ≤ (v2_7 + (-1)).toInt from (by have e0 := gx_ak v2_7 (-1) (-1) (by decide); generalize (v2_7 + (-1)).toInt = t0 at e0 ⊢; omega))
        · exact (show (v2_7 + (-1)).toInt < n from (by have e0 := gx_ak v2_7 (-1) (-1) (by decide); generalize (v2_7 + (-1)).toInt = t0 at e0 ⊢; omega))
        · exact (show ((v2_7 + (-1)).toInt + 1) < n7 from (by have e0 := gx_ak v2_7 (-1) (-1) (by decide); generalize (v2_7 + (-1)).toInt = t0 at e0 ⊢; omega))
theorem gx_s_Captures_closeLatest (n : Nat) (x : Int32) (S : gm_S) (h1 : gm_iN n (S.2.2 2)) (h2 : n ≤ 5720) : gm_p_Captures_closeLatest n x S ∧ gx_q_Captures_closeLatest n x S (gm_f_Captures_closeLatest n x S) := by
  unfold gm_p_Captures_closeLatest gm_f_Captures_closeLatest
  refine gx_s_Captures_closeLatest_7 _ _ _ ?_ ?_ _ _ _ ?_ ?_ ?_
  · exact h1
  · exact (show n ≤ 5720 from (by omega))
  · exact (show (-1) ≤ ((S.2.2 2) - 1).toInt from (by have := gx_sk (S.2.2 2) 1 (1) (by decide); omega))
  · exact (show ((S.2.2 2) - 1).toInt < n from (by have := gx_sk (S.2.2 2) 1 (1) (by decide); omega))
  · exact (show (((S.2.2 2) - 1).toInt + 1) < 6000 from (by have := gx_sk (S.2.2 2) 1 (1) (by decide); omega))
abbrev gx_q_Captures_cutTo (n : Nat) (x : Int32) (S : gm_S) (z : Int32 × (gm_S)) : Prop := (gm_iN n (z.2.2.2 2))
theorem gx_s_Captures_cutTo (n : Nat) (x : Int32) (S : gm_S) (h1 : gm_iN n (S.2.2 2)) : gm_p_Captures_cutTo n x S ∧ gx_q_Captures_cutTo n x S (gm_f_Captures_cutTo n x S) := by
  unfold gm_p_Captures_cutTo gm_f_Captures_cutTo
  refine gx_if (Q := gx_q_Captures_cutTo n x S) (fun h2 => ?_) (fun h2 => ?_)
  · skip
    have h2_ := gx_ltr (k := 0) (by decide) h2
    exact ⟨trivial, h1⟩
  · skip
    have h2_ := gx_ltnr (k := 0) (by decide) h2
    refine gx_if (Q := gx_q_Captures_cutTo n x S) (fun h3 => ?_) (fun h3 => ?_)
    · skip
      have h3_ := gx_le h3
      exact ⟨trivial, h1⟩
    · skip
      have h3_ := gx_len h3
      exact ⟨trivial, (show 0 ≤ x.toInt ∧ x.toInt ≤ n from (by omega))⟩
abbrev gx_q_Captures_outerOf (n : Nat) (x : Int32) (S : gm_S) (z : Int32 × (gm_S)) : Prop := True
theorem gx_s_Captures_outerOf_4 (n : Nat) (x : Int32) (S : gm_S) (h1 : gm_iN n (S.2.2 2)) (h2 : n ≤ 5720) (h3 : 0 ≤ x.toInt) (h4 : x.toInt < n) : ∀ (n4 : Nat) (v2_4 : Int32) (S_4 : gm_S), (-1 ≤ v2_4.toInt) → (v2_4.toInt < n) → (v2_4.toInt + 1 < n4) → gm_p_Captures_outerOf_4 n x S n4 v2_4 S_4 ∧ gx_q_Captures_outerOf n x S (gm_f_Captures_outerOf_4 n x S n4 v2_4 S_4) := by
  intro n4
  induction n4 with
  | zero =>
    intro v2_4 S_4 h5 h6 h7; exfalso; skip; omega
  | succ n4 ih =>
    intro v2_4 S_4 h5 h6 h7
    rw [gm_p_Captures_outerOf_4, gm_f_Captures_outerOf_4]
    refine gx_if (Q := gx_q_Captures_outerOf n x S) (fun h8 => ?_) (fun h8 => ?_)
    · skip
      have h8_ := gx_ltr (k := 0) (by decide) h8
      exact ⟨trivial, trivial⟩
    · skip
      have h8_ := gx_ltnr (k := 0) (by decide) h8
      refine gx_in (Q := gx_q_Captures_outerOf n x S) (vp_in_iff.mpr (by omega)) ?_
      refine gx_in (Q := gx_q_Captures_outerOf n x S) (vp_in_iff.mpr (by omega)) ?_
      refine gx_if (Q := gx_q_Captures_outerOf n x S) (fun h9 => ?_) (fun h9 => ?_)
      · skip
        clear h9
        refine ih _ _ ?_ ?_ ?_
        · exact (show (-1) ≤ (v2_4 + (-1)).toInt from (by have e0 := gx_ak v2_4 (-1) (-1) (by decide); generalize (v2_4 + (-1)).toInt = t0 at e0 ⊢; omega))
        · exact (show (v2_4 + (-1)).toInt < n from (by have e0 := gx_ak v2_4 (-1) (-1) (by decide); generalize (v2_4 + (-1)).toInt = t0 at e0 ⊢; omega))
        · exact (show ((v2_4 + (-1)).toInt + 1) < n4 from (by have e0 := gx_ak v2_4 (-1) (-1) (by decide); generalize (v2_4 + (-1)).toInt = t0 at e0 ⊢; omega))
      · skip
        clear h9
        exact ⟨trivial, trivial⟩
theorem gx_s_Captures_outerOf (n : Nat) (x : Int32) (S : gm_S) (h1 : gm_iN n (S.2.2 2)) (h2 : n ≤ 5720) (h3 : 0 ≤ x.toInt) (h4 : x.toInt < n) : gm_p_Captures_outerOf n x S ∧ gx_q_Captures_outerOf n x S (gm_f_Captures_outerOf n x S) := by
  unfold gm_p_Captures_outerOf gm_f_Captures_outerOf
  refine gx_s_Captures_outerOf_4 _ _ _ ?_ ?_ ?_ ?_ _ _ _ ?_ ?_ ?_
  · exact h1
  · exact (show n ≤ 5720 from (by omega))
  · exact (show 0 ≤ x.toInt from (by omega))
  · exact (show x.toInt < n from (by omega))
  · exact (show (-1) ≤ (x - 1).toInt from (by have := gx_sk x 1 (1) (by decide); omega))
  · exact (show (x - 1).toInt < n from (by have := gx_sk x 1 (1) (by decide); omega))
  · exact (show ((x - 1).toInt + 1) < 6000 from (by have := gx_sk x 1 (1) (by decide); omega))
abbrev gx_q_Captures_addFrom (n : Nat) (n1 : Nat) (x : Int32) (y : Int32) (S : gm_S × gm_S) (z : Int32 × (gm_S × gm_S)) : Prop := (gm_iN n (z.2.1.2.2 2))
theorem gx_s_Captures_addFrom_3 (n : Nat) (n1 : Nat) (x : Int32) (y : Int32) (S : gm_S × gm_S) (h1 : gm_iN n (S.1.2.2 2)) (h2 : gm_iN n1 (S.2.2.2 2)) (h3 : n ≤ 5720) (h4 : n1 ≤ 5720) : ∀ (n3 : Nat) (v4_3 : Int32) (S_3 : gm_S × gm_S), (gm_iN n (S_3.1.2.2 2)) → (0 < n3) → ((v4_3.toInt < 0) ∨ (5720 < (v4_3.toInt + n3))) → gm_p_Captures_addFrom_3 n n1 x y S n3 v4_3 S_3 ∧ gx_q_Captures_addFrom n n1 x y S (gm_f_Captures_addFrom_3 n n1 x y S n3 v4_3 S_3) := by
  intro n3
  induction n3 with
  | zero =>
    intro v4_3 S_3 h5 h6 h7; exfalso; skip; omega
  | succ n3 ih =>
    intro v4_3 S_3 h5 h6 h7
    rw [gm_p_Captures_addFrom_3, gm_f_Captures_addFrom_3]
    refine gx_if (Q := gx_q_Captures_addFrom n n1 x y S) (fun h8 => ?_) (fun h8 => ?_)
    · skip
      have h8_ := gx_le h8
      exact ⟨trivial, h5⟩
    · skip
      have h8_ := gx_len h8
      refine gx_if (Q := gx_q_Captures_addFrom n n1 x y S) (fun h9 => ?_) (fun h9 => ?_)
      · skip
        have h9_ := gx_ltr (k := 0) (by decide) h9
        exact ⟨trivial, h5⟩
      · skip
        have h9_ := gx_ltnr (k := 0) (by decide) h9
        refine gx_if (Q := gx_q_Captures_addFrom n n1 x y S) (fun h10 => ?_) (fun h10 => ?_)
        · skip
          have h10_ := gx_le h10
          exact ⟨trivial, h5⟩
        · skip
          have h10_ := gx_len h10
          refine gx_in (Q := gx_q_Captures_addFrom n n1 x y S) (vp_in_iff.mpr (by omega)) ?_
          refine gx_in (Q := gx_q_Captures_addFrom n n1 x y S) (vp_in_iff.mpr (by omega)) ?_
          refine gx_ca (Q := gx_q_Captures_addFrom n n1 x y S) (gx_q_Captures_add _ _ _ _) (gx_s_Captures_add _ _ _ _ h5 h3) ?_
          intro r_h11 u38 h11
          have h11_0 : gm_iN n (u38.2.2 2) := h11
          refine ih _ _ ?_ ?_ ?_
          · exact h11_0
          · exact (show 0 < n3 from (by omega))
          · exact (show ((v4_3 + 1).toInt < 0) ∨ (5720 < ((v4_3 + 1).toInt + n3)) from (by have := gx_ak v4_3 1 (1) (by decide); omega))
theorem gx_s_Captures_addFrom (n : Nat) (n1 : Nat) (x : Int32) (y : Int32) (S : gm_S × gm_S) (h1 : gm_iN n (S.1.2.2 2)) (h2 : gm_iN n1 (S.2.2.2 2)) (h3 : n ≤ 5720) (h4 : n1 ≤ 5720) : gm_p_Captures_addFrom n n1 x y S ∧ gx_q_Captures_addFrom n n1 x y S (gm_f_Captures_addFrom n n1 x y S) := by
  unfold gm_p_Captures_addFrom gm_f_Captures_addFrom
  refine gx_s_Captures_addFrom_3 _ _ _ _ _ ?_ ?_ ?_ ?_ _ _ _ ?_ ?_ ?_
  · exact h1
  · exact h2
  · exact (show n ≤ 5720 from (by omega))
  · exact (show n1 ≤ 5720 from (by omega))
  · exact h1
  · exact (show 0 < 6000 from (by omega))
  · exact (show (x.toInt < 0) ∨ (5720 < (x.toInt + 6000)) from (by omega))
abbrev gx_q_Memory_slotOf (x : Int32) (y : Int32) (z : Int32 × (Unit)) : Prop := (-1 ≤ z.1.toInt) ∧ (z.1.toInt ≤ 87)
theorem gx_s_Memory_slotOf (x : Int32) (y : Int32) : gm_p_Memory_slotOf x y ∧ gx_q_Memory_slotOf x y (gm_f_Memory_slotOf x y) := by
  have e1 : (-1 : Int32).toInt = -1 := by decide
  have e0 : (0 : Int32).toInt = 0 := by decide
  have e8 : (8 : Int32).toInt = 8 := by decide
  have e11 : (11 : Int32).toInt = 11 := by decide
  have q1 : gx_q_Memory_slotOf x y (-1, ()) := by show -1 ≤ (-1 : Int32).toInt ∧ (-1 : Int32).toInt ≤ 87; omega
  unfold gm_p_Memory_slotOf gm_f_Memory_slotOf
  refine gx_if (Q := gx_q_Memory_slotOf x y) (fun h => ⟨trivial, q1⟩) (fun h => ?_)
  refine gx_if (Q := gx_q_Memory_slotOf x y) (fun h => ⟨trivial, q1⟩) (fun h2 => ?_)
  refine gx_if (Q := gx_q_Memory_slotOf x y) (fun h => ⟨trivial, q1⟩) (fun h3 => ?_)
  refine gx_if (Q := gx_q_Memory_slotOf x y) (fun h => ⟨trivial, q1⟩) (fun h4 => ?_)
  have a := gx_len h2
  have b := gx_len h4
  obtain ⟨i, hi, rfl⟩ := nI_of h
  obtain ⟨j, hj, rfl⟩ := nI_of h3
  rw [nI_toInt hi, e8] at a
  rw [nI_toInt hj, e11] at b
  refine ⟨trivial, ?_⟩
  show -1 ≤ (nI i * nI 11 + nI j).toInt ∧ (nI i * nI 11 + nI j).toInt ≤ 87
  rw [pk_mul, nI_add, nI_toInt (by omega)]
  omega
abbrev gx_q_Memory_result (x : Int32) (y : Int32) (S : gm_S × gm_S) (z : Int32 × (gm_S × gm_S)) : Prop := True
theorem gx_s_Memory_result (x : Int32) (y : Int32) (S : gm_S × gm_S) (h1 : gm_iN 5720 (S.2.2.2 2)) : gm_p_Memory_result x y S ∧ gx_q_Memory_result x y S (gm_f_Memory_result x y S) := by
  unfold gm_p_Memory_result gm_f_Memory_result
  refine gx_ca (Q := gx_q_Memory_result x y S) (gx_q_Memory_slotOf _ _) (gx_s_Memory_slotOf _ _ ) ?_
  intro r2 u_h2 h2
  have h2_0 : ((-1) ≤ r2.toInt) ∧ (r2.toInt ≤ 87) := h2
  refine gx_if (Q := gx_q_Memory_result x y S) (fun h3 => ?_) (fun h3 => ?_)
  · skip
    have h3_ := gx_eqr (k := -1) (by decide) h3
    exact ⟨trivial, trivial⟩
  · skip
    have h3_ := gx_eqnr (k := -1) (by decide) h3
    refine gx_in (Q := gx_q_Memory_result x y S) (vp_in_iff.mpr (by omega)) ?_
    exact ⟨trivial, trivial⟩
abbrev gx_q_Memory_keepFailure (x : Int32) (y : Int32) (S : gm_S × gm_S) (z : Int32 × (gm_S × gm_S)) : Prop := True
theorem gx_s_Memory_keepFailure (x : Int32) (y : Int32) (S : gm_S × gm_S) (h1 : gm_iN 5720 (S.2.2.2 2)) : gm_p_Memory_keepFailure x y S ∧ gx_q_Memory_keepFailure x y S (gm_f_Memory_keepFailure x y S) := by
  unfold gm_p_Memory_keepFailure gm_f_Memory_keepFailure
  refine gx_ca (Q := gx_q_Memory_keepFailure x y S) (gx_q_Memory_slotOf _ _) (gx_s_Memory_slotOf _ _ ) ?_
  intro r2 u_h2 h2
  have h2_0 : ((-1) ≤ r2.toInt) ∧ (r2.toInt ≤ 87) := h2
  refine gx_if (Q := gx_q_Memory_keepFailure x y S) (fun h3 => ?_) (fun h3 => ?_)
  · skip
    have h3_ := gx_eqr (k := -1) (by decide) h3
    exact ⟨trivial, trivial⟩
  · skip
    have h3_ := gx_eqnr (k := -1) (by decide) h3
    refine gx_in (Q := gx_q_Memory_keepFailure x y S) (vp_in_iff.mpr (by omega)) ?_
    exact ⟨trivial, trivial⟩
abbrev gx_q_Memory_keepMatch (x : Int32) (y : Int32) (w : Int32) (v : Int32) (S : gm_S × gm_S × gm_S) (z : Int32 × (gm_S × gm_S × gm_S)) : Prop := (gm_iN 5720 (z.2.2.1.2.2 2))
theorem gx_s_Memory_keepMatch (x : Int32) (y : Int32) (w : Int32) (v : Int32) (S : gm_S × gm_S × gm_S) (h1 : gm_iN 5720 (S.2.1.2.2 2)) (h2 : gm_iN 275 (S.2.2.2.2 2)) : gm_p_Memory_keepMatch x y w v S ∧ gx_q_Memory_keepMatch x y w v S (gm_f_Memory_keepMatch x y w v S) := by
  unfold gm_p_Memory_keepMatch gm_f_Memory_keepMatch
  refine gx_ca (Q := gx_q_Memory_keepMatch x y w v S) (gx_q_Memory_slotOf _ _) (gx_s_Memory_slotOf _ _ ) ?_
  intro r2 u_h3 h3
  have h3_0 : ((-1) ≤ r2.toInt) ∧ (r2.toInt ≤ 87) := h3
  refine gx_if (Q := gx_q_Memory_keepMatch x y w v S) (fun h4 => ?_) (fun h4 => ?_)
  · skip
    have h4_ := gx_eqr (k := -1) (by decide) h4
    exact ⟨trivial, h1⟩
  · skip
    have h4_ := gx_eqnr (k := -1) (by decide) h4
    refine gx_in (Q := gx_q_Memory_keepMatch x y w v S) (vp_in_iff.mpr (by omega)) ?_
    refine gx_in (Q := gx_q_Memory_keepMatch x y w v S) (vp_in_iff.mpr (by omega)) ?_
    refine gx_ca (Q := gx_q_Memory_keepMatch x y w v S) (gx_q_Captures_addFrom _ _ _ _ _) (gx_s_Captures_addFrom _ _ _ _ _ h1 h2 (show 5720 ≤ 5720 from (by omega)) (show 275 ≤ 5720 from (by omega))) ?_
    intro r_h5 u48 h5
    have h5_0 : gm_iN 5720 (u48.1.2.2 2) := h5
    refine gx_in (Q := gx_q_Memory_keepMatch x y w v S) (vp_in_iff.mpr (by omega)) ?_
    exact ⟨trivial, h5_0⟩
abbrev gx_q_Memory_recallCaptures (x : Int32) (y : Int32) (S : gm_S × gm_S × gm_S) (z : Int32 × (gm_S × gm_S × gm_S)) : Prop := (gm_iN 275 (z.2.2.2.2.2 2))
theorem gx_s_Memory_recallCaptures (x : Int32) (y : Int32) (S : gm_S × gm_S × gm_S) (h1 : gm_iN 5720 (S.2.1.2.2 2)) (h2 : gm_iN 275 (S.2.2.2.2 2)) : gm_p_Memory_recallCaptures x y S ∧ gx_q_Memory_recallCaptures x y S (gm_f_Memory_recallCaptures x y S) := by
  unfold gm_p_Memory_recallCaptures gm_f_Memory_recallCaptures
  refine gx_ca (Q := gx_q_Memory_recallCaptures x y S) (gx_q_Memory_slotOf _ _) (gx_s_Memory_slotOf _ _ ) ?_
  intro r2 u_h3 h3
  have h3_0 : ((-1) ≤ r2.toInt) ∧ (r2.toInt ≤ 87) := h3
  refine gx_if (Q := gx_q_Memory_recallCaptures x y S) (fun h4 => ?_) (fun h4 => ?_)
  · skip
    have h4_ := gx_eqr (k := -1) (by decide) h4
    exact ⟨trivial, h2⟩
  · skip
    have h4_ := gx_eqnr (k := -1) (by decide) h4
    refine gx_in (Q := gx_q_Memory_recallCaptures x y S) (vp_in_iff.mpr (by omega)) ?_
    refine gx_in (Q := gx_q_Memory_recallCaptures x y S) (vp_in_iff.mpr (by omega)) ?_
    refine gx_ca (Q := gx_q_Memory_recallCaptures x y S) (gx_q_Captures_addFrom _ _ _ _ _) (gx_s_Captures_addFrom _ _ _ _ _ h2 h1 (show 275 ≤ 5720 from (by omega)) (show 5720 ≤ 5720 from (by omega))) ?_
    intro r_h5 u32 h5
    have h5_0 : gm_iN 275 (u32.1.2.2 2) := h5
    exact ⟨trivial, h5_0⟩
