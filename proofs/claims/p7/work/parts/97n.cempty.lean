/-! The class's tree: rules by their names, and what can be empty. -/
/-- the first rule of a name, or R -/
def gq_ix (nm : Nat → Int32) (y : Int32) : Nat → Nat
  | 0 => 0
  | R + 1 => if gq_ix nm y R < R then gq_ix nm y R else if nm R = y then R else R + 1
theorem gq_ix_s (nm : Nat → Int32) (y : Int32) : ∀ R, (gq_ix nm y R < R ∧ nm (gq_ix nm y R) = y ∧ ∀ r, r < gq_ix nm y R → ¬ nm r = y) ∨ (gq_ix nm y R = R ∧ ∀ r, r < R → ¬ nm r = y) := by
  intro R
  induction R with
  | zero => exact Or.inr ⟨rfl, fun r hr => absurd hr (by omega)⟩
  | succ R ih =>
    unfold gq_ix
    rcases ih with ⟨a, b, c⟩ | ⟨a, b⟩
    · rw [if_pos a]
      exact Or.inl ⟨by omega, b, c⟩
    · rw [if_neg (by omega)]
      by_cases q : nm R = y
      · rw [if_pos q]
        exact Or.inl ⟨by omega, q, b⟩
      · rw [if_neg q]
        refine Or.inr ⟨rfl, fun r hr => ?_⟩
        by_cases w : r = R
        · rw [w]; exact q
        · exact b r (by omega)
theorem gq_ruQ_ix {T : gm_S} {x : Int32} {R : Nat} {z : Int32 × gm_S} (h : gq_ruQ T x R z) : (z.1 = -1 ∧ gq_ix (T.1 9) x R = R) ∨ (gq_ix (T.1 9) x R < R ∧ z.1.toInt = (gq_ix (T.1 9) x R : Nat)) := by
  rcases gq_ix_s (T.1 9) x R with ⟨a, b, c⟩ | ⟨a, b⟩
  · rcases h with ⟨h1, h2⟩ | ⟨r, h1, h2, h3, h4⟩
    · exact absurd b (h2 _ a)
    · refine Or.inr ⟨a, ?_⟩
      rcases Nat.lt_trichotomy r (gq_ix (T.1 9) x R) with q | q | q
      · exact absurd h3 (c r q)
      · rw [← q]; exact h2
      · exact absurd b (h4 _ q)
  · rcases h with ⟨h1, h2⟩ | ⟨r, h1, h2, h3, h4⟩
    · exact Or.inl ⟨h1, a⟩
    · exact absurd h3 (b r h1)
/-- the node behind a name -/
def gq_rb (T : gm_S) (R d : Nat) : Nat := Int32.toNatClampNeg (T.1 10 (gq_ix (T.1 9) (T.1 1 d) R))
/-- a tree in order -/
def gq_T (T : gm_S) (n R : Nat) : Prop := (T.2.2 11).toInt = n ∧ n ≤ 75 ∧ (T.2.2 13).toInt = R ∧ R ≤ 8 ∧ (∀ r, r < R → 0 ≤ (T.1 10 r).toInt ∧ Int32.toNatClampNeg (T.1 10 r) < n) ∧ ∀ d, d < n → 0 ≤ (T.1 0 d).toInt ∧ (T.1 0 d).toInt ≤ 9 ∧ (2 ≤ (T.1 0 d).toInt → ∃ lo hi : Nat, (T.1 2 d).toInt = lo ∧ (T.1 3 d).toInt = hi ∧ lo ≤ hi ∧ hi ≤ 75 ∧ (4 ≤ (T.1 0 d).toInt → hi = lo + 1) ∧ ∀ i, lo ≤ i → i < hi → 0 ≤ (T.1 4 i).toInt ∧ Int32.toNatClampNeg (T.1 4 i) < d)
/-- the same tree, but for what is found out -/
def gq_TE (T0 T : gm_S) : Prop := T.1 0 = T0.1 0 ∧ T.1 1 = T0.1 1 ∧ T.1 2 = T0.1 2 ∧ T.1 3 = T0.1 3 ∧ T.1 4 = T0.1 4 ∧ T.1 9 = T0.1 9 ∧ T.1 10 = T0.1 10 ∧ T.2.2 11 = T0.2.2 11 ∧ T.2.2 13 = T0.2.2 13
theorem gq_T_E {T0 T : gm_S} {n R : Nat} (h : gq_T T0 n R) (e : gq_TE T0 T) : gq_T T n R := by
  obtain ⟨e0, e1, e2, e3, e4, e9, e10, e11, e13⟩ := e
  unfold gq_T
  rw [e0, e2, e3, e4, e10, e11, e13]
  exact h
/-- every name has a rule -/
def gq_kn (T : gm_S) (n R : Nat) : Prop := ∀ d, d < n → (T.1 0 d).toInt = 1 → gq_ix (T.1 9) (T.1 1 d) R < R
def gq_rbQ (v : Int32) (z : Int32 × (gm_S × gm_S)) : Prop := z.1 = v
def gq_paQ (k : Nat) (z : Int32 × gm_S) : Prop := Int32.toNatClampNeg z.1 = k
theorem gq_rootBehind (x : Int32) (S : gm_S × gm_S) {n R d : Nat} (hT : gq_T S.2 n R) (hx : x.toInt = d) (hk : gq_ix (S.2.1 9) (S.2.1 1 d) R < R) : gq_rbQ (S.2.1 10 (gq_ix (S.2.1 9) (S.2.1 1 d) R)) (gm_f_Judge_rootBehind x S) := by
  obtain ⟨Q, hQ⟩ : ∃ Q, Q = gq_rbQ (S.2.1 10 (gq_ix (S.2.1 9) (S.2.1 1 d) R)) := ⟨_, rfl⟩
  rw [← hQ]
  have cx : Int32.toNatClampNeg x = d := gp_cl_n hx
  unfold gm_f_Judge_rootBehind
  rw [cx]
  have rt : (gm_f_Tree_rootOf (S.2.1 1 d) S.2).1 = S.2.1 10 (gq_ix (S.2.1 9) (S.2.1 1 d) R) := by
    have r := gq_ruQ_ix (gq_ruleOf (S.2.1 1 d) S.2 S.2 rfl hT.2.2.1 hT.2.2.2.1)
    unfold gm_f_Tree_rootOf gm_bd
    dsimp only
    rcases r with ⟨-, r⟩ | ⟨-, r⟩
    · omega
    · have nn : ¬ (gm_f_Tree_ruleOf (S.2.1 1 d) S.2).1 = -1 := by
        intro e
        rw [e] at r
        have n1 : (-1 : Int32).toInt = -1 := by decide
        omega
      rw [if_neg nn, gp_cl_n r]
  refine gq_cb (Q := Q) (fun z => z.1 = S.2.1 10 (gq_ix (S.2.1 9) (S.2.1 1 d) R)) rt (fun r u h => ?_)
  have h : r = S.2.1 10 (gq_ix (S.2.1 9) (S.2.1 1 d) R) := h
  have pos := (hT.2.2.2.2.1 _ hk).1
  refine gq_if (Q := Q) (fun e => ?_) (fun _ => ?_)
  · exfalso
    rw [← h, e] at pos
    exact absurd pos (by decide)
  · rw [hQ]; exact h
/-- how many parts can be empty -/
def gq_epQ (em : Nat → Int32) (pt : Nat → Int32) (lo hi : Nat) (z : Int32 × (gm_S × gm_S)) : Prop := ∃ c : Nat, z.1.toInt = c ∧ c ≤ hi - lo ∧ (c = hi - lo ↔ ∀ i, lo ≤ i → i < hi → em (Int32.toNatClampNeg (pt i)) = 1) ∧ (0 < c ↔ ∃ i, lo ≤ i ∧ i < hi ∧ em (Int32.toNatClampNeg (pt i)) = 1)
theorem gq_emptyParts (x : Int32) (S : gm_S × gm_S) {d lo hi : Nat} (hx : x.toInt = d) (hl : (S.2.1 2 d).toInt = lo) (hh : (S.2.1 3 d).toInt = hi) (hlh : lo ≤ hi) (h75 : hi ≤ 75) (hb : ∀ j, S.2.1 5 j = 0 ∨ S.2.1 5 j = 1) : gq_epQ (S.2.1 5) (S.2.1 4) lo hi (gm_f_Judge_emptyParts x S) := by
  have cx : Int32.toNatClampNeg x = d := gp_cl_n hx
  have loop : ∀ (f k c : Nat) (v w : Int32) (U : gm_S × gm_S), v.toInt = k → w.toInt = c → lo ≤ k → k ≤ hi → hi < f + k → c ≤ k - lo → (c = k - lo ↔ ∀ i, lo ≤ i → i < k → S.2.1 5 (Int32.toNatClampNeg (S.2.1 4 i)) = 1) → (0 < c ↔ ∃ i, lo ≤ i ∧ i < k ∧ S.2.1 5 (Int32.toNatClampNeg (S.2.1 4 i)) = 1) → gq_epQ (S.2.1 5) (S.2.1 4) lo hi (gm_f_Judge_emptyParts_12 x S f v w U) := by
    intro f
    induction f with
    | zero => intro k c v w U _ _ _ h1 h2; exact absurd h2 (by omega)
    | succ f ih =>
      intro k c v w U hv hw h1 h2 h3 h4 h5' h6'
      have h5 := fun (_ : Unit) => h5'
      have h6 := fun (_ : Unit) => h6'
      clear h5' h6'
      rw [gm_f_Judge_emptyParts_12, cx]
      have cv : Int32.toNatClampNeg v = k := gp_cl_n hv
      have av := gx_ak v 1 1 (by decide)
      have aw := gx_ak w 1 1 (by decide)
      by_cases q : k = hi
      · have l : S.2.1 3 d ≤ v := by rw [Int32.le_iff_toInt_le]; omega
        rw [if_pos l]
        have h5 := h5 ()
        have h6 := h6 ()
        rw [q] at h4 h5 h6
        exact ⟨c, hw, h4, h5, h6⟩
      · have l : ¬ S.2.1 3 d ≤ v := by rw [Int32.le_iff_toInt_le]; omega
        rw [if_neg l, cv]
        by_cases z : S.2.1 5 (Int32.toNatClampNeg (S.2.1 4 k)) = 0
        · rw [if_pos z]
          have nz : ¬ S.2.1 5 (Int32.toNatClampNeg (S.2.1 4 k)) = 1 := by rw [z]; decide
          refine ih (k + 1) c (v + 1) w _ (by omega) hw (by omega) (by omega) (by omega) (by omega) ⟨fun e => absurd e (by omega), fun e => absurd (e k h1 (by omega)) nz⟩ ((h6 ()).trans ⟨fun ⟨i, a, b, e⟩ => ⟨i, a, by omega, e⟩, fun ⟨i, a, b, e⟩ => ⟨i, a, ?_, e⟩⟩)
          by_cases w : i = k
          · rw [w] at e; exact absurd e nz
          · omega
        · rw [if_neg z]
          have z1 : S.2.1 5 (Int32.toNatClampNeg (S.2.1 4 k)) = 1 := (hb _).resolve_left z
          refine ih (k + 1) (c + 1) (v + 1) (w + 1) _ (by omega) (by omega) (by omega) (by omega) (by omega) (by omega) ⟨fun e i a b => ?_, fun e => ?_⟩ ⟨fun _ => ⟨k, h1, by omega, z1⟩, fun _ => by omega⟩
          · by_cases w : i = k
            · rw [w]; exact z1
            · exact (h5 ()).mp (by omega) i a (by omega)
          · have := (h5 ()).mpr (fun i a b => e i a (by omega))
            omega
  unfold gm_f_Judge_emptyParts
  rw [cx]
  exact loop 200 lo 0 _ 0 _ hl (by decide) (Nat.le_refl _) hlh (by omega) (by omega) ⟨fun _ i a b => absurd b (by omega), fun _ => by omega⟩ ⟨fun h => absurd h (by omega), fun ⟨i, a, b, _⟩ => absurd b (by omega)⟩
def gq_ieQ (T : gm_S) (R : Nat) (em : Nat → Int32) (d : Nat) (z : Int32 × (gm_S × gm_S)) : Prop := (z.1 = 0 ∨ z.1 = 1) ∧ (z.1 = 1 ↔ gq_nE (T.1 0) (T.1 2) (T.1 3) (T.1 4) (gq_rb T R) (fun j => em j = 1) d)
theorem gq_isE0 (x : Int32) (S : gm_S × gm_S) {n R d : Nat} (hT : gq_T S.2 n R) (hk : gq_kn S.2 n R) (hx : x.toInt = d) (hd : d < n) (hb : ∀ j, S.2.1 5 j = 0 ∨ S.2.1 5 j = 1) : gq_ieQ S.2 R (S.2.1 5) d (gm_f_Judge_isEmptyByParts x S) := by
  obtain ⟨Q, hQ⟩ : ∃ Q, Q = gq_ieQ S.2 R (S.2.1 5) d := ⟨_, rfl⟩
  rw [← hQ]
  have cx : Int32.toNatClampNeg x = d := gp_cl_n hx
  obtain ⟨k0, k9, kp⟩ := hT.2.2.2.2.2 d hd
  have eq : ∀ k : Nat, k < 2147483648 → (S.2.1 0 d = (OfNat.ofNat k : Int32) → (S.2.1 0 d).toInt = k) ∧ (¬ S.2.1 0 d = (OfNat.ofNat k : Int32) → ¬ (S.2.1 0 d).toInt = k) := fun k hk => ⟨fun e => by rw [e]; exact gx_lit k hk, fun e w => e (Int32.toInt_inj.mp (w.trans (gx_lit k hk).symm))⟩
  have v01 : ∀ (j : Nat), (∀ w : Prop, (w ↔ S.2.1 5 j = 1) → (gq_nE (S.2.1 0) (S.2.1 2) (S.2.1 3) (S.2.1 4) (gq_rb S.2 R) (fun j => S.2.1 5 j = 1) d ↔ w) → ∀ U, Q (S.2.1 5 j, U)) := by
    intro j w h1 h2 U
    rw [hQ]
    exact ⟨hb j, h1.symm.trans h2.symm⟩
  have yes : gq_nE (S.2.1 0) (S.2.1 2) (S.2.1 3) (S.2.1 4) (gq_rb S.2 R) (fun j => S.2.1 5 j = 1) d → ∀ U, Q (1, U) := fun h U => by
    rw [hQ]; exact ⟨Or.inr rfl, ⟨fun _ => h, fun _ => rfl⟩⟩
  have no : ¬ gq_nE (S.2.1 0) (S.2.1 2) (S.2.1 3) (S.2.1 4) (gq_rb S.2 R) (fun j => S.2.1 5 j = 1) d → ∀ U, Q (0, U) := fun h U => by
    rw [hQ]; exact ⟨Or.inl rfl, ⟨fun e => absurd e (show ¬ (0 : Int32) = 1 by decide), fun e => absurd e h⟩⟩
  have part : ((S.2.1 0 d).toInt = 6 ∨ (S.2.1 0 d).toInt = 9) → gq_paQ (Int32.toNatClampNeg (S.2.1 4 (Int32.toNatClampNeg (S.2.1 2 d)))) (gm_f_Tree_partOf x S.2) := by
    intro h
    obtain ⟨lo, hi, a1, a2, a3, a4, a5, a6⟩ := kp (by omega)
    have a5 := a5 (by omega)
    unfold gm_f_Tree_partOf
    rw [cx, if_neg (show ¬ S.2.1 3 d ≤ S.2.1 2 d by rw [Int32.le_iff_toInt_le]; omega)]
    rfl
  have unary : ∀ U : Int32 → gm_S → gm_S × gm_S, ((S.2.1 0 d).toInt = 6 ∨ (S.2.1 0 d).toInt = 9) → Q (gm_bd (gm_f_Tree_partOf x S.2) (fun r u => (S.2.1 5 (Int32.toNatClampNeg r), U r u))) := by
    intro U h
    refine gq_cb (Q := Q) _ (part h) (fun r u hr => ?_)
    have hr : Int32.toNatClampNeg r = Int32.toNatClampNeg (S.2.1 4 (Int32.toNatClampNeg (S.2.1 2 d))) := hr
    rw [hr]
    refine v01 _ _ Iff.rfl ⟨fun w => ?_, fun w => Or.inr (Or.inr (Or.inr (Or.inl ⟨h, w⟩)))⟩ _
    rcases w with w | w | w | w | w
    · omega
    · omega
    · omega
    · exact w.2
    · omega
  unfold gm_f_Judge_isEmptyByParts
  rw [cx]
  refine gq_if (Q := Q) (fun q => ?_) (fun q0 => ?_)
  · have := (eq 0 (by decide)).1 q
    exact no (fun w => by rcases w with w | w | w | w | w <;> omega) _
  have q0 := (eq 0 (by decide)).2 q0
  refine gq_if (Q := Q) (fun q => ?_) (fun q1 => ?_)
  · have q := (eq 1 (by decide)).1 q
    have kn := hk d hd q
    refine gq_cb (Q := Q) _ (gq_rootBehind x S hT hx kn) (fun r u hr => ?_)
    have hr : r = S.2.1 10 (gq_ix (S.2.1 9) (S.2.1 1 d) R) := hr
    rw [hr]
    refine v01 _ _ Iff.rfl ⟨fun w => ?_, fun w => Or.inl ⟨q, w⟩⟩ _
    rcases w with w | w | w | w | w
    · exact w.2
    all_goals omega
  have q1 := (eq 1 (by decide)).2 q1
  refine gq_if (Q := Q) (fun q => ?_) (fun q2 => ?_)
  · have q := (eq 2 (by decide)).1 q
    obtain ⟨lo, hi, a1, a2, a3, a4, -, a6⟩ := kp (by omega)
    refine gq_cb (Q := Q) (gq_epQ (S.2.1 5) (S.2.1 4) lo hi) (gq_emptyParts x (S.1, S.2) hx a1 a2 a3 a4 hb) (fun r u hr => ?_)
    obtain ⟨c, c1, c2, c3, -⟩ := hr
    have c1 : r.toInt = c := c1
    have sb := gx_sb (S.2.1 3 d) (S.2.1 2 d)
    have al : gq_nE (S.2.1 0) (S.2.1 2) (S.2.1 3) (S.2.1 4) (gq_rb S.2 R) (fun j => S.2.1 5 j = 1) d ↔ c = hi - lo := by
      rw [c3]
      constructor
      · intro w
        rcases w with w | w | w | w | w
        · omega
        · exact fun i i1 i2 => w.2 i (by omega) (by omega)
        all_goals omega
      · intro w
        exact Or.inr (Or.inl ⟨q, fun i i1 i2 => w i (by omega) (by omega)⟩)
    refine gq_if (Q := Q) (fun e => yes (al.mpr ?_) _) (fun e => no (fun w => e (Int32.toInt_inj.mp ?_)) _)
    · have e := congrArg Int32.toInt e
      omega
    · have := al.mp w
      omega
  have q2 := (eq 2 (by decide)).2 q2
  refine gq_if (Q := Q) (fun q => ?_) (fun q3 => ?_)
  · have q := (eq 3 (by decide)).1 q
    obtain ⟨lo, hi, a1, a2, a3, a4, -, a6⟩ := kp (by omega)
    refine gq_cb (Q := Q) (gq_epQ (S.2.1 5) (S.2.1 4) lo hi) (gq_emptyParts x (S.1, S.2) hx a1 a2 a3 a4 hb) (fun r u hr => ?_)
    obtain ⟨c, c1, c2, -, c3⟩ := hr
    have c1 : r.toInt = c := c1
    have z0 : (0 : Int32).toInt = 0 := by decide
    have al : gq_nE (S.2.1 0) (S.2.1 2) (S.2.1 3) (S.2.1 4) (gq_rb S.2 R) (fun j => S.2.1 5 j = 1) d ↔ 0 < c := by
      rw [c3]
      constructor
      · intro w
        rcases w with w | w | w | w | w
        · omega
        · omega
        · obtain ⟨i, i1, i2, i3⟩ := w.2
          exact ⟨i, by omega, by omega, i3⟩
        all_goals omega
      · rintro ⟨i, i1, i2, i3⟩
        exact Or.inr (Or.inr (Or.inl ⟨q, i, by omega, by omega, i3⟩))
    refine gq_if (Q := Q) (fun e => no (fun w => ?_) _) (fun e => yes (al.mpr ?_) _)
    · have := al.mp w
      rw [Int32.le_iff_toInt_le] at e
      omega
    · rw [Int32.le_iff_toInt_le] at e
      omega
  have q3 := (eq 3 (by decide)).2 q3
  refine gq_if (Q := Q) (fun q => yes (Or.inr (Or.inr (Or.inr (Or.inr (Or.inl ((eq 4 (by decide)).1 q)))))) _) (fun q4 => ?_)
  refine gq_if (Q := Q) (fun q => yes (Or.inr (Or.inr (Or.inr (Or.inr (Or.inr (Or.inl ((eq 5 (by decide)).1 q))))))) _) (fun q5 => ?_)
  refine gq_if (Q := Q) (fun q => unary _ (Or.inl ((eq 6 (by decide)).1 q))) (fun q6 => ?_)
  refine gq_if (Q := Q) (fun q => yes (Or.inr (Or.inr (Or.inr (Or.inr (Or.inr (Or.inr (Or.inl ((eq 7 (by decide)).1 q)))))))) _) (fun q7 => ?_)
  refine gq_if (Q := Q) (fun q => yes (Or.inr (Or.inr (Or.inr (Or.inr (Or.inr (Or.inr (Or.inr ((eq 8 (by decide)).1 q)))))))) _) (fun q8 => ?_)
  refine gq_if (Q := Q) (fun q => unary _ (Or.inr ((eq 9 (by decide)).1 q))) (fun q9 => ?_)
  exfalso
  have q4 := (eq 4 (by decide)).2 q4
  have q5 := (eq 5 (by decide)).2 q5
  have q6 := (eq 6 (by decide)).2 q6
  have q7 := (eq 7 (by decide)).2 q7
  have q8 := (eq 8 (by decide)).2 q8
  have q9 := (eq 9 (by decide)).2 q9
  omega
theorem gq_isE (x : Int32) (T0 : gm_S) (S : gm_S × gm_S) (em : Nat → Int32) {n R d : Nat} (hE : gq_TE T0 S.2) (he : S.2.1 5 = em) (hT : gq_T T0 n R) (hk : gq_kn T0 n R) (hx : x.toInt = d) (hd : d < n) (hb : ∀ j, em j = 0 ∨ em j = 1) : gq_ieQ T0 R em d (gm_f_Judge_isEmptyByParts x S) := by
  have hT' := gq_T_E hT hE
  obtain ⟨e0, e1, e2, e3, e4, e9, e10, e11, e13⟩ := hE
  have h := gq_isE0 x S hT' (by unfold gq_kn; rw [e0, e9, e1]; exact hk) hx hd (by rw [he]; exact hb)
  have rb : gq_rb S.2 R = gq_rb T0 R := by
    funext d
    unfold gq_rb
    rw [e10, e9, e1]
  unfold gq_ieQ at *
  rw [he, rb, e0, e2, e3, e4] at h
  exact h
