/-! The class: which rule is undefined first, which runs away first. -/
def gq_fiQ (k : Nat) (z : Int32 × gm_S) : Prop := z.1.toInt = (k : Nat)
theorem gq_firstNode (x : Int32) (T : gm_S) {n R r : Nat} (hT : gq_T T n R) (hx : x.toInt = r) (hr : r < R) : gq_fiQ (gq_fn (T.1 10) r) (gm_f_Tree_firstNodeOf x T) := by
  obtain ⟨h11, hn, h13, h8, hrt, -⟩ := hT
  have z0 : (0 : Int32).toInt = 0 := by decide
  unfold gm_f_Tree_firstNodeOf gq_fiQ gq_fn
  by_cases q : r = 0
  · have l : x ≤ 0 := by rw [Int32.le_iff_toInt_le]; omega
    rw [if_pos l, if_pos q]
    exact z0
  · have l : ¬ x ≤ 0 := by rw [Int32.le_iff_toInt_le]; omega
    have l2 : x < T.2.2 13 := by rw [Int32.lt_iff_toInt_lt]; omega
    have s := gx_sk x 1 1 (by decide)
    have cs : Int32.toNatClampNeg (x - 1) = r - 1 := gp_cl_n (by omega)
    rw [if_neg l, if_pos l2, if_neg q, cs]
    have p := hrt (r - 1) (by omega)
    have c := gx_cl _ p.1
    have a := gx_ak (T.1 10 (r - 1)) 1 1 (by decide)
    show (T.1 10 (r - 1) + 1).toInt = _
    omega
/-- a name that has no rule -/
def gq_uN (T : gm_S) (R d : Nat) : Prop := (T.1 0 d).toInt = 1 ∧ gq_ix (T.1 9) (T.1 1 d) R = R
def gq_huQ (T : gm_S) (R lo hi : Nat) (z : Int32 × (gm_S × gm_S)) : Prop := (z.1 = 0 ∧ ∀ d, lo ≤ d → d ≤ hi → ¬ gq_uN T R d) ∨ (z.1 = 1 ∧ ∃ d, lo ≤ d ∧ d ≤ hi ∧ gq_uN T R d)
theorem gq_hasUn (x : Int32) (S : gm_S × gm_S) {n R r : Nat} (hT : gq_T S.2 n R) (hx : x.toInt = r) (hr : r < R) (hfn : gq_fn (S.2.1 10) r ≤ Int32.toNatClampNeg (S.2.1 10 r)) : gq_huQ S.2 R (gq_fn (S.2.1 10) r) (Int32.toNatClampNeg (S.2.1 10 r)) (gm_f_Judge_hasUnknownName x S) := by
  have hT' := hT
  obtain ⟨h11, hn, h13, h8, hrt, -⟩ := hT'
  have cx : Int32.toNatClampNeg x = r := gp_cl_n hx
  have p := hrt r hr
  have cp := gx_cl _ p.1
  obtain ⟨Q, hQ⟩ : ∃ Q, Q = gq_huQ S.2 R (gq_fn (S.2.1 10) r) (Int32.toNatClampNeg (S.2.1 10 r)) := ⟨_, rfl⟩
  rw [← hQ]
  have loop : ∀ (r5 : Int32) (u5 : gm_S) (f k : Nat) (v : Int32) (U : gm_S × gm_S), v.toInt = k → gq_fn (S.2.1 10) r ≤ k → k ≤ Int32.toNatClampNeg (S.2.1 10 r) + 1 → Int32.toNatClampNeg (S.2.1 10 r) + 1 < f + k → (∀ d, gq_fn (S.2.1 10) r ≤ d → d < k → ¬ gq_uN S.2 R d) → Q (gm_f_Judge_hasUnknownName_9 x S r5 u5 f v U) := by
    intro r5 u5 f
    induction f with
    | zero => intro k v U _ _ h1 h2; exact absurd h2 (by omega)
    | succ f ih =>
      intro k v U hv h0 h1 h2 hno
      rw [gm_f_Judge_hasUnknownName_9, cx]
      have cv : Int32.toNatClampNeg v = k := gp_cl_n hv
      have av := gx_ak v 1 1 (by decide)
      by_cases q : k = Int32.toNatClampNeg (S.2.1 10 r) + 1
      · have l : S.2.1 10 r < v := by rw [Int32.lt_iff_toInt_lt]; omega
        rw [if_pos l, hQ]
        exact Or.inl ⟨rfl, fun d d1 d2 => hno d d1 (by omega)⟩
      · have l : ¬ S.2.1 10 r < v := by rw [Int32.lt_iff_toInt_lt]; omega
        rw [if_neg l, cv]
        have next : ¬ gq_uN S.2 R k → Q (gm_f_Judge_hasUnknownName_9 x S r5 u5 f (v + 1) (S.1, S.2)) := fun nu => ih (k + 1) (v + 1) _ (by omega) (by omega) (by omega) (by omega) (fun d d1 d2 => by
          by_cases w : d = k
          · rw [w]; exact nu
          · exact hno d d1 (by omega))
        refine gq_if (Q := Q) (fun e => ?_) (fun e => next (fun w => e (Int32.toInt_inj.mp (w.1.trans (by decide)))))
        have e1 : (S.2.1 0 k).toInt = 1 := by rw [e]; decide
        refine gq_cb (Q := Q) (gq_ruQ S.2 (S.2.1 1 k) R) (gq_ruleOf (S.2.1 1 k) _ _ rfl h13 h8) (fun r48 u48 h48 => ?_)
        have h48' : (r48 = -1 ∧ gq_ix (S.2.1 9) (S.2.1 1 k) R = R) ∨ (gq_ix (S.2.1 9) (S.2.1 1 k) R < R ∧ r48.toInt = (gq_ix (S.2.1 9) (S.2.1 1 k) R : Nat)) := gq_ruQ_ix h48
        have n1 : (-1 : Int32).toInt = -1 := by decide
        refine gq_if (Q := Q) (fun w => ?_) (fun w => ?_)
        · rw [hQ]
          refine Or.inr ⟨rfl, k, h0, by omega, e1, ?_⟩
          rcases h48' with ⟨-, h⟩ | ⟨-, h⟩
          · exact h
          · rw [w] at h; omega
        · refine next (fun u => ?_)
          rcases h48' with ⟨h, -⟩ | ⟨h, -⟩
          · exact w h
          · have := u.2; omega
  unfold gm_f_Judge_hasUnknownName
  refine gq_cb (Q := Q) (gq_fiQ (gq_fn (S.2.1 10) r)) (gq_firstNode x _ hT hx hr) (fun r5 u5 h5 => ?_)
  exact loop r5 u5 200 _ r5 _ h5 (Nat.le_refl _) (by omega) (by omega) (fun d d1 d2 => absurd d2 (by omega))
/-- in a rule's nodes -/
def gq_in (rt : Nat → Int32) (P : Nat → Prop) (r : Nat) : Prop := ∃ d, gq_fn rt r ≤ d ∧ d ≤ Int32.toNatClampNeg (rt r) ∧ P d
def gq_fuQ (T : gm_S) (R : Nat) (P : Nat → Prop) (z : Int32 × (gm_S × gm_S)) : Prop := (z.1 = -1 ∧ ∀ r, r < R → ¬ P r) ∨ ∃ r, r < R ∧ z.1 = T.1 9 r ∧ P r ∧ ∀ r', r' < r → ¬ P r'
theorem gq_firstUn (S : gm_S × gm_S) {n R : Nat} (hT : gq_T S.2 n R) (hfn : ∀ r, r < R → gq_fn (S.2.1 10) r ≤ Int32.toNatClampNeg (S.2.1 10 r)) : gq_fuQ S.2 R (gq_in (S.2.1 10) (gq_uN S.2 R)) (gm_f_Judge_firstUndefined S) := by
  have h13 := hT.2.2.1
  have h8 := hT.2.2.2.1
  obtain ⟨Q, hQ⟩ : ∃ Q, Q = gq_fuQ S.2 R (gq_in (S.2.1 10) (gq_uN S.2 R)) := ⟨_, rfl⟩
  rw [← hQ]
  have loop : ∀ (f k : Nat) (v : Int32) (U : gm_S × gm_S), v.toInt = k → k ≤ R → R < f + k → (∀ r, r < k → ¬ gq_in (S.2.1 10) (gq_uN S.2 R) r) → Q (gm_f_Judge_firstUndefined_2 S f v U) := by
    intro f
    induction f with
    | zero => intro k v U _ h1 h2; exact absurd h2 (by omega)
    | succ f ih =>
      intro k v U hv h1 h2 hno
      rw [gm_f_Judge_firstUndefined_2]
      have cv : Int32.toNatClampNeg v = k := gp_cl_n hv
      have av := gx_ak v 1 1 (by decide)
      by_cases q : k = R
      · have l : S.2.2.2 13 ≤ v := by rw [Int32.le_iff_toInt_le]; omega
        rw [if_pos l, hQ]
        exact Or.inl ⟨rfl, fun r hr => hno r (by omega)⟩
      · have l : ¬ S.2.2.2 13 ≤ v := by rw [Int32.le_iff_toInt_le]; omega
        rw [if_neg l]
        refine gq_cb (Q := Q) (gq_huQ S.2 R (gq_fn (S.2.1 10) k) (Int32.toNatClampNeg (S.2.1 10 k))) (gq_hasUn v (S.1, S.2) hT hv (by omega) (hfn k (by omega))) (fun r u hr => ?_)
        rcases hr with ⟨r0, hn⟩ | ⟨r1, hy⟩
        · have r0 : r = 0 := r0
          rw [r0, if_pos rfl]
          refine ih (k + 1) (v + 1) _ (by omega) (by omega) (by omega) (fun r' hr' => ?_)
          by_cases w : r' = k
          · rw [w]
            rintro ⟨d, d1, d2, d3⟩
            exact hn d d1 d2 d3
          · exact hno r' (by omega)
        · have r1 : r = 1 := r1
          rw [r1, if_neg (show ¬ (1 : Int32) = 0 by decide), cv, hQ]
          exact Or.inr ⟨k, by omega, rfl, hy, hno⟩
  unfold gm_f_Judge_firstUndefined
  exact loop 200 0 0 _ (by decide) (by omega) (by omega) (fun r hr => absurd hr (by omega))
/-- a star, a plus or a capture of what can be empty -/
def gq_eN (T : gm_S) (em : Nat → Int32) (d : Nat) : Prop := ((T.1 0 d).toInt = 5 ∨ (T.1 0 d).toInt = 6 ∨ (T.1 0 d).toInt = 9) ∧ em (Int32.toNatClampNeg (T.1 4 (Int32.toNatClampNeg (T.1 2 d)))) = 1
def gq_inQ2 (P : Nat → Prop) (lo hi : Nat) (z : Int32 × (gm_S × gm_S)) : Prop := (z.1 = 0 ∧ ∀ d, lo ≤ d → d ≤ hi → ¬ P d) ∨ (z.1 = 1 ∧ ∃ d, lo ≤ d ∧ d ≤ hi ∧ P d)
theorem gq_endless0 (x : Int32) (S : gm_S × gm_S) {n R r : Nat} (hT : gq_T S.2 n R) (hb : ∀ j, S.2.1 5 j = 0 ∨ S.2.1 5 j = 1) (hx : x.toInt = r) (hr : r < R) (hfn : gq_fn (S.2.1 10) r ≤ Int32.toNatClampNeg (S.2.1 10 r)) : gq_inQ2 (gq_eN S.2 (S.2.1 5)) (gq_fn (S.2.1 10) r) (Int32.toNatClampNeg (S.2.1 10 r)) (gm_f_Judge_isEndless x S) := by
  have hT' := hT
  obtain ⟨h11, hn, h13, h8, hrt, hnd⟩ := hT'
  have cx : Int32.toNatClampNeg x = r := gp_cl_n hx
  have p := hrt r hr
  have cp := gx_cl _ p.1
  obtain ⟨Q, hQ⟩ : ∃ Q, Q = gq_inQ2 (gq_eN S.2 (S.2.1 5)) (gq_fn (S.2.1 10) r) (Int32.toNatClampNeg (S.2.1 10 r)) := ⟨_, rfl⟩
  rw [← hQ]
  have loop : ∀ (r5 : Int32) (u5 : gm_S) (f k : Nat) (v : Int32) (U : gm_S × gm_S), v.toInt = k → gq_fn (S.2.1 10) r ≤ k → k ≤ Int32.toNatClampNeg (S.2.1 10 r) + 1 → Int32.toNatClampNeg (S.2.1 10 r) + 1 < f + k → (∀ d, gq_fn (S.2.1 10) r ≤ d → d < k → ¬ gq_eN S.2 (S.2.1 5) d) → Q (gm_f_Judge_isEndless_9 x S r5 u5 f v U) := by
    intro r5 u5 f
    induction f with
    | zero => intro k v U _ _ h1 h2; exact absurd h2 (by omega)
    | succ f ih =>
      intro k v U hv h0 h1 h2 hno
      rw [gm_f_Judge_isEndless_9, cx]
      have cv : Int32.toNatClampNeg v = k := gp_cl_n hv
      have av := gx_ak v 1 1 (by decide)
      by_cases q : k = Int32.toNatClampNeg (S.2.1 10 r) + 1
      · have l : S.2.1 10 r < v := by rw [Int32.lt_iff_toInt_lt]; omega
        rw [if_pos l, hQ]
        exact Or.inl ⟨rfl, fun d d1 d2 => hno d d1 (by omega)⟩
      · have l : ¬ S.2.1 10 r < v := by rw [Int32.lt_iff_toInt_lt]; omega
        rw [if_neg l, cv]
        have next : ¬ gq_eN S.2 (S.2.1 5) k → Q (gm_f_Judge_isEndless_9 x S r5 u5 f (v + 1) (S.1, S.2)) := fun nu => ih (k + 1) (v + 1) _ (by omega) (by omega) (by omega) (by omega) (fun d d1 d2 => by
          by_cases w : d = k
          · rw [w]; exact nu
          · exact hno d d1 (by omega))
        have part : ((S.2.1 0 k).toInt = 5 ∨ (S.2.1 0 k).toInt = 6 ∨ (S.2.1 0 k).toInt = 9) → Q (gm_bd (gm_f_Tree_partOf v S.2) (fun r73 u73 => if S.2.1 5 (Int32.toNatClampNeg r73) = 0 then gm_f_Judge_isEndless_9 x S r5 u5 f (v + 1) (S.1, S.2) else (1, (S.1, S.2)))) := by
          intro hk
          obtain ⟨-, -, kp⟩ := hnd k (by omega)
          obtain ⟨lo, hi, a1, a2, a3, a4, a5, a6⟩ := kp (by omega)
          clear kp
          have a5 := a5 (by omega)
          have pr : gq_paQ (Int32.toNatClampNeg (S.2.1 4 (Int32.toNatClampNeg (S.2.1 2 k)))) (gm_f_Tree_partOf v S.2) := by
            unfold gm_f_Tree_partOf
            rw [cv, if_neg (show ¬ S.2.1 3 k ≤ S.2.1 2 k by rw [Int32.le_iff_toInt_le]; omega)]
            rfl
          refine gq_cb (Q := Q) _ pr (fun r73 u73 h73 => ?_)
          have h73 : Int32.toNatClampNeg r73 = Int32.toNatClampNeg (S.2.1 4 (Int32.toNatClampNeg (S.2.1 2 k))) := h73
          rw [h73]
          refine gq_if (Q := Q) (fun w => next (fun u => ?_)) (fun w => ?_)
          · have := u.2
            rw [w] at this
            exact absurd this (by decide)
          · rw [hQ]
            exact Or.inr ⟨rfl, k, h0, by omega, hk, (hb _).resolve_left w⟩
        have lit : ∀ j : Nat, j < 2147483648 → (S.2.1 0 k = (OfNat.ofNat j : Int32) → (S.2.1 0 k).toInt = j) ∧ (¬ S.2.1 0 k = (OfNat.ofNat j : Int32) → ¬ (S.2.1 0 k).toInt = j) := fun j hj => ⟨fun e => by rw [e]; exact gx_lit j hj, fun e w => e (Int32.toInt_inj.mp (w.trans (gx_lit j hj).symm))⟩
        refine gq_if (Q := Q) (fun e => part (Or.inl ((lit 5 (by decide)).1 e))) (fun e5 => ?_)
        refine gq_if (Q := Q) (fun e => part (Or.inr (Or.inl ((lit 6 (by decide)).1 e)))) (fun e6 => ?_)
        refine gq_if (Q := Q) (fun e => part (Or.inr (Or.inr ((lit 9 (by decide)).1 e)))) (fun e9 => next (fun u => ?_))
        have e5 := (lit 5 (by decide)).2 e5
        have e6 := (lit 6 (by decide)).2 e6
        have e9 := (lit 9 (by decide)).2 e9
        have := u.1
        omega
  unfold gm_f_Judge_isEndless
  refine gq_cb (Q := Q) (gq_fiQ (gq_fn (S.2.1 10) r)) (gq_firstNode x _ hT hx hr) (fun r5 u5 h5 => ?_)
  exact loop r5 u5 200 _ r5 _ h5 (Nat.le_refl _) (by omega) (by omega) (fun d d1 d2 => absurd d2 (by omega))
theorem gq_endless (x : Int32) (T0 : gm_S) (S : gm_S × gm_S) (em : Nat → Int32) {n R r : Nat} (hE : gq_TE T0 S.2) (he : S.2.1 5 = em) (hT : gq_T T0 n R) (hb : ∀ j, em j = 0 ∨ em j = 1) (hx : x.toInt = r) (hr : r < R) (hfn : gq_fn (T0.1 10) r ≤ Int32.toNatClampNeg (T0.1 10 r)) : gq_inQ2 (gq_eN T0 em) (gq_fn (T0.1 10) r) (Int32.toNatClampNeg (T0.1 10 r)) (gm_f_Judge_isEndless x S) := by
  have hT' := gq_T_E hT hE
  obtain ⟨e0, e1, e2, e3, e4, e9, e10, e11, e13⟩ := hE
  have h := gq_endless0 x S hT' (by rw [he]; exact hb) hx hr (by rw [e10]; exact hfn)
  have en : gq_eN S.2 (S.2.1 5) = gq_eN T0 em := by
    funext d
    unfold gq_eN
    rw [he, e0, e2, e4]
  rw [en, e10] at h
  exact h
theorem gq_bit1 (v : Int32) {q : Nat} {x : Int32} (hx : x.toInt = q) (hq : q < 8) : (v >>> (x &&& 31)) &&& 1 = 0 ↔ ¬ gp_bt v q = true := by
  have e := gq_nI hx (by omega)
  rw [e, ← gp_bit32 v q hq]
  have w := gx_nb (v >>> (nI q &&& 31))
  have nb : vp_nar .boolean (v >>> (nI q &&& 31)) = (v >>> (nI q &&& 31)) &&& 1 := rfl
  rw [nb] at w
  rcases w with w | w
  · rw [w]; exact ⟨fun _ => by decide, fun _ => rfl⟩
  · rw [w]; exact ⟨fun h => absurd h (by decide), fun h => absurd rfl h⟩
/-- what firstRunaway leaves: what is empty, the beginnings; the first rule that begins with itself, or has an endless node -/
def gq_frQ (S : gm_S × gm_S) (n R : Nat) (z : Int32 × (gm_S × gm_S)) : Prop := gq_seQ S.2 n R (gq_v (S.2.1 5)) z ∧ gq_sbQ S.2 n R (z.2.2.1 5) (gq_vb (S.2.1 6)) z ∧ gq_fuQ S.2 R (fun r => gp_bt (z.2.2.1 6 (Int32.toNatClampNeg (S.2.1 10 r))) r = true ∨ gq_in (S.2.1 10) (gq_eN S.2 (z.2.2.1 5)) r) z
theorem gq_firstRun (S : gm_S × gm_S) {n R : Nat} (hT : gq_T S.2 n R) (hT0 : gq_T0 S.2 n) (hk : gq_kn S.2 n R) (hb : ∀ j, S.2.1 5 j = 0 ∨ S.2.1 5 j = 1) (hfn : ∀ r, r < R → gq_fn (S.2.1 10) r ≤ Int32.toNatClampNeg (S.2.1 10 r)) : gq_frQ S n R (gm_f_Judge_firstRunaway S) := by
  have h13 := hT.2.2.1
  have h8 := hT.2.2.2.1
  obtain ⟨Q, hQ⟩ : ∃ Q, Q = gq_frQ S n R := ⟨_, rfl⟩
  rw [← hQ]
  unfold gm_f_Judge_firstRunaway
  refine gq_cb (Q := Q) (gq_seQ S.2 n R (gq_v (S.2.1 5))) (gq_settleE (S.1, S.2) hT hk hb) (fun r1 u1 hu1 => ?_)
  obtain ⟨b1, s1⟩ := hu1
  have b1 : ∀ j, u1.2.1 5 j = 0 ∨ u1.2.1 5 j = 1 := b1
  refine gq_cb (Q := Q) (gq_sbQ S.2 n R (u1.2.1 5) (gq_vb (S.2.1 6))) ?_ (fun r5 u5 hu5 => ?_)
  · have h := gq_settleB (S.1, (va_up S.2.1 5 (u1.2.1 5), S.2.2.1, S.2.2.2)) (n := n) (R := R) hT hT0 hk b1
    exact h
  have loop : ∀ (f k : Nat) (v : Int32) (U : gm_S × gm_S), v.toInt = k → k ≤ R → R < f + k → U.2.1 5 = u1.2.1 5 → U.2.1 6 = u5.2.1 6 → (∀ r, r < k → ¬ (gp_bt (u5.2.1 6 (Int32.toNatClampNeg (S.2.1 10 r))) r = true ∨ gq_in (S.2.1 10) (gq_eN S.2 (u1.2.1 5)) r)) → Q (gm_f_Judge_firstRunaway_10 S u1 u5 f v U) := by
    intro f
    induction f with
    | zero => intro k v U _ h1 h2; exact absurd h2 (by omega)
    | succ f ih =>
      intro k v U hv h1 h2 e5 e6 hno
      rw [gm_f_Judge_firstRunaway_10]
      have cv : Int32.toNatClampNeg v = k := gp_cl_n hv
      have av := gx_ak v 1 1 (by decide)
      have fin : ∀ (a : Int32), gq_fuQ S.2 R (fun r => gp_bt (u5.2.1 6 (Int32.toNatClampNeg (S.2.1 10 r))) r = true ∨ gq_in (S.2.1 10) (gq_eN S.2 (u1.2.1 5)) r) (a, S) → Q (a, (S.1, (va_up (va_up S.2.1 5 (U.2.1 5)) 6 (U.2.1 6), S.2.2.1, S.2.2.2))) := by
        intro a h
        rw [hQ]
        refine ⟨⟨?_, ?_⟩, ?_, ?_⟩
        · show ∀ j, U.2.1 5 j = 0 ∨ U.2.1 5 j = 1
          rw [e5]; exact b1
        · show gq_v (U.2.1 5) = _
          rw [e5]; exact s1
        · show ∀ q, q < 32 → gq_vb (U.2.1 6) q = gp_it (gq_FQ S.2 R (U.2.1 5) q) n (R + 1) (gq_vb (S.2.1 6) q)
          rw [e5, e6]; exact hu5
        · show gq_fuQ S.2 R (fun r => gp_bt (U.2.1 6 (Int32.toNatClampNeg (S.2.1 10 r))) r = true ∨ gq_in (S.2.1 10) (gq_eN S.2 (U.2.1 5)) r) _
          rw [e5, e6]; exact h
      by_cases q : k = R
      · have l : S.2.2.2 13 ≤ v := by rw [Int32.le_iff_toInt_le]; omega
        rw [if_pos l]
        exact fin _ (Or.inl ⟨rfl, fun r hr => hno r (by omega)⟩)
      · have l : ¬ S.2.2.2 13 ≤ v := by rw [Int32.le_iff_toInt_le]; omega
        rw [if_neg l, cv]
        refine gq_if (Q := Q) (fun w => ?_) (fun w => ?_)
        · rw [gq_bit1 _ hv (by omega), e6] at w
          refine gq_cb (Q := Q) (gq_inQ2 (gq_eN S.2 (U.2.1 5)) (gq_fn (S.2.1 10) k) (Int32.toNatClampNeg (S.2.1 10 k))) (gq_endless v S.2 _ (U.2.1 5) ⟨rfl, rfl, rfl, rfl, rfl, rfl, rfl, rfl, rfl⟩ rfl hT (by rw [e5]; exact b1) hv (by omega) (hfn k (by omega))) (fun r u hr => ?_)
          rcases hr with ⟨r0, hn⟩ | ⟨r1, hy⟩
          · have r0 : r = 0 := r0
            rw [r0, if_pos rfl]
            refine ih (k + 1) (v + 1) _ (by omega) (by omega) (by omega) e5 e6 (fun r' hr' => ?_)
            by_cases z : r' = k
            · rw [z]
              rintro (c | ⟨d, d1, d2, d3⟩)
              · exact w c
              · rw [← e5] at d3
                exact hn d d1 d2 d3
            · exact hno r' (by omega)
          · have r1 : r = 1 := r1
            rw [r1, if_neg (show ¬ (1 : Int32) = 0 by decide)]
            refine fin _ (Or.inr ⟨k, by omega, rfl, Or.inr ?_, hno⟩)
            rw [e5] at hy
            exact hy
        · rw [gq_bit1 _ hv (by omega), e6] at w
          exact fin _ (Or.inr ⟨k, by omega, rfl, Or.inl (Classical.byContradiction w), hno⟩)
  exact loop 200 0 0 _ (by decide) (by omega) (by omega) rfl rfl (fun r hr => absurd hr (by omega))
