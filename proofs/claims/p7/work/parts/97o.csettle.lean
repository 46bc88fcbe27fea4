/-! The class finds what can be empty: its passes are ways up, and come to rest. -/
noncomputable def gq_FE (T : gm_S) (R : Nat) (x : Nat → Bool) (k : Nat) : Bool := @decide (gq_nE (T.1 0) (T.1 2) (T.1 3) (T.1 4) (gq_rb T R) (fun j => x j = true) k) (Classical.propDecidable _)
theorem gq_FE_iff (T : gm_S) (R : Nat) (x : Nat → Bool) (k : Nat) : gq_FE T R x k = true ↔ gq_nE (T.1 0) (T.1 2) (T.1 3) (T.1 4) (gq_rb T R) (fun j => x j = true) k := by
  unfold gq_FE
  exact @decide_eq_true_iff _ (Classical.propDecidable _)
theorem gq_nE_mono {kd fr to pt : Nat → Int32} {rb : Nat → Nat} {em em' : Nat → Prop} {d : Nat} (h : ∀ j, em j → em' j) (q : gq_nE kd fr to pt rb em d) : gq_nE kd fr to pt rb em' d := by
  rcases q with ⟨q1, q2⟩ | ⟨q1, q2⟩ | ⟨q1, i, q2, q3, q4⟩ | ⟨q1, q2⟩ | q
  · exact Or.inl ⟨q1, h _ q2⟩
  · exact Or.inr (Or.inl ⟨q1, fun i a b => h _ (q2 i a b)⟩)
  · exact Or.inr (Or.inr (Or.inl ⟨q1, i, q2, q3, h _ q4⟩))
  · exact Or.inr (Or.inr (Or.inr (Or.inl ⟨q1, h _ q2⟩)))
  · exact Or.inr (Or.inr (Or.inr (Or.inr q)))
theorem gq_FE_mon (T : gm_S) (R : Nat) : gp_mon (gq_FE T R) := by
  intro x y h n q
  rw [gq_FE_iff] at q ⊢
  exact gq_nE_mono h q
/-- a node looks at what is below it, and at the rules' nodes -/
theorem gq_nE_dep {T : gm_S} {n R : Nat} (hT : gq_T T n R) (hk : gq_kn T n R) {em em' : Nat → Prop} {d : Nat} (hd : d < n) (h1 : ∀ k, k < d → em k → em' k) (h2 : ∀ r, r < R → em (Int32.toNatClampNeg (T.1 10 r)) → em' (Int32.toNatClampNeg (T.1 10 r))) (q : gq_nE (T.1 0) (T.1 2) (T.1 3) (T.1 4) (gq_rb T R) em d) : gq_nE (T.1 0) (T.1 2) (T.1 3) (T.1 4) (gq_rb T R) em' d := by
  obtain ⟨k0, k9, kp⟩ := hT.2.2.2.2.2 d hd
  rcases q with ⟨q1, q2⟩ | ⟨q1, q2⟩ | ⟨q1, i, q2, q3, q4⟩ | ⟨q1, q2⟩ | q
  · exact Or.inl ⟨q1, h2 _ (hk d hd q1) q2⟩
  · obtain ⟨lo, hi, a1, a2, a3, a4, -, a6⟩ := kp (by omega)
    exact Or.inr (Or.inl ⟨q1, fun i a b => h1 _ (a6 i (by omega) (by omega)).2 (q2 i a b)⟩)
  · obtain ⟨lo, hi, a1, a2, a3, a4, -, a6⟩ := kp (by omega)
    exact Or.inr (Or.inr (Or.inl ⟨q1, i, q2, q3, h1 _ (a6 i (by omega) (by omega)).2 q4⟩))
  · obtain ⟨lo, hi, a1, a2, a3, a4, a5, a6⟩ := kp (by omega)
    have a5 := a5 (by omega)
    have cl : Int32.toNatClampNeg (T.1 2 d) = lo := gp_cl_n a1
    refine Or.inr (Or.inr (Or.inr (Or.inl ⟨q1, ?_⟩)))
    rw [cl] at q2 ⊢
    exact h1 _ (a6 lo (Nat.le_refl _) (by omega)).2 q2
  · exact Or.inr (Or.inr (Or.inr (Or.inr q)))
theorem gq_FE_dep {T : gm_S} {n R : Nat} (hT : gq_T T n R) (hk : gq_kn T n R) : ∀ (y z : Nat → Bool) (d : Nat), d < n → (∀ k, k < d → y k = z k) → (∀ j, j < R → y (Int32.toNatClampNeg (T.1 10 j)) = z (Int32.toNatClampNeg (T.1 10 j))) → z d = gq_FE T R y d → gq_FE T R z d = gq_FE T R y d := by
  intro y z d hd h1 h2 _
  have a : gq_FE T R z d = true ↔ gq_FE T R y d = true := by
    rw [gq_FE_iff, gq_FE_iff]
    exact ⟨gq_nE_dep hT hk hd (fun k hk2 q => by rw [h1 k hk2]; exact q) (fun j hj q => by rw [h2 j hj]; exact q), gq_nE_dep hT hk hd (fun k hk2 q => by rw [← h1 k hk2]; exact q) (fun j hj q => by rw [← h2 j hj]; exact q)⟩
  cases e1 : gq_FE T R z d <;> cases e2 : gq_FE T R y d <;> simp_all
def gq_v (a : Nat → Int32) (k : Nat) : Bool := decide (a k = 1)
theorem gq_v_iff (a : Nat → Int32) (k : Nat) : gq_v a k = true ↔ a k = 1 := decide_eq_true_iff
theorem gq_v_up (a : Nat → Int32) (k : Nat) (r : Int32) {F : (Nat → Bool) → Nat → Bool} {x : Nat → Bool} (h : gq_v a = gp_sw F k x) (hr : r = 1 ↔ F (gq_v a) k = true) : gq_v (upd a k r) = gp_sw F (k + 1) x := by
  funext j
  show gq_v (upd a k r) j = if j = k then F (gp_sw F k x) k else gp_sw F k x j
  by_cases e : j = k
  · rw [if_pos e, e, ← h]
    unfold gq_v at hr ⊢
    rw [gx_us]
    have b : decide (r = 1) = true ↔ F (fun k => decide (a k = 1)) k = true := decide_eq_true_iff.trans hr
    cases e1 : decide (r = 1) <;> cases e2 : F (fun k => decide (a k = 1)) k <;> simp_all
  · rw [if_neg e, ← h]
    unfold gq_v
    rw [gx_un _ _ _ e]
theorem gq_settleE15 (S : gm_S × gm_S) {n R : Nat} (hT : gq_T S.2 n R) (hk : gq_kn S.2 n R) (v1 : Int32) (S2 : gm_S × gm_S) (x0 : Nat → Bool) {Q : Int32 × (gm_S × gm_S) → Prop} (kf : Int32 → gm_S × gm_S → Int32 × (gm_S × gm_S)) (hkf : ∀ (w : Int32) (W : gm_S × gm_S), (∀ j, W.2.1 5 j = 0 ∨ W.2.1 5 j = 1) → gq_v (W.2.1 5) = gp_sw (gq_FE S.2 R) n x0 → Q (kf w W)) : ∀ (f k : Nat) (v : Int32) (U : gm_S × gm_S), v.toInt = k → k ≤ n → n < f + k → (∀ j, U.2.1 5 j = 0 ∨ U.2.1 5 j = 1) → gq_v (U.2.1 5) = gp_sw (gq_FE S.2 R) k x0 → Q (gm_f_Judge_settleEmptiness_15 S v1 S2 f v U kf) := by
  have t1 := hT.1
  have t2 := hT.2.1
  intro f
  induction f with
  | zero => intro k v U _ h1 h2; exact absurd h2 (by omega)
  | succ f ih =>
    intro k v U hv h1 h2 hb hU
    rw [gm_f_Judge_settleEmptiness_15]
    have cv : Int32.toNatClampNeg v = k := gp_cl_n hv
    have av := gx_ak v 1 1 (by decide)
    by_cases q : k = n
    · have l : S.2.2.2 11 ≤ v := by rw [Int32.le_iff_toInt_le]; omega
      rw [if_pos l]
      exact hkf _ _ hb (by rw [← q]; exact hU)
    · have l : ¬ S.2.2.2 11 ≤ v := by rw [Int32.le_iff_toInt_le]; omega
      rw [if_neg l, cv]
      refine gq_cb (Q := Q) (gq_ieQ S.2 R (U.2.1 5) k) (gq_isE v S.2 _ (U.2.1 5) ⟨rfl, rfl, rfl, rfl, rfl, rfl, rfl, rfl, rfl⟩ rfl hT hk hv (by omega) hb) (fun r u hr => ?_)
      obtain ⟨r01, r1⟩ := hr
      have r01 : r = 0 ∨ r = 1 := r01
      have r1 : r = 1 ↔ _ := r1
      have nar : vp_nar .boolean r = r := by rcases r01 with e | e <;> rw [e] <;> decide
      rw [nar]
      refine ih (k + 1) (v + 1) _ (by omega) (by omega) (by omega) (fun j => ?_) ?_
      · show upd (U.2.1 5) k r j = 0 ∨ upd (U.2.1 5) k r j = 1
        by_cases e : j = k
        · rw [e, gx_us]; exact r01
        · rw [gx_un _ _ _ e]; exact hb j
      · refine gq_v_up (U.2.1 5) k r hU (r1.trans ?_)
        rw [gq_FE_iff]
        exact ⟨gq_nE_mono (fun j h => (gq_v_iff _ j).mpr h), gq_nE_mono (fun j h => (gq_v_iff _ j).mp h)⟩
/-- what settleEmptiness leaves -/
def gq_seQ (T : gm_S) (n R : Nat) (x0 : Nat → Bool) (z : Int32 × (gm_S × gm_S)) : Prop := (∀ j, z.2.2.1 5 j = 0 ∨ z.2.2.1 5 j = 1) ∧ gq_v (z.2.2.1 5) = gp_it (gq_FE T R) n (R + 1) x0
theorem gq_settleE2 (S : gm_S × gm_S) {n R : Nat} (hT : gq_T S.2 n R) (hk : gq_kn S.2 n R) (x0 : Nat → Bool) : ∀ (f k : Nat) (v : Int32) (U : gm_S × gm_S), v.toInt = k → k ≤ R + 1 → R + 1 < f + k → (∀ j, U.2.1 5 j = 0 ∨ U.2.1 5 j = 1) → gq_v (U.2.1 5) = gp_it (gq_FE S.2 R) n k x0 → gq_seQ S.2 n R x0 (gm_f_Judge_settleEmptiness_2 S f v U) := by
  have t1 := hT.2.2.1
  have t2 := hT.2.2.2.1
  have n75 := hT.2.1
  obtain ⟨Q, hQ⟩ : ∃ Q, Q = gq_seQ S.2 n R x0 := ⟨_, rfl⟩
  rw [← hQ]
  intro f
  induction f with
  | zero => intro k v U _ h1 h2; exact absurd h2 (by omega)
  | succ f ih =>
    intro k v U hv h1 h2 hb hU
    rw [gm_f_Judge_settleEmptiness_2]
    have av := gx_ak v 1 1 (by decide)
    by_cases q : k = R + 1
    · have l : S.2.2.2 13 < v := by rw [Int32.lt_iff_toInt_lt]; omega
      rw [if_pos l, hQ]
      exact ⟨hb, by rw [← q]; exact hU⟩
    · have l : ¬ S.2.2.2 13 < v := by rw [Int32.lt_iff_toInt_lt]; omega
      rw [if_neg l]
      refine gq_settleE15 S hT hk v U (gp_it (gq_FE S.2 R) n k x0) _ (fun w W hW1 hW2 => ?_) 200 0 0 _ (by decide) (by omega) (by omega) hb hU
      exact ih (k + 1) (v + 1) _ (by omega) (by omega) (by omega) hW1 hW2
theorem gq_settleE (S : gm_S × gm_S) {n R : Nat} (hT : gq_T S.2 n R) (hk : gq_kn S.2 n R) (hb : ∀ j, S.2.1 5 j = 0 ∨ S.2.1 5 j = 1) : gq_seQ S.2 n R (gq_v (S.2.1 5)) (gm_f_Judge_settleEmptiness S) := by
  have t2 := hT.2.2.2.1
  unfold gm_f_Judge_settleEmptiness
  exact gq_settleE2 S hT hk _ 200 0 0 _ (by decide) (by omega) (by omega) hb rfl
/-- at rest, and the least -/
theorem gq_seQ_rest {S : gm_S × gm_S} {n R : Nat} (hT : gq_T S.2 n R) (hk : gq_kn S.2 n R) (h0 : ∀ d, d < n → S.2.1 5 d = 0) {z : Int32 × (gm_S × gm_S)} (h : gq_seQ S.2 n R (gq_v (S.2.1 5)) z) : (∀ d, d < n → (z.2.2.1 5 d = 1 ↔ gq_nE (S.2.1 0) (S.2.1 2) (S.2.1 3) (S.2.1 4) (gq_rb S.2 R) (fun j => z.2.2.1 5 j = 1) d)) ∧ ∀ Y : Nat → Prop, (∀ d, d < n → gq_nE (S.2.1 0) (S.2.1 2) (S.2.1 3) (S.2.1 4) (gq_rb S.2 R) Y d → Y d) → ∀ d, d < n → z.2.2.1 5 d = 1 → Y d := by
  obtain ⟨h1, h2⟩ := h
  have sup : gp_sup (gq_FE S.2 R) n (gq_v (S.2.1 5)) := fun d hd q => by
    rw [gq_v_iff, h0 d hd] at q
    exact absurd q (by decide)
  have fix := gq_it_fix (gq_FE_mon S.2 R) (N := n) (R := R) (rt := fun j => Int32.toNatClampNeg (S.2.1 10 j)) sup (gq_FE_dep hT hk)
  rw [← h2] at fix
  constructor
  · intro d hd
    have e := fix d hd
    have a : gq_FE S.2 R (gq_v (z.2.2.1 5)) d = true ↔ z.2.2.1 5 d = 1 := by rw [e, gq_v_iff]
    rw [← a, gq_FE_iff]
    exact ⟨gq_nE_mono (fun j h => (gq_v_iff _ j).mp h), gq_nE_mono (fun j h => (gq_v_iff _ j).mpr h)⟩
  · intro Y hY d hd q
    have le := gp_it_le (gq_FE_mon S.2 R) (N := n) (x := gq_v (S.2.1 5)) (y := fun k => @decide (n ≤ k ∨ Y k) (Classical.propDecidable _)) (fun k hk2 w => ?_) (fun k w => ?_) (R + 1) d
    · rw [← h2] at le
      have := le ((gq_v_iff _ d).mpr q)
      rw [@decide_eq_true_iff _ (Classical.propDecidable _)] at this
      rcases this with this | this
      · omega
      · exact this
    · rw [gq_FE_iff] at w
      rw [@decide_eq_true_iff _ (Classical.propDecidable _)]
      refine Or.inr (hY k hk2 (gq_nE_dep hT hk hk2 (fun j hj u => ?_) (fun r hr u => ?_) w))
      · rw [@decide_eq_true_iff _ (Classical.propDecidable _)] at u
        rcases u with u | u
        · omega
        · exact u
      · rw [@decide_eq_true_iff _ (Classical.propDecidable _)] at u
        rcases u with u | u
        · have := (hT.2.2.2.2.1 r hr).2
          omega
        · exact u
    · rw [@decide_eq_true_iff _ (Classical.propDecidable _)]
      rw [gq_v_iff] at w
      by_cases l : n ≤ k
      · exact Or.inl l
      · rw [h0 k (by omega)] at w
        exact absurd w (by decide)
