/-! The class finds with which rules a node begins. -/
/-- a set has no parts -/
def gq_T0 (T : gm_S) (n : Nat) : Prop := ∀ d, d < n → (T.1 0 d).toInt = 0 → T.1 3 d = T.1 2 d
def gq_hrQ (S : gm_S × gm_S) (d j : Nat) (z : Int32 × (gm_S × gm_S)) : Prop := (z.1 = 0 ∧ ¬ ((S.2.1 0 d).toInt = 2 ∧ S.2.1 5 j = 0)) ∨ (z.1 = 1 ∧ (S.2.1 0 d).toInt = 2 ∧ S.2.1 5 j = 0)
theorem gq_hides (x y : Int32) (S0 S : gm_S × gm_S) {d : Nat} (h0 : S.2.1 0 = S0.2.1 0) (h5 : S.2.1 5 = S0.2.1 5) (hx : x.toInt = d) : gq_hrQ S0 d (Int32.toNatClampNeg y) (gm_f_Judge_hidesTheRest x y S) := by
  have cx : Int32.toNatClampNeg x = d := gp_cl_n hx
  unfold gm_f_Judge_hidesTheRest gq_hrQ
  rw [cx, h0, h5]
  by_cases q : S0.2.1 0 d = 2
  · rw [if_pos q]
    have q2 : (S0.2.1 0 d).toInt = 2 := by rw [q]; exact gx_lit 2 (by decide)
    by_cases w : S0.2.1 5 (Int32.toNatClampNeg y) = 0
    · rw [if_pos w]; exact Or.inr ⟨rfl, q2, w⟩
    · rw [if_neg w]; exact Or.inl ⟨rfl, fun h => w h.2⟩
  · rw [if_neg q]
    exact Or.inl ⟨rfl, fun h => q (Int32.toInt_inj.mp (h.1.trans (gx_lit 2 (by decide)).symm))⟩
/-- what the parts below k bring, bit q -/
def gq_pb (kd : Int) (pt em bg : Nat → Int32) (lo k q : Nat) (w : Int32) : Prop := gp_bt w q = true ↔ ∃ i, lo ≤ i ∧ i < k ∧ gp_bt (bg (Int32.toNatClampNeg (pt i))) q = true ∧ (kd = 2 → ∀ j, lo ≤ j → j < i → em (Int32.toNatClampNeg (pt j)) = 1)
def gq_pbQ (kd : Int) (pt em bg : Nat → Int32) (lo hi : Nat) (z : Int32 × (gm_S × gm_S)) : Prop := ∀ q, q < 32 → gq_pb kd pt em bg lo hi q z.1
theorem gq_begins58 (x : Int32) (S : gm_S × gm_S) {d lo hi : Nat} (hx : x.toInt = d) (hh : (S.2.1 3 d).toInt = hi) (h75 : hi ≤ 75) (hb : ∀ j, S.2.1 5 j = 0 ∨ S.2.1 5 j = 1) : ∀ (f k : Nat) (v w : Int32) (U : gm_S × gm_S), v.toInt = k → lo ≤ k → k ≤ hi → hi < f + k → (∀ q, q < 32 → gq_pb (S.2.1 0 d).toInt (S.2.1 4) (S.2.1 5) (S.2.1 6) lo k q w) → ((S.2.1 0 d).toInt = 2 → ∀ j, lo ≤ j → j < k → S.2.1 5 (Int32.toNatClampNeg (S.2.1 4 j)) = 1) → gq_pbQ (S.2.1 0 d).toInt (S.2.1 4) (S.2.1 5) (S.2.1 6) lo hi (gm_f_Judge_beginningsByParts_58 x S f v w U) := by
  have cx : Int32.toNatClampNeg x = d := gp_cl_n hx
  obtain ⟨Q, hQ⟩ : ∃ Q, Q = gq_pbQ (S.2.1 0 d).toInt (S.2.1 4) (S.2.1 5) (S.2.1 6) lo hi := ⟨_, rfl⟩
  rw [← hQ]
  intro f
  induction f with
  | zero => intro k v w U _ _ h1 h2; exact absurd h2 (by omega)
  | succ f ih =>
    intro k v w U hv h0 h1 h2 hw he
    rw [gm_f_Judge_beginningsByParts_58, cx]
    have cv : Int32.toNatClampNeg v = k := gp_cl_n hv
    have av := gx_ak v 1 1 (by decide)
    by_cases q : k = hi
    · have l : S.2.1 3 d ≤ v := by rw [Int32.le_iff_toInt_le]; omega
      rw [if_pos l, hQ]
      intro b hb2
      rw [← q]
      exact hw b hb2
    · have l : ¬ S.2.1 3 d ≤ v := by rw [Int32.le_iff_toInt_le]; omega
      rw [if_neg l, cv]
      have nx : ∀ b, b < 32 → (gp_bt (w ||| S.2.1 6 (Int32.toNatClampNeg (S.2.1 4 k))) b = true ↔ ∃ i, lo ≤ i ∧ i < k + 1 ∧ gp_bt (S.2.1 6 (Int32.toNatClampNeg (S.2.1 4 i))) b = true ∧ ((S.2.1 0 d).toInt = 2 → ∀ j, lo ≤ j → j < i → S.2.1 5 (Int32.toNatClampNeg (S.2.1 4 j)) = 1)) := by
        intro b hb2
        rw [gp_bt_or, Bool.or_eq_true]
        constructor
        · rintro (h | h)
          · obtain ⟨i, i1, i2, i3⟩ := (hw b hb2).mp h
            exact ⟨i, i1, by omega, i3⟩
          · exact ⟨k, h0, by omega, h, he⟩
        · rintro ⟨i, i1, i2, i3, i4⟩
          by_cases e : i = k
          · rw [e] at i3; exact Or.inr i3
          · exact Or.inl ((hw b hb2).mpr ⟨i, i1, by omega, i3, i4⟩)
      refine gq_cb (Q := Q) (gq_hrQ S d (Int32.toNatClampNeg (S.2.1 4 k))) (gq_hides x _ _ _ rfl rfl hx) (fun r u hr => ?_)
      rcases hr with ⟨r0, hn⟩ | ⟨r1, hn1, hn2⟩
      · have r0 : r = 0 := r0
        rw [r0, if_pos rfl]
        refine ih (k + 1) (v + 1) _ _ (by omega) (by omega) (by omega) (by omega) nx (fun k2 j j1 j2 => ?_)
        by_cases e : j = k
        · rw [e]
          exact (hb _).resolve_left (fun z => hn ⟨k2, z⟩)
        · exact he k2 j j1 (by omega)
      · have r1 : r = 1 := r1
        rw [r1, if_neg (show ¬ (1 : Int32) = 0 by decide), hQ]
        intro b hb2
        refine (nx b hb2).trans ⟨fun ⟨i, i1, i2, i3⟩ => ⟨i, i1, by omega, i3⟩, fun ⟨i, i1, i2, i3, i4⟩ => ⟨i, i1, ?_, i3, i4⟩⟩
        rcases Nat.lt_or_ge i (k + 1) with c | c
        · exact c
        · exfalso
          have := i4 hn1 k h0 (by omega)
          rw [hn2] at this
          exact absurd this (by decide)
/-- a node that names the rule q -/
def gq_bq (T : gm_S) (R q d : Nat) : Prop := (T.1 0 d).toInt = 1 ∧ gq_ix (T.1 9) (T.1 1 d) R = q
def gq_bbQ (T : gm_S) (R : Nat) (em bg : Nat → Int32) (d : Nat) (z : Int32 × (gm_S × gm_S)) : Prop := ∀ q, q < 32 → (gp_bt z.1 q = true ↔ gq_nB (T.1 0) (T.1 2) (T.1 3) (T.1 4) (gq_rb T R) (fun j => em j = 1) (gq_bq T R q) (fun _ => False) (fun j => gp_bt (bg j) q = true) d)
theorem gq_begins0 (x : Int32) (S : gm_S × gm_S) {n R d : Nat} (hT : gq_T S.2 n R) (hT0 : gq_T0 S.2 n) (hk : gq_kn S.2 n R) (hx : x.toInt = d) (hd : d < n) (hb : ∀ j, S.2.1 5 j = 0 ∨ S.2.1 5 j = 1) : gq_bbQ S.2 R (S.2.1 5) (S.2.1 6) d (gm_f_Judge_beginningsByParts x S) := by
  obtain ⟨Q, hQ⟩ : ∃ Q, Q = gq_bbQ S.2 R (S.2.1 5) (S.2.1 6) d := ⟨_, rfl⟩
  rw [← hQ]
  have cx : Int32.toNatClampNeg x = d := gp_cl_n hx
  obtain ⟨k0, k9, kp⟩ := hT.2.2.2.2.2 d hd
  have t4 := hT.2.2.2.1
  unfold gm_f_Judge_beginningsByParts
  rw [cx]
  refine gq_if (Q := Q) (fun e => ?_) (fun e => ?_)
  · have e1 : (S.2.1 0 d).toInt = 1 := by rw [e]; decide
    have kn := hk d hd e1
    refine gq_cb (Q := Q) _ (gq_rootBehind x (S.1, S.2) hT hx kn) (fun r22 u22 h22 => ?_)
    have h22 : r22 = S.2.1 10 (gq_ix (S.2.1 9) (S.2.1 1 d) R) := h22
    refine gq_cb (Q := Q) (gq_ruQ S.2 (S.2.1 1 d) R) (gq_ruleOf (S.2.1 1 d) _ _ rfl hT.2.2.1 t4) (fun r40 u40 h40 => ?_)
    have h40' := gq_ruQ_ix h40
    have h40' : (r40 = -1 ∧ gq_ix (S.2.1 9) (S.2.1 1 d) R = R) ∨ (gq_ix (S.2.1 9) (S.2.1 1 d) R < R ∧ r40.toInt = (gq_ix (S.2.1 9) (S.2.1 1 d) R : Nat)) := h40'
    have r40i : r40.toInt = (gq_ix (S.2.1 9) (S.2.1 1 d) R : Nat) := by
      rcases h40' with ⟨-, h⟩ | ⟨-, h⟩
      · omega
      · exact h
    rw [hQ]
    intro q hq
    show gp_bt (S.2.1 6 (Int32.toNatClampNeg r22) ||| (1 <<< (r40 &&& 31))) q = true ↔ _
    rw [gp_bt_or, gp_bt_sh (by omega) (by omega) hq, Bool.or_eq_true, decide_eq_true_iff, h22]
    constructor
    · rintro (h | h)
      · exact Or.inr (Or.inl ⟨e1, h⟩)
      · exact Or.inl ⟨e1, by omega⟩
    · rintro (h | h | h)
      · exact Or.inr (by have := h.2; omega)
      · exact Or.inl h.2
      · omega
  · have e1 : ¬ (S.2.1 0 d).toInt = 1 := fun w => e (Int32.toInt_inj.mp (w.trans (by decide)))
    by_cases z : (S.2.1 0 d).toInt = 0
    · have l : S.2.1 3 (Int32.toNatClampNeg x) ≤ S.2.1 2 d := by rw [cx, hT0 d hd z, Int32.le_iff_toInt_le]; exact Int.le_refl _
      rw [gm_f_Judge_beginningsByParts_58, if_pos l, hQ]
      intro q hq
      show gp_bt 0 q = true ↔ _
      rw [gp_bt_0]
      refine ⟨fun h => absurd h (by decide), fun h => ?_⟩
      rcases h with h | h | h
      · have := h.1; omega
      · omega
      · omega
    · obtain ⟨lo, hi, a1, a2, a3, a4, -⟩ := kp (by omega)
      have h := gq_begins58 x S (lo := lo) hx a2 a4 hb 200 lo (S.2.1 2 d) 0 (S.1, S.2) a1 (Nat.le_refl _) a3 (by omega) (fun q hq => ⟨fun w => absurd w (by rw [gp_bt_0]; decide), fun ⟨i, i1, i2, _⟩ => absurd i2 (by omega)⟩) (fun _ j j1 j2 => absurd j2 (by omega))
      rw [hQ]
      intro q hq
      refine (h q hq).trans ⟨fun ⟨i, i1, i2, i3, i4⟩ => Or.inr (Or.inr ⟨by omega, fun w => w, i, by omega, by omega, i3, fun k2 j j1 j2 => i4 k2 j (by omega) j2⟩), fun w => ?_⟩
      rcases w with w | w | ⟨-, -, i, i1, i2, i3, i4⟩
      · exact absurd w.1 e1
      · exact absurd w.1 e1
      · exact ⟨i, by omega, by omega, i3, fun k2 j j1 j2 => i4 k2 j (by omega) j2⟩
theorem gq_begins (x : Int32) (T0 : gm_S) (S : gm_S × gm_S) (em bg : Nat → Int32) {n R d : Nat} (hE : gq_TE T0 S.2) (he : S.2.1 5 = em) (hg : S.2.1 6 = bg) (hT : gq_T T0 n R) (hT0 : gq_T0 T0 n) (hk : gq_kn T0 n R) (hx : x.toInt = d) (hd : d < n) (hb : ∀ j, em j = 0 ∨ em j = 1) : gq_bbQ T0 R em bg d (gm_f_Judge_beginningsByParts x S) := by
  have hT' := gq_T_E hT hE
  obtain ⟨e0, e1, e2, e3, e4, e9, e10, e11, e13⟩ := hE
  have h := gq_begins0 x S hT' (by unfold gq_T0; rw [e0, e2, e3]; exact hT0) (by unfold gq_kn; rw [e0, e9, e1]; exact hk) hx hd (by rw [he]; exact hb)
  have rb : gq_rb S.2 R = gq_rb T0 R := by
    funext d
    unfold gq_rb
    rw [e10, e9, e1]
  have bq : gq_bq S.2 R = gq_bq T0 R := by
    funext q d
    unfold gq_bq
    rw [e0, e9, e1]
  unfold gq_bbQ at *
  rw [he, hg, rb, bq, e0, e2, e3, e4] at h
  exact h
noncomputable def gq_FB (T : gm_S) (R : Nat) (em : Nat → Prop) (base : Nat → Prop) (sp : Int → Prop) (x : Nat → Bool) (k : Nat) : Bool := @decide (gq_nB (T.1 0) (T.1 2) (T.1 3) (T.1 4) (gq_rb T R) em base sp (fun j => x j = true) k) (Classical.propDecidable _)
theorem gq_FB_iff (T : gm_S) (R : Nat) (em base : Nat → Prop) (sp : Int → Prop) (x : Nat → Bool) (k : Nat) : gq_FB T R em base sp x k = true ↔ gq_nB (T.1 0) (T.1 2) (T.1 3) (T.1 4) (gq_rb T R) em base sp (fun j => x j = true) k := by
  unfold gq_FB
  exact @decide_eq_true_iff _ (Classical.propDecidable _)
theorem gq_FB_mon (T : gm_S) (R : Nat) (em base : Nat → Prop) (sp : Int → Prop) : gp_mon (gq_FB T R em base sp) := by
  intro x y h n q
  rw [gq_FB_iff] at q ⊢
  exact gq_nB_mono h q
theorem gq_FB_dep {T : gm_S} {n R : Nat} (hT : gq_T T n R) (hk : gq_kn T n R) (em base : Nat → Prop) (sp : Int → Prop) : ∀ (y z : Nat → Bool) (d : Nat), d < n → (∀ k, k < d → y k = z k) → (∀ j, j < R → y (Int32.toNatClampNeg (T.1 10 j)) = z (Int32.toNatClampNeg (T.1 10 j))) → z d = gq_FB T R em base sp y d → gq_FB T R em base sp z d = gq_FB T R em base sp y d := by
  intro y z d hd h1 h2 _
  have a : gq_FB T R em base sp z d = true ↔ gq_FB T R em base sp y d = true := by
    rw [gq_FB_iff, gq_FB_iff]
    exact ⟨gq_nB_dep hT hk hd (fun k hk2 q => by rw [h1 k hk2]; exact q) (fun j hj q => by rw [h2 j hj]; exact q), gq_nB_dep hT hk hd (fun k hk2 q => by rw [← h1 k hk2]; exact q) (fun j hj q => by rw [← h2 j hj]; exact q)⟩
  cases e1 : gq_FB T R em base sp z d <;> cases e2 : gq_FB T R em base sp y d <;> simp_all
def gq_vb (a : Nat → Int32) (q k : Nat) : Bool := gp_bt (a k) q
theorem gq_vb_up (a : Nat → Int32) (q k : Nat) (r : Int32) {F : (Nat → Bool) → Nat → Bool} {x : Nat → Bool} (h : gq_vb a q = gp_sw F k x) (hr : gp_bt r q = true ↔ F (gq_vb a q) k = true) : gq_vb (upd a k r) q = gp_sw F (k + 1) x := by
  funext j
  show gq_vb (upd a k r) q j = if j = k then F (gp_sw F k x) k else gp_sw F k x j
  by_cases e : j = k
  · rw [if_pos e, e, ← h]
    unfold gq_vb at hr ⊢
    rw [gx_us]
    cases e1 : gp_bt r q <;> cases e2 : F (fun k => gp_bt (a k) q) k <;> simp_all
  · rw [if_neg e, ← h]
    unfold gq_vb
    rw [gx_un _ _ _ e]
noncomputable abbrev gq_FQ (T : gm_S) (R : Nat) (em : Nat → Int32) (q : Nat) : (Nat → Bool) → Nat → Bool := gq_FB T R (fun j => em j = 1) (gq_bq T R q) (fun _ => False)
theorem gq_settleB15 (S : gm_S × gm_S) {n R : Nat} (hT : gq_T S.2 n R) (hT0 : gq_T0 S.2 n) (hk : gq_kn S.2 n R) (hb : ∀ j, S.2.1 5 j = 0 ∨ S.2.1 5 j = 1) (v1 : Int32) (S2 : gm_S × gm_S) (x0 : Nat → Nat → Bool) {Q : Int32 × (gm_S × gm_S) → Prop} (kf : Int32 → gm_S × gm_S → Int32 × (gm_S × gm_S)) (hkf : ∀ (w : Int32) (W : gm_S × gm_S), (∀ q, q < 32 → gq_vb (W.2.1 6) q = gp_sw (gq_FQ S.2 R (S.2.1 5) q) n (x0 q)) → Q (kf w W)) : ∀ (f k : Nat) (v : Int32) (U : gm_S × gm_S), v.toInt = k → k ≤ n → n < f + k → (∀ q, q < 32 → gq_vb (U.2.1 6) q = gp_sw (gq_FQ S.2 R (S.2.1 5) q) k (x0 q)) → Q (gm_f_Judge_settleBeginnings_15 S v1 S2 f v U kf) := by
  have t1 := hT.1
  have t2 := hT.2.1
  intro f
  induction f with
  | zero => intro k v U _ h1 h2; exact absurd h2 (by omega)
  | succ f ih =>
    intro k v U hv h1 h2 hU
    rw [gm_f_Judge_settleBeginnings_15]
    have cv : Int32.toNatClampNeg v = k := gp_cl_n hv
    have av := gx_ak v 1 1 (by decide)
    by_cases q : k = n
    · have l : S.2.2.2 11 ≤ v := by rw [Int32.le_iff_toInt_le]; omega
      rw [if_pos l]
      exact hkf _ _ (by rw [← q]; exact hU)
    · have l : ¬ S.2.2.2 11 ≤ v := by rw [Int32.le_iff_toInt_le]; omega
      rw [if_neg l, cv]
      refine gq_cb (Q := Q) (gq_bbQ S.2 R (S.2.1 5) (U.2.1 6) k) (gq_begins v S.2 _ (S.2.1 5) (U.2.1 6) ⟨rfl, rfl, rfl, rfl, rfl, rfl, rfl, rfl, rfl⟩ rfl rfl hT hT0 hk hv (by omega) hb) (fun r u hr => ?_)
      refine ih (k + 1) (v + 1) _ (by omega) (by omega) (by omega) (fun b hb2 => ?_)
      refine gq_vb_up (U.2.1 6) b k r (hU b hb2) ((hr b hb2).trans ?_)
      rw [gq_FB_iff]
      exact Iff.rfl
/-- what settleBeginnings leaves -/
def gq_sbQ (T : gm_S) (n R : Nat) (em : Nat → Int32) (x0 : Nat → Nat → Bool) (z : Int32 × (gm_S × gm_S)) : Prop := ∀ q, q < 32 → gq_vb (z.2.2.1 6) q = gp_it (gq_FQ T R em q) n (R + 1) (x0 q)
theorem gq_settleB2 (S : gm_S × gm_S) {n R : Nat} (hT : gq_T S.2 n R) (hT0 : gq_T0 S.2 n) (hk : gq_kn S.2 n R) (hb : ∀ j, S.2.1 5 j = 0 ∨ S.2.1 5 j = 1) (x0 : Nat → Nat → Bool) : ∀ (f k : Nat) (v : Int32) (U : gm_S × gm_S), v.toInt = k → k ≤ R + 1 → R + 1 < f + k → (∀ q, q < 32 → gq_vb (U.2.1 6) q = gp_it (gq_FQ S.2 R (S.2.1 5) q) n k (x0 q)) → gq_sbQ S.2 n R (S.2.1 5) x0 (gm_f_Judge_settleBeginnings_2 S f v U) := by
  have t1 := hT.2.2.1
  have t2 := hT.2.2.2.1
  have n75 := hT.2.1
  obtain ⟨Q, hQ⟩ : ∃ Q, Q = gq_sbQ S.2 n R (S.2.1 5) x0 := ⟨_, rfl⟩
  rw [← hQ]
  intro f
  induction f with
  | zero => intro k v U _ h1 h2; exact absurd h2 (by omega)
  | succ f ih =>
    intro k v U hv h1 h2 hU
    rw [gm_f_Judge_settleBeginnings_2]
    have av := gx_ak v 1 1 (by decide)
    by_cases q : k = R + 1
    · have l : S.2.2.2 13 < v := by rw [Int32.lt_iff_toInt_lt]; omega
      rw [if_pos l, hQ]
      intro b hb2
      rw [← q]
      exact hU b hb2
    · have l : ¬ S.2.2.2 13 < v := by rw [Int32.lt_iff_toInt_lt]; omega
      rw [if_neg l]
      refine gq_settleB15 S hT hT0 hk hb v U (fun b => gp_it (gq_FQ S.2 R (S.2.1 5) b) n k (x0 b)) _ (fun w W hW => ?_) 200 0 0 _ (by decide) (by omega) (by omega) hU
      exact ih (k + 1) (v + 1) _ (by omega) (by omega) (by omega) hW
theorem gq_settleB (S : gm_S × gm_S) {n R : Nat} (hT : gq_T S.2 n R) (hT0 : gq_T0 S.2 n) (hk : gq_kn S.2 n R) (hb : ∀ j, S.2.1 5 j = 0 ∨ S.2.1 5 j = 1) : gq_sbQ S.2 n R (S.2.1 5) (gq_vb (S.2.1 6)) (gm_f_Judge_settleBeginnings S) := by
  have t2 := hT.2.2.2.1
  unfold gm_f_Judge_settleBeginnings
  exact gq_settleB2 S hT hT0 hk hb _ 200 0 0 _ (by decide) (by omega) (by omega) (fun q _ => rfl)
/-- ways up of this kind, out of nothing: at rest, and the least -/
theorem gq_it_rest {T : gm_S} {n R : Nat} (hT : gq_T T n R) (hk : gq_kn T n R) {em base : Nat → Prop} {sp : Int → Prop} {x0 x : Nat → Bool} (h0 : ∀ d, d < n → ¬ x0 d = true) (h : x = gp_it (gq_FB T R em base sp) n (R + 1) x0) : (∀ d, d < n → (x d = true ↔ gq_nB (T.1 0) (T.1 2) (T.1 3) (T.1 4) (gq_rb T R) em base sp (fun j => x j = true) d)) ∧ ∀ Y : Nat → Prop, (∀ d, d < n → gq_nB (T.1 0) (T.1 2) (T.1 3) (T.1 4) (gq_rb T R) em base sp Y d → Y d) → ∀ d, d < n → x d = true → Y d := by
  have sup : gp_sup (gq_FB T R em base sp) n x0 := fun d hd q => absurd q (h0 d hd)
  have fix := gq_it_fix (gq_FB_mon T R em base sp) (N := n) (R := R) (rt := fun j => Int32.toNatClampNeg (T.1 10 j)) sup (gq_FB_dep hT hk em base sp)
  rw [← h] at fix
  constructor
  · intro d hd
    rw [← gq_FB_iff, fix d hd]
  · intro Y hY d hd q
    have le := gp_it_le (gq_FB_mon T R em base sp) (N := n) (x := x0) (y := fun k => @decide (n ≤ k ∨ Y k) (Classical.propDecidable _)) (fun k hk2 w => ?_) (fun k w => ?_) (R + 1) d
    · rw [← h] at le
      have := le q
      rw [@decide_eq_true_iff _ (Classical.propDecidable _)] at this
      rcases this with this | this
      · omega
      · exact this
    · rw [gq_FB_iff] at w
      rw [@decide_eq_true_iff _ (Classical.propDecidable _)]
      refine Or.inr (hY k hk2 (gq_nB_dep hT hk hk2 (fun j hj u => ?_) (fun r hr u => ?_) w))
      · rw [@decide_eq_true_iff _ (Classical.propDecidable _)] at u
        rcases u with u | u
        · omega
        · exact u
      · rw [@decide_eq_true_iff _ (Classical.propDecidable _)] at u
        rcases u with u | u
        · have := (hT.2.2.2.2.1 r hr).2
          omega
        · exact u
    · rw [@decide_eq_true_iff _ (Classical.propDecidable _)]
      by_cases l : n ≤ k
      · exact Or.inl l
      · exact absurd w (h0 k (by omega))
