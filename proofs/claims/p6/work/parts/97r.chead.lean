/-! The class finds the heads. -/
def gq_sp (k : Int) : Prop := k = 7 ∨ k = 8
def gq_ahQ (L H : Nat → Int64) (d j : Nat) (z : Int32 × (gm_S × gm_S)) : Prop := (∀ i, i ≠ d → z.2.2.2.1 7 i = L i ∧ z.2.2.2.1 8 i = H i) ∧ ∀ c, gp_ih (z.2.2.2.1 7) (z.2.2.2.1 8) d c ↔ (gp_ih L H d c ∨ gp_ih L H j c)
theorem gq_addHead (x y : Int32) (L H : Nat → Int64) (S : gm_S × gm_S) {d j : Nat} (hL : S.2.2.1 7 = L) (hH : S.2.2.1 8 = H) (hx : x.toInt = d) (hy : Int32.toNatClampNeg y = j) : gq_ahQ L H d j (gm_f_Judge_addHead x y S) := by
  have cx : Int32.toNatClampNeg x = d := gp_cl_n hx
  unfold gm_f_Judge_addHead gq_ahQ
  rw [cx, hy, hL, hH]
  refine ⟨fun i hi => ⟨gx_lun _ _ _ hi, gx_lun _ _ _ hi⟩, fun c => ?_⟩
  show gp_ih (vp_updL L d (L d ||| L j)) (vp_updL H d (H d ||| H j)) d c ↔ _
  unfold gp_ih
  rw [gx_lus, gx_lus, gp_bl_or, gp_bl_or, Bool.or_eq_true, Bool.or_eq_true]
  constructor
  · rintro (⟨a, b, c1 | c1⟩ | ⟨a, b, c1 | c1⟩)
    · exact Or.inl (Or.inl ⟨a, b, c1⟩)
    · exact Or.inr (Or.inl ⟨a, b, c1⟩)
    · exact Or.inl (Or.inr ⟨a, b, c1⟩)
    · exact Or.inr (Or.inr ⟨a, b, c1⟩)
  · rintro ((⟨a, b, c1⟩ | ⟨a, b, c1⟩) | (⟨a, b, c1⟩ | ⟨a, b, c1⟩))
    · exact Or.inl ⟨a, b, Or.inl c1⟩
    · exact Or.inr ⟨a, b, Or.inl c1⟩
    · exact Or.inl ⟨a, b, Or.inr c1⟩
    · exact Or.inr ⟨a, b, Or.inr c1⟩
/-- what the parts below k bring to a head -/
def gq_ph (kd : Int) (pt em : Nat → Int32) (L H : Nat → Int64) (lo k : Nat) (c : Int) : Prop := ∃ i, lo ≤ i ∧ i < k ∧ gp_ih L H (Int32.toNatClampNeg (pt i)) c ∧ (kd = 2 → ∀ j, lo ≤ j → j < i → em (Int32.toNatClampNeg (pt j)) = 1)
def gq_phQ (kd : Int) (pt em : Nat → Int32) (L H : Nat → Int64) (d lo hi : Nat) (z : Int32 × (gm_S × gm_S)) : Prop := (∀ i, i ≠ d → z.2.2.2.1 7 i = L i ∧ z.2.2.2.1 8 i = H i) ∧ ∀ c, gp_ih (z.2.2.2.1 7) (z.2.2.2.1 8) d c ↔ (gp_ih L H d c ∨ gq_ph kd pt em L H lo hi c)
theorem gq_head57 (x : Int32) (S Sj : gm_S × gm_S) (L H : Nat → Int64) {d lo hi : Nat} (hx : x.toInt = d) (hh : (S.2.1 3 d).toInt = hi) (h75 : hi ≤ 75) (hp : ∀ i, lo ≤ i → i < hi → Int32.toNatClampNeg (S.2.1 4 i) < d) (hb : ∀ j, S.2.1 5 j = 0 ∨ S.2.1 5 j = 1) : ∀ (f k : Nat) (v : Int32) (U : gm_S × gm_S), v.toInt = k → lo ≤ k → k ≤ hi → hi < f + k → (∀ i, i ≠ d → U.2.2.1 7 i = L i ∧ U.2.2.1 8 i = H i) → (∀ c, gp_ih (U.2.2.1 7) (U.2.2.1 8) d c ↔ (gp_ih L H d c ∨ gq_ph (S.2.1 0 d).toInt (S.2.1 4) (S.2.1 5) L H lo k c)) → ((S.2.1 0 d).toInt = 2 → ∀ j, lo ≤ j → j < k → S.2.1 5 (Int32.toNatClampNeg (S.2.1 4 j)) = 1) → gq_phQ (S.2.1 0 d).toInt (S.2.1 4) (S.2.1 5) L H d lo hi (gm_f_Judge_settleHead_57 x S Sj f v U) := by
  have cx : Int32.toNatClampNeg x = d := gp_cl_n hx
  obtain ⟨Q, hQ⟩ : ∃ Q, Q = gq_phQ (S.2.1 0 d).toInt (S.2.1 4) (S.2.1 5) L H d lo hi := ⟨_, rfl⟩
  rw [← hQ]
  intro f
  induction f with
  | zero => intro k v U _ _ h1 h2; exact absurd h2 (by omega)
  | succ f ih =>
    intro k v U hv h0 h1 h2 hU1 hU2 he
    rw [gm_f_Judge_settleHead_57, cx]
    have cv : Int32.toNatClampNeg v = k := gp_cl_n hv
    have av := gx_ak v 1 1 (by decide)
    by_cases q : k = hi
    · have l : S.2.1 3 d ≤ v := by rw [Int32.le_iff_toInt_le]; omega
      rw [if_pos l, hQ]
      rw [q] at hU2
      exact ⟨hU1, hU2⟩
    · have l : ¬ S.2.1 3 d ≤ v := by rw [Int32.le_iff_toInt_le]; omega
      rw [if_neg l, cv]
      have pk := hp k h0 (by omega)
      refine gq_cb (Q := Q) (gq_ahQ (U.2.2.1 7) (U.2.2.1 8) d (Int32.toNatClampNeg (S.2.1 4 k))) (gq_addHead x _ _ _ _ rfl rfl hx rfl) (fun r81 u81 h81 => ?_)
      obtain ⟨g1, g2⟩ := h81
      have g1 : ∀ i, i ≠ d → u81.2.2.1 7 i = U.2.2.1 7 i ∧ u81.2.2.1 8 i = U.2.2.1 8 i := g1
      have g2 : ∀ c, gp_ih (u81.2.2.1 7) (u81.2.2.1 8) d c ↔ (gp_ih (U.2.2.1 7) (U.2.2.1 8) d c ∨ gp_ih (U.2.2.1 7) (U.2.2.1 8) (Int32.toNatClampNeg (S.2.1 4 k)) c) := g2
      have n1 : ∀ i, i ≠ d → u81.2.2.1 7 i = L i ∧ u81.2.2.1 8 i = H i := fun i hi2 => ⟨(g1 i hi2).1.trans (hU1 i hi2).1, (g1 i hi2).2.trans (hU1 i hi2).2⟩
      have n2 : ∀ c, gp_ih (u81.2.2.1 7) (u81.2.2.1 8) d c ↔ (gp_ih L H d c ∨ gq_ph (S.2.1 0 d).toInt (S.2.1 4) (S.2.1 5) L H lo (k + 1) c) := by
        intro c
        have pj := hU1 (Int32.toNatClampNeg (S.2.1 4 k)) (by omega)
        rw [g2 c, hU2 c, gp_ih_cg pj.1 pj.2]
        constructor
        · rintro ((h | ⟨i, i1, i2, i3⟩) | h)
          · exact Or.inl h
          · exact Or.inr ⟨i, i1, by omega, i3⟩
          · exact Or.inr ⟨k, h0, by omega, h, he⟩
        · rintro (h | ⟨i, i1, i2, i3, i4⟩)
          · exact Or.inl (Or.inl h)
          · by_cases e : i = k
            · rw [e] at i3; exact Or.inr i3
            · exact Or.inl (Or.inr ⟨i, i1, by omega, i3, i4⟩)
      refine gq_cb (Q := Q) (gq_hrQ S d (Int32.toNatClampNeg (S.2.1 4 k))) (gq_hides x _ _ _ rfl rfl hx) (fun r u hr => ?_)
      rcases hr with ⟨r0, hn⟩ | ⟨r1, hn1, hn2⟩
      · have r0 : r = 0 := r0
        rw [r0, if_pos rfl]
        refine ih (k + 1) (v + 1) _ (by omega) (by omega) (by omega) (by omega) n1 n2 (fun k2 j j1 j2 => ?_)
        by_cases e : j = k
        · rw [e]
          exact (hb _).resolve_left (fun z => hn ⟨k2, z⟩)
        · exact he k2 j j1 (by omega)
      · have r1 : r = 1 := r1
        rw [r1, if_neg (show ¬ (1 : Int32) = 0 by decide), hQ]
        refine ⟨n1, fun c => (n2 c).trans ⟨fun h => h.elim Or.inl (fun ⟨i, i1, i2, i3⟩ => Or.inr ⟨i, i1, by omega, i3⟩), fun h => h.elim Or.inl (fun ⟨i, i1, i2, i3, i4⟩ => Or.inr ⟨i, i1, ?_, i3, i4⟩)⟩⟩
        rcases Nat.lt_or_ge i (k + 1) with w | w
        · exact w
        · exfalso
          have := i4 hn1 k h0 (by omega)
          rw [hn2] at this
          exact absurd this (by decide)
def gq_shQ (T : gm_S) (R : Nat) (em : Nat → Int32) (L H : Nat → Int64) (d : Nat) (z : Int32 × (gm_S × gm_S)) : Prop := (∀ i, i ≠ d → z.2.2.2.1 7 i = L i ∧ z.2.2.2.1 8 i = H i) ∧ ∀ c, gp_ih (z.2.2.2.1 7) (z.2.2.2.1 8) d c ↔ (gp_ih L H d c ∨ gq_nB (T.1 0) (T.1 2) (T.1 3) (T.1 4) (gq_rb T R) (fun j => em j = 1) (fun _ => False) gq_sp (fun j => gp_ih L H j c) d)
theorem gq_head0 (x : Int32) (S : gm_S × gm_S) {n R d : Nat} (hT : gq_T S.2 n R) (hk : gq_kn S.2 n R) (hx : x.toInt = d) (hd : d < n) (hb : ∀ j, S.2.1 5 j = 0 ∨ S.2.1 5 j = 1) : gq_shQ S.2 R (S.2.1 5) (S.2.2.1 7) (S.2.2.1 8) d (gm_f_Judge_settleHead x S) := by
  obtain ⟨Q, hQ⟩ : ∃ Q, Q = gq_shQ S.2 R (S.2.1 5) (S.2.2.1 7) (S.2.2.1 8) d := ⟨_, rfl⟩
  rw [← hQ]
  have cx : Int32.toNatClampNeg x = d := gp_cl_n hx
  obtain ⟨k0, k9, kp⟩ := hT.2.2.2.2.2 d hd
  have eq : ∀ k : Nat, k < 2147483648 → (S.2.1 0 d = (OfNat.ofNat k : Int32) → (S.2.1 0 d).toInt = k) ∧ (¬ S.2.1 0 d = (OfNat.ofNat k : Int32) → ¬ (S.2.1 0 d).toInt = k) := fun k hk => ⟨fun e => by rw [e]; exact gx_lit k hk, fun e w => e (Int32.toInt_inj.mp (w.trans (gx_lit k hk).symm))⟩
  have nop : (S.2.1 0 d).toInt = 0 ∨ (S.2.1 0 d).toInt = 7 ∨ (S.2.1 0 d).toInt = 8 → ∀ U : gm_S × gm_S, U.2.2.1 7 = S.2.2.1 7 → U.2.2.1 8 = S.2.2.1 8 → Q (0, U) := by
    intro h U e7 e8
    rw [hQ]
    refine ⟨fun i _ => ⟨congrFun e7 i, congrFun e8 i⟩, fun c => ?_⟩
    show gp_ih (U.2.2.1 7) (U.2.2.1 8) d c ↔ _
    rw [e7, e8]
    refine ⟨Or.inl, fun w => w.elim id (fun w => ?_)⟩
    rcases w with w | w | ⟨w1, w2, -⟩
    · exact w.elim
    · omega
    · exact absurd (by unfold gq_sp; omega) w2
  have j25 : ¬ (S.2.1 0 d).toInt = 1 → ∀ U : gm_S × gm_S, U.2.2.1 7 = S.2.2.1 7 → U.2.2.1 8 = S.2.2.1 8 → Q (gm_f_Judge_settleHead_j25 x S U) := by
    intro n1 U e7 e8
    unfold gm_f_Judge_settleHead_j25
    rw [cx]
    refine gq_if (Q := Q) (fun q => nop (Or.inl ((eq 0 (by decide)).1 q)) _ e7 e8) (fun q0 => ?_)
    refine gq_if (Q := Q) (fun q => absurd ((eq 1 (by decide)).1 q) n1) (fun q1 => ?_)
    refine gq_if (Q := Q) (fun q => nop (Or.inr (Or.inl ((eq 7 (by decide)).1 q))) _ e7 e8) (fun q7 => ?_)
    refine gq_if (Q := Q) (fun q => nop (Or.inr (Or.inr ((eq 8 (by decide)).1 q))) _ e7 e8) (fun q8 => ?_)
    have q0 := (eq 0 (by decide)).2 q0
    have q7 := (eq 7 (by decide)).2 q7
    have q8 := (eq 8 (by decide)).2 q8
    obtain ⟨lo, hi, a1, a2, a3, a4, -, a6⟩ := kp (by omega)
    have h := gq_head57 x S U (S.2.2.1 7) (S.2.2.1 8) (lo := lo) hx a2 a4 (fun i i1 i2 => (a6 i i1 i2).2) hb 200 lo (S.2.1 2 d) (S.1, (S.2.1, (va_up (va_up S.2.2.1 7 (U.2.2.1 7)) 8 (U.2.2.1 8)), S.2.2.2)) a1 (Nat.le_refl _) a3 (by omega) (fun i _ => ⟨congrFun e7 i, congrFun e8 i⟩) (fun c => ?_) (fun _ j j1 j2 => absurd j2 (by omega))
    · rw [hQ]
      refine ⟨h.1, fun c => (h.2 c).trans ⟨fun w => w.elim Or.inl (fun ⟨i, i1, i2, i3, i4⟩ => Or.inr (Or.inr (Or.inr ⟨by omega, fun w => by unfold gq_sp at w; omega, i, by omega, by omega, i3, fun k2 j j1 j2 => i4 k2 j (by omega) j2⟩))), fun w => w.elim Or.inl (fun w => ?_)⟩⟩
      rcases w with w | w | ⟨-, -, i, i1, i2, i3, i4⟩
      · exact w.elim
      · exact absurd w.1 n1
      · exact Or.inr ⟨i, by omega, by omega, i3, fun k2 j j1 j2 => i4 k2 j (by omega) j2⟩
    · show gp_ih (U.2.2.1 7) (U.2.2.1 8) d c ↔ _
      rw [e7, e8]
      exact ⟨Or.inl, fun w => w.elim id (fun ⟨i, i1, i2, _⟩ => absurd i2 (by omega))⟩
  unfold gm_f_Judge_settleHead
  rw [cx]
  refine gq_if (Q := Q) (fun e => ?_) (fun e => ?_)
  · have e1 : (S.2.1 0 d).toInt = 1 := by rw [e]; decide
    have kn := hk d hd e1
    refine gq_cb (Q := Q) _ (gq_rootBehind x (S.1, S.2) hT hx kn) (fun r19 u19 h19 => ?_)
    have h19 : r19 = S.2.1 10 (gq_ix (S.2.1 9) (S.2.1 1 d) R) := h19
    refine gq_cb (Q := Q) (gq_ahQ (S.2.2.1 7) (S.2.2.1 8) d (gq_rb S.2 R d)) (gq_addHead x r19 _ _ _ rfl rfl hx (by rw [h19]; rfl)) (fun r22 u22 h22 => ?_)
    obtain ⟨g1, g2⟩ := h22
    have n0 : ¬ S.2.1 0 d = 0 := fun w => by have := (eq 0 (by decide)).1 w; omega
    unfold gm_f_Judge_settleHead_j25
    rw [cx, if_neg n0, if_pos e, hQ]
    refine ⟨g1, fun c => (g2 c).trans ⟨fun w => w.elim Or.inl (fun w => Or.inr (Or.inr (Or.inl ⟨e1, w⟩))), fun w => w.elim Or.inl (fun w => ?_)⟩⟩
    rcases w with w | w | w
    · exact w.elim
    · exact Or.inr w.2
    · omega
  · have e1 := (eq 1 (by decide)).2 e
    exact j25 e1 _ rfl rfl
theorem gq_head (x : Int32) (T0 : gm_S) (S : gm_S × gm_S) (em : Nat → Int32) (L H : Nat → Int64) {n R d : Nat} (hE : gq_TE T0 S.2) (he : S.2.1 5 = em) (hL : S.2.2.1 7 = L) (hH : S.2.2.1 8 = H) (hT : gq_T T0 n R) (hk : gq_kn T0 n R) (hx : x.toInt = d) (hd : d < n) (hb : ∀ j, em j = 0 ∨ em j = 1) : gq_shQ T0 R em L H d (gm_f_Judge_settleHead x S) := by
  have hT' := gq_T_E hT hE
  obtain ⟨e0, e1, e2, e3, e4, e9, e10, e11, e13⟩ := hE
  have h := gq_head0 x S hT' (by unfold gq_kn; rw [e0, e9, e1]; exact hk) hx hd (by rw [he]; exact hb)
  have rb : gq_rb S.2 R = gq_rb T0 R := by
    funext d
    unfold gq_rb
    rw [e10, e9, e1]
  unfold gq_shQ at *
  rw [he, hL, hH, rb, e0, e2, e3, e4] at h
  exact h
noncomputable def gq_vh (L H : Nat → Int64) (c : Int) (k : Nat) : Bool := @decide (gp_ih L H k c) (Classical.propDecidable _)
theorem gq_vh_iff (L H : Nat → Int64) (c : Int) (k : Nat) : gq_vh L H c k = true ↔ gp_ih L H k c := by
  unfold gq_vh
  exact @decide_eq_true_iff _ (Classical.propDecidable _)
noncomputable abbrev gq_FH (T : gm_S) (R : Nat) (em : Nat → Int32) (x0 : Nat → Bool) : (Nat → Bool) → Nat → Bool := gq_FB T R (fun j => em j = 1) (fun d => x0 d = true) gq_sp
theorem gq_beq {a b : Bool} (h : a = true ↔ b = true) : a = b := by
  cases a <;> cases b <;> simp_all
/-- one more node -/
theorem gq_vh_up {T : gm_S} {n R : Nat} {em : Nat → Int32} {L H : Nat → Int64} {c : Int} {k : Nat} (hk : k < n) {x0 x : Nat → Bool} (hx : gp_sup (gq_FH T R em x0) n x) (hx0 : ∀ d, x0 d = true → x d = true) (h : gq_vh L H c = gp_sw (gq_FH T R em x0) k x) {z : Int32 × (gm_S × gm_S)} (hz : gq_shQ T R em L H k z) : gq_vh (z.2.2.2.1 7) (z.2.2.2.1 8) c = gp_sw (gq_FH T R em x0) (k + 1) x := by
  obtain ⟨z1, z2⟩ := hz
  obtain ⟨s1, s2⟩ := gp_sw_ge (gq_FB_mon T R (fun j => em j = 1) (fun d => x0 d = true) gq_sp) hx k (by omega)
  funext j
  show _ = if j = k then gq_FH T R em x0 (gp_sw (gq_FH T R em x0) k x) k else gp_sw (gq_FH T R em x0) k x j
  by_cases e : j = k
  · rw [if_pos e, e]
    apply gq_beq
    rw [gq_vh_iff, z2 c, gq_FB_iff]
    have cur : ∀ i, gp_ih L H i c ↔ gp_sw (gq_FH T R em x0) k x i = true := fun i => by rw [← h, gq_vh_iff]
    constructor
    · rintro (w | w)
      · exact (gq_FB_iff _ _ _ _ _ _ _).mp (s2 k hk ((cur k).mp w))
      · rcases w with w | w | w
        · exact w.elim
        · exact Or.inr (Or.inl ⟨w.1, (cur _).mp w.2⟩)
        · obtain ⟨w1, w2, i, w3, w4, w5, w6⟩ := w
          exact Or.inr (Or.inr ⟨w1, w2, i, w3, w4, (cur _).mp w5, w6⟩)
    · rintro (w | w | ⟨w1, w2, i, w3, w4, w5, w6⟩)
      · exact Or.inl ((cur k).mpr (s1 k (hx0 k w)))
      · exact Or.inr (Or.inr (Or.inl ⟨w.1, (cur _).mpr w.2⟩))
      · exact Or.inr (Or.inr (Or.inr ⟨w1, w2, i, w3, w4, (cur _).mpr w5, w6⟩))
  · rw [if_neg e, ← h]
    apply gq_beq
    rw [gq_vh_iff, gq_vh_iff, gp_ih_cg (z1 j e).1 (z1 j e).2]
theorem gq_settleH15 (S : gm_S × gm_S) {n R : Nat} (hT : gq_T S.2 n R) (hk : gq_kn S.2 n R) (hb : ∀ j, S.2.1 5 j = 0 ∨ S.2.1 5 j = 1) (v1 : Int32) (S2 : gm_S × gm_S) (x0 x : Int → Nat → Bool) (hx : ∀ c, gp_sup (gq_FH S.2 R (S.2.1 5) (x0 c)) n (x c)) (hx0 : ∀ c d, x0 c d = true → x c d = true) {Q : Int32 × (gm_S × gm_S) → Prop} (kf : Int32 → gm_S × gm_S → Int32 × (gm_S × gm_S)) (hkf : ∀ (w : Int32) (W : gm_S × gm_S), (∀ c, gq_vh (W.2.2.1 7) (W.2.2.1 8) c = gp_sw (gq_FH S.2 R (S.2.1 5) (x0 c)) n (x c)) → Q (kf w W)) : ∀ (f k : Nat) (v : Int32) (U : gm_S × gm_S), v.toInt = k → k ≤ n → n < f + k → (∀ c, gq_vh (U.2.2.1 7) (U.2.2.1 8) c = gp_sw (gq_FH S.2 R (S.2.1 5) (x0 c)) k (x c)) → Q (gm_f_Judge_settleHeads_15 S v1 S2 f v U kf) := by
  have t1 := hT.1
  have t2 := hT.2.1
  intro f
  induction f with
  | zero => intro k v U _ h1 h2; exact absurd h2 (by omega)
  | succ f ih =>
    intro k v U hv h1 h2 hU
    rw [gm_f_Judge_settleHeads_15]
    have av := gx_ak v 1 1 (by decide)
    by_cases q : k = n
    · have l : S.2.2.2 11 ≤ v := by rw [Int32.le_iff_toInt_le]; omega
      rw [if_pos l]
      exact hkf _ _ (by rw [← q]; exact hU)
    · have l : ¬ S.2.2.2 11 ≤ v := by rw [Int32.le_iff_toInt_le]; omega
      rw [if_neg l]
      refine gq_cb (Q := Q) (gq_shQ S.2 R (S.2.1 5) (U.2.2.1 7) (U.2.2.1 8) k) (gq_head v S.2 _ (S.2.1 5) (U.2.2.1 7) (U.2.2.1 8) ⟨rfl, rfl, rfl, rfl, rfl, rfl, rfl, rfl, rfl⟩ rfl rfl rfl hT hk hv (by omega) hb) (fun r u hr => ?_)
      refine ih (k + 1) (v + 1) _ (by omega) (by omega) (by omega) (fun c => ?_)
      exact gq_vh_up (n := n) (by omega) (hx c) (hx0 c) (hU c) hr
/-- what settleHeads leaves -/
def gq_sdQ (T : gm_S) (n R : Nat) (em : Nat → Int32) (x0 : Int → Nat → Bool) (z : Int32 × (gm_S × gm_S)) : Prop := ∀ c, gq_vh (z.2.2.2.1 7) (z.2.2.2.1 8) c = gp_it (gq_FH T R em (x0 c)) n (R + 1) (x0 c)
theorem gq_settleH2 (S : gm_S × gm_S) {n R : Nat} (hT : gq_T S.2 n R) (hk : gq_kn S.2 n R) (hb : ∀ j, S.2.1 5 j = 0 ∨ S.2.1 5 j = 1) (x0 : Int → Nat → Bool) : ∀ (f k : Nat) (v : Int32) (U : gm_S × gm_S), v.toInt = k → k ≤ R + 1 → R + 1 < f + k → (∀ c, gq_vh (U.2.2.1 7) (U.2.2.1 8) c = gp_it (gq_FH S.2 R (S.2.1 5) (x0 c)) n k (x0 c)) → gq_sdQ S.2 n R (S.2.1 5) x0 (gm_f_Judge_settleHeads_2 S f v U) := by
  have t1 := hT.2.2.1
  have t2 := hT.2.2.2.1
  have n75 := hT.2.1
  have sup0 : ∀ c, gp_sup (gq_FH S.2 R (S.2.1 5) (x0 c)) n (x0 c) := fun c d hd q => (gq_FB_iff _ _ _ _ _ _ _).mpr (Or.inl q)
  have mono : ∀ c k d, x0 c d = true → gp_it (gq_FH S.2 R (S.2.1 5) (x0 c)) n k (x0 c) d = true := by
    intro c k
    induction k with
    | zero => intro d h; exact h
    | succ k ih => intro d h; exact (gp_sw_ge (gq_FB_mon _ _ _ _ _) (gp_it_sup (gq_FB_mon _ _ _ _ _) (sup0 c) k) n (Nat.le_refl n)).1 d (ih d h)
  obtain ⟨Q, hQ⟩ : ∃ Q, Q = gq_sdQ S.2 n R (S.2.1 5) x0 := ⟨_, rfl⟩
  rw [← hQ]
  intro f
  induction f with
  | zero => intro k v U _ h1 h2; exact absurd h2 (by omega)
  | succ f ih =>
    intro k v U hv h1 h2 hU
    rw [gm_f_Judge_settleHeads_2]
    have av := gx_ak v 1 1 (by decide)
    by_cases q : k = R + 1
    · have l : S.2.2.2 13 < v := by rw [Int32.lt_iff_toInt_lt]; omega
      rw [if_pos l, hQ]
      intro c
      rw [← q]
      exact hU c
    · have l : ¬ S.2.2.2 13 < v := by rw [Int32.lt_iff_toInt_lt]; omega
      rw [if_neg l]
      refine gq_settleH15 S hT hk hb v U x0 (fun c => gp_it (gq_FH S.2 R (S.2.1 5) (x0 c)) n k (x0 c)) (fun c => gp_it_sup (gq_FB_mon _ _ _ _ _) (sup0 c) k) (fun c d h => mono c k d h) _ (fun w W hW => ?_) 200 0 0 _ (by decide) (by omega) (by omega) hU
      exact ih (k + 1) (v + 1) _ (by omega) (by omega) (by omega) hW
theorem gq_settleH (S : gm_S × gm_S) {n R : Nat} (hT : gq_T S.2 n R) (hk : gq_kn S.2 n R) (hb : ∀ j, S.2.1 5 j = 0 ∨ S.2.1 5 j = 1) : gq_sdQ S.2 n R (S.2.1 5) (gq_vh (S.2.2.1 7) (S.2.2.1 8)) (gm_f_Judge_settleHeads S) := by
  have t2 := hT.2.2.2.1
  unfold gm_f_Judge_settleHeads
  exact gq_settleH2 S hT hk hb _ 200 0 0 _ (by decide) (by omega) (by omega) (fun q => rfl)
/-- ways up that begin with what is their base: at rest, and the least -/
theorem gq_it_rest2 {T : gm_S} {n R : Nat} (hT : gq_T T n R) (hk : gq_kn T n R) {em base : Nat → Prop} {sp : Int → Prop} {x0 x : Nat → Bool} (h0 : ∀ d, d < n → x0 d = true → base d) (h : x = gp_it (gq_FB T R em base sp) n (R + 1) x0) : (∀ d, d < n → (x d = true ↔ gq_nB (T.1 0) (T.1 2) (T.1 3) (T.1 4) (gq_rb T R) em base sp (fun j => x j = true) d)) ∧ ∀ Y : Nat → Prop, (∀ d, d < n → gq_nB (T.1 0) (T.1 2) (T.1 3) (T.1 4) (gq_rb T R) em base sp Y d → Y d) → ∀ d, d < n → x d = true → Y d := by
  have sup : gp_sup (gq_FB T R em base sp) n x0 := fun d hd q => (gq_FB_iff _ _ _ _ _ _ _).mpr (Or.inl (h0 d hd q))
  have fix := gq_it_fix (gq_FB_mon T R em base sp) (N := n) (R := R) (rt := fun j => Int32.toNatClampNeg (T.1 10 j)) sup (gq_FB_dep hT hk em base sp)
  rw [← h] at fix
  constructor
  · intro d hd
    rw [← gq_FB_iff, fix d hd]
  · intro Y hY d hd q
    have le := gp_it_le (gq_FB_mon T R em base sp) (N := n) (x := x0) (y := fun k => @decide (n ≤ k ∨ Y k) (Classical.propDecidable _)) (fun k hk2 w => ?_) (fun k w => ?_) (R + 1) d
    · rw [← h] at le
      have := le q
      rw [@decide_eq_true_iff _ (Classical.propDecidable _)] at this
      rcases this with this | this
      · omega
      · exact this
    · rw [gq_FB_iff] at w
      rw [@decide_eq_true_iff _ (Classical.propDecidable _)]
      refine Or.inr (hY k hk2 (gq_nB_dep hT hk hk2 (fun j hj u => ?_) (fun r hr u => ?_) w))
      · rw [@decide_eq_true_iff _ (Classical.propDecidable _)] at u
        rcases u with u | u
        · omega
        · exact u
      · rw [@decide_eq_true_iff _ (Classical.propDecidable _)] at u
        rcases u with u | u
        · have := (hT.2.2.2.2.1 r hr).2
          omega
        · exact u
    · rw [@decide_eq_true_iff _ (Classical.propDecidable _)]
      by_cases l : n ≤ k
      · exact Or.inl l
      · exact Or.inr (hY k (by omega) (Or.inl (h0 k (by omega) w)))
