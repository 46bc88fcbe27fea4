/-! The class's reader: nodes are made, pushed and joined. -/
abbrev gq_St : Type := gm_S × gm_S × gm_S
theorem gq_ih0 (f g : Nat → Int64) (n : Nat) (c : Int) : ¬ gp_ih (vp_updL f n 0) (vp_updL g n 0) n c := by
  unfold gp_ih
  rw [gx_lus, gx_lus]
  have b : ∀ q, gp_bl 0 q = false := fun q => by unfold gp_bl; exact BitVec.getLsbD_zero
  rintro (⟨-, -, h⟩ | ⟨-, -, h⟩)
  · rw [b] at h; exact absurd h (by decide)
  · rw [b] at h; exact absurd h (by decide)
/-- a node as it is made: where its parts end, and nothing is known of it -/
def gq_nf (S : gq_St) (m d : Nat) : Prop := (S.2.2.1 3 d).toInt ≤ m ∧ S.2.2.1 5 d = 0 ∧ S.2.2.1 6 d = 0 ∧ (¬ (S.2.2.1 0 d).toInt = 0 → ∀ c, ¬ gp_ih (S.2.2.2.1 7) (S.2.2.2.1 8) d c) ∧ ((S.2.2.1 0 d).toInt = 0 → S.2.2.1 3 d = S.2.2.1 2 d)
/-- a reader that isn't wrong: place, opened, size, parts -/
def gq_N (S : gq_St) (a o n m : Nat) : Prop := S.1.2.2 5 = 0 ∧ (S.1.2.2 4).toInt = a ∧ (S.1.2.2 3).toInt = o ∧ (S.2.2.2.2 11).toInt = n ∧ (S.2.2.2.2 12).toInt = m ∧ m + o ≤ n ∧ ∀ d, d < n → gq_nf S m d
/-- the same below: open below o, nodes below n, parts below m; text and rules -/
def gq_X (S S' : gq_St) (o n m : Nat) : Prop :=
  (∀ d, d < n → S'.2.2.1 0 d = S.2.2.1 0 d ∧ S'.2.2.1 1 d = S.2.2.1 1 d ∧ S'.2.2.1 2 d = S.2.2.1 2 d ∧ S'.2.2.1 3 d = S.2.2.1 3 d ∧ S'.2.2.2.1 7 d = S.2.2.2.1 7 d ∧ S'.2.2.2.1 8 d = S.2.2.2.1 8 d ∧ S'.2.2.1 5 d = S.2.2.1 5 d ∧ S'.2.2.1 6 d = S.2.2.1 6 d) ∧ (∀ i, i < m → S'.2.2.1 4 i = S.2.2.1 4 i) ∧ (∀ i, i < o → S'.1.1 2 i = S.1.1 2 i) ∧ S'.2.1 = S.2.1 ∧ S'.2.2.1 9 = S.2.2.1 9 ∧ S'.2.2.1 10 = S.2.2.1 10 ∧ S'.2.2.2.2 13 = S.2.2.2.2 13
theorem gq_X_r (S : gq_St) (o n m : Nat) : gq_X S S o n m := ⟨fun _ _ => ⟨rfl, rfl, rfl, rfl, rfl, rfl, rfl, rfl⟩, fun _ _ => rfl, fun _ _ => rfl, rfl, rfl, rfl, rfl⟩
theorem gq_X_t {S S1 S2 : gq_St} {o n m o1 n1 m1 : Nat} (h : gq_X S S1 o n m) (h' : gq_X S1 S2 o1 n1 m1) (ho : o ≤ o1) (hn : n ≤ n1) (hm : m ≤ m1) : gq_X S S2 o n m := by
  obtain ⟨a1, a2, a3, a4, a5, a6, a7⟩ := h
  obtain ⟨b1, b2, b3, b4, b5, b6, b7⟩ := h'
  refine ⟨fun d hd => ?_, fun i hi => (b2 i (by omega)).trans (a2 i hi), fun i hi => (b3 i (by omega)).trans (a3 i hi), b4.trans a4, b5.trans a5, b6.trans a6, b7.trans a7⟩
  obtain ⟨c1, c2, c3, c4, c5, c6, c7, c8⟩ := a1 d hd
  obtain ⟨d1, d2, d3, d4, d5, d6, d7, d8⟩ := b1 d (by omega)
  exact ⟨d1.trans c1, d2.trans c2, d3.trans c3, d4.trans c4, d5.trans c5, d6.trans c6, d7.trans c7, d8.trans c8⟩
theorem gq_X_w {S S' : gq_St} {o n m o1 n1 m1 : Nat} (h : gq_X S S' o1 n1 m1) (ho : o ≤ o1) (hn : n ≤ n1) (hm : m ≤ m1) : gq_X S S' o n m := gq_X_t (gq_X_r S o n m) h ho hn hm
def gq_Rt (tx : Nat → Int) (ty : Nat) (S : gq_St) (d : Nat) (e : Lean.ParserDescr) : Prop := gq_R tx ty (S.2.2.1 0) (S.2.2.1 1) (S.2.2.1 2) (S.2.2.1 3) (S.2.2.1 4) (S.2.2.2.1 7) (S.2.2.2.1 8) d e
theorem gq_Rt_X {tx : Nat → Int} {ty : Nat} {S S' : gq_St} {a o o' n m : Nat} (hN : gq_N S a o n m) (h : gq_X S S' o' n m) {d : Nat} {e : Lean.ParserDescr} (hd : d < n) (r : gq_Rt tx ty S d e) : gq_Rt tx ty S' d e := by
  obtain ⟨-, -, -, -, -, -, hM⟩ := hN
  refine gq_R_tr (N := n) (M := m) ⟨fun k hk => ?_, h.2.1⟩ (fun k hk => by have := (hM k hk).1; omega) (d + 1) d e (by omega) hd r
  obtain ⟨d1, d2, d3, d4, d5, d6, -, -⟩ := h.1 k hk
  exact ⟨d1, d2, d3, d4, fun _ => ⟨d5, d6⟩⟩
/-- the same, and how much code it makes, how deep it is -/
def gq_Rk (tx : Nat → Int) (ty K : Nat) (S : gq_St) (d : Nat) (e : Lean.ParserDescr) : Prop := gq_Rt tx ty S d e ∧ gq_C (S.2.2.1 0) (S.2.2.1 2) (S.2.2.1 3) (S.2.2.1 4) K d (gt_w e)
theorem gq_Rk_k {tx : Nat → Int} {ty K K' : Nat} {S : gq_St} {d : Nat} {e : Lean.ParserDescr} (h : K ≤ K') (r : gq_Rk tx ty K S d e) : gq_Rk tx ty K' S d e := ⟨r.1, gq_C_kk h r.2⟩
theorem gq_Rk_X {tx : Nat → Int} {ty K : Nat} {S S' : gq_St} {a o o' n m : Nat} (hN : gq_N S a o n m) (h : gq_X S S' o' n m) {d : Nat} {e : Lean.ParserDescr} (hd : d < n) (r : gq_Rk tx ty K S d e) : gq_Rk tx ty K S' d e := ⟨gq_Rt_X hN h hd r.1, gq_C_tr (N := n) (M := m) (fun d hd => ⟨(h.1 d hd).1, (h.1 d hd).2.2.1, (h.1 d hd).2.2.2.1⟩) h.2.1 (fun d hd => (hN.2.2.2.2.2.2 d hd).1) K d _ hd r.2⟩
theorem gq_nf_X {S S' : gq_St} {o n m m1 m2 d : Nat} (h : gq_nf S m1 d) (hX : gq_X S S' o n m) (hd : d < n) (hm : m1 ≤ m2) : gq_nf S' m2 d := by
  obtain ⟨d1, d2, d3, d4, d5, d6, d7, d8⟩ := hX.1 d hd
  obtain ⟨h1, h2, h3, h4, h5⟩ := h
  refine ⟨by rw [d4]; omega, d7.trans h2, d8.trans h3, fun k c => ?_, fun k => d4.trans ((h5 (by rw [← d1]; exact k)).trans d3.symm)⟩
  rw [gp_ih_cg d5 d6]
  exact h4 (by rw [← d1]; exact k) c
/-- each node from lo to hi stands for what is inside one of these -/
def gq_cv (tx : Nat → Int) (ty : Nat) (S : gq_St) (lo hi : Nat) (L : List Lean.ParserDescr) : Prop := ∀ d, lo ≤ d → d < hi → ¬ (S.2.2.1 0 d).toInt = 0 → ∃ e, e ∈ L ∧ ∃ e', e' ∈ gp_sb e ∧ gq_Rt tx ty S d e'
theorem gq_cv_X {tx : Nat → Int} {ty : Nat} {S S' : gq_St} {a o o' n m : Nat} (hN : gq_N S a o n m) (h : gq_X S S' o' n m) {lo hi : Nat} {L : List Lean.ParserDescr} (hh : hi ≤ n) (c : gq_cv tx ty S lo hi L) : gq_cv tx ty S' lo hi L := by
  intro d d1 d2 d3
  rw [(h.1 d (by omega)).1] at d3
  obtain ⟨e, he, e', he', r⟩ := c d d1 d2 d3
  exact ⟨e, he, e', he', gq_Rt_X hN h (by omega) r⟩
theorem gq_cv_s {tx : Nat → Int} {ty : Nat} {S : gq_St} {lo hi : Nat} {L L' : List Lean.ParserDescr} (c : gq_cv tx ty S lo hi L) (h : ∀ e, e ∈ L → ∃ g, g ∈ L' ∧ ∀ e', e' ∈ gp_sb e → e' ∈ gp_sb g) : gq_cv tx ty S lo hi L' := by
  intro d d1 d2 d3
  obtain ⟨e, he, e', he', r⟩ := c d d1 d2 d3
  obtain ⟨g, hg, hs⟩ := h e he
  exact ⟨g, hg, e', hs e' he', r⟩
theorem gq_cv_a {tx : Nat → Int} {ty : Nat} {S : gq_St} {lo mi hi : Nat} {L : List Lean.ParserDescr} (c : gq_cv tx ty S lo mi L) (c' : gq_cv tx ty S mi hi L) : gq_cv tx ty S lo hi L := by
  intro d d1 d2 d3
  rcases Nat.lt_or_ge d mi with q | q
  · exact c d d1 q d3
  · exact c' d q d2 d3
/-- add, while there is room -/
theorem gq_add (x y : Int32) (T : gm_S) {n : Nat} (hn : (T.2.2 11).toInt = n) (h75 : n < 75) : (gm_f_Tree_add x y T).1.toInt = n ∧ (gm_f_Tree_add x y T).2 = ((va_up (va_up (va_up (va_up (va_up (va_up T.1 0 (upd (T.1 0) n x)) 1 (upd (T.1 1) n y)) 2 (upd (T.1 2) n (T.2.2 12))) 3 (upd (T.1 3) n (T.2.2 12))) 5 (upd (T.1 5) n (vp_nar .boolean 0))) 6 (upd (T.1 6) n 0)), (va_up (va_up T.2.1 7 (vp_updL (T.2.1 7) n 0)) 8 (vp_updL (T.2.1 8) n 0)), (va_up T.2.2 11 ((T.2.2 11) + 1))) ∧ ((T.2.2 11) + 1).toInt = ((n + 1 : Nat) : Int) := by
  have c : Int32.toNatClampNeg (T.2.2 11) = n := gp_cl_n hn
  have a := gx_ak (T.2.2 11) 1 1 (by decide)
  have s := gx_sk ((T.2.2 11) + 1) 1 1 (by decide)
  have l : T.2.2 11 < 75 := by rw [Int32.lt_iff_toInt_lt, gx_lit 75 (by decide)]; omega
  unfold gm_f_Tree_add
  rw [if_pos l, c]
  exact ⟨by show (((T.2.2 11) + 1) - 1).toInt = n; omega, rfl, by omega⟩
/-- push, while there is room -/
theorem gq_push (x : Int32) (S : gq_St) {o : Nat} (ho : (S.1.2.2 3).toInt = o) (h75 : o < 75) : (gm_f_Reader_push x S).2 = (((va_up S.1.1 2 (upd (S.1.1 2) o x)), S.1.2.1, (va_up S.1.2.2 3 ((S.1.2.2 3) + 1))), S.2.1, S.2.2) ∧ ((S.1.2.2 3) + 1).toInt = ((o + 1 : Nat) : Int) := by
  have c : Int32.toNatClampNeg (S.1.2.2 3) = o := gp_cl_n ho
  have a := gx_ak (S.1.2.2 3) 1 1 (by decide)
  have l : ¬ 75 ≤ S.1.2.2 3 := by rw [Int32.le_iff_toInt_le, gx_lit 75 (by decide)]; omega
  unfold gm_f_Reader_push
  rw [if_neg l, c]
  exact ⟨rfl, by omega⟩
theorem gq_give (x y : Int32) (T : gm_S) {n m : Nat} (hx : x.toInt = n) (hn : (T.2.2 11).toInt = ((n + 1 : Nat) : Int)) (hy : 0 ≤ y.toInt) (hy2 : y.toInt < n) (hm : (T.2.2 12).toInt = m) (h75 : m < 75) : (gm_f_Tree_givePart x y T).2 = ((va_up (va_up T.1 4 (upd (T.1 4) m y)) 3 (upd (T.1 3) n ((T.2.2 12) + 1))), T.2.1, (va_up T.2.2 12 ((T.2.2 12) + 1))) ∧ ((T.2.2 12) + 1).toInt = ((m + 1 : Nat) : Int) := by
  have c1 : Int32.toNatClampNeg x = n := gp_cl_n hx
  have c2 : Int32.toNatClampNeg (T.2.2 12) = m := gp_cl_n hm
  have a := gx_ak (T.2.2 12) 1 1 (by decide)
  have z : (0 : Int32).toInt = 0 := by decide
  have l1 : ¬ x < 0 := by rw [Int32.lt_iff_toInt_lt]; omega
  have l2 : ¬ T.2.2 11 ≤ x := by rw [Int32.le_iff_toInt_le]; omega
  have l3 : ¬ y < 0 := by rw [Int32.lt_iff_toInt_lt]; omega
  have l4 : ¬ x ≤ y := by rw [Int32.le_iff_toInt_le]; omega
  have l5 : ¬ 75 ≤ T.2.2 12 := by rw [Int32.le_iff_toInt_le, gx_lit 75 (by decide)]; omega
  unfold gm_f_Tree_givePart
  rw [if_neg l1, if_neg l2, if_neg l3, if_neg l4, if_neg l5, c1, c2]
  exact ⟨rfl, by omega⟩
/-- what a join leaves: a node n of the kind x over what was open from mark on -/
def gq_J (S : gq_St) (x : Int32) (mark o n m : Nat) (S' : gq_St) : Prop :=
  S'.1.2.2 5 = S.1.2.2 5 ∧ S'.1.2.2 4 = S.1.2.2 4 ∧ (S'.1.2.2 3).toInt = ((mark + 1 : Nat) : Int) ∧ (S'.2.2.2.2 11).toInt = ((n + 1 : Nat) : Int) ∧ (S'.2.2.2.2 12).toInt = ((m + (o - mark) : Nat) : Int) ∧ gq_X S S' mark n m ∧ (S'.1.1 2 mark).toInt = n ∧ S'.2.2.1 0 n = x ∧ (S'.2.2.1 2 n).toInt = m ∧ (S'.2.2.1 3 n).toInt = ((m + (o - mark) : Nat) : Int) ∧ (∀ i, i < o - mark → S'.2.2.1 4 (m + i) = S.1.1 2 (mark + i)) ∧ S'.2.2.1 5 n = 0 ∧ S'.2.2.1 6 n = 0 ∧ ∀ c, ¬ gp_ih (S'.2.2.2.1 7) (S'.2.2.2.1 8) n c
theorem gq_join13 (x y : Int32) (S : gq_St) (r6 : Int32) (u6 : gm_S) {mark o n m : Nat} (hy : y.toInt = mark) (hmo : mark ≤ o) (hr : r6.toInt = n) (hn : n < 75) (hm : m + o ≤ n) (hop : ∀ i, mark ≤ i → i < o → 0 ≤ (S.1.1 2 i).toInt ∧ (S.1.1 2 i).toInt < n) : ∀ (f j : Nat) (v : Int32) (U : gq_St), v.toInt = ((mark + j : Nat) : Int) → j ≤ o - mark → o - mark < f + j → U.1.1 2 = S.1.1 2 → (U.1.2.2 3).toInt = o → (U.2.2.2.2 11).toInt = ((n + 1 : Nat) : Int) → (U.2.2.2.2 12).toInt = ((m + j : Nat) : Int) → (∀ d, d < n → U.2.2.1 0 d = S.2.2.1 0 d ∧ U.2.2.1 1 d = S.2.2.1 1 d ∧ U.2.2.1 2 d = S.2.2.1 2 d ∧ U.2.2.1 3 d = S.2.2.1 3 d ∧ U.2.2.2.1 7 d = S.2.2.2.1 7 d ∧ U.2.2.2.1 8 d = S.2.2.2.1 8 d ∧ U.2.2.1 5 d = S.2.2.1 5 d ∧ U.2.2.1 6 d = S.2.2.1 6 d) → (∀ i, i < m → U.2.2.1 4 i = S.2.2.1 4 i) → U.2.2.1 0 n = x → (U.2.2.1 2 n).toInt = m → (U.2.2.1 3 n).toInt = ((m + j : Nat) : Int) → (∀ i, i < j → U.2.2.1 4 (m + i) = S.1.1 2 (mark + i)) → (U.2.2.1 5 n = 0 ∧ U.2.2.1 6 n = 0 ∧ ∀ c, ¬ gp_ih (U.2.2.2.1 7) (U.2.2.2.1 8) n c) → gq_J S x mark o n m (gm_f_Reader_join_13 x y S r6 u6 f v U).2 := by
  intro f
  induction f with
  | zero => intro j v U _ h1 h2; exact absurd h2 (by omega)
  | succ f ih =>
    intro j v U hv h1 h2 e2 e3 e11 e12 eX e4 k0 k2 k3 kp kf
    rw [gm_f_Reader_join_13]
    by_cases q : j = o - mark
    · have l : U.1.2.2 3 ≤ v := by rw [Int32.le_iff_toInt_le]; omega
      rw [if_pos l]
      have p := gq_push r6 (((va_up S.1.1 2 (U.1.1 2)), S.1.2.1, (va_up S.1.2.2 3 y)), S.2.1, ((va_up (va_up (va_up (va_up (va_up (va_up (va_up S.2.2.1 0 (U.2.2.1 0)) 1 (U.2.2.1 1)) 2 (U.2.2.1 2)) 3 (U.2.2.1 3)) 4 (U.2.2.1 4)) 5 (U.2.2.1 5)) 6 (U.2.2.1 6)), (va_up (va_up S.2.2.2.1 7 (U.2.2.2.1 7)) 8 (U.2.2.2.1 8)), (va_up (va_up S.2.2.2.2 11 (U.2.2.2.2 11)) 12 (U.2.2.2.2 12)))) (o := mark) hy (by omega)
      unfold gm_bd
      dsimp only
      rw [p.1]
      refine ⟨rfl, rfl, p.2, e11, by rw [← q]; exact e12, ⟨eX, e4, fun i hi => ?_, rfl, rfl, rfl, rfl⟩, ?_, k0, k2, by rw [← q]; exact k3, by rw [← q]; exact kp, kf⟩
      · show upd (U.1.1 2) mark r6 i = S.1.1 2 i
        rw [gx_un _ _ _ (by omega), e2]
      · show (upd (U.1.1 2) mark r6 mark).toInt = n
        rw [gx_us]
        exact hr
    · have l : ¬ U.1.2.2 3 ≤ v := by rw [Int32.le_iff_toInt_le]; omega
      rw [if_neg l]
      have cv : Int32.toNatClampNeg v = mark + j := gp_cl_n hv
      have op := hop (mark + j) (by omega) (by omega)
      have av := gx_ak v 1 1 (by decide)
      have g := gq_give r6 (S.1.1 2 (mark + j)) ((va_up (va_up (va_up (va_up (va_up (va_up (va_up S.2.2.1 0 (U.2.2.1 0)) 1 (U.2.2.1 1)) 2 (U.2.2.1 2)) 3 (U.2.2.1 3)) 4 (U.2.2.1 4)) 5 (U.2.2.1 5)) 6 (U.2.2.1 6)), (va_up (va_up S.2.2.2.1 7 (U.2.2.2.1 7)) 8 (U.2.2.2.1 8)), (va_up (va_up S.2.2.2.2 11 (U.2.2.2.2 11)) 12 (U.2.2.2.2 12))) (n := n) (m := m + j) hr e11 op.1 op.2 e12 (by omega)
      rw [cv, e2]
      unfold gm_bd
      rw [g.1]
      refine ih (j + 1) _ _ (by omega) (by omega) (by omega) rfl e3 e11 g.2 (fun d hd => ?_) (fun i hi => ?_) k0 k2 ?_ (fun i hi => ?_) kf
      · obtain ⟨c1, c2, c3, c4, c5, c6, c7, c8⟩ := eX d hd
        refine ⟨c1, c2, c3, ?_, c5, c6, c7, c8⟩
        show upd (U.2.2.1 3) n _ d = S.2.2.1 3 d
        rw [gx_un _ _ _ (by omega)]
        exact c4
      · show upd (U.2.2.1 4) (m + j) _ i = S.2.2.1 4 i
        rw [gx_un _ _ _ (by omega)]
        exact e4 i hi
      · show (upd (U.2.2.1 3) n _ n).toInt = _
        rw [gx_us]
        exact g.2
      · show upd (U.2.2.1 4) (m + j) _ (m + i) = S.1.1 2 (mark + i)
        by_cases w : i = j
        · rw [w, gx_us]
        · rw [gx_un _ _ _ (by omega)]
          exact kp i (by omega)
theorem gq_join0 (x y : Int32) (S : gq_St) {mark o n m : Nat} (hy : y.toInt = mark) (hmo : mark ≤ o) (hn : n < 75) (ho : (S.1.2.2 3).toInt = o) (h11 : (S.2.2.2.2 11).toInt = n) (h12 : (S.2.2.2.2 12).toInt = m) (hm : m + o ≤ n) (hop : ∀ i, mark ≤ i → i < o → 0 ≤ (S.1.1 2 i).toInt ∧ (S.1.1 2 i).toInt < n) : gq_J S x mark o n m (gm_f_Reader_join x y S).2 := by
  have ad := gq_add x (-1) S.2.2 h11 hn
  unfold gm_f_Reader_join gm_bd
  rw [ad.2.1]
  refine gq_join13 x y S _ _ hy hmo ad.1 hn hm hop 200 0 y _ (by omega) (by omega) (by omega) rfl ho ad.2.2 h12 (fun d hd => ⟨?_, ?_, ?_, ?_, ?_, ?_, ?_, ?_⟩) (fun i hi => rfl) ?_ ?_ ?_ (fun i hi => absurd hi (by omega)) ⟨?_, ?_, fun c => gq_ih0 _ _ n c⟩
  · exact gx_un _ _ _ (by omega)
  · exact gx_un _ _ _ (by omega)
  · exact gx_un _ _ _ (by omega)
  · exact gx_un _ _ _ (by omega)
  · exact gx_lun _ _ _ (by omega)
  · exact gx_lun _ _ _ (by omega)
  · exact gx_un _ _ _ (by omega)
  · exact gx_un _ _ _ (by omega)
  · exact gx_us _ _ _
  · show (upd (S.2.2.1 2) n (S.2.2.2.2 12) n).toInt = m
    rw [gx_us]
    exact h12
  · show (upd (S.2.2.1 3) n (S.2.2.2.2 12) n).toInt = _
    rw [gx_us]
    exact h12
  · show upd (S.2.2.1 5) n (vp_nar .boolean 0) n = 0
    rw [gx_us]
    decide
  · exact gx_us _ _ _
/-- a join of what stands for expressions: a node that stands for one made of them -/
theorem gq_joinE {tx : Nat → Int} {ty K : Nat} (x y : Int32) (S : gq_St) {a mark o n m n0 : Nat} {es : List Lean.ParserDescr} {e : Lean.ParserDescr} (hN : gq_N S a o n m) (hy : y.toInt = mark) (hn : n < 75) (hs : gq_sg (fun d e => d < n ∧ gq_Rk tx ty K S d e) (S.1.1 2) es mark o) (hc : gq_cv tx ty S n0 n es) (hK : (x.toInt = 2 ∧ e = gp_jn 4 es) ∨ (x.toInt = 3 ∧ es ≠ [] ∧ e = gp_jn 5 es) ∨ (∃ z, es = [z] ∧ ((x.toInt = 4 ∧ e = gp_e1 6 z) ∨ (x.toInt = 5 ∧ e = gp_e1 7 z) ∨ (x.toInt = 6 ∧ e = gp_ep z) ∨ (x.toInt = 7 ∧ e = gp_e1 8 z) ∨ (x.toInt = 8 ∧ e = gp_e1 9 z) ∨ (x.toInt = 9 ∧ e = gp_e1 10 z)))) (hb : ∀ z, z ∈ es → ∀ e', e' ∈ gp_sb z → e' ∈ gp_sb e) :
    gq_N (gm_f_Reader_join x y S).2 a (mark + 1) (n + 1) (m + (o - mark)) ∧ gq_X S (gm_f_Reader_join x y S).2 mark n m ∧ ((gm_f_Reader_join x y S).2.1.1 2 mark).toInt = n ∧ gq_Rk tx ty (K + 1) (gm_f_Reader_join x y S).2 n e ∧ gq_cv tx ty (gm_f_Reader_join x y S).2 n0 (n + 1) [e] := by
  have hN' := hN
  obtain ⟨w0, pl, ho, h11, h12, hmo, hto⟩ := hN'
  have le := gq_sg_le _ _ _ hs
  have opn : ∀ (es : List Lean.ParserDescr) (lo hi : Nat), gq_sg (fun d e => d < n ∧ gq_Rk tx ty K S d e) (S.1.1 2) es lo hi → ∀ i, lo ≤ i → i < hi → 0 ≤ (S.1.1 2 i).toInt ∧ (S.1.1 2 i).toInt < n := by
    intro es
    induction es with
    | nil => intro lo hi h i h1 h2; have h : hi = lo := h; omega
    | cons z es ih =>
      intro lo hi h i h1 h2
      obtain ⟨k, k1, k2, k3, k4⟩ := h
      by_cases q : i = k
      · have c := gx_cl (S.1.1 2 k) k2
        rw [q]
        have := k3.1
        exact ⟨k2, by omega⟩
      · exact ih lo k k4 i h1 (by omega)
  have J := gq_join0 x y S hy (by omega) hn ho h11 h12 hmo (opn es mark o hs)
  generalize hS' : (gm_f_Reader_join x y S).2 = S' at J ⊢
  obtain ⟨j1, j2, j3, j4, j5, jX, j6, j7, j8, j9, j10, j11, j12, j13⟩ := J
  have N' : gq_N S' a (mark + 1) (n + 1) (m + (o - mark)) := by
    refine ⟨j1.trans w0, by rw [j2]; exact pl, j3, j4, j5, by omega, fun d hd => ?_⟩
    by_cases q : d = n
    · rw [q]
      refine ⟨by rw [j9]; omega, j11, j12, fun _ => j13, fun h => ?_⟩
      rw [j7] at h
      exfalso
      rcases hK with ⟨k1, -⟩ | ⟨k1, -⟩ | ⟨z, -, k1⟩
      · omega
      · omega
      · rcases k1 with ⟨k1, -⟩ | ⟨k1, -⟩ | ⟨k1, -⟩ | ⟨k1, -⟩ | ⟨k1, -⟩ | ⟨k1, -⟩ <;> omega
    · exact gq_nf_X (hto d (by omega)) jX (by omega) (by omega)
  have R' : gq_Rt tx ty S' n e := by
    unfold gq_Rt
    rw [gq_R]
    have sg : gq_sg (fun d' e' => ∃ _h : d' < n, gq_R tx ty (S'.2.2.1 0) (S'.2.2.1 1) (S'.2.2.1 2) (S'.2.2.1 3) (S'.2.2.1 4) (S'.2.2.2.1 7) (S'.2.2.2.1 8) d' e') (S'.2.2.1 4) es m (m + (o - mark)) := by
      refine gq_sg_tr (s := 0) (s' := 0) es mark o m (m + (o - mark)) (fun k k1 k2 => ?_) (fun k z k1 k2 _ r => ?_) rfl hs
      · have := j10 (k - mark) (by omega)
        rw [show m + (k - mark) = k - mark + m by omega, show mark + (k - mark) = k by omega] at this
        exact this
      · exact ⟨r.1, gq_Rt_X hN jX r.1 r.2.1⟩
    unfold gq_F
    rw [j7]
    refine Or.inr (Or.inr ⟨m, m + (o - mark), j8, j9, ?_⟩)
    rcases hK with ⟨k1, k2⟩ | ⟨k1, k2, k3⟩ | ⟨z, k1, k2⟩
    · exact Or.inl ⟨k1, es, k2, sg⟩
    · exact Or.inr (Or.inr (Or.inl ⟨k1, es, k2, k3, sg⟩))
    · rw [k1] at sg
      exact Or.inr (Or.inr (Or.inr ⟨z, sg, k2⟩))
  have C' : gq_C (S'.2.2.1 0) (S'.2.2.1 2) (S'.2.2.1 3) (S'.2.2.1 4) (K + 1) n (gt_w e) := by
    have sg : gq_sg (fun d' e' => d' < n ∧ gq_C (S'.2.2.1 0) (S'.2.2.1 2) (S'.2.2.1 3) (S'.2.2.1 4) K d' (gt_w e')) (S'.2.2.1 4) es m (m + (o - mark)) := by
      refine gq_sg_tr (s := 0) (s' := 0) es mark o m (m + (o - mark)) (fun k k1 k2 => ?_) (fun k z k1 k2 _ r => ?_) rfl hs
      · have := j10 (k - mark) (by omega)
        rw [show m + (k - mark) = k - mark + m by omega, show mark + (k - mark) = k by omega] at this
        exact this
      · exact ⟨r.1, (gq_Rk_X hN jX r.1 r.2).2⟩
    obtain ⟨fw, len⟩ := gq_sg_fw _ _ _ sg
    have ww := gq_fw_ww (P := fun d' w' => d' < n ∧ gq_C (S'.2.2.1 0) (S'.2.2.1 2) (S'.2.2.1 3) (S'.2.2.1 4) K d' w') (fun _ _ q => q) _ _ fw
    have sum : (es.reverse.map gt_w).sum = (es.map gt_w).sum := by rw [List.map_reverse, gt_sum_rev]
    have leng : (es.reverse.map gt_w).length = es.length := by rw [List.length_map, List.length_reverse]
    have cm : Int32.toNatClampNeg (S'.2.2.1 2 n) = m := by have := gx_cl (S'.2.2.1 2 n) (by omega); omega
    refine Or.inr ⟨?_, by omega, es.reverse.map gt_w, by rw [leng]; omega, by rw [cm]; exact ww, ?_⟩
    · rw [j7]
      rcases hK with ⟨k1, -⟩ | ⟨k1, -⟩ | ⟨z, -, k1⟩
      · omega
      · omega
      · rcases k1 with ⟨k1, -⟩ | ⟨k1, -⟩ | ⟨k1, -⟩ | ⟨k1, -⟩ | ⟨k1, -⟩ | ⟨k1, -⟩ <;> omega
    · rw [j7, sum, leng]
      rcases hK with ⟨k1, k2⟩ | ⟨k1, k2, k3⟩ | ⟨z, k1, k2⟩
      · rw [k1, k2, gt_w_jn]
        show 0 + (es.map gt_w).sum ≤ (es.map gt_w).sum + 0 * (es.length - 1)
        omega
      · rw [k1, k3, gt_w_jn]
        show 3 * (es.length - 1) + (es.map gt_w).sum ≤ (es.map gt_w).sum + 3 * (es.length - 1)
        omega
      · rw [k1]
        have s1 : ([z].map gt_w).sum = gt_w z := by show gt_w z + 0 = gt_w z; omega
        rw [s1]
        rcases k2 with ⟨k3, k4⟩ | ⟨k3, k4⟩ | ⟨k3, k4⟩ | ⟨k3, k4⟩ | ⟨k3, k4⟩ | ⟨k3, k4⟩
        · rw [k3, k4]; show 3 + gt_w z ≤ gt_w z + 3; omega
        · rw [k3, k4]; show 3 + gt_w z ≤ gt_w z + 3; omega
        · rw [k3, k4]; show 5 + gt_w z ≤ gt_w z + 5; omega
        · rw [k3, k4]; show 2 + gt_w z ≤ gt_w z + 2; omega
        · rw [k3, k4]; show 2 + gt_w z ≤ gt_w z + 2; omega
        · rw [k3, k4]; show 2 + gt_w z ≤ gt_w z + 2; omega
  refine ⟨N', jX, j6, ⟨R', C'⟩, ?_⟩
  refine gq_cv_a (mi := n) (gq_cv_s (gq_cv_X hN jX (Nat.le_refl n) hc) (fun z hz => ⟨e, List.mem_singleton.mpr rfl, hb z hz⟩)) ?_
  intro d d1 d2 _
  have : d = n := by omega
  rw [this]
  exact ⟨e, List.mem_singleton.mpr rfl, e, gp_sb_me e, R'⟩
/-- the same in another state: all but text and rules -/
def gq_E (u V : gq_St) : Prop := V.1.2.2 5 = u.1.2.2 5 ∧ V.1.2.2 3 = u.1.2.2 3 ∧ V.1.1 2 = u.1.1 2 ∧ V.2.2.1 0 = u.2.2.1 0 ∧ V.2.2.1 1 = u.2.2.1 1 ∧ V.2.2.1 2 = u.2.2.1 2 ∧ V.2.2.1 3 = u.2.2.1 3 ∧ V.2.2.1 4 = u.2.2.1 4 ∧ V.2.2.2.1 7 = u.2.2.2.1 7 ∧ V.2.2.2.1 8 = u.2.2.2.1 8 ∧ V.2.2.2.2 11 = u.2.2.2.2 11 ∧ V.2.2.2.2 12 = u.2.2.2.2 12 ∧ V.2.2.1 5 = u.2.2.1 5 ∧ V.2.2.1 6 = u.2.2.1 6
/-- text and rules -/
def gq_B (S V : gq_St) : Prop := V.2.1 = S.2.1 ∧ V.2.2.1 9 = S.2.2.1 9 ∧ V.2.2.1 10 = S.2.2.1 10 ∧ V.2.2.2.2 13 = S.2.2.2.2 13
theorem gq_join0' (x y : Int32) (S0 S : gq_St) {mark o n m : Nat} (he : gq_E S0 S) (hb : gq_B S0 S) (h4 : S.1.2.2 4 = S0.1.2.2 4) (hy : y.toInt = mark) (hmo : mark ≤ o) (hn : n < 75) (ho : (S0.1.2.2 3).toInt = o) (h11 : (S0.2.2.2.2 11).toInt = n) (h12 : (S0.2.2.2.2 12).toInt = m) (hm : m + o ≤ n) (hop : ∀ i, mark ≤ i → i < o → 0 ≤ (S0.1.1 2 i).toInt ∧ (S0.1.1 2 i).toInt < n) : gq_J S0 x mark o n m (gm_f_Reader_join x y S).2 := by
  obtain ⟨e1, e2, e3, e4, e5, e6, e7, e8, e9, e10, e11, e12, e13, e14⟩ := he
  obtain ⟨b1, b2, b3, b4⟩ := hb
  have J := gq_join0 x y S (mark := mark) (o := o) (n := n) (m := m) hy hmo hn (by rw [e2]; exact ho) (by rw [e11]; exact h11) (by rw [e12]; exact h12) hm (by rw [e3]; exact hop)
  obtain ⟨j1, j2, j3, j4, j5, ⟨x1, x2, x3, x4, x5, x6, x7⟩, j6, j7, j8, j9, j10, j11⟩ := J
  rw [e3] at x3 j10
  rw [e8] at x2
  rw [e4, e5, e6, e7, e9, e10, e13, e14] at x1
  exact ⟨j1.trans e1, j2.trans h4, j3, j4, j5, ⟨x1, x2, x3, x4.trans b1, x5.trans b2, x6.trans b3, x7.trans b4⟩, j6, j7, j8, j9, j10, j11⟩
