/-! The matcher with the memory: each expression. -/
theorem gv_fl_F' {t : Int} (ht : ¬ t = -1) (q : Nat) (fr : List gv_Fr) (K' K : List (Nat × Int)) (w : Nat) (M : gv_Mm) (a' : Int) (q' : Nat) : gv_fl false ((t, q, K.length, -1) :: fr) (K' ++ K) w M a' q' = (0, t, q, fr, K, w, M) := by
  rw [gv_fl]
  rw [if_pos rfl, if_neg ht, gv_cut_a]
theorem gv_fl_N' (q m : Nat) (fr : List gv_Fr) (K : List (Nat × Int)) (w : Nat) (M : gv_Mm) (a' : Int) (q' : Nat) : gv_fl false ((-1, q, m, -1) :: fr) K w M a' q' = gv_fl false fr K w M a' q' := by
  rw [gv_fl]
  rw [if_pos rfl, if_pos rfl]
theorem gv_fl_R' {r : Int} (hr : ¬ r = -1) (t : Int) (q m : Nat) (fr : List gv_Fr) (K : List (Nat × Int)) (w : Nat) (M : gv_Mm) (a' : Int) (q' : Nat) : gv_fl false ((t, q, m, r) :: fr) K w M a' q' = gv_fl false fr K w (gv_mf M r q) a' q' := by
  rw [gv_fl]
  rw [if_neg hr, if_neg (by decide)]
def gv_F (A : gv_A) (X : gt_X) (C : gv_C) (f : Nat → Int × Lean.ParserDescr) (fed : Nat) (W : Nat → Nat) (B k : Nat) (e : Lean.ParserDescr) : Prop := ∀ q, gv_v C k e q ≠ -2 → ∀ a b : Nat, gt_L X A.1 A.2.1 A.2.2.1 e a b → b ≤ A.2.2.2.2.1 → q ≤ fed → gv_df (fun c => X.2.2.2.2.2 c < A.2.2.2.2.2.1) e → ∀ (fr : List gv_Fr) (K : List (Nat × Int)) (w : Nat) (M : gv_Mm), gv_MI C X.2.2.2.2.2 f A.2.2.2.2.2.1 fed W M → fr.length + gv_d C k e q ≤ 550 → K.length + gv_p C k e q ≤ 275 → ∃ w' M' N, gv_T C X.2.2.2.2.2 f A.2.2.2.2.2.1 fed W B (gv_r C X.2.2.2.2.2 k e q) (gv_l C k e q) w M w' M' N ∧ (0 ≤ gv_v C k e q → gv_to A ((a : Nat), q, fr, K, w, M) N (0, (b : Nat), q + (gv_v C k e q).toNat, fr, gv_rv (gv_L C k e q) ++ K, w', M')) ∧ (gv_v C k e q = -1 → ∃ K' a' q', gv_to A ((a : Nat), q, fr, K, w, M) N (gv_fl false fr (K' ++ K) w' M' a' q'))
theorem gv_tryY {A : gv_A} (lo : A.2.2.2.2.2.2.2 = false) {l : Nat} {t : Int} (hl : l < A.2.2.2.2.1) (ho : A.1 l = 2) (ht : (A.2.2.1 l).toInt = t) {q : Nat} {fr : List gv_Fr} {K : List (Nat × Int)} {w : Nat} {M : gv_Mm} (hf : fr.length < 550) : gv_to A ((l : Nat), q, fr, K, w, M) 1 (0, ((l + 1 : Nat) : Int), q, (t, q, K.length, -1) :: fr, K, w, M) := by
  have st := gv_s2 hl ho q fr K w M
  rw [lo, ht, if_neg (fun h => absurd h.1 (by decide)), if_neg (by decide)] at st
  unfold gv_pu at st
  rw [if_pos hf, show (l : Int) + 1 = ((l + 1 : Nat) : Int) by omega] at st
  exact gv_to_1 st
theorem gv_lkY {A : gv_A} (lo : A.2.2.2.2.2.2.2 = false) {X : gt_X} {x : Lean.ParserDescr} {a l t : Nat} (hk : gt_lk X A.1 A.2.1 A.2.2.1 x a l t) (hl : l < A.2.2.2.2.1) {q : Nat} {fr : List gv_Fr} {K : List (Nat × Int)} {w : Nat} {M : gv_Mm} : gv_to A ((a : Nat), q, fr, K, w, M) 1 (0, (l : Nat), q, fr, K, w, M) := by
  rcases hk with ⟨-, e⟩ | ⟨-, e2, e3, -, -⟩
  · subst e
    exact gv_to_r A _ 1
  · have st := gv_s1 (a := a) (by omega) e3 q fr K w M
    rw [lo, if_neg (fun w => absurd w.1 (by decide)), show (a : Int) + 1 = ((a + 1 : Nat) : Int) by omega, ← e2] at st
    exact gv_to_1 st
theorem gv_F6 {A : gv_A} (lo : A.2.2.2.2.2.2.2 = false) {X : gt_X} {C : gv_C} {f : Nat → Int × Lean.ParserDescr} {fed : Nat} {W : Nat → Nat} {B k : Nat} {sub : Nat → Int} (h : gv_Y A X C f fed sub) {nm : Lean.Name} {x : Lean.ParserDescr} (ih : gv_F A X C f fed W B k x) : gv_F A X C f fed W B (k + 1) (.node nm 6 x) := by
  intro q hv a b hL hb hq hdf fr K w M hM hfr hK
  have y := h.2.1 x q
  have ev : gv_v C (k + 1) (.node nm 6 x) q = if gv_v C k x q = -1 then 0 else gv_v C k x q := if_pos y
  have eL : gv_L C (k + 1) (.node nm 6 x) q = if gv_v C k x q = -1 then [] else gv_L C k x q := if_pos y
  have ed : gv_d C (k + 1) (.node nm 6 x) q = 1 + gv_d C k x q := if_pos y
  have ep : gv_p C (k + 1) (.node nm 6 x) q = gv_p C k x q := if_pos y
  have el : gv_l C (k + 1) (.node nm 6 x) q = 3 + gv_l C k x q := rfl
  have er : gv_r C X.2.2.2.2.2 (k + 1) (.node nm 6 x) q = gv_r C X.2.2.2.2.2 k x q := if_pos y
  rcases hL with ⟨-, l, m, l1, l2, l3, l4, l5, l6, -, l7⟩ | ⟨n, -⟩ | ⟨n, -⟩ | ⟨n, -⟩
  · have lm := gt_L_le _ _ _ l4
    rw [ed] at hfr
    rw [ep] at hK
    have g := gv_v_ge C k x q
    have vx : gv_v C k x q ≠ -2 := by
      intro e
      rw [ev, e] at hv
      exact hv rfl
    have t1 := gv_to_t (gv_lkY lo l1 (by omega)) (gv_tryY lo (t := (b : Nat)) (by omega) l2 l3 (q := q) (fr := fr) (K := K) (w := w) (M := M) (by omega))
    obtain ⟨w', M', N, t, x1, x2⟩ := ih q vx (l + 1) m l4 (by omega) hq hdf ((((b : Nat) : Int), q, K.length, -1) :: fr) K w M hM (by show fr.length + 1 + _ ≤ 550; omega) hK
    rw [er, el, ev, eL]
    refine ⟨w', M', 3 + N, gv_T_n t (by omega), fun v0 => ?_, fun v1 => ?_⟩
    · by_cases v1 : gv_v C k x q = -1
      · obtain ⟨K', a', q', e⟩ := x2 v1
        rw [gv_fl_F' (by omega)] at e
        rw [if_pos v1, if_pos v1]
        exact gv_to_w (gv_to_t t1 e) (by omega)
      · rw [if_neg v1] at v0
        rw [if_neg v1, if_neg v1]
        have st := gv_s5 (A := A) (a := m) (by omega) l5 (q + (gv_v C k x q).toNat) ((((b : Nat) : Int), q, K.length, -1) :: fr) (gv_rv (gv_L C k x q) ++ K) w' M'
        rw [l6 rfl] at st
        exact gv_to_w (gv_to_t (gv_to_t t1 (x1 v0)) (gv_to_1 st)) (by omega)
    · exfalso
      by_cases v2 : gv_v C k x q = -1
      · rw [if_pos v2] at v1; omega
      · rw [if_neg v2] at v1; exact v2 v1
  · omega
  · omega
  · omega
theorem gv_F7 {A : gv_A} (lo : A.2.2.2.2.2.2.2 = false) {X : gt_X} {C : gv_C} {f : Nat → Int × Lean.ParserDescr} {fed : Nat} {W : Nat → Nat} {B k : Nat} {sub : Nat → Int} (h : gv_Y A X C f fed sub) {nm : Lean.Name} {x : Lean.ParserDescr} (ih : gv_F A X C f fed W B k x) (ih2 : gv_F A X C f fed W B k (.node nm 7 x)) : gv_F A X C f fed W B (k + 1) (.node nm 7 x) := by
  intro q hv a b hL hb hq hdf fr K w M hM hfr hK
  have hL0 := hL
  have y := h.2.1 x q
  have ev : gv_v C (k + 1) (.node nm 7 x) q = if gv_v C k x q = -1 then 0 else if gv_v C k x q = -2 then -2 else if gv_v C k (.node nm 7 x) (q + (gv_v C k x q).toNat) = -2 then -2 else gv_v C k x q + gv_v C k (.node nm 7 x) (q + (gv_v C k x q).toNat) := if_pos y
  have eL : gv_L C (k + 1) (.node nm 7 x) q = if gv_v C k x q < 0 then [] else gv_L C k x q ++ gv_L C k (.node nm 7 x) (q + (gv_v C k x q).toNat) := if_pos y
  have ed : gv_d C (k + 1) (.node nm 7 x) q = if gv_v C k x q < 0 then 1 + gv_d C k x q else max (1 + gv_d C k x q) (gv_d C k (.node nm 7 x) (q + (gv_v C k x q).toNat)) := if_pos y
  have ep : gv_p C (k + 1) (.node nm 7 x) q = if gv_v C k x q < 0 then gv_p C k x q else max (gv_p C k x q) ((gv_L C k x q).length + gv_p C k (.node nm 7 x) (q + (gv_v C k x q).toNat)) := if_pos y
  have el : gv_l C (k + 1) (.node nm 7 x) q = if gv_v C k x q < 0 then 3 + gv_l C k x q else 3 + gv_l C k x q + gv_l C k (.node nm 7 x) (q + (gv_v C k x q).toNat) := rfl
  have er : gv_r C X.2.2.2.2.2 (k + 1) (.node nm 7 x) q = if gv_v C k x q < 0 then gv_r C X.2.2.2.2.2 k x q else gv_r C X.2.2.2.2.2 k x q ++ gv_r C X.2.2.2.2.2 k (.node nm 7 x) (q + (gv_v C k x q).toNat) := if_pos y
  rcases hL with ⟨-, l, m, l1, l2, l3, l4, l5, -, l6, l7⟩ | ⟨n, -⟩ | ⟨n, -⟩ | ⟨n, -⟩
  · have lm := gt_L_le _ _ _ l4
    have lx := gt_lk_le l1
    have g := gv_v_ge C k x q
    have sn := gv_star_ne C nm x k (q + (gv_v C k x q).toNat)
    have sg := gv_v_ge C k (.node nm 7 x) (q + (gv_v C k x q).toNat)
    have vl := gv_v_leY h.2.2.2.1 h.2.2.2.2.1 k x q hq
    have vx : gv_v C k x q ≠ -2 := by
      intro e
      rw [e] at ev
      exact hv ev
    by_cases v1 : gv_v C k x q = -1
    · have v0 : gv_v C k x q < 0 := by omega
      rw [if_pos v0] at eL ed ep el er
      rw [if_pos v1] at ev
      rw [ed] at hfr
      rw [ep] at hK
      have t1 := gv_to_t (gv_lkY lo l1 (by omega)) (gv_tryY lo (t := (b : Nat)) (by omega) l2 l3 (q := q) (fr := fr) (K := K) (w := w) (M := M) (by omega))
      obtain ⟨w', M', N, t, x1, x2⟩ := ih q vx (l + 1) m l4 (by omega) hq hdf ((((b : Nat) : Int), q, K.length, -1) :: fr) K w M hM (by show fr.length + 1 + _ ≤ 550; omega) hK
      rw [er, el, ev, eL]
      refine ⟨w', M', 3 + N, gv_T_n t (by omega), fun _ => ?_, fun v => absurd v (by omega)⟩
      obtain ⟨K', a', q', e⟩ := x2 v1
      rw [gv_fl_F' (by omega)] at e
      exact gv_to_w (gv_to_t t1 e) (by omega)
    · have v0 : ¬ gv_v C k x q < 0 := by omega
      rw [if_neg v0] at eL ed ep el er
      rw [if_neg v1, if_neg vx] at ev
      have vs : gv_v C k (.node nm 7 x) (q + (gv_v C k x q).toNat) ≠ -2 := by
        intro e
        rw [if_pos e] at ev
        exact hv ev
      rw [if_neg vs] at ev
      rw [ed] at hfr
      rw [ep] at hK
      have t1 := gv_to_t (gv_lkY lo l1 (by omega)) (gv_tryY lo (t := (b : Nat)) (by omega) l2 l3 (q := q) (fr := fr) (K := K) (w := w) (M := M) (by omega))
      obtain ⟨w1, M1, N1, t, x1, -⟩ := ih q vx (l + 1) m l4 (by omega) hq hdf ((((b : Nat) : Int), q, K.length, -1) :: fr) K w M hM (by show fr.length + 1 + _ ≤ 550; omega) (by omega)
      obtain ⟨w2, M2, N2, t', y1, -⟩ := ih2 (q + (gv_v C k x q).toNat) vs a b hL0 hb (by omega) hdf fr (gv_rv (gv_L C k x q) ++ K) w1 M1 t.1 (by omega) (by rw [List.length_append, gv_rv_l]; omega)
      rw [er, el, ev, eL]
      refine ⟨w2, M2, 3 + (N1 + N2), gv_T_n (gv_T_t t t') (by omega), fun _ => ?_, fun v => absurd v (by omega)⟩
      have st := gv_s5 (A := A) (a := m) (by omega) l5 (q + (gv_v C k x q).toNat) ((((b : Nat) : Int), q, K.length, -1) :: fr) (gv_rv (gv_L C k x q) ++ K) w1 M1
      rw [l6 rfl] at st
      have fin := gv_to_t (gv_to_t (gv_to_t t1 (x1 (by omega))) (gv_to_1 st)) (y1 (by omega))
      rw [gv_rv_a, List.append_assoc, show q + (gv_v C k x q + gv_v C k (.node nm 7 x) (q + (gv_v C k x q).toNat)).toNat = q + (gv_v C k x q).toNat + (gv_v C k (.node nm 7 x) (q + (gv_v C k x q).toNat)).toNat by omega]
      exact gv_to_w fin (by omega)
  · omega
  · omega
  · omega
theorem gv_F8 {A : gv_A} (lo : A.2.2.2.2.2.2.2 = false) {X : gt_X} {C : gv_C} {f : Nat → Int × Lean.ParserDescr} {fed : Nat} {W : Nat → Nat} {B k : Nat} {nm : Lean.Name} {x : Lean.ParserDescr} (ih : gv_F A X C f fed W B k x) : gv_F A X C f fed W B (k + 1) (.node nm 8 x) := by
  intro q hv a b hL hb hq hdf fr K w M hM hfr hK
  have ev : gv_v C (k + 1) (.node nm 8 x) q = if 0 ≤ gv_v C k x q then 0 else gv_v C k x q := rfl
  have eL : gv_L C (k + 1) (.node nm 8 x) q = [] := rfl
  have ed : gv_d C (k + 1) (.node nm 8 x) q = 1 + gv_d C k x q := rfl
  have ep : gv_p C (k + 1) (.node nm 8 x) q = gv_p C k x q := rfl
  have el : gv_l C (k + 1) (.node nm 8 x) q = 2 + gv_l C k x q := rfl
  have er : gv_r C X.2.2.2.2.2 (k + 1) (.node nm 8 x) q = gv_r C X.2.2.2.2.2 k x q := rfl
  rcases hL with ⟨n, -⟩ | ⟨-, m, l1, l2, l3, l4, l5⟩ | ⟨n, -⟩ | ⟨n, -⟩
  · omega
  · have lm := gt_L_le _ _ _ l3
    have g := gv_v_ge C k x q
    have vx : gv_v C k x q ≠ -2 := by
      intro e
      rw [e] at ev
      exact hv ev
    rw [ed] at hfr
    rw [ep] at hK
    have t1 := gv_tryY lo (t := -1) (by omega) l1 (by rw [l2]; decide) (q := q) (fr := fr) (K := K) (w := w) (M := M) (by omega)
    obtain ⟨w', M', N, t, x1, x2⟩ := ih q vx (a + 1) m l3 (by omega) hq hdf ((-1, q, K.length, -1) :: fr) K w M hM (by show fr.length + 1 + _ ≤ 550; omega) hK
    rw [er, el, ev, eL]
    refine ⟨w', M', 2 + N, gv_T_n t (by omega), fun v0 => ?_, fun v1 => ?_⟩
    · by_cases v2 : 0 ≤ gv_v C k x q
      · rw [if_pos v2]
        have st := gv_s6 (A := A) (a := m) (by omega) l4 (q + (gv_v C k x q).toNat) (-1, q, K.length, -1) fr (gv_rv (gv_L C k x q) ++ K) w' M'
        have e : gv_cut (gv_rv (gv_L C k x q) ++ K) ((-1, q, K.length, -1) : gv_Fr).2.2.1 = K := gv_cut_a _ _
        rw [e, show (m : Int) + 1 = ((m + 1 : Nat) : Int) by omega, ← l5] at st
        exact gv_to_w (gv_to_t (gv_to_t t1 (x1 v2)) (gv_to_1 st)) (by omega)
      · rw [if_neg v2] at v0; exact absurd v0 v2
    · by_cases v2 : 0 ≤ gv_v C k x q
      · rw [if_pos v2] at v1; omega
      · rw [if_neg v2] at v1
        obtain ⟨K', a', q', e⟩ := x2 v1
        rw [gv_fl_N'] at e
        exact ⟨K', a', q', gv_to_w (gv_to_t t1 e) (by omega)⟩
  · omega
  · omega
theorem gv_F9 {A : gv_A} (lo : A.2.2.2.2.2.2.2 = false) {X : gt_X} {C : gv_C} {f : Nat → Int × Lean.ParserDescr} {fed : Nat} {W : Nat → Nat} {B k : Nat} {nm : Lean.Name} {x : Lean.ParserDescr} (ih : gv_F A X C f fed W B k x) : gv_F A X C f fed W B (k + 1) (.node nm 9 x) := by
  intro q hv a b hL hb hq hdf fr K w M hM hfr hK
  have ev : gv_v C (k + 1) (.node nm 9 x) q = if 0 ≤ gv_v C k x q then -1 else if gv_v C k x q = -1 then 0 else -2 := rfl
  have eL : gv_L C (k + 1) (.node nm 9 x) q = [] := rfl
  have ed : gv_d C (k + 1) (.node nm 9 x) q = 1 + gv_d C k x q := rfl
  have ep : gv_p C (k + 1) (.node nm 9 x) q = gv_p C k x q := rfl
  have el : gv_l C (k + 1) (.node nm 9 x) q = 2 + gv_l C k x q := rfl
  have er : gv_r C X.2.2.2.2.2 (k + 1) (.node nm 9 x) q = gv_r C X.2.2.2.2.2 k x q := rfl
  rcases hL with ⟨n, -⟩ | ⟨n, -⟩ | ⟨-, m, l1, l2, l3, l4, l5⟩ | ⟨n, -⟩
  · omega
  · omega
  · have lm := gt_L_le _ _ _ l3
    have g := gv_v_ge C k x q
    have vx : gv_v C k x q ≠ -2 := by
      intro e
      rw [e] at ev
      exact hv ev
    rw [ed] at hfr
    rw [ep] at hK
    have t1 := gv_tryY lo (t := (b : Nat)) (by omega) l1 l2 (q := q) (fr := fr) (K := K) (w := w) (M := M) (by omega)
    obtain ⟨w', M', N, t, x1, x2⟩ := ih q vx (a + 1) m l3 (by omega) hq hdf ((((b : Nat) : Int), q, K.length, -1) :: fr) K w M hM (by show fr.length + 1 + _ ≤ 550; omega) hK
    rw [er, el, ev, eL]
    by_cases v2 : 0 ≤ gv_v C k x q
    · rw [if_pos v2]
      refine ⟨w', M', 2 + N, gv_T_n t (by omega), fun v0 => absurd v0 (by omega), fun _ => ⟨gv_rv (gv_L C k x q), (m : Int), q + (gv_v C k x q).toNat, ?_⟩⟩
      have st := gv_s7 (A := A) (a := m) (by omega) l4 (q + (gv_v C k x q).toNat) ((((b : Nat) : Int), q, K.length, -1) :: fr) (gv_rv (gv_L C k x q) ++ K) w' M'
      rw [lo] at st
      exact gv_to_w (gv_to_t (gv_to_t t1 (x1 v2)) (gv_to_1 st)) (by omega)
    · have v1 : gv_v C k x q = -1 := by omega
      rw [if_neg v2, if_pos v1]
      refine ⟨w', M', 2 + N, gv_T_n t (by omega), fun _ => ?_, fun v => absurd v (by omega)⟩
      obtain ⟨K', a', q', e⟩ := x2 v1
      rw [gv_fl_F' (by omega)] at e
      exact gv_to_w (gv_to_t t1 e) (by omega)
  · omega
theorem gv_F10 {A : gv_A} {X : gt_X} {C : gv_C} {f : Nat → Int × Lean.ParserDescr} {fed : Nat} {W : Nat → Nat} {B k : Nat} {nm : Lean.Name} {x : Lean.ParserDescr} (ih : gv_F A X C f fed W B k x) : gv_F A X C f fed W B (k + 1) (.node nm 10 x) := by
  intro q hv a b hL hb hq hdf fr K w M hM hfr hK
  have ev : gv_v C (k + 1) (.node nm 10 x) q = gv_v C k x q := rfl
  have eL : gv_L C (k + 1) (.node nm 10 x) q = (q, q + (gv_v C k x q).toNat) :: gv_L C k x q := rfl
  have ed : gv_d C (k + 1) (.node nm 10 x) q = gv_d C k x q := rfl
  have ep : gv_p C (k + 1) (.node nm 10 x) q = 1 + gv_p C k x q := rfl
  have el : gv_l C (k + 1) (.node nm 10 x) q = 2 + gv_l C k x q := rfl
  have er : gv_r C X.2.2.2.2.2 (k + 1) (.node nm 10 x) q = gv_r C X.2.2.2.2.2 k x q := rfl
  rcases hL with ⟨n, -⟩ | ⟨n, -⟩ | ⟨n, -⟩ | ⟨-, m, l1, l3, l4, l5⟩
  · omega
  · omega
  · omega
  · have lm := gt_L_le _ _ _ l3
    rw [ev] at hv
    rw [ed] at hfr
    rw [ep] at hK
    have st := gv_s10 (A := A) (a := a) (by omega) l1 q fr K w M
    unfold gv_ad at st
    rw [if_pos (by omega), show (a : Int) + 1 = ((a + 1 : Nat) : Int) by omega] at st
    obtain ⟨w', M', N, t, x1, x2⟩ := ih q hv (a + 1) m l3 (by omega) hq hdf fr ((q, -1) :: K) w M hM hfr (by show K.length + 1 + _ ≤ 275; omega)
    rw [er, el, ev, eL]
    refine ⟨w', M', 2 + N, gv_T_n t (by omega), fun v0 => ?_, fun v1 => ?_⟩
    · have st2 := gv_s11 (A := A) (a := m) (by omega) l4 (q + (gv_v C k x q).toNat) fr (gv_rv (gv_L C k x q) ++ (q, -1) :: K) w' M'
      rw [gv_cl_r _ _ _ _ (gv_rv_n _), show (m : Int) + 1 = ((m + 1 : Nat) : Int) by omega, ← l5] at st2
      have e : gv_rv ((q, q + (gv_v C k x q).toNat) :: gv_L C k x q) = gv_rv (gv_L C k x q) ++ [(q, ((q + (gv_v C k x q).toNat : Nat) : Int))] := by
        unfold gv_rv
        rw [List.map_cons, List.reverse_cons]
      rw [e, List.append_assoc]
      exact gv_to_w (gv_to_t (gv_to_t (gv_to_1 st) (x1 v0)) (gv_to_1 st2)) (by omega)
    · obtain ⟨K', a', q', e⟩ := x2 v1
      refine ⟨K' ++ [(q, -1)], a', q', ?_⟩
      rw [List.append_assoc]
      exact gv_to_w (gv_to_t (gv_to_1 st) e) (by omega)
