/-! The matcher with the memory: pairs, choices, leaves; all of them. -/
theorem gv_Fp {A : gv_A} {X : gt_X} {C : gv_C} {f : Nat → Int × Lean.ParserDescr} {fed : Nat} {W : Nat → Nat} {B k : Nat} {sub : Nat → Int} (h : gv_Y A X C f fed sub) {x y : Lean.ParserDescr} (ihy : gv_F A X C f fed W B k y) {q m b : Nat} {c0 : gv_Cf} {N l w : Nat} {fr : List gv_Fr} {K : List (Nat × Int)} {M : gv_Mm} {w1 : Nat} {M1 : gv_Mm} (hT : gv_T C X.2.2.2.2.2 f A.2.2.2.2.2.1 fed W B (gv_r C X.2.2.2.2.2 k x q) l w M w1 M1 N) (x1 : 0 ≤ gv_v C k x q → gv_to A c0 N (0, (m : Nat), q + (gv_v C k x q).toNat, fr, gv_rv (gv_L C k x q) ++ K, w1, M1)) (x2 : gv_v C k x q = -1 → ∃ K' a' q', gv_to A c0 N (gv_fl false fr (K' ++ K) w1 M1 a' q')) (hq : q ≤ fed) (hLy : gt_L X A.1 A.2.1 A.2.2.1 y m b) (hb : b ≤ A.2.2.2.2.1) (hdf : gv_df (fun c => X.2.2.2.2.2 c < A.2.2.2.2.2.1) y) (vx : gv_v C k x q ≠ -2) (vy : 0 ≤ gv_v C k x q → gv_v C k y (q + (gv_v C k x q).toNat) ≠ -2) (hd : 0 ≤ gv_v C k x q → fr.length + gv_d C k y (q + (gv_v C k x q).toNat) ≤ 550) (hp : 0 ≤ gv_v C k x q → K.length + ((gv_L C k x q).length + gv_p C k y (q + (gv_v C k x q).toNat)) ≤ 275) {v : Int} (hv : v = if gv_v C k x q < 0 then gv_v C k x q else if gv_v C k y (q + (gv_v C k x q).toNat) < 0 then gv_v C k y (q + (gv_v C k x q).toNat) else gv_v C k x q + gv_v C k y (q + (gv_v C k x q).toNat)) {S : List (Nat × Nat)} (hS : S = if gv_v C k x q < 0 then gv_r C X.2.2.2.2.2 k x q else gv_r C X.2.2.2.2.2 k x q ++ gv_r C X.2.2.2.2.2 k y (q + (gv_v C k x q).toNat)) {l' : Nat} (hl : l' = if gv_v C k x q < 0 then l else l + gv_l C k y (q + (gv_v C k x q).toNat)) : ∃ w' M' N', gv_T C X.2.2.2.2.2 f A.2.2.2.2.2.1 fed W B S l' w M w' M' N' ∧ (0 ≤ v → gv_to A c0 N' (0, (b : Nat), q + v.toNat, fr, gv_rv (gv_L C k x q ++ gv_L C k y (q + (gv_v C k x q).toNat)) ++ K, w', M')) ∧ (v = -1 → ∃ K' a' q', gv_to A c0 N' (gv_fl false fr (K' ++ K) w' M' a' q')) := by
  have gx := gv_v_ge C k x q
  have lx := gv_v_leY h.2.2.2.1 h.2.2.2.2.1 k x q hq
  by_cases v0 : gv_v C k x q < 0
  · rw [if_pos v0] at hv hS hl
    subst hv hS hl
    exact ⟨w1, M1, N, hT, fun w => absurd w (by omega), x2⟩
  · rw [if_neg v0] at hv hS hl
    subst hS hl
    have v1 : 0 ≤ gv_v C k x q := by omega
    have gy := gv_v_ge C k y (q + (gv_v C k x q).toNat)
    have ny := vy v1
    obtain ⟨w2, M2, N2, t2, y1, y2⟩ := ihy (q + (gv_v C k x q).toNat) ny m b hLy hb (by omega) hdf fr (gv_rv (gv_L C k x q) ++ K) w1 M1 hT.1 (hd v1) (by have := hp v1; rw [List.length_append, gv_rv_l]; omega)
    refine ⟨w2, M2, N + N2, gv_T_t hT t2, fun h0 => ?_, fun h1 => ?_⟩
    · by_cases w0 : gv_v C k y (q + (gv_v C k x q).toNat) < 0
      · rw [if_pos w0] at hv; omega
      · rw [if_neg w0] at hv
        have := gv_to_t (x1 v1) (y1 (by omega))
        rw [gv_rv_a, List.append_assoc, hv, show q + (gv_v C k x q + gv_v C k y (q + (gv_v C k x q).toNat)).toNat = q + (gv_v C k x q).toNat + (gv_v C k y (q + (gv_v C k x q).toNat)).toNat by omega]
        exact this
    · by_cases w0 : gv_v C k y (q + (gv_v C k x q).toNat) < 0
      · rw [if_pos w0] at hv
        obtain ⟨K', a', q', e⟩ := y2 (by omega)
        refine ⟨K' ++ gv_rv (gv_L C k x q), a', q', ?_⟩
        rw [List.append_assoc]
        exact gv_to_t (x1 v1) e
      · rw [if_neg w0] at hv; omega
theorem gv_F4 {A : gv_A} {X : gt_X} {C : gv_C} {f : Nat → Int × Lean.ParserDescr} {fed : Nat} {W : Nat → Nat} {B k : Nat} {sub : Nat → Int} (h : gv_Y A X C f fed sub) {nm : Lean.Name} {x y : Lean.ParserDescr} (ih : gv_F A X C f fed W B k x) (ihy : gv_F A X C f fed W B k y) (h4 : gp_n2 nm = 4) : gv_F A X C f fed W B (k + 1) (.binary nm x y) := by
  intro q hv a b hL hb hq hdf fr K w M hM hfr hK
  obtain ⟨df1, df2, df3⟩ := hdf
  have ev : gv_v C (k + 1) (.binary nm x y) q = if gv_v C k x q < 0 then gv_v C k x q else if gv_v C k y (q + (gv_v C k x q).toNat) < 0 then gv_v C k y (q + (gv_v C k x q).toNat) else gv_v C k x q + gv_v C k y (q + (gv_v C k x q).toNat) := if_pos h4
  have eL : gv_L C (k + 1) (.binary nm x y) q = gv_L C k x q ++ gv_L C k y (q + (gv_v C k x q).toNat) := if_pos h4
  have ed : gv_d C (k + 1) (.binary nm x y) q = if gv_v C k x q < 0 then (if gp_n1 nm = 1 then 1 else 0) + gv_d C k x q else max ((if gp_n1 nm = 1 then 1 else 0) + gv_d C k x q) (gv_d C k y (q + (gv_v C k x q).toNat)) := if_pos h4
  have ep : gv_p C (k + 1) (.binary nm x y) q = if gv_v C k x q < 0 then gv_p C k x q else max (gv_p C k x q) ((gv_L C k x q).length + gv_p C k y (q + (gv_v C k x q).toNat)) := if_pos h4
  have el : gv_l C (k + 1) (.binary nm x y) q = if gv_v C k x q < 0 then (if gp_n1 nm = 1 then 3 else 0) + gv_l C k x q else (if gp_n1 nm = 1 then 3 else 0) + gv_l C k x q + gv_l C k y (q + (gv_v C k x q).toNat) := if_pos h4
  have er : gv_r C X.2.2.2.2.2 (k + 1) (.binary nm x y) q = if gv_v C k x q < 0 then gv_r C X.2.2.2.2.2 k x q else gv_r C X.2.2.2.2.2 k x q ++ gv_r C X.2.2.2.2.2 k y (q + (gv_v C k x q).toNat) := if_pos h4
  have gx := gv_v_ge C k x q
  have vx : gv_v C k x q ≠ -2 := by
    intro e
    rw [e] at ev
    exact hv ev
  have vy : 0 ≤ gv_v C k x q → gv_v C k y (q + (gv_v C k x q).toNat) ≠ -2 := by
    intro v0 e
    rw [if_neg (by omega), e] at ev
    exact hv ev
  have dx : fr.length + ((if gp_n1 nm = 1 then 1 else 0) + gv_d C k x q) ≤ 550 := by
    rw [ed] at hfr
    by_cases v0 : gv_v C k x q < 0
    · rw [if_pos v0] at hfr; exact hfr
    · rw [if_neg v0] at hfr; omega
  have dy : 0 ≤ gv_v C k x q → fr.length + gv_d C k y (q + (gv_v C k x q).toNat) ≤ 550 := by
    intro v0
    rw [ed, if_neg (by omega)] at hfr
    omega
  have px : K.length + gv_p C k x q ≤ 275 := by
    rw [ep] at hK
    by_cases v0 : gv_v C k x q < 0
    · rw [if_pos v0] at hK; exact hK
    · rw [if_neg v0] at hK; omega
  have py : 0 ≤ gv_v C k x q → K.length + ((gv_L C k x q).length + gv_p C k y (q + (gv_v C k x q).toNat)) ≤ 275 := by
    intro v0
    rw [ep, if_neg (by omega)] at hK
    omega
  rw [eL]
  rcases hL with ⟨n1, -, l, m, l1, l2, l3, l4, l5, l6, l7, l8, l9, l10⟩ | ⟨n0, -, m, l1, l2⟩ | ⟨-, n5, -⟩
  · have ey := df3 n1 h4
    rw [if_pos n1] at dx el
    have lm := gt_L_le _ _ _ l7
    have lx := gt_lk_le l4
    have Ly : gt_L X A.1 A.2.1 A.2.2.1 y (a + 2) b := by
      rw [ey]
      exact Or.inl ⟨Or.inr rfl, l, m, l4, l5, l6, l7, l8, fun q => absurd q (by omega), fun _ => l9, l10⟩
    have st1 := gv_s3 (A := A) (a := a) (by omega) l1 q fr K w M
    unfold gv_pu at st1
    rw [if_pos (by omega), show (a : Int) + 1 = ((a + 1 : Nat) : Int) by omega] at st1
    have st2 := gv_s4 (A := A) (a := a + 1) (by omega) l2 q ((-1, q, K.length, -1) :: fr) K w M
    rw [l3] at st2
    have t0 := gv_to_t (gv_to_1 st1) (gv_to_1 st2)
    obtain ⟨w1, M1, N, t, x1, x2⟩ := ih q vx (l + 1) m l7 (by omega) hq df1 ((-1, q, K.length, -1) :: fr) K w M hM (by show fr.length + 1 + _ ≤ 550; omega) px
    refine gv_Fp h ihy (c0 := ((a : Nat), q, fr, K, w, M)) (N := 3 + N) (m := a + 2) (gv_T_n (l' := 3 + gv_l C k x q) t (by omega)) (fun v0 => ?_) (fun v1 => ?_) hq Ly hb df2 vx vy dy py ev er el
    · have st3 := gv_s5 (A := A) (a := m) (by omega) l8 (q + (gv_v C k x q).toNat) ((-1, q, K.length, -1) :: fr) (gv_rv (gv_L C k x q) ++ K) w1 M1
      rw [l9] at st3
      exact gv_to_w (gv_to_t (gv_to_t t0 (x1 v0)) (gv_to_1 st3)) (by omega)
    · obtain ⟨K', a', q', e⟩ := x2 v1
      rw [gv_fl_N'] at e
      exact ⟨K', a', q', gv_to_w (gv_to_t t0 e) (by omega)⟩
  · have nn : ¬ gp_n1 nm = 1 := by omega
    rw [if_neg nn] at dx el
    have l := gt_L_le _ _ _ l2
    obtain ⟨w1, M1, N, t, x1, x2⟩ := ih q vx a m l1 (by omega) hq df1 fr K w M hM (by omega) px
    refine gv_Fp h ihy (c0 := ((a : Nat), q, fr, K, w, M)) t x1 x2 hq l2 hb df2 vx vy dy py ev er ?_
    rw [el, Nat.zero_add]
  · omega
theorem gv_F5 {A : gv_A} (lo : A.2.2.2.2.2.2.2 = false) {X : gt_X} {C : gv_C} {f : Nat → Int × Lean.ParserDescr} {fed : Nat} {W : Nat → Nat} {B k : Nat} {sub : Nat → Int} (h : gv_Y A X C f fed sub) {nm : Lean.Name} {x y : Lean.ParserDescr} (ih : gv_F A X C f fed W B k x) (ihy : gv_F A X C f fed W B k y) (h4 : ¬ gp_n2 nm = 4) : gv_F A X C f fed W B (k + 1) (.binary nm x y) := by
  intro q hv a b hL hb hq hdf fr K w M hM hfr hK
  obtain ⟨df1, df2, -⟩ := hdf
  have z := h.2.1 x q
  have ev : gv_v C (k + 1) (.binary nm x y) q = if gv_v C k x q = -1 then gv_v C k y q else gv_v C k x q := (if_neg h4).trans (if_pos z)
  have eL : gv_L C (k + 1) (.binary nm x y) q = if gv_v C k x q = -1 then gv_L C k y q else gv_L C k x q := (if_neg h4).trans (if_pos z)
  have ed : gv_d C (k + 1) (.binary nm x y) q = if gv_v C k x q = -1 then max (1 + gv_d C k x q) (gv_d C k y q) else 1 + gv_d C k x q := (if_neg h4).trans (if_pos z)
  have ep : gv_p C (k + 1) (.binary nm x y) q = if gv_v C k x q = -1 then max (gv_p C k x q) (gv_p C k y q) else gv_p C k x q := (if_neg h4).trans (if_pos z)
  have el : gv_l C (k + 1) (.binary nm x y) q = if gv_v C k x q = -1 then 3 + gv_l C k x q + gv_l C k y q else 3 + gv_l C k x q := if_neg h4
  have er : gv_r C X.2.2.2.2.2 (k + 1) (.binary nm x y) q = if gv_v C k x q = -1 then gv_r C X.2.2.2.2.2 k x q ++ gv_r C X.2.2.2.2.2 k y q else gv_r C X.2.2.2.2.2 k x q := (if_neg h4).trans (if_pos z)
  rcases hL with ⟨-, n4, -⟩ | ⟨-, n4, -⟩ | ⟨-, -, l, m, l1, l2, l3, l4, l5, l6, l7⟩
  · exact absurd n4 h4
  · exact absurd n4 h4
  · have lm := gt_L_le _ _ _ l4
    have lb := gt_L_le _ _ _ l7
    have gx := gv_v_ge C k x q
    by_cases v1 : gv_v C k x q = -1
    · rw [if_pos v1] at ev eL ed ep el er
      rw [ev] at hv
      rw [ed] at hfr
      rw [ep] at hK
      have t1 := gv_to_t (gv_lkY lo l1 (by omega)) (gv_tryY lo (t := ((m + 1 : Nat) : Int)) (by omega) l2 l3 (q := q) (fr := fr) (K := K) (w := w) (M := M) (by omega))
      obtain ⟨w1, M1, N, t, -, x2⟩ := ih q (by omega) (l + 1) m l4 (by omega) hq df1 ((((m + 1 : Nat) : Int), q, K.length, -1) :: fr) K w M hM (by show fr.length + 1 + _ ≤ 550; omega) (by omega)
      obtain ⟨K', a', q', e⟩ := x2 v1
      rw [gv_fl_F' (by omega)] at e
      obtain ⟨w2, M2, N2, t2, y1, y2⟩ := ihy q hv (m + 1) b l7 hb hq df2 fr K w1 M1 t.1 (by omega) (by omega)
      rw [ev, eL, el, er]
      refine ⟨w2, M2, 3 + (N + N2), gv_T_n (gv_T_t t t2) (by omega), fun v0 => gv_to_w (gv_to_t (gv_to_t t1 e) (y1 v0)) (by omega), fun v => ?_⟩
      obtain ⟨K2, a2, q2, e2⟩ := y2 v
      exact ⟨K2, a2, q2, gv_to_w (gv_to_t (gv_to_t t1 e) e2) (by omega)⟩
    · rw [if_neg v1] at ev eL ed ep el er
      rw [ev] at hv
      rw [ed] at hfr
      rw [ep] at hK
      have t1 := gv_to_t (gv_lkY lo l1 (by omega)) (gv_tryY lo (t := ((m + 1 : Nat) : Int)) (by omega) l2 l3 (q := q) (fr := fr) (K := K) (w := w) (M := M) (by omega))
      obtain ⟨w1, M1, N, t, x1, -⟩ := ih q hv (l + 1) m l4 (by omega) hq df1 ((((m + 1 : Nat) : Int), q, K.length, -1) :: fr) K w M hM (by show fr.length + 1 + _ ≤ 550; omega) (by omega)
      rw [ev, eL, el, er]
      refine ⟨w1, M1, 3 + N, gv_T_n t (by omega), fun v0 => ?_, fun v => absurd v v1⟩
      have st := gv_s5 (A := A) (a := m) (by omega) l5 (q + (gv_v C k x q).toNat) ((((m + 1 : Nat) : Int), q, K.length, -1) :: fr) (gv_rv (gv_L C k x q) ++ K) w1 M1
      rw [l6] at st
      exact gv_to_w (gv_to_t (gv_to_t t1 (x1 v0)) (gv_to_1 st)) (by omega)
theorem gv_rowY {A : gv_A} {X : gt_X} {fed : Nat} {sub : Nat → Int} (hd : ∀ d P q, q ≤ fed → X.1 d P → (A.2.2.2.2.2.2.1 d q = true ↔ q < fed ∧ P (sub q))) (lo : A.2.2.2.2.2.2.2 = false) {a m n1 : Nat} (hb : a + m ≤ A.2.2.2.2.1) (hL : ∀ j, j < m → A.1 (a + j) = 0 ∧ X.1 (A.2.1 (a + j)) (fun c => c = X.2.2.2.1 (n1 + j))) {q : Nat} (fr : List gv_Fr) (K : List (Nat × Int)) (w : Nat) (M : gv_Mm) : ∀ (d i : Nat), i + d = m → q + i ≤ fed → (∀ j, j < i → sub (q + j) = X.2.2.2.1 (n1 + j)) → ((q + m ≤ fed ∧ ∀ i, i < m → sub (q + i) = X.2.2.2.1 (n1 + i)) → gv_to A ((a : Int) + i, q + i, fr, K, w, M) d (0, ((a + m : Nat) : Int), q + m, fr, K, w, M)) ∧ (¬ (q + m ≤ fed ∧ ∀ i, i < m → sub (q + i) = X.2.2.2.1 (n1 + i)) → ∃ a' q', gv_to A ((a : Int) + i, q + i, fr, K, w, M) d (gv_fl false fr K w M a' q')) := by
  intro d
  induction d with
  | zero =>
    intro i hi hq h
    have : i = m := by omega
    subst this
    refine ⟨fun _ => ?_, fun n => absurd ⟨hq, h⟩ n⟩
    rw [Int.natCast_add]
    exact gv_to_r A _ 0
  | succ d ih =>
    intro i hi hq h
    obtain ⟨o, x⟩ := hL i (by omega)
    have st := gv_s0 (A := A) (a := a + i) (by omega) o (q + i) fr K w M
    have hh := hd _ _ (q + i) hq x
    rw [Int.natCast_add] at st
    by_cases c : A.2.2.2.2.2.2.1 (A.2.1 (a + i)) (q + i) = true
    · rw [if_pos c] at st
      have c1 := hh.mp c
      have nx := ih (i + 1) (by omega) (by omega) (fun j hj => by
        by_cases e : j = i
        · rw [e]; exact c1.2
        · exact h j (by omega))
      rw [show ((i + 1 : Nat) : Int) = (i : Int) + 1 by omega, ← Int.add_assoc, ← Nat.add_assoc] at nx
      refine ⟨fun g => gv_to_w (gv_to_t (gv_to_1 st) (nx.1 g)) (by omega), fun g => ?_⟩
      obtain ⟨a', q', e⟩ := nx.2 g
      exact ⟨a', q', gv_to_w (gv_to_t (gv_to_1 st) e) (by omega)⟩
    · rw [if_neg c, lo] at st
      refine ⟨fun g => absurd (hh.mpr ⟨by omega, g.2 i (by omega)⟩) c, fun _ => ⟨_, _, gv_to_w (gv_to_1 st) (by omega)⟩⟩
theorem gv_F0 {A : gv_A} (lo : A.2.2.2.2.2.2.2 = false) {X : gt_X} {C : gv_C} {f : Nat → Int × Lean.ParserDescr} {fed : Nat} {W : Nat → Nat} {B k : Nat} {sub : Nat → Int} (h : gv_Y A X C f fed sub) (hf : fed ≤ 10) (hB : ∀ r p k, r < A.2.2.2.2.2.1 → p ≤ fed → gv_v C k (f r).2 p ≠ -2 → gv_l C k (f r).2 p + 1 ≤ B) (hW : ∀ r p k, r < A.2.2.2.2.2.1 → p ≤ fed → 0 ≤ gv_v C k (f r).2 p → (gv_L C k (f r).2 p).length ≤ W p) (hWt : gv_su (fun _ => true) (fun i => W (i % 11)) (11 * A.2.2.2.2.2.1) ≤ 5720) {nm : Lean.Name} {j : Nat} (ih : ∀ e, gv_F A X C f fed W B k e) : gv_F A X C f fed W B (k + 1) (.cat nm j) := by
  intro q hv a b hL hb hq hdf fr K w M hM hfr hK
  obtain ⟨j3, k0, k1, k2, k3⟩ := hL
  have : j = 0 ∨ j = 1 ∨ j = 2 ∨ j = 3 := by omega
  rcases this with e | e | e | e
  · subst e
    have e := k0 rfl
    subst e
    exact ⟨w, M, 0, gv_T_r hM (Nat.zero_le _), fun _ => gv_to_r A _ 0, fun v => absurd (show (0 : Int) = -1 from v) (by omega)⟩
  · subst e
    obtain ⟨e1, e2⟩ := k1 rfl
    have hr := h.2.2.2.1 (gp_n1 nm) (gp_n2 nm) q hq
    have r := gv_rowY h.1 lo (a := a) (m := gp_n2 nm) (n1 := gp_n1 nm) (by omega) e2 (q := q) fr K w M (gp_n2 nm) 0 (by omega) (by omega) (fun j hj => absurd hj (by omega))
    rw [← e1, show (a : Int) + ((0 : Nat) : Int) = a by omega, Nat.add_zero] at r
    have ev : gv_v C (k + 1) (.cat nm 1) q = if C.2.1 (gp_n1 nm) (gp_n2 nm) q = true then (gp_n2 nm : Int) else -1 := rfl
    refine ⟨w, M, gp_n2 nm, gv_T_r hM (Nat.le_refl _), fun v0 => ?_, fun v1 => ?_⟩
    · rw [ev] at v0 ⊢
      by_cases z : C.2.1 (gp_n1 nm) (gp_n2 nm) q = true
      · rw [if_pos z]
        exact r.1 (hr.mp z)
      · rw [if_neg z] at v0; omega
    · rw [ev] at v1
      by_cases z : C.2.1 (gp_n1 nm) (gp_n2 nm) q = true
      · rw [if_pos z] at v1; omega
      · obtain ⟨a', q', e⟩ := r.2 (fun w => z (hr.mpr w))
        exact ⟨[], a', q', e⟩
  · subst e
    obtain ⟨e1, e2, e3⟩ := k2 rfl
    have hc := h.2.2.2.2.1 (gp_n1 nm) (gp_n2 nm) q hq
    have hd := h.1 _ _ q hq e3
    have ev : gv_v C (k + 1) (.cat nm 2) q = if C.2.2.1 (gp_n1 nm) (gp_n2 nm) q = true then 1 else -1 := rfl
    have st := gv_s0 (A := A) (a := a) (by omega) e2 q fr K w M
    rw [ev]
    refine ⟨w, M, 1, gv_T_r hM (Nat.le_refl _), ?_⟩
    by_cases z : C.2.2.1 (gp_n1 nm) (gp_n2 nm) q = true
    · rw [if_pos z]
      rw [if_pos (hd.mpr (hc.mp z)), show (a : Int) + 1 = ((a + 1 : Nat) : Int) by omega, ← e1] at st
      exact ⟨fun _ => gv_to_1 st, fun v => absurd v (by omega)⟩
    · rw [if_neg z]
      rw [if_neg (fun w => z (hc.mpr (hd.mp w))), lo] at st
      exact ⟨fun v => absurd v (by omega), fun _ => ⟨[], _, _, gv_to_1 st⟩⟩
  · subst e
    obtain ⟨e1, e2, e3⟩ := k3 rfl
    have hn : X.2.2.2.2.2 (gp_n1 nm) < A.2.2.2.2.2.1 := hdf rfl
    obtain ⟨hdr, a', b', s1, s2, s3, s4⟩ := h.2.2.2.2.2 _ hn
    have ev : gv_v C (k + 1) (.cat nm 3) q = gv_v C k (C.1 (gp_n1 nm)) q := rfl
    have eL : gv_L C (k + 1) (.cat nm 3) q = gv_L C k (C.1 (gp_n1 nm)) q := rfl
    have ed : gv_d C (k + 1) (.cat nm 3) q = 1 + gv_d C k (C.1 (gp_n1 nm)) q := rfl
    have ep : gv_p C (k + 1) (.cat nm 3) q = gv_p C k (C.1 (gp_n1 nm)) q := rfl
    have el : gv_l C (k + 1) (.cat nm 3) q = 1 := rfl
    have er : gv_r C X.2.2.2.2.2 (k + 1) (.cat nm 3) q = (X.2.2.2.2.2 (gp_n1 nm), q) :: gv_r C X.2.2.2.2.2 k (C.1 (gp_n1 nm)) q := rfl
    rw [h.2.2.1] at ev eL ed ep er
    rw [ev] at hv
    rw [ed] at hfr
    rw [ep] at hK
    rw [ev, eL, el, er]
    generalize hrr : X.2.2.2.2.2 (gp_n1 nm) = r at *
    have st := gv_s8 (A := A) (a := a) (by omega) e2 q fr K w M
    rw [lo, e3] at st
    by_cases kn : M.1 (r : Nat) q = -2
    · rw [if_pos (Or.inr kn), if_neg (by decide)] at st
      unfold gv_pu at st
      have sta : gv_sta A ((r : Nat) : Int) = (a' : Nat) := by
        unfold gv_sta
        rw [if_pos ⟨by omega, by omega⟩]
        exact s1
      rw [if_pos (by omega), sta] at st
      obtain ⟨w1, M1, N, ⟨t1, t2, t3, t4⟩, x1, x2⟩ := ih _ q hv a' b' s2 (by omega) hq hdr (((a : Int) + 1, q, K.length, ((r : Nat) : Int)) :: fr) K (w + 1) M hM (by show fr.length + 1 + _ ≤ 550; omega) hK
      have ac := gv_acy (u := X.2.2.2.2.2) h.2.2.1 r q k k (Nat.le_refl k) hv
      have nk : M1.1 (r : Nat) q = -2 := by
        by_cases z : M1.1 (r : Nat) q = -2
        · exact z
        · rcases (t2 r q).mp z with z | z
          · exact absurd kn z
          · exact absurd z ac
      have bb := hB r q k hn hq hv
      have all : ∀ M2 : gv_Mm, ¬ M2.1 (r : Nat) q = -2 → (∀ r' p' : Nat, ¬ (r' = r ∧ p' = q) → M2.1 (r' : Nat) p' = M1.1 (r' : Nat) p' ∧ M2.2.1 (r' : Nat) p' = M1.2.1 (r' : Nat) p') → (0 ≤ gv_v C k (f r).2 q → M2.1 (r : Nat) q = (q : Int) + gv_v C k (f r).2 q ∧ M2.2.1 (r : Nat) q = gv_rv (gv_L C k (f r).2 q)) → (gv_v C k (f r).2 q = -1 → M2.1 (r : Nat) q = -1) → M2.2.2 ≤ M1.2.2 + W q → gv_T C X.2.2.2.2.2 f A.2.2.2.2.2.1 fed W B ((r, q) :: gv_r C X.2.2.2.2.2 k (f r).2 q) 1 w M w1 M2 (2 + N) := by
        intro M2 m1 m2 m3 m4 m5
        have kw := gv_kw_1 (R := A.2.2.2.2.2.1) (W := W) hn (by omega) nk m1 (fun r' p' n => (m2 r' p' n).1)
        have t12 := t1.2
        have kc := gv_kc_1 (R := A.2.2.2.2.2.1) hn (by omega) nk m1 (fun r' p' n => (m2 r' p' n).1)
        have up : ∀ r' p' : Nat, ¬ M1.1 (r' : Nat) p' = -2 → ¬ M2.1 (r' : Nat) p' = -2 := by
          intro r' p' z
          by_cases c : r' = r ∧ p' = q
          · rw [c.1, c.2]; exact m1
          · rw [(m2 r' p' c).1]; exact z
        refine ⟨⟨fun r' p' z => ?_, by rw [kw]; omega⟩, fun r' p' => ?_, ?_, ?_⟩
        · by_cases c : r' = r ∧ p' = q
          · obtain ⟨c1, c2⟩ := c
            subst c1 c2
            exact ⟨hn, hq, k, hv, m3, m4, fun z hz => up _ _ ((t2 z.1 z.2).mpr (Or.inr hz))⟩
          · rw [(m2 r' p' c).1] at z
            obtain ⟨o1, o2, k', o3, o4, o5, o6⟩ := t1.1 r' p' z
            refine ⟨o1, o2, k', o3, ?_, ?_, fun z hz => up _ _ (o6 z hz)⟩
            · rw [(m2 r' p' c).1, (m2 r' p' c).2]; exact o4
            · rw [(m2 r' p' c).1]; exact o5
        · by_cases c : r' = r ∧ p' = q
          · rw [c.1, c.2]
            exact ⟨fun _ => Or.inr (List.mem_cons_self ..), fun _ => m1⟩
          · rw [(m2 r' p' c).1, t2, List.mem_cons]
            refine ⟨fun z => z.elim Or.inl (fun z => Or.inr (Or.inr z)), fun z => z.elim Or.inl (fun z => z.elim (fun z => ?_) Or.inr)⟩
            injection z with z1 z2
            exact absurd ⟨z1, z2⟩ c
        · omega
        · rw [kc, Nat.mul_add, Nat.mul_one]
          omega
      by_cases v0 : 0 ≤ gv_v C k (f r).2 q
      · have lw := hW r q k hn hq v0
        have kl : M1.2.2 + (gv_rv (gv_L C k (f r).2 q)).length ≤ 5720 := by
          have kw := gv_kw_1 (R := A.2.2.2.2.2.1) (W := W) (M' := gv_mf M1 ((r : Nat) : Int) q) hn (by omega) nk (by show ¬ (if ((r : Nat) : Int) = ((r : Nat) : Int) ∧ q = q then (-1 : Int) else _) = -2; rw [if_pos ⟨rfl, rfl⟩]; omega) (fun r' p' n => if_neg (by omega))
          have le := gv_su_le (fun i => decide (¬ (gv_mf M1 ((r : Nat) : Int) q).1 ((i / 11 : Nat) : Int) (i % 11) = -2)) (fun i => W (i % 11)) (11 * A.2.2.2.2.2.1)
          have le : gv_kw A.2.2.2.2.2.1 W (gv_mf M1 ((r : Nat) : Int) q) ≤ _ := le
          have t12 := t1.2
          rw [gv_rv_l]
          omega
        have st2 := gv_s9 (A := A) (a := b') s4 s3 (q + (gv_v C k (f r).2 q).toNat) ((a : Int) + 1, q, K.length, ((r : Nat) : Int)) (by show ¬ ((r : Nat) : Int) = -1; omega) fr (gv_rv (gv_L C k (f r).2 q) ++ K) w1 M1
        rw [lo, if_neg (by decide)] at st2
        have tk : (gv_rv (gv_L C k (f r).2 q) ++ K).take ((gv_rv (gv_L C k (f r).2 q) ++ K).length - K.length) = gv_rv (gv_L C k (f r).2 q) := by
          rw [List.length_append, show (gv_rv (gv_L C k (f r).2 q)).length + K.length - K.length = (gv_rv (gv_L C k (f r).2 q)).length by omega, List.take_left]
        have st2 : gv_st A ((b' : Nat), q + (gv_v C k (f r).2 q).toNat, ((a : Int) + 1, q, K.length, ((r : Nat) : Int)) :: fr, gv_rv (gv_L C k (f r).2 q) ++ K, w1, M1) = (0, (a : Int) + 1, q + (gv_v C k (f r).2 q).toNat, fr, gv_rv (gv_L C k (f r).2 q) ++ K, w1, gv_mk M1 ((r : Nat) : Int) q ((q + (gv_v C k (f r).2 q).toNat : Nat) : Int) ((gv_rv (gv_L C k (f r).2 q) ++ K).take ((gv_rv (gv_L C k (f r).2 q) ++ K).length - K.length))) := st2
        rw [tk, show (a : Int) + 1 = ((a + 1 : Nat) : Int) by omega, ← e1] at st2
        rw [show (a : Int) + 1 = ((a + 1 : Nat) : Int) by omega, ← e1] at st x1
        refine ⟨w1, gv_mk M1 ((r : Nat) : Int) q ((q + (gv_v C k (f r).2 q).toNat : Nat) : Int) (gv_rv (gv_L C k (f r).2 q)), 2 + N, all _ ?_ (fun r' p' n => ?_) (fun _ => ?_) (fun v => absurd v (by omega)) ?_, fun _ => ?_, fun v => absurd v (by omega)⟩
        · show ¬ (if ((r : Nat) : Int) = ((r : Nat) : Int) ∧ q = q then ((q + (gv_v C k (f r).2 q).toNat : Nat) : Int) else _) = -2
          rw [if_pos ⟨rfl, rfl⟩]
          omega
        · show (if ((r' : Nat) : Int) = ((r : Nat) : Int) ∧ p' = q then _ else M1.1 (r' : Nat) p') = M1.1 (r' : Nat) p' ∧ (if ((r' : Nat) : Int) = ((r : Nat) : Int) ∧ p' = q then _ else M1.2.1 (r' : Nat) p') = M1.2.1 (r' : Nat) p'
          rw [if_neg (by omega), if_neg (by omega)]
          exact ⟨rfl, rfl⟩
        · show (if ((r : Nat) : Int) = ((r : Nat) : Int) ∧ q = q then ((q + (gv_v C k (f r).2 q).toNat : Nat) : Int) else _) = _ ∧ (if ((r : Nat) : Int) = ((r : Nat) : Int) ∧ q = q then gv_kp M1.2.2 (gv_rv (gv_L C k (f r).2 q)) else _) = _
          rw [if_pos ⟨rfl, rfl⟩, if_pos ⟨rfl, rfl⟩]
          exact ⟨by omega, gv_kp_i kl⟩
        · show M1.2.2 + (gv_kp M1.2.2 (gv_rv (gv_L C k (f r).2 q))).length ≤ M1.2.2 + W q
          rw [gv_kp_i kl, gv_rv_l]
          omega
        · exact gv_to_w (gv_to_t (gv_to_t (gv_to_1 st) (x1 v0)) (gv_to_1 st2)) (by omega)
      · have gv := gv_v_ge C k (f r).2 q
        have v1 : gv_v C k (f r).2 q = -1 := by omega
        obtain ⟨K', a2, q2, e⟩ := x2 v1
        rw [gv_fl_R' (by omega)] at e
        refine ⟨w1, gv_mf M1 ((r : Nat) : Int) q, 2 + N, all _ ?_ (fun r' p' n => ?_) (fun v => absurd v v0) (fun _ => ?_) (by show M1.2.2 ≤ M1.2.2 + W q; omega), fun v => absurd v v0, fun _ => ⟨K', a2, q2, gv_to_w (gv_to_t (gv_to_1 st) e) (by omega)⟩⟩
        · show ¬ (if ((r : Nat) : Int) = ((r : Nat) : Int) ∧ q = q then (-1 : Int) else _) = -2
          rw [if_pos ⟨rfl, rfl⟩]
          omega
        · show (if ((r' : Nat) : Int) = ((r : Nat) : Int) ∧ p' = q then (-1 : Int) else M1.1 (r' : Nat) p') = M1.1 (r' : Nat) p' ∧ M1.2.1 (r' : Nat) p' = M1.2.1 (r' : Nat) p'
          rw [if_neg (by omega)]
          exact ⟨rfl, rfl⟩
        · show (if ((r : Nat) : Int) = ((r : Nat) : Int) ∧ q = q then (-1 : Int) else _) = -1
          rw [if_pos ⟨rfl, rfl⟩]
    · rw [if_neg (fun w => w.elim (by decide) kn)] at st
      obtain ⟨o1, o2, k', o3, o4, o5, o6⟩ := hM.1 r q kn
      obtain ⟨z1, z2, z3⟩ := gv_same C X.2.2.2.2.2 hv o3
      have T : gv_T C X.2.2.2.2.2 f A.2.2.2.2.2.1 fed W B ((r, q) :: gv_r C X.2.2.2.2.2 k (f r).2 q) 1 w M w M 1 := by
        refine ⟨hM, fun r' p' => ⟨Or.inl, fun z => z.elim id (fun z => ?_)⟩, rfl, Nat.le_refl _⟩
        rcases List.mem_cons.mp z with z | z
        · injection z with c1 c2
          rw [c1, c2]; exact kn
        · exact o6 (r', p') (by rw [z3]; exact z)
      have gv := gv_v_ge C k (f r).2 q
      by_cases v0 : 0 ≤ gv_v C k (f r).2 q
      · obtain ⟨p1, p2⟩ := o4 (by rw [z1]; exact v0)
        rw [z1] at p1
        rw [z2 v0] at p2
        have pl := gv_p_L C k (f r).2 q v0
        rw [if_neg (by omega), p1, p2, gv_ad_f _ _ (by rw [gv_rv_l]; omega), show (a : Int) + 1 = ((a + 1 : Nat) : Int) by omega, ← e1, show ((q : Int) + gv_v C k (f r).2 q).toNat = q + (gv_v C k (f r).2 q).toNat by omega] at st
        exact ⟨w, M, 1, T, fun _ => gv_to_1 st, fun v => absurd v (by omega)⟩
      · have v1 : gv_v C k (f r).2 q = -1 := by omega
        rw [if_pos (o5 (by rw [z1]; exact v1))] at st
        exact ⟨w, M, 1, T, fun v => absurd v v0, fun _ => ⟨[], _, _, gv_to_1 st⟩⟩
/-- the matcher with the memory does what the expressions do -/
theorem gv_simY {A : gv_A} (lo : A.2.2.2.2.2.2.2 = false) {X : gt_X} {C : gv_C} {f : Nat → Int × Lean.ParserDescr} {fed : Nat} {W : Nat → Nat} {B : Nat} {sub : Nat → Int} (h : gv_Y A X C f fed sub) (hf : fed ≤ 10) (hB : ∀ r p k, r < A.2.2.2.2.2.1 → p ≤ fed → gv_v C k (f r).2 p ≠ -2 → gv_l C k (f r).2 p + 1 ≤ B) (hW : ∀ r p k, r < A.2.2.2.2.2.1 → p ≤ fed → 0 ≤ gv_v C k (f r).2 p → (gv_L C k (f r).2 p).length ≤ W p) (hWt : gv_su (fun _ => true) (fun i => W (i % 11)) (11 * A.2.2.2.2.2.1) ≤ 5720) : ∀ (k : Nat) (e : Lean.ParserDescr), gv_F A X C f fed W B k e := by
  intro k
  induction k with
  | zero => intro e q hv; exact absurd (show gv_v C 0 e q = -2 from rfl) hv
  | succ k ih =>
    intro e
    cases e with
    | cat nm j => exact gv_F0 lo h hf hB hW hWt ih
    | node nm j x =>
      intro q hv a b hL
      have : j = 6 ∨ j = 7 ∨ j = 8 ∨ j = 9 ∨ j = 10 := by
        rcases hL with ⟨n, -⟩ | ⟨n, -⟩ | ⟨n, -⟩ | ⟨n, -⟩ <;> omega
      rcases this with e | e | e | e | e
      · subst e; exact gv_F6 lo h (ih x) q hv a b hL
      · subst e; exact gv_F7 lo h (ih x) (ih _) q hv a b hL
      · subst e; exact gv_F8 lo (ih x) q hv a b hL
      · subst e; exact gv_F9 lo (ih x) q hv a b hL
      · subst e; exact gv_F10 (ih x) q hv a b hL
    | binary nm x y =>
      by_cases h4 : gp_n2 nm = 4
      · exact gv_F4 h (ih x) (ih y) h4
      · exact gv_F5 lo h (ih x) (ih y) h4
    | _ => intro q hv a b hL; exact hL.elim
