/-! The machine that looks does what the expressions do. -/
/-- names that are known -/
def gv_df (N : Nat → Prop) : Lean.ParserDescr → Prop
  | .cat nm k => k = 3 → N (gp_n1 nm)
  | .node _ _ x => gv_df N x
  | .binary nm x y => gv_df N x ∧ gv_df N y ∧ (gp_n1 nm = 1 → gp_n2 nm = 4 → y = .node .anonymous 7 x)
  | _ => True
/-- the machine's code and what the expressions speak of -/
def gv_X (A : gv_A) (X : gt_X) (C : gv_C) (f : Nat → Int × Lean.ParserDescr) (fed : Nat) (sub : Nat → Int) : Prop :=
  (∀ d P q, q ≤ fed → X.1 d P → (A.2.2.2.2.2.2.1 d q = true ↔ q < fed ∧ P (sub q))) ∧
  (∀ x q, q ≤ fed → (C.2.2.2 x q = true ↔ X.2.1 x ∨ (q < fed ∧ X.2.2.1 x (sub q)))) ∧
  (∀ c, C.1 c = (f (X.2.2.2.2.2 c)).2) ∧
  (∀ a m q, q ≤ fed → (C.2.1 a m q = true ↔ q + m ≤ fed ∧ ∀ i, i < m → sub (q + i) = X.2.2.2.1 (a + i))) ∧
  (∀ a b q, q ≤ fed → (C.2.2.1 a b q = true ↔ q < fed ∧ gq_st X.2.2.2.1 X.2.2.2.2.1 a b (sub q))) ∧
  (∀ r, r < A.2.2.2.2.2.1 → gv_df (fun c => X.2.2.2.2.2 c < A.2.2.2.2.2.1) (f r).2 ∧ ∃ a b, (A.2.2.2.1 r).toInt = (a : Nat) ∧ gt_L X A.1 A.2.1 A.2.2.1 (f r).2 a b ∧ A.1 b = 9 ∧ b < A.2.2.2.2.1)
theorem gv_v_ge (C : gv_C) : ∀ (k : Nat) (e : Lean.ParserDescr) (q : Nat), -2 ≤ gv_v C k e q := by
  intro k
  induction k with
  | zero => intro e q; show (-2 : Int) ≤ -2; omega
  | succ k ih =>
    intro e q
    cases e with
    | cat nm j =>
      have := ih (C.1 (gp_n1 nm)) q
      rw [gv_v]
      repeat' split
      all_goals omega
    | node nm j x =>
      have := ih x q
      have := ih (.node nm j x) (q + (gv_v C k x q).toNat)
      rw [gv_v]
      repeat' split
      all_goals omega
    | binary nm x y =>
      have := ih x q
      have := ih y q
      have := ih y (q + (gv_v C k x q).toNat)
      rw [gv_v]
      repeat' split
      all_goals omega
    | _ => show (-2 : Int) ≤ -2; omega
/-- what is taken is there -/
theorem gv_v_le {A : gv_A} {X : gt_X} {C : gv_C} {f : Nat → Int × Lean.ParserDescr} {fed : Nat} {sub : Nat → Int} (h : gv_X A X C f fed sub) : ∀ (k : Nat) (e : Lean.ParserDescr) (q : Nat), q ≤ fed → (q : Int) + gv_v C k e q ≤ fed := by
  intro k
  induction k with
  | zero => intro e q hq; show (q : Int) + -2 ≤ fed; omega
  | succ k ih =>
    intro e q hq
    cases e with
    | cat nm j =>
      have := ih (C.1 (gp_n1 nm)) q hq
      have hr := h.2.2.2.1 (gp_n1 nm) (gp_n2 nm) q hq
      have hc := h.2.2.2.2.1 (gp_n1 nm) (gp_n2 nm) q hq
      rw [gv_v]
      split
      · omega
      · split
        · split
          · rename_i w; have := (hr.mp w).1; omega
          · omega
        · split
          · split
            · rename_i w; have := (hc.mp w).1; omega
            · omega
          · omega
    | node nm j x =>
      have g := gv_v_ge C k x q
      have h1 := ih x q hq
      have h2 := ih (.node nm j x) (q + (gv_v C k x q).toNat)
      rw [gv_v]
      repeat' split
      all_goals omega
    | binary nm x y =>
      have g := gv_v_ge C k x q
      have h1 := ih x q hq
      have h2 := ih y q hq
      have h3 := ih y (q + (gv_v C k x q).toNat)
      rw [gv_v]
      repeat' split
      all_goals omega
    | _ => show (q : Int) + -2 ≤ fed; omega
/-- within N steps and t tries it comes to what G says, or it gives up -/
def gv_P (A : gv_A) (c : gv_Cf) (N t : Nat) (G : gv_Sx → Prop) : Prop := (c.2.2.2.2.1 + t ≤ 1000 → ∃ s, gv_to A c N s ∧ G s) ∧ (1000 < c.2.2.2.2.1 + t → c.2.2.2.2.1 ≤ 1000 → ∃ s, gv_to A c N s ∧ s.1 = 3 ∧ s.2.2.2.2.2.1 = 1000)
theorem gv_P_r {A : gv_A} {c : gv_Cf} {G : gv_Sx → Prop} (N : Nat) (h : G (0, c)) : gv_P A c N 0 G := ⟨fun _ => ⟨_, gv_to_r A c N, h⟩, fun a b => absurd a (by omega)⟩
theorem gv_P_1 {A : gv_A} {c : gv_Cf} {s : gv_Sx} {G : gv_Sx → Prop} (h : gv_st A c = s) (g : G s) : gv_P A c 1 0 G := ⟨fun _ => ⟨s, gv_to_1 h, g⟩, fun a b => absurd a (by omega)⟩
theorem gv_P_s {A : gv_A} {c c' : gv_Cf} {N t : Nat} {G : gv_Sx → Prop} (h : gv_st A c = (0, c')) (hw : c'.2.2.2.2.1 = c.2.2.2.2.1) (g : gv_P A c' N t G) : gv_P A c (1 + N) t G := by
  obtain ⟨g1, g2⟩ := g
  rw [hw] at g1 g2
  refine ⟨fun a => ?_, fun a b => ?_⟩
  · obtain ⟨s, s1, s2⟩ := g1 a
    exact ⟨s, gv_to_t (gv_to_1 h) s1, s2⟩
  · obtain ⟨s, s1, s2⟩ := g2 a b
    exact ⟨s, gv_to_t (gv_to_1 h) s1, s2⟩
theorem gv_P_w {A : gv_A} {c : gv_Cf} {N N' t : Nat} {G G' : gv_Sx → Prop} (h : gv_P A c N t G) (hN : N ≤ N') (hG : ∀ s, G s → G' s) : gv_P A c N' t G' := by
  refine ⟨fun a => ?_, fun a b => ?_⟩
  · obtain ⟨s, s1, s2⟩ := h.1 a
    exact ⟨s, gv_to_w s1 hN, hG s s2⟩
  · obtain ⟨s, s1, s2⟩ := h.2 a b
    exact ⟨s, gv_to_w s1 hN, s2⟩
theorem gv_P_b {A : gv_A} {c : gv_Cf} {N1 N2 t1 t2 : Nat} {G1 G2 : gv_Sx → Prop} (h1 : gv_P A c N1 t1 G1) (h2 : c.2.2.2.2.1 + t1 ≤ 1000 → ∀ s, G1 s → ∃ c', s = (0, c') ∧ c'.2.2.2.2.1 = c.2.2.2.2.1 + t1 ∧ gv_P A c' N2 t2 G2) : gv_P A c (N1 + N2) (t1 + t2) G2 := by
  refine ⟨fun a => ?_, fun a b => ?_⟩
  · obtain ⟨s, s1, s2⟩ := h1.1 (by omega)
    obtain ⟨c', e, w, p⟩ := h2 (by omega) s s2
    rw [e] at s1
    obtain ⟨s', p1, p2⟩ := p.1 (by omega)
    exact ⟨s', gv_to_t s1 p1, p2⟩
  · by_cases q : c.2.2.2.2.1 + t1 ≤ 1000
    · obtain ⟨s, s1, s2⟩ := h1.1 q
      obtain ⟨c', e, w, p⟩ := h2 q s s2
      rw [e] at s1
      obtain ⟨s', p1, p2⟩ := p.2 (by omega) (by omega)
      exact ⟨s', gv_to_t s1 p1, p2⟩
    · obtain ⟨s, s1, s2⟩ := h1.2 (by omega) b
      exact ⟨s, gv_to_w s1 (by omega), s2⟩
theorem gv_h_1 (t b n : Nat) : gv_h t b (1 + n) ≤ 1 + gv_h t b n := by
  unfold gv_h
  by_cases h : t ≤ b
  · rw [if_pos h, if_pos h]; exact Nat.le_refl _
  · rw [if_neg h]; exact Nat.zero_le _
theorem gv_P_b2 {A : gv_A} {c : gv_Cf} {N1 N2 t1 t2 : Nat} {G1 G2 : gv_Sx → Prop} (h1 : gv_P A c N1 t1 G1) (h2 : c.2.2.2.2.1 + t1 ≤ 1000 → ∀ s, G1 s → ∃ c', s = (0, c') ∧ c'.2.2.2.2.1 = c.2.2.2.2.1 + t1 ∧ gv_P A c' N2 t2 G2) : gv_P A c (N1 + gv_h t1 (1000 - c.2.2.2.2.1) N2) (t1 + t2) G2 := by
  by_cases q : c.2.2.2.2.1 + t1 ≤ 1000
  · have e : gv_h t1 (1000 - c.2.2.2.2.1) N2 = N2 := if_pos (by omega)
    rw [e]
    exact gv_P_b h1 h2
  · refine ⟨fun a => absurd a (by omega), fun a b => ?_⟩
    obtain ⟨s, s1, s2⟩ := h1.2 (by omega) b
    exact ⟨s, gv_to_w s1 (by omega), s2⟩
def gv_rv (L : List (Nat × Nat)) : List (Nat × Int) := (L.map (fun x => (x.1, (x.2 : Int)))).reverse
theorem gv_rv_a (L L' : List (Nat × Nat)) : gv_rv (L ++ L') = gv_rv L' ++ gv_rv L := by
  unfold gv_rv
  rw [List.map_append, List.reverse_append]
theorem gv_rv_l (L : List (Nat × Nat)) : (gv_rv L).length = L.length := by
  unfold gv_rv
  rw [List.length_reverse, List.length_map]
/-- what is so when it is through -/
def gv_G (b : Int) (q : Nat) (v : Int) (L : List (Nat × Nat)) (fr : List gv_Fr) (K : List (Nat × Int)) (w : Nat) (M : gv_Mm) (s : gv_Sx) : Prop := (0 ≤ v → s = (0, b, q + v.toNat, fr, gv_rv L ++ K, w, M)) ∧ (v = -1 → ∃ K' a' q', s = gv_fl true fr (K' ++ K) w M a' q')
def gv_E (A : gv_A) (X : gt_X) (C : gv_C) (fed k : Nat) (e : Lean.ParserDescr) : Prop := ∀ q, gv_v C k e q ≠ -2 → ∀ a b : Nat, gt_L X A.1 A.2.1 A.2.2.1 e a b → b ≤ A.2.2.2.2.1 → q ≤ fed → gv_df (fun c => X.2.2.2.2.2 c < A.2.2.2.2.2.1) e → ∀ (fr : List gv_Fr) (K : List (Nat × Int)) (w : Nat) (M : gv_Mm), fr.length + gv_d C k e q ≤ 550 → K.length + gv_p C k e q ≤ 275 → gv_P A ((a : Nat), q, fr, K, w, M) (gv_s C k e q (1000 - w)) (gv_c C k e q) (gv_G b q (gv_v C k e q) (gv_L C k e q) fr K (w + gv_c C k e q) M)
/-- a row of takes -/
theorem gv_row {A : gv_A} {X : gt_X} {fed : Nat} {sub : Nat → Int} (hd : ∀ d P q, q ≤ fed → X.1 d P → (A.2.2.2.2.2.2.1 d q = true ↔ q < fed ∧ P (sub q))) (lo : A.2.2.2.2.2.2.2 = true) {a m n1 : Nat} (hb : a + m ≤ A.2.2.2.2.1) (hL : ∀ j, j < m → A.1 (a + j) = 0 ∧ X.1 (A.2.1 (a + j)) (fun c => c = X.2.2.2.1 (n1 + j))) {q : Nat} (fr : List gv_Fr) (K : List (Nat × Int)) (w : Nat) (M : gv_Mm) {v : Int} (hv : v ≠ -2 ∧ (0 ≤ v → v = m ∧ q + m ≤ fed ∧ ∀ i, i < m → sub (q + i) = X.2.2.2.1 (n1 + i)) ∧ (v < 0 → v = -1 ∧ ¬ (q + m ≤ fed ∧ ∀ i, i < m → sub (q + i) = X.2.2.2.1 (n1 + i)))) : ∀ (d i : Nat), i + d = m → q + i ≤ fed → (∀ j, j < i → sub (q + j) = X.2.2.2.1 (n1 + j)) → gv_P A ((a : Int) + i, q + i, fr, K, w, M) d 0 (gv_G ((a + m : Nat) : Int) q v [] fr K w M) := by
  intro d
  induction d with
  | zero =>
    intro i hi hq h
    have : i = m := by omega
    subst this
    refine gv_P_r 0 ⟨fun h0 => ?_, fun h1 => ?_⟩
    · have e := (hv.2.1 h0).1
      have e1 : v.toNat = i := by omega
      rw [e1]
      show ((0 : Nat), (a : Int) + i, q + i, fr, K, w, M) = (0, ((a + i : Nat) : Int), q + i, fr, [] ++ K, w, M)
      rw [List.nil_append, Int.natCast_add]
    · exact absurd ⟨hq, h⟩ (hv.2.2 (by omega)).2
  | succ d ih =>
    intro i hi hq h
    obtain ⟨o, x⟩ := hL i (by omega)
    have st := gv_s0 (A := A) (a := a + i) (by omega) o (q + i) fr K w M
    have hh := hd _ _ (q + i) hq x
    rw [Int.natCast_add] at st
    by_cases c : A.2.2.2.2.2.2.1 (A.2.1 (a + i)) (q + i) = true
    · rw [if_pos c] at st
      have c1 := hh.mp c
      have nx := ih (i + 1) (by omega) (by omega) (fun j hj => by
        by_cases e : j = i
        · rw [e]; exact c1.2
        · exact h j (by omega))
      rw [show ((i + 1 : Nat) : Int) = (i : Int) + 1 by omega, ← Int.add_assoc, ← Nat.add_assoc] at nx
      rw [Nat.add_comm d 1]
      exact gv_P_s st rfl nx
    · rw [if_neg c, lo] at st
      refine gv_P_w (gv_P_1 (G := gv_G ((a + m : Nat) : Int) q v [] fr K w M) st ⟨fun h0 => ?_, fun _ => ⟨[], _, _, rfl⟩⟩) (by omega) (fun _ g => g)
      exfalso
      obtain ⟨e1, e2, e3⟩ := hv.2.1 h0
      exact c (hh.mpr ⟨by omega, e3 i (by omega)⟩)
