/-! The machine that looks: tries, looks, and each expression. -/
theorem gv_cut_a (K' K : List (Nat × Int)) : gv_cut (K' ++ K) K.length = K := by
  unfold gv_cut
  rw [List.length_append, show K'.length + K.length - K.length = K'.length by omega, List.drop_left]
theorem gv_fl_F {t : Int} (ht : ¬ t = -1) (q : Nat) (fr : List gv_Fr) (K' K : List (Nat × Int)) (w : Nat) (M : gv_Mm) (a' : Int) (q' : Nat) : gv_fl true ((t, q, K.length, -1) :: fr) (K' ++ K) w M a' q' = (0, t, q, fr, K, w, M) := by
  rw [gv_fl]
  rw [if_pos rfl, if_neg ht, gv_cut_a]
theorem gv_fl_N (q m : Nat) (fr : List gv_Fr) (K : List (Nat × Int)) (w : Nat) (M : gv_Mm) (a' : Int) (q' : Nat) : gv_fl true ((-1, q, m, -1) :: fr) K w M a' q' = gv_fl true fr K w M a' q' := by
  rw [gv_fl]
  rw [if_pos rfl, if_pos rfl]
theorem gv_fl_R {r : Int} (hr : ¬ r = -1) (t : Int) (q m : Nat) (fr : List gv_Fr) (K : List (Nat × Int)) (w : Nat) (M : gv_Mm) (a' : Int) (q' : Nat) : gv_fl true ((t, q, m, r) :: fr) K w M a' q' = gv_fl true fr K w M a' q' := by
  rw [gv_fl]
  rw [if_neg hr, if_pos rfl]
/-- a try -/
theorem gv_try {A : gv_A} (lo : A.2.2.2.2.2.2.2 = true) {l Nx tx : Nat} {t : Int} (hl : l < A.2.2.2.2.1) (ho : A.1 l = 2) (ht : (A.2.2.1 l).toInt = t) {q : Nat} {fr : List gv_Fr} {K : List (Nat × Int)} {w : Nat} {M : gv_Mm} {G : gv_Sx → Prop} (hf : fr.length < 550) (hx : gv_P A (((l + 1 : Nat) : Int), q, (t, q, K.length, -1) :: fr, K, w + 1, M) Nx tx G) : gv_P A ((l : Nat), q, fr, K, w, M) (1 + gv_g (1000 - w) Nx) (1 + tx) G := by
  have st := gv_s2 hl ho q fr K w M
  rw [lo, ht] at st
  by_cases c : 1000 ≤ w
  · rw [if_pos ⟨rfl, c⟩] at st
    refine ⟨fun a => ?_, fun _ b => ⟨_, gv_to_w (gv_to_1 st) (by omega), rfl, ?_⟩⟩
    · have a : w + (1 + tx) ≤ 1000 := a
      omega
    · have b : w ≤ 1000 := b
      show w = 1000
      omega
  · rw [if_neg (fun h => c h.2), if_pos rfl] at st
    unfold gv_pu at st
    rw [if_pos hf, show (l : Int) + 1 = ((l + 1 : Nat) : Int) by omega] at st
    have eg : gv_g (1000 - w) Nx = Nx := if_neg (by omega)
    rw [eg]
    refine ⟨fun a => ?_, fun a b => ?_⟩
    · have a : w + (1 + tx) ≤ 1000 := a
      obtain ⟨s, s1, s2⟩ := hx.1 (by show w + 1 + tx ≤ 1000; omega)
      exact ⟨s, gv_to_t (gv_to_1 st) s1, s2⟩
    · have a : 1000 < w + (1 + tx) := a
      obtain ⟨s, s1, s2⟩ := hx.2 (by show 1000 < w + 1 + tx; omega) (by show w + 1 ≤ 1000; omega)
      exact ⟨s, gv_to_t (gv_to_1 st) s1, s2⟩
/-- a look that lets in -/
theorem gv_lk_y {A : gv_A} {X : gt_X} {C : gv_C} {f : Nat → Int × Lean.ParserDescr} {fed : Nat} {sub : Nat → Int} (h : gv_X A X C f fed sub) {x : Lean.ParserDescr} {a l t : Nat} (hk : gt_lk X A.1 A.2.1 A.2.2.1 x a l t) (hl : l < A.2.2.2.2.1) {q : Nat} (hq : q ≤ fed) (hy : C.2.2.2 x q = true) {fr : List gv_Fr} {K : List (Nat × Int)} {w : Nat} {M : gv_Mm} {N tt : Nat} {G : gv_Sx → Prop} (hx : gv_P A ((l : Nat), q, fr, K, w, M) N tt G) : gv_P A ((a : Nat), q, fr, K, w, M) (1 + N) tt G := by
  rcases hk with ⟨-, e⟩ | ⟨e1, e2, e3, e4, e5⟩
  · subst e
    exact gv_P_w hx (by omega) (fun _ g => g)
  · have st := gv_s1 (a := a) (by omega) e3 q fr K w M
    have hh := h.1 _ _ q hq e5
    have c : A.2.2.2.2.2.2.1 (A.2.1 a) q = true := hh.mpr (((h.2.1 x q hq).mp hy).resolve_left e1)
    rw [c, if_neg (fun w => absurd w.2 (by decide)), show (a : Int) + 1 = ((a + 1 : Nat) : Int) by omega, ← e2] at st
    exact gv_P_s st rfl hx
/-- a look that spares -/
theorem gv_lk_n {A : gv_A} (lo : A.2.2.2.2.2.2.2 = true) {X : gt_X} {C : gv_C} {f : Nat → Int × Lean.ParserDescr} {fed : Nat} {sub : Nat → Int} (h : gv_X A X C f fed sub) {x : Lean.ParserDescr} {a l t : Nat} (hk : gt_lk X A.1 A.2.1 A.2.2.1 x a l t) (hl : l < A.2.2.2.2.1) {q : Nat} (hq : q ≤ fed) (hy : ¬ C.2.2.2 x q = true) {fr : List gv_Fr} {K : List (Nat × Int)} {w : Nat} {M : gv_Mm} {N tt : Nat} {G : gv_Sx → Prop} (hx : gv_P A ((t : Nat), q, fr, K, w, M) N tt G) : gv_P A ((a : Nat), q, fr, K, w, M) (1 + N) tt G := by
  have hh := h.2.1 x q hq
  rcases hk with ⟨e, -⟩ | ⟨e1, e2, e3, e4, e5⟩
  · exact absurd (hh.mpr (Or.inl e)) hy
  · have st := gv_s1 (a := a) (by omega) e3 q fr K w M
    have hd := h.1 _ _ q hq e5
    have c : ¬ A.2.2.2.2.2.2.1 (A.2.1 a) q = true := fun w => hy (hh.mpr (Or.inr (hd.mp w)))
    have c : A.2.2.2.2.2.2.1 (A.2.1 a) q = false := by
      cases q : A.2.2.2.2.2.2.1 (A.2.1 a) q with
      | true => exact absurd q c
      | false => rfl
    rw [c, lo, if_pos ⟨rfl, rfl⟩, e4] at st
    exact gv_P_s st rfl hx
/-- what has failed -/
theorem gv_G_f {b b' : Int} {q : Nat} {v : Int} {L L' : List (Nat × Nat)} {fr : List gv_Fr} {K : List (Nat × Int)} {w : Nat} {M : gv_Mm} {s : gv_Sx} (h : gv_G b q v L fr K w M s) (hv : v = -1) : gv_G b' q v L' fr K w M s := ⟨fun h0 => absurd h0 (by omega), h.2⟩
theorem gv_star_ne (C : gv_C) (nm : Lean.Name) (x : Lean.ParserDescr) : ∀ (k q : Nat), gv_v C k (.node nm 7 x) q ≠ -1 := by
  intro k
  induction k with
  | zero => intro q; show (-2 : Int) ≠ -1; omega
  | succ k ih =>
    intro q
    have g := gv_v_ge C k x q
    have g2 := gv_v_ge C k (.node nm 7 x) (q + (gv_v C k x q).toNat)
    have i2 := ih (q + (gv_v C k x q).toNat)
    rw [gv_v]
    rw [if_neg (by omega), if_pos rfl]
    repeat' split
    all_goals omega
/-- an option -/
theorem gv_E6 {A : gv_A} (lo : A.2.2.2.2.2.2.2 = true) {X : gt_X} {C : gv_C} {f : Nat → Int × Lean.ParserDescr} {fed k : Nat} {sub : Nat → Int} (h : gv_X A X C f fed sub) {nm : Lean.Name} {x : Lean.ParserDescr} (ih : gv_E A X C fed k x) : gv_E A X C fed (k + 1) (.node nm 6 x) := by
  intro q hv a b hL hb hq hdf fr K w M hfr hK
  have ev : gv_v C (k + 1) (.node nm 6 x) q = if C.2.2.2 x q = true then (if gv_v C k x q = -1 then 0 else gv_v C k x q) else 0 := rfl
  have ec : gv_c C (k + 1) (.node nm 6 x) q = if C.2.2.2 x q = true then 1 + gv_c C k x q else 0 := rfl
  have eL : gv_L C (k + 1) (.node nm 6 x) q = if C.2.2.2 x q = true then (if gv_v C k x q = -1 then [] else gv_L C k x q) else [] := rfl
  have ed : gv_d C (k + 1) (.node nm 6 x) q = if C.2.2.2 x q = true then 1 + gv_d C k x q else 0 := rfl
  have ep : gv_p C (k + 1) (.node nm 6 x) q = if C.2.2.2 x q = true then gv_p C k x q else 0 := rfl
  have es : gv_s C (k + 1) (.node nm 6 x) q (1000 - w) = if C.2.2.2 x q = true then 3 + gv_g (1000 - w) (gv_s C k x q (1000 - (w + 1))) else 1 := rfl
  rcases hL with ⟨-, l, m, l1, l2, l3, l4, l5, l6, -, l7⟩ | ⟨n, -⟩ | ⟨n, -⟩ | ⟨n, -⟩
  · have lm := gt_L_le _ _ _ l4
    by_cases y : C.2.2.2 x q = true
    · rw [if_pos y] at ev ec eL ed ep es
      rw [ed] at hfr
      rw [ep] at hK
      rw [ev] at hv
      have g := gv_v_ge C k x q
      have vx : gv_v C k x q ≠ -2 := by
        intro e
        rw [e] at hv
        exact hv rfl
      have t := gv_try lo (t := (b : Nat)) (by omega) l2 l3 (q := q) (fr := fr) (K := K) (w := w) (M := M) (by omega) (ih q vx (l + 1) m l4 (by omega) hq hdf _ K (w + 1) M (by show fr.length + 1 + _ ≤ 550; omega) hK)
      have t2 := gv_P_b (N2 := 1) (t2 := 0) (G2 := gv_G b q (gv_v C (k + 1) (.node nm 6 x) q) (gv_L C (k + 1) (.node nm 6 x) q) fr K (w + gv_c C (k + 1) (.node nm 6 x) q) M) t (fun _ s hs => ?_)
      · rw [es, ec]
        exact gv_P_w (gv_lk_y h l1 (by omega) hq y t2) (by omega) (fun _ g => by rw [ec] at g; exact g)
      · rw [ev, eL, ec]
        by_cases v1 : gv_v C k x q = -1
        · obtain ⟨K', a', q', e⟩ := hs.2 v1
          rw [gv_fl_F (by omega)] at e
          refine ⟨_, e, by show w + 1 + _ = w + (1 + _); omega, gv_P_r 1 ⟨fun _ => ?_, fun w => absurd w (by rw [if_pos v1]; omega)⟩⟩
          rw [if_pos v1, if_pos v1, show w + 1 + gv_c C k x q = w + (1 + gv_c C k x q) by omega]
          rfl
        · have e := hs.1 (by omega)
          refine ⟨_, e, by show w + 1 + _ = w + (1 + _); omega, ?_⟩
          have st := gv_s5 (A := A) (a := m) (by omega) l5 (q + (gv_v C k x q).toNat) ((((b : Nat) : Int), q, K.length, -1) :: fr) (gv_rv (gv_L C k x q) ++ K) (w + 1 + gv_c C k x q) M
          rw [l6 rfl] at st
          refine gv_P_1 st ⟨fun _ => ?_, fun w => absurd w (by rw [if_neg v1]; omega)⟩
          rw [if_neg v1, if_neg v1, show w + 1 + gv_c C k x q = w + (1 + gv_c C k x q) by omega]
          rfl
    · rw [if_neg y] at ev ec eL es
      rw [ev, ec, eL, es]
      exact gv_lk_n lo h l1 (by omega) hq y (N := 0) (gv_P_r 0 ⟨fun _ => rfl, fun w => absurd w (by omega)⟩)
  · omega
  · omega
  · omega
/-- a star -/
theorem gv_E7 {A : gv_A} (lo : A.2.2.2.2.2.2.2 = true) {X : gt_X} {C : gv_C} {f : Nat → Int × Lean.ParserDescr} {fed k : Nat} {sub : Nat → Int} (h : gv_X A X C f fed sub) {nm : Lean.Name} {x : Lean.ParserDescr} (ih : gv_E A X C fed k x) (ih2 : gv_E A X C fed k (.node nm 7 x)) : gv_E A X C fed (k + 1) (.node nm 7 x) := by
  intro q hv a b hL hb hq hdf fr K w M hfr hK
  have hL0 := hL
  have ev : gv_v C (k + 1) (.node nm 7 x) q = if C.2.2.2 x q = true then (if gv_v C k x q = -1 then 0 else if gv_v C k x q = -2 then -2 else if gv_v C k (.node nm 7 x) (q + (gv_v C k x q).toNat) = -2 then -2 else gv_v C k x q + gv_v C k (.node nm 7 x) (q + (gv_v C k x q).toNat)) else 0 := rfl
  have ec : gv_c C (k + 1) (.node nm 7 x) q = if C.2.2.2 x q = true then (if gv_v C k x q < 0 then 1 + gv_c C k x q else 1 + gv_c C k x q + gv_c C k (.node nm 7 x) (q + (gv_v C k x q).toNat)) else 0 := rfl
  have eL : gv_L C (k + 1) (.node nm 7 x) q = if C.2.2.2 x q = true then (if gv_v C k x q < 0 then [] else gv_L C k x q ++ gv_L C k (.node nm 7 x) (q + (gv_v C k x q).toNat)) else [] := rfl
  have ed : gv_d C (k + 1) (.node nm 7 x) q = if C.2.2.2 x q = true then (if gv_v C k x q < 0 then 1 + gv_d C k x q else max (1 + gv_d C k x q) (gv_d C k (.node nm 7 x) (q + (gv_v C k x q).toNat))) else 0 := rfl
  have ep : gv_p C (k + 1) (.node nm 7 x) q = if C.2.2.2 x q = true then (if gv_v C k x q < 0 then gv_p C k x q else max (gv_p C k x q) ((gv_L C k x q).length + gv_p C k (.node nm 7 x) (q + (gv_v C k x q).toNat))) else 0 := rfl
  have es : gv_s C (k + 1) (.node nm 7 x) q (1000 - w) = if C.2.2.2 x q = true then (if gv_v C k x q < 0 then 3 + gv_g (1000 - w) (gv_s C k x q (1000 - (w + 1))) else 3 + gv_g (1000 - w) (gv_s C k x q (1000 - (w + 1))) + gv_h (1 + gv_c C k x q) (1000 - w) (gv_s C k (.node nm 7 x) (q + (gv_v C k x q).toNat) (1000 - w - (1 + gv_c C k x q)))) else 1 := rfl
  rcases hL with ⟨-, l, m, l1, l2, l3, l4, l5, -, l6, l7⟩ | ⟨n, -⟩ | ⟨n, -⟩ | ⟨n, -⟩
  · have lm := gt_L_le _ _ _ l4
    have lx := gt_lk_le l1
    by_cases y : C.2.2.2 x q = true
    · rw [if_pos y] at ev ec eL ed ep es
      have g := gv_v_ge C k x q
      have sn := gv_star_ne C nm x k (q + (gv_v C k x q).toNat)
      have sg := gv_v_ge C k (.node nm 7 x) (q + (gv_v C k x q).toNat)
      have vl := gv_v_le h k x q hq
      have vx : gv_v C k x q ≠ -2 := by
        intro e
        rw [e] at ev
        exact hv ev
      by_cases v1 : gv_v C k x q = -1
      · have v0 : gv_v C k x q < 0 := by omega
        rw [if_pos v0] at ec eL ed ep es
        rw [if_pos v1] at ev
        rw [ed] at hfr
        rw [ep] at hK
        have t := gv_try lo (t := (b : Nat)) (by omega) l2 l3 (q := q) (fr := fr) (K := K) (w := w) (M := M) (by omega) (ih q vx (l + 1) m l4 (by omega) hq hdf _ K (w + 1) M (by show fr.length + 1 + _ ≤ 550; omega) hK)
        rw [ev, ec, eL, es]
        refine gv_P_w (gv_lk_y h l1 (by omega) hq y (gv_P_w t (Nat.le_refl _) (fun s hs => ?_))) (by omega) (fun _ g => g)
        obtain ⟨K', a', q', e⟩ := hs.2 v1
        rw [gv_fl_F (by omega)] at e
        refine ⟨fun _ => ?_, fun w => absurd w (by omega)⟩
        rw [e, show w + 1 + gv_c C k x q = w + (1 + gv_c C k x q) by omega]
        rfl
      · have v0 : ¬ gv_v C k x q < 0 := by omega
        rw [if_neg v0] at ec eL ed ep es
        rw [if_neg v1, if_neg vx] at ev
        have vs : gv_v C k (.node nm 7 x) (q + (gv_v C k x q).toNat) ≠ -2 := by
          intro e
          rw [if_pos e] at ev
          exact hv ev
        rw [if_neg vs] at ev
        rw [ed] at hfr
        rw [ep] at hK
        have t := gv_try lo (t := (b : Nat)) (by omega) l2 l3 (q := q) (fr := fr) (K := K) (w := w) (M := M) (by omega) (ih q vx (l + 1) m l4 (by omega) hq hdf _ K (w + 1) M (by show fr.length + 1 + _ ≤ 550; omega) (by omega))
        have t2 := gv_P_b2 (N2 := 1 + gv_s C k (.node nm 7 x) (q + (gv_v C k x q).toNat) (1000 - w - (1 + gv_c C k x q))) (t2 := gv_c C k (.node nm 7 x) (q + (gv_v C k x q).toNat)) (G2 := gv_G b q (gv_v C (k + 1) (.node nm 7 x) q) (gv_L C (k + 1) (.node nm 7 x) q) fr K (w + gv_c C (k + 1) (.node nm 7 x) q) M) t (fun _ s hs => ?_)
        · rw [es]
          have t3 := gv_lk_y h l1 (by omega) hq y t2
          rw [← ec] at t3
          have h1 := gv_h_1 (1 + gv_c C k x q) (1000 - w) (gv_s C k (.node nm 7 x) (q + (gv_v C k x q).toNat) (1000 - w - (1 + gv_c C k x q)))
          refine gv_P_w t3 ?_ (fun _ g => g)
          show 1 + (1 + gv_g (1000 - w) (gv_s C k x q (1000 - (w + 1))) + gv_h (1 + gv_c C k x q) (1000 - w) (1 + gv_s C k (.node nm 7 x) (q + (gv_v C k x q).toNat) (1000 - w - (1 + gv_c C k x q)))) ≤ _
          omega
        · have e := hs.1 (by omega)
          refine ⟨_, e, by show w + 1 + _ = w + (1 + _); omega, ?_⟩
          have st := gv_s5 (A := A) (a := m) (by omega) l5 (q + (gv_v C k x q).toNat) ((((b : Nat) : Int), q, K.length, -1) :: fr) (gv_rv (gv_L C k x q) ++ K) (w + 1 + gv_c C k x q) M
          rw [l6 rfl] at st
          have nx := ih2 (q + (gv_v C k x q).toNat) vs a b hL0 hb (by omega) hdf fr (gv_rv (gv_L C k x q) ++ K) (w + 1 + gv_c C k x q) M (by omega) (by rw [List.length_append, gv_rv_l]; omega)
          rw [show 1000 - (w + 1 + gv_c C k x q) = 1000 - w - (1 + gv_c C k x q) by omega] at nx
          refine gv_P_s st rfl (gv_P_w nx (Nat.le_refl _) (fun s hs => ⟨fun _ => ?_, fun w => absurd w (by omega)⟩))
          have e2 := hs.1 (by omega)
          rw [e2, ev, ec, eL, gv_rv_a, List.append_assoc, show w + (1 + gv_c C k x q + gv_c C k (.node nm 7 x) (q + (gv_v C k x q).toNat)) = w + 1 + gv_c C k x q + gv_c C k (.node nm 7 x) (q + (gv_v C k x q).toNat) by omega]
          rw [show q + (gv_v C k x q).toNat + (gv_v C k (.node nm 7 x) (q + (gv_v C k x q).toNat)).toNat = q + (gv_v C k x q + gv_v C k (.node nm 7 x) (q + (gv_v C k x q).toNat)).toNat by omega]
    · rw [if_neg y] at ev ec eL es
      rw [ev, ec, eL, es]
      exact gv_lk_n lo h l1 (by omega) hq y (N := 0) (gv_P_r 0 ⟨fun _ => rfl, fun w => absurd w (by omega)⟩)
  · omega
  · omega
  · omega
/-- and -/
theorem gv_E8 {A : gv_A} (lo : A.2.2.2.2.2.2.2 = true) {X : gt_X} {C : gv_C} {fed k : Nat} {nm : Lean.Name} {x : Lean.ParserDescr} (ih : gv_E A X C fed k x) : gv_E A X C fed (k + 1) (.node nm 8 x) := by
  intro q hv a b hL hb hq hdf fr K w M hfr hK
  have ev : gv_v C (k + 1) (.node nm 8 x) q = if 0 ≤ gv_v C k x q then 0 else gv_v C k x q := rfl
  have ec : gv_c C (k + 1) (.node nm 8 x) q = 1 + gv_c C k x q := rfl
  have eL : gv_L C (k + 1) (.node nm 8 x) q = [] := rfl
  have ed : gv_d C (k + 1) (.node nm 8 x) q = 1 + gv_d C k x q := rfl
  have ep : gv_p C (k + 1) (.node nm 8 x) q = gv_p C k x q := rfl
  have es : gv_s C (k + 1) (.node nm 8 x) q (1000 - w) = 2 + gv_g (1000 - w) (gv_s C k x q (1000 - (w + 1))) := rfl
  rcases hL with ⟨n, -⟩ | ⟨-, m, l1, l2, l3, l4, l5⟩ | ⟨n, -⟩ | ⟨n, -⟩
  · omega
  · have lm := gt_L_le _ _ _ l3
    have g := gv_v_ge C k x q
    have vx : gv_v C k x q ≠ -2 := by
      intro e
      rw [e] at ev
      exact hv ev
    rw [ed] at hfr
    rw [ep] at hK
    have t := gv_try lo (t := -1) (by omega) l1 (by rw [l2]; decide) (q := q) (fr := fr) (K := K) (w := w) (M := M) (by omega) (ih q vx (a + 1) m l3 (by omega) hq hdf _ K (w + 1) M (by show fr.length + 1 + _ ≤ 550; omega) hK)
    rw [ec, eL, es]
    by_cases v0 : 0 ≤ gv_v C k x q
    · rw [if_pos v0] at ev
      rw [ev]
      have t2 := gv_P_b (N2 := 1) (t2 := 0) (G2 := gv_G b q 0 [] fr K (w + (1 + gv_c C k x q)) M) t (fun _ s hs => ?_)
      · exact gv_P_w t2 (by omega) (fun _ g => g)
      · refine ⟨_, hs.1 v0, by show w + 1 + _ = w + (1 + _); omega, ?_⟩
        have st := gv_s6 (A := A) (a := m) (by omega) l4 (q + (gv_v C k x q).toNat) (-1, q, K.length, -1) fr (gv_rv (gv_L C k x q) ++ K) (w + 1 + gv_c C k x q) M
        refine gv_P_1 st ⟨fun _ => ?_, fun w => absurd w (by omega)⟩
        show ((0 : Nat), (m : Int) + 1, q, fr, gv_cut (gv_rv (gv_L C k x q) ++ K) K.length, w + 1 + gv_c C k x q, M) = (0, (b : Int), q, fr, K, w + (1 + gv_c C k x q), M)
        rw [gv_cut_a, l5, show w + 1 + gv_c C k x q = w + (1 + gv_c C k x q) by omega]
        rfl
    · rw [if_neg v0] at ev
      rw [ev]
      refine gv_P_w t (by omega) (fun s hs => ⟨fun w => absurd w v0, fun v1 => ?_⟩)
      obtain ⟨K', a', q', e⟩ := hs.2 v1
      rw [gv_fl_N] at e
      exact ⟨K', a', q', by rw [e, show w + 1 + gv_c C k x q = w + (1 + gv_c C k x q) by omega]⟩
  · omega
  · omega
/-- not -/
theorem gv_E9 {A : gv_A} (lo : A.2.2.2.2.2.2.2 = true) {X : gt_X} {C : gv_C} {fed k : Nat} {nm : Lean.Name} {x : Lean.ParserDescr} (ih : gv_E A X C fed k x) : gv_E A X C fed (k + 1) (.node nm 9 x) := by
  intro q hv a b hL hb hq hdf fr K w M hfr hK
  have ev : gv_v C (k + 1) (.node nm 9 x) q = if 0 ≤ gv_v C k x q then -1 else if gv_v C k x q = -1 then 0 else -2 := rfl
  have ec : gv_c C (k + 1) (.node nm 9 x) q = 1 + gv_c C k x q := rfl
  have eL : gv_L C (k + 1) (.node nm 9 x) q = [] := rfl
  have ed : gv_d C (k + 1) (.node nm 9 x) q = 1 + gv_d C k x q := rfl
  have ep : gv_p C (k + 1) (.node nm 9 x) q = gv_p C k x q := rfl
  have es : gv_s C (k + 1) (.node nm 9 x) q (1000 - w) = 2 + gv_g (1000 - w) (gv_s C k x q (1000 - (w + 1))) := rfl
  rcases hL with ⟨n, -⟩ | ⟨n, -⟩ | ⟨-, m, l1, l2, l3, l4, l5⟩ | ⟨n, -⟩
  · omega
  · omega
  · have lm := gt_L_le _ _ _ l3
    have g := gv_v_ge C k x q
    have vx : gv_v C k x q ≠ -2 := by
      intro e
      rw [e] at ev
      exact hv ev
    rw [ed] at hfr
    rw [ep] at hK
    have t := gv_try lo (t := (b : Nat)) (by omega) l1 l2 (q := q) (fr := fr) (K := K) (w := w) (M := M) (by omega) (ih q vx (a + 1) m l3 (by omega) hq hdf _ K (w + 1) M (by show fr.length + 1 + _ ≤ 550; omega) hK)
    rw [ec, eL, es]
    by_cases v0 : 0 ≤ gv_v C k x q
    · rw [if_pos v0] at ev
      rw [ev]
      have t2 := gv_P_b (N2 := 1) (t2 := 0) (G2 := gv_G b q (-1) [] fr K (w + (1 + gv_c C k x q)) M) t (fun _ s hs => ?_)
      · exact gv_P_w t2 (by omega) (fun _ g => g)
      · refine ⟨_, hs.1 v0, by show w + 1 + _ = w + (1 + _); omega, ?_⟩
        have st := gv_s7 (A := A) (a := m) (by omega) l4 (q + (gv_v C k x q).toNat) ((((b : Nat) : Int), q, K.length, -1) :: fr) (gv_rv (gv_L C k x q) ++ K) (w + 1 + gv_c C k x q) M
        rw [lo] at st
        refine gv_P_1 st ⟨fun w => absurd w (by omega), fun _ => ⟨gv_rv (gv_L C k x q), (m : Int), q + (gv_v C k x q).toNat, ?_⟩⟩
        rw [show w + 1 + gv_c C k x q = w + (1 + gv_c C k x q) by omega]
        rfl
    · have v1 : gv_v C k x q = -1 := by omega
      rw [if_neg v0, if_pos v1] at ev
      rw [ev]
      refine gv_P_w t (by omega) (fun s hs => ⟨fun _ => ?_, fun w => absurd w (by omega)⟩)
      obtain ⟨K', a', q', e⟩ := hs.2 v1
      rw [gv_fl_F (by omega)] at e
      rw [e, show w + 1 + gv_c C k x q = w + (1 + gv_c C k x q) by omega]
      rfl
  · omega
theorem gv_cl_r (y : Int) (q : Nat) (K : List (Nat × Int)) : ∀ L : List (Nat × Int), (∀ x, x ∈ L → ¬ x.2 = -1) → gv_cl (L ++ (q, -1) :: K) y = L ++ (q, y) :: K := by
  intro L
  induction L with
  | nil => intro _; rfl
  | cons x r ih =>
    intro hx
    show gv_cl (x :: (r ++ (q, -1) :: K)) y = x :: (r ++ (q, y) :: K)
    rw [gv_cl, if_neg (hx x (List.mem_cons_self ..)), ih (fun z hz => hx z (List.mem_cons_of_mem _ hz))]
theorem gv_rv_n (L : List (Nat × Nat)) : ∀ x, x ∈ gv_rv L → ¬ x.2 = -1 := by
  intro x hx
  unfold gv_rv at hx
  rw [List.mem_reverse, List.mem_map] at hx
  obtain ⟨y, -, e⟩ := hx
  rw [← e]
  show ¬ (y.2 : Int) = -1
  omega
/-- a capture -/
theorem gv_E10 {A : gv_A} {X : gt_X} {C : gv_C} {fed k : Nat} {nm : Lean.Name} {x : Lean.ParserDescr} (ih : gv_E A X C fed k x) : gv_E A X C fed (k + 1) (.node nm 10 x) := by
  intro q hv a b hL hb hq hdf fr K w M hfr hK
  have ev : gv_v C (k + 1) (.node nm 10 x) q = gv_v C k x q := rfl
  have ec : gv_c C (k + 1) (.node nm 10 x) q = gv_c C k x q := rfl
  have eL : gv_L C (k + 1) (.node nm 10 x) q = (q, q + (gv_v C k x q).toNat) :: gv_L C k x q := rfl
  have ed : gv_d C (k + 1) (.node nm 10 x) q = gv_d C k x q := rfl
  have ep : gv_p C (k + 1) (.node nm 10 x) q = 1 + gv_p C k x q := rfl
  have es : gv_s C (k + 1) (.node nm 10 x) q (1000 - w) = 2 + gv_s C k x q (1000 - w) := rfl
  rcases hL with ⟨n, -⟩ | ⟨n, -⟩ | ⟨n, -⟩ | ⟨-, m, l1, l3, l4, l5⟩
  · omega
  · omega
  · omega
  · have lm := gt_L_le _ _ _ l3
    have g := gv_v_ge C k x q
    rw [ev] at hv
    rw [ed] at hfr
    rw [ep] at hK
    have st := gv_s10 (A := A) (a := a) (by omega) l1 q fr K w M
    unfold gv_ad at st
    rw [if_pos (by omega), show (a : Int) + 1 = ((a + 1 : Nat) : Int) by omega] at st
    have t := ih q hv (a + 1) m l3 (by omega) hq hdf fr ((q, -1) :: K) w M hfr (by show K.length + 1 + _ ≤ 275; omega)
    rw [ev, ec, eL, es]
    by_cases v0 : 0 ≤ gv_v C k x q
    · have t2 := gv_P_b (N2 := 1) (t2 := 0) (G2 := gv_G b q (gv_v C k x q) ((q, q + (gv_v C k x q).toNat) :: gv_L C k x q) fr K (w + gv_c C k x q) M) t (fun _ s hs => ?_)
      · exact gv_P_w (gv_P_s st rfl t2) (by omega) (fun _ g => g)
      · refine ⟨_, hs.1 v0, rfl, ?_⟩
        have st2 := gv_s11 (A := A) (a := m) (by omega) l4 (q + (gv_v C k x q).toNat) fr (gv_rv (gv_L C k x q) ++ (q, -1) :: K) (w + gv_c C k x q) M
        rw [gv_cl_r _ _ _ _ (gv_rv_n _)] at st2
        refine gv_P_1 st2 ⟨fun _ => ?_, fun w => absurd w (by omega)⟩
        have e : gv_rv ((q, q + (gv_v C k x q).toNat) :: gv_L C k x q) = gv_rv (gv_L C k x q) ++ [(q, ((q + (gv_v C k x q).toNat : Nat) : Int))] := by
          unfold gv_rv
          rw [List.map_cons, List.reverse_cons]
        rw [e, List.append_assoc, l5, show (m : Int) + 1 = ((m + 1 : Nat) : Int) by omega]
        rfl
    · refine gv_P_w (gv_P_s st rfl t) (by omega) (fun s hs => ⟨fun w => absurd w v0, fun v1 => ?_⟩)
      obtain ⟨K', a', q', e⟩ := hs.2 v1
      exact ⟨K' ++ [(q, -1)], a', q', by rw [e, List.append_assoc]; rfl⟩
