/-! What was matched last, as both sides know it; match, work, nodes and node alike. -/
theorem gs_o4 {x : Int32} {S S' : gm_S} (h : S.1 1 = S'.1 1) : ∀ (F : Nat) (v : Int32) (U U' : gm_S), (gm_f_Captures_outerOf_4 275 x S F v U).1 = (gm_f_Captures_outerOf_4 275 x S' F v U').1 := by
  intro F
  induction F with
  | zero => intro v U U'; rfl
  | succ F ih =>
    intro v U U'
    rw [gm_f_Captures_outerOf_4, gm_f_Captures_outerOf_4, h]
    by_cases a : v < 0
    · rw [if_pos a, if_pos a]
    · rw [if_neg a, if_neg a]
      by_cases b : S'.1 1 (Int32.toNatClampNeg v) < S'.1 1 (Int32.toNatClampNeg x)
      · rw [if_pos b, if_pos b]
        exact ih _ _ _
      · rw [if_neg b, if_neg b]
theorem gs_oO {x : Int32} {S S' : gm_S} (h : S.1 1 = S'.1 1) : (gm_f_Captures_outerOf 275 x S).1 = (gm_f_Captures_outerOf 275 x S').1 := gs_o4 h _ _ _ _
/-- a state with these captures alone -/
def gs_K1 (n : Int32) (b e : Nat → Int32) : gm_S := (fun k => if k = 0 then b else e, fun _ _ => 0, fun _ => n)
theorem gs_nk1 {K m : gm_S} (h : gs_nk K m) : gs_nk (gs_K1 (K.2.2 2) (K.1 0) (K.1 1)) m := by
  obtain ⟨h1, h2, h3⟩ := h
  refine ⟨h1, h2, fun i hi => ?_⟩
  obtain ⟨a, b, c⟩ := h3 i hi
  exact ⟨a, b, fun x hx => (gs_oO (S := gs_K1 (K.2.2 2) (K.1 0) (K.1 1)) (S' := K) rfl).trans (c x hx)⟩
/-- what was matched last -/
def gs_MK (s0 s13 s14 s17 : gm_S) : Prop := (s0.2.2 6 = 0 ∧ s17.2.2 39 = 0) ∨ (¬ s0.2.2 6 = 0 ∧ ¬ s17.2.2 39 = 0 ∧ s13.2.2 14 = s17.2.2 40 ∧ gs_nk (gs_K1 (s14.2.2 2) (s14.1 0) (s14.1 1)) s17)
def gs_mrQ (z : Int32 × (gm_S × gm_S × gm_S × gm_S × gm_S × gm_S × gm_S × gm_S × gm_S × gm_S)) (z' : Int32 × gm_S) : Prop := z.1 = 0 ∧ z'.2.2.2 0 = 0 ∧ z.2.2.2.2.2.2.2.2.2.2.2.1 0 (Int32.toNatClampNeg 0) = z'.1.toInt64 ∧ gs_MK z.2.1 z.2.2.1 z.2.2.2.2.1 z'.2
theorem gs_mr_e {x r r' : Int32} {u : gm_S × gm_S × gm_S × gm_S × gm_S × gm_S × gm_S × gm_S × gm_S × gm_S} {u' s0 s13 s2 s14 s15 s16 s3 s6 s4 s18 t : gm_S} (e : (r, u) = gm_f_LW_match_r x (s0, s13, s2, s14, s15, s16, s3, s6, s4, s18)) (e' : (r', u') = gm_f_MD_match x t) (hGK : gs_GK s0 s4 s6 t) (hSK : gs_SK s2 t) (hI : gp_RI t) (hz : (gm_f_GM_match x (s0, s13, s2, s14, s15, s16, s3, s6, s4)).1 = 0) : gs_mrQ (r, u) (r', u') := by
  have hc : ¬ s0.2.2 5 = 0 := by
    intro q
    unfold gm_f_GM_match at hz
    dsimp only at hz
    rw [if_pos q] at hz
    exact absurd (show (2 : Int32) = 0 from hz) (by decide)
  obtain ⟨⟨m1, m2⟩, m3, m4, m5⟩ := gs_mtch x (s13 := s13) (s14 := s14) (s15 := s15) (s16 := s16) (s3 := s3) hGK hSK hI hc
  rw [e, e']
  generalize gm_f_MD_match x t = m at m1 m2 m3 m4 m5 ⊢
  unfold gm_f_LW_match_r gm_f_GM_match
  dsimp only
  rw [if_neg hc]
  generalize gm_f_Runner_run x (s13, s2, s14, s15, s16, s3, s6, s4) = g at m3 m4 m5 ⊢
  have m6 := gs_nk1 m5
  have m7 : ¬ m.2.2.2 39 = 0 := by rw [m1]; decide
  have m8 : ¬ (1 : Int32) = 0 := by decide
  refine ⟨rfl, m2, ?_, Or.inr ⟨m8, m7, m4, m6⟩⟩
  show vp_updL (s18.2.1 0) (Int32.toNatClampNeg 0) g.1.toInt64 (Int32.toNatClampNeg 0) = _
  rw [gx_lus, m3]
def gs_mtQ (s0 s13 s14 : gm_S) (z : Int32 × (gm_S × gm_S × gm_S × gm_S × gm_S × gm_S × gm_S × gm_S × gm_S × gm_S)) (z' : Int32 × gm_S) : Prop := ¬ z.1 = 0 ∧ z'.2.2.2 0 = z.1 ∧ gs_MK z.2.1 z.2.2.1 z.2.2.2.2.1 z'.2
theorem gs_mt_e {x r r' : Int32} {u : gm_S × gm_S × gm_S × gm_S × gm_S × gm_S × gm_S × gm_S × gm_S × gm_S} {u' s0 s13 s2 s14 s15 s16 s3 s6 s4 s18 t : gm_S} (e : (r, u) = gm_f_LW_match_t x (s0, s13, s2, s14, s15, s16, s3, s6, s4, s18)) (e' : (r', u') = gm_f_MD_match x t) (hGK : gs_GK s0 s4 s6 t) (hMK : gs_MK s0 s13 s14 t) (hz : ¬ (gm_f_GM_match x (s0, s13, s2, s14, s15, s16, s3, s6, s4)).1 = 0) : gs_mtQ s0 s13 s14 (r, u) (r', u') := by
  have hc : s0.2.2 5 = 0 := by
    by_cases q : s0.2.2 5 = 0
    · exact q
    · unfold gm_f_GM_match at hz
      dsimp only at hz
      rw [if_neg q] at hz
      exact absurd rfl hz
  have hb : t.2.2 4 = -1 := by
    rcases hGK with ⟨-, h⟩ | ⟨h, -⟩
    · exact h
    · exact absurd hc h
  rw [e, e']
  have em : gm_f_MD_match x t = (0, (t.1, t.2.1, va_up t.2.2 0 1)) := by
    unfold gm_f_MD_match
    rw [if_pos hb]
    rfl
  rw [em]
  unfold gm_f_LW_match_t gm_f_GM_match
  dsimp only
  rw [if_pos hc]
  exact ⟨show ¬ (1 : Int32) = 0 by decide, rfl, hMK⟩
theorem gs_wk_e {r r' : Int32} {u : gm_S × gm_S} {u' s0 s13 s14 t : gm_S} (e : (r, u) = gm_f_GM_work (s0, s13)) (e' : (r', u') = gm_f_MD_work t) (h : gs_MK s0 s13 s14 t) : r = r' := by
  have a : r = (gm_f_GM_work (s0, s13)).1 := congrArg Prod.fst e
  have a' : r' = (gm_f_MD_work t).1 := congrArg Prod.fst e'
  rw [a, a']
  unfold gm_f_GM_work gm_f_MD_work
  dsimp only
  rcases h with ⟨h1, h2⟩ | ⟨h1, h2, h3, -⟩
  · rw [if_pos h1, if_pos h2]
  · rw [if_neg h1, if_neg h2]
    exact h3
theorem gs_ns_e {r r' : Int32} {u : gm_S × gm_S × gm_S} {u' s0 s13 s14 t : gm_S} (e : (r, u) = gm_f_GM_nodes (s0, s13, s14)) (e' : (r', u') = gm_f_MD_nodes t) (h : gs_MK s0 s13 s14 t) : r = r' := by
  have a : r = (gm_f_GM_nodes (s0, s13, s14)).1 := congrArg Prod.fst e
  have a' : r' = (gm_f_MD_nodes t).1 := congrArg Prod.fst e'
  rw [a, a']
  unfold gm_f_GM_nodes gm_f_MD_nodes
  dsimp only
  rcases h with ⟨h1, h2⟩ | ⟨h1, h2, -, h3, -⟩
  · rw [if_pos h1, if_pos h2]
  · rw [if_neg h1, if_neg h2]
    exact h3
/-- how node ends -/
def gs_nQ (z : Int32 × (gm_S × gm_S × gm_S × gm_S)) (z' : Int32 × gm_S) : Prop := z'.2.2.2 0 = z.1 ∧ (z.1 = 0 → z.2.2.2.2.2.1 0 (Int32.toNatClampNeg 0) = z'.1.toInt64)
theorem gs_nd_e {x y r r' : Int32} {u : gm_S × gm_S × gm_S × gm_S} {u' s0 s13 s14 s18 t : gm_S} (e : (r, u) = gm_f_LW_node x y (s0, s13, s14, s18)) (e' : (r', u') = gm_f_MD_node x y t) (h : gs_MK s0 s13 s14 t) : gs_nQ (r, u) (r', u') := by
  rw [e, e']
  unfold gm_f_LW_node gm_f_GM_node gm_f_MD_node
  dsimp only
  have f1 : ∀ (k9 : Int32) (m : Int32 × gm_S), k9 = 4 → m.2.2.2 0 = 1 → gs_nQ (gm_b3 (k9, (0 : Int32), (s0, s13, s14)) (fun r5 u5 => (0, (s0, s13, s14, (s18.1, (va_up s18.2.1 0 (vp_updL (s18.2.1 0) (Int32.toNatClampNeg 0) r5.toInt64)), s18.2.2)))) (fun k9 u9 => (if k9 = 4 then (1, (s0, s13, s14, s18)) else (2, (s0, s13, s14, s18))))) m := by
    intro k m hk hm
    subst hk
    exact ⟨hm, fun q => absurd (show (1 : Int32) = 0 from q) (by decide)⟩
  have f2 : ∀ (k9 : Int32) (m : Int32 × gm_S), k9 = 1 → m.2.2.2 0 = 2 → gs_nQ (gm_b3 (k9, (0 : Int32), (s0, s13, s14)) (fun r5 u5 => (0, (s0, s13, s14, (s18.1, (va_up s18.2.1 0 (vp_updL (s18.2.1 0) (Int32.toNatClampNeg 0) r5.toInt64)), s18.2.2)))) (fun k9 u9 => (if k9 = 4 then (1, (s0, s13, s14, s18)) else (2, (s0, s13, s14, s18))))) m := by
    intro k m hk hm
    subst hk
    exact ⟨hm, fun q => absurd (show (2 : Int32) = 0 from q) (by decide)⟩
  have f0 : ∀ (v : Int32) (m : Int32 × gm_S), m.2.2.2 0 = 0 → v = m.1 → gs_nQ (gm_b3 ((0 : Int32), v, (s0, s13, s14)) (fun r5 u5 => (0, (s0, s13, s14, (s18.1, (va_up s18.2.1 0 (vp_updL (s18.2.1 0) (Int32.toNatClampNeg 0) r5.toInt64)), s18.2.2)))) (fun k9 u9 => (if k9 = 4 then (1, (s0, s13, s14, s18)) else (2, (s0, s13, s14, s18))))) m := by
    intro v m h0 hv
    subst hv
    refine ⟨h0, fun _ => ?_⟩
    show vp_updL (s18.2.1 0) (Int32.toNatClampNeg 0) m.1.toInt64 (Int32.toNatClampNeg 0) = _
    rw [gx_lus]
  rcases h with ⟨h1, h2⟩ | ⟨h1, h2, -, h3⟩
  · rw [if_pos h1, if_pos h2]
    exact f1 4 _ rfl rfl
  rw [if_neg h1, if_neg h2]
  by_cases a : x < 0
  · rw [if_pos a, if_pos a]
    exact f1 4 _ rfl rfl
  rw [if_neg a, if_neg a]
  obtain ⟨k1, k2, k3⟩ := h3
  have k1 : s14.2.2 2 = t.2.2 41 := k1
  rw [k1]
  by_cases b : x < t.2.2 41
  · rw [if_pos b, if_pos b]
    have a1 := gx_ltnr (k := 0) (by decide) a
    have b1 := Int32.lt_iff_toInt_lt.mp b
    have cx := gx_cl x (by omega)
    obtain ⟨c1, c2, c3⟩ := k3 (Int32.toNatClampNeg x) (by omega)
    have c1 : s14.1 0 (Int32.toNatClampNeg x) = t.1 42 (Int32.toNatClampNeg x) := c1
    have c2 : s14.1 1 (Int32.toNatClampNeg x) = t.1 43 (Int32.toNatClampNeg x) := c2
    have c3 : (gm_f_Captures_outerOf 275 x s14).1 = t.1 44 (Int32.toNatClampNeg x) := (gs_oO (S := s14) (S' := gs_K1 (s14.2.2 2) (s14.1 0) (s14.1 1)) rfl).trans (c3 x (by omega))
    by_cases y0 : y = 0
    · subst y0
      rw [if_neg (show ¬ (0 : Int32) < 0 by decide), if_pos (show (0 : Int32) ≤ 2 by decide), if_neg (show ¬ (0 : Int32) = 2 by decide), if_pos rfl, if_pos rfl]
      exact f0 _ _ rfl c1
    by_cases y1 : y = 1
    · subst y1
      rw [if_neg (show ¬ (1 : Int32) < 0 by decide), if_pos (show (1 : Int32) ≤ 2 by decide), if_neg (show ¬ (1 : Int32) = 2 by decide), if_neg (show ¬ (1 : Int32) = 0 by decide), if_neg (show ¬ (1 : Int32) = 0 by decide), if_pos rfl]
      exact f0 _ _ rfl c2
    by_cases y2 : y = 2
    · subst y2
      rw [if_neg (show ¬ (2 : Int32) < 0 by decide), if_pos (show (2 : Int32) ≤ 2 by decide), if_pos rfl, if_neg (show ¬ (2 : Int32) = 0 by decide), if_neg (show ¬ (2 : Int32) = 1 by decide), if_pos rfl]
      exact f0 _ _ rfl c3
    by_cases yn : y < 0
    · rw [if_pos yn, if_neg y0, if_neg y1, if_neg y2]
      exact f2 1 _ rfl rfl
    rw [if_neg yn]
    by_cases yl : y ≤ 2
    · exfalso
      rw [Int32.le_iff_toInt_le] at yl
      have l2 : (2 : Int32).toInt = 2 := by decide
      have l1 : (1 : Int32).toInt = 1 := by decide
      have l0 : (0 : Int32).toInt = 0 := by decide
      have q := gx_ltnr (k := 0) (by decide) yn
      have : y.toInt = 0 ∨ y.toInt = 1 ∨ y.toInt = 2 := by omega
      rcases this with w | w | w
      · exact y0 (Int32.toInt_inj.mp (by rw [w, l0]))
      · exact y1 (Int32.toInt_inj.mp (by rw [w, l1]))
      · exact y2 (Int32.toInt_inj.mp (by rw [w, l2]))
    · rw [if_neg yl, if_neg y0, if_neg y1, if_neg y2]
      exact f2 1 _ rfl rfl
  · rw [if_neg b, if_neg b]
    exact f1 4 _ rfl rfl
theorem gs_MK_same {t s0 s13 s14 : gm_S} (g : gs_MK s0 s13 s14 t) (v w : gm_S) (v1 : v.2.2 6 = s0.2.2 6) (w1 : w.2.2 39 = t.2.2 39) (w2 : w.2.2 40 = t.2.2 40) (w3 : w.2.2 41 = t.2.2 41) (w4 : w.1 42 = t.1 42) (w5 : w.1 43 = t.1 43) (w6 : w.1 44 = t.1 44) : gs_MK v s13 s14 w := by
  rcases g with ⟨g1, g2⟩ | ⟨g1, g2, g3, g4, g5, g6⟩
  · exact Or.inl ⟨v1.trans g1, w1.trans g2⟩
  · refine Or.inr ⟨by rw [v1]; exact g1, by rw [w1]; exact g2, by rw [w2]; exact g3, by rw [w3]; exact g4, by rw [w3]; exact g5, ?_⟩
    rw [w3, w4, w5, w6]
    exact g6
/-- feed: a match is forgotten on both sides, or on none -/
theorem gs_MK_f {A r r' : Int32} {u : gm_S × gm_S} {u' s0 s t s13 s14 : gm_S} (e : (r, u) = gm_f_GM_feed A (s0, s)) (e' : (r', u') = gm_f_MD_feed A t) (hr : r = r') (h : gs_MK s0 s13 s14 t) : ∀ v w : gm_S, v.2.2 6 = u.1.2.2 6 → w.2.2 39 = u'.2.2 39 → w.2.2 40 = t.2.2 40 → w.2.2 41 = t.2.2 41 → w.1 42 = t.1 42 → w.1 43 = t.1 43 → w.1 44 = t.1 44 → gs_MK v s13 s14 w := by
  intro v w v1 w1 w2 w3 w4 w5 w6
  have g : ((gm_f_GM_feed A (s0, s)).1 = 0 ∧ (gm_f_GM_feed A (s0, s)).2.1 = s0) ∨ (¬ (gm_f_GM_feed A (s0, s)).1 = 0 ∧ (gm_f_GM_feed A (s0, s)).2.1.2.2 6 = 0) := by
    unfold gm_f_GM_feed
    refine gf_ca (Q := fun z : Int32 × gm_S × gm_S => (z.1 = 0 ∧ z.2.1 = s0) ∨ (¬ z.1 = 0 ∧ z.2.1.2.2 6 = 0)) (fun z => z = gm_f_Row_append 10 A s) rfl (fun r u hu => ?_)
    exact gf_if (Q := fun z : Int32 × gm_S × gm_S => (z.1 = 0 ∧ z.2.1 = s0) ∨ (¬ z.1 = 0 ∧ z.2.1.2.2 6 = 0)) (fun q => Or.inl ⟨q, rfl⟩) (fun q => Or.inr ⟨q, rfl⟩)
  have g' : ((gm_f_MD_feed A t).1 = 0 ∧ (gm_f_MD_feed A t).2 = (t.1, t.2.1, va_up t.2.2 0 0)) ∨ (¬ (gm_f_MD_feed A t).1 = 0 ∧ (gm_f_MD_feed A t).2.2.2 39 = 0) := by
    unfold gm_f_MD_feed
    by_cases a : A < 32
    · rw [if_pos a]; exact Or.inl ⟨rfl, rfl⟩
    rw [if_neg a]
    by_cases b : 126 < A
    · rw [if_pos b]; exact Or.inl ⟨rfl, rfl⟩
    rw [if_neg b]
    by_cases c : t.2.2 32 = 10
    · rw [if_pos c]; exact Or.inl ⟨rfl, rfl⟩
    · rw [if_neg c]; exact Or.inr ⟨show ¬ (1 : Int32) = 0 by decide, rfl⟩
  rw [← e] at g
  rw [← e'] at g'
  rcases g with ⟨g1, g2⟩ | ⟨g1, g2⟩
  · rcases g' with ⟨k1, k2⟩ | ⟨k1, k2⟩
    · have g2 : u.1 = s0 := g2
      have k2 : u' = (t.1, t.2.1, va_up t.2.2 0 0) := k2
      have g3 : u.1.2.2 6 = s0.2.2 6 := by rw [g2]
      have k3 : u'.2.2 39 = t.2.2 39 := by rw [k2]; rfl
      exact gs_MK_same h v w (v1.trans g3) (w1.trans k3) w2 w3 w4 w5 w6
    · exact absurd (hr.symm.trans g1) k1
  · rcases g' with ⟨k1, k2⟩ | ⟨k1, k2⟩
    · exact absurd (hr.trans k1) g1
    · exact Or.inl ⟨v1.trans g2, w1.trans k2⟩
theorem gs_MK_c {r r' : Int32} {u : gm_S × gm_S} {u' s0 s t : gm_S} (e : (r, u) = gm_f_GM_clear (s0, s)) (e' : (r', u') = gm_f_MD_clear t) (v s13 s14 w : gm_S) (v1 : v.2.2 6 = u.1.2.2 6) (w1 : w.2.2 39 = u'.2.2 39) : gs_MK v s13 s14 w := Or.inl ⟨v1.trans (congrArg (fun z : Int32 × gm_S × gm_S => z.2.1.2.2 6) e), w1.trans (congrArg (fun z : Int32 × gm_S => z.2.2.2 39) e')⟩
theorem gs_MK_r {r r' : Int32} {u : gm_S × gm_S × gm_S × gm_S × gm_S × gm_S × gm_S × gm_S} {u' t : gm_S} {S : gm_S × gm_S × gm_S × gm_S × gm_S × gm_S × gm_S × gm_S} (h : gs_crQ S t (r, u) (r', u')) (v s13 s14 w : gm_S) (v1 : v.2.2 6 = u.1.2.2 6) (w1 : w.2.2 39 = u'.2.2 39) : gs_MK v s13 s14 w := by
  obtain ⟨-, -, -, -, h6, -, h39, -⟩ := h
  exact Or.inl ⟨v1.trans h6, w1.trans h39⟩
/-- what compile leaves alone, as the law puts the two states together -/
theorem gs_MK_t {r r' : Int32} {u : gm_S × gm_S × gm_S × gm_S × gm_S × gm_S × gm_S × gm_S} {u' t s0 s13 s14 : gm_S} {S : gm_S × gm_S × gm_S × gm_S × gm_S × gm_S × gm_S} (h : gs_ctQ (s0, S) t (r, u) (r', u')) (g : gs_MK s0 s13 s14 t) (v w : gm_S) (v1 : v.2.2 6 = u.1.2.2 6) (w1 : w.2.2 39 = u'.2.2 39) (w2 : w.2.2 40 = t.2.2 40) (w3 : w.2.2 41 = t.2.2 41) (w4 : w.1 42 = t.1 42) (w5 : w.1 43 = t.1 43) (w6 : w.1 44 = t.1 44) : gs_MK v s13 s14 w := by
  obtain ⟨-, -, -, h6, -, h39, -, -⟩ := h
  exact gs_MK_same g v w (v1.trans h6) (w1.trans h39) w2 w3 w4 w5 w6
