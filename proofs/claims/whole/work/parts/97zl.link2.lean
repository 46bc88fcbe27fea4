/-! The links, as the law finds them. -/
theorem gs_ty_e {A r r' : Int32} {u : gm_S × gm_S} {u' s0 s t : gm_S} (e : (r, u) = gm_f_GM_type A (s0, s)) (e' : (r', u') = gm_f_MD_type A t) (h : gs_TK s t) (hW : gm_iW 50 (t.2.2 2) (t.1 3)) : r = r' ∧ gs_TK u.2 u' := by
  have q := gs_ty A s t h hW
  have a1 : r = (gm_f_Row_append 50 A s).1 := congrArg Prod.fst e
  have a2 : u.2.2.2 1 = (gm_f_Row_append 50 A s).2.2.2 1 := congrArg (fun z : Int32 × gm_S × gm_S => z.2.2.2.2 1) e
  have a3 : u.2.1 0 = (gm_f_Row_append 50 A s).2.1 0 := congrArg (fun z : Int32 × gm_S × gm_S => z.2.2.1 0) e
  rw [← e'] at q
  obtain ⟨q1, q2, q3⟩ := q
  refine ⟨a1.trans q1, a2.trans q2, fun k hk => ?_⟩
  rw [a3]
  exact q3 k hk
theorem gs_fd_e {A r r' : Int32} {u : gm_S × gm_S} {u' s0 s t : gm_S} (e : (r, u) = gm_f_GM_feed A (s0, s)) (e' : (r', u') = gm_f_MD_feed A t) (h : gs_SK s t) (hW : gm_iW 10 (t.2.2 32) (t.1 33)) : r = r' ∧ gs_SK u.2 u' := by
  have q := gs_fd A s t h hW
  have g : (gm_f_GM_feed A (s0, s)).1 = (gm_f_Row_append 10 A s).1 ∧ (gm_f_GM_feed A (s0, s)).2.2.2.2 1 = (gm_f_Row_append 10 A s).2.2.2 1 ∧ (gm_f_GM_feed A (s0, s)).2.2.1 0 = (gm_f_Row_append 10 A s).2.1 0 := by
    unfold gm_f_GM_feed
    refine gf_ca (Q := fun z : Int32 × gm_S × gm_S => z.1 = (gm_f_Row_append 10 A s).1 ∧ z.2.2.2.2 1 = (gm_f_Row_append 10 A s).2.2.2 1 ∧ z.2.2.1 0 = (gm_f_Row_append 10 A s).2.1 0) (fun z => z = gm_f_Row_append 10 A s) rfl (fun r u hu => ?_)
    rw [← hu]
    exact gf_if (Q := fun z : Int32 × gm_S × gm_S => z.1 = (r, u).1 ∧ z.2.2.2.2 1 = (r, u).2.2.2 1 ∧ z.2.2.1 0 = (r, u).2.1 0) (fun _ => ⟨rfl, rfl, rfl⟩) (fun _ => ⟨rfl, rfl, rfl⟩)
  rw [← e] at g
  rw [← e'] at q
  obtain ⟨g1, g2, g3⟩ := g
  obtain ⟨q1, q2, q3⟩ := q
  refine ⟨g1.trans q1, g2.trans q2, fun k hk => ?_⟩
  have g3 : u.2.1 0 = (gm_f_Row_append 10 A s).2.1 0 := g3
  rw [g3]
  exact q3 k hk
theorem gs_TK_0 {s t : gm_S} (a : s.2.2 1 = 0) (b : t.2.2 2 = 0) : gs_TK s t := by
  refine ⟨a.trans b.symm, fun k hk => ?_⟩
  rw [b] at hk
  exact absurd (show (k : Int) < 0 from hk) (by omega)
theorem gs_SK_0 {s t : gm_S} (a : s.2.2 1 = 0) (b : t.2.2 32 = 0) : gs_SK s t := by
  refine ⟨a.trans b.symm, fun k hk => ?_⟩
  rw [b] at hk
  exact absurd (show (k : Int) < 0 from hk) (by omega)
theorem gs_wp_e {r r' : Int32} {u : gm_S × gm_S} {u' s0 s t : gm_S} (e : (r, u) = gm_f_GM_wipe (s0, s)) (e' : (r', u') = gm_f_MD_wipe t) : u.2.2.2 1 = 0 ∧ u'.2.2 2 = 0 := ⟨congrArg (fun z : Int32 × gm_S × gm_S => z.2.2.2.2 1) e, congrArg (fun z : Int32 × gm_S => z.2.2.2 2) e'⟩
theorem gs_cl_e {r r' : Int32} {u : gm_S × gm_S} {u' s0 s t : gm_S} (e : (r, u) = gm_f_GM_clear (s0, s)) (e' : (r', u') = gm_f_MD_clear t) : u.2.2.2 1 = 0 ∧ u'.2.2 32 = 0 := ⟨congrArg (fun z : Int32 × gm_S × gm_S => z.2.2.2.2 1) e, congrArg (fun z : Int32 × gm_S => z.2.2.2 32) e'⟩
theorem gs_ft_e {r r' : Int32} {u u' s t : gm_S} (e : (r, u) = gm_f_GM_fault s) (e' : (r', u') = gm_f_MD_fault t) (h : s.2.2 7 = t.2.2 1) : r = r' := (show r = s.2.2 7 from congrArg Prod.fst e).trans (h.trans (show r' = t.2.2 1 from congrArg Prod.fst e').symm)
theorem gs_em_e {A r r' : Int32} {u : gm_S × gm_S × gm_S × gm_S} {u' s0 s3 s4 s18 s6 t : gm_S} (e : (r, u) = gm_f_LW_empty A (s0, s3, s4, s18)) (e' : (r', u') = gm_f_MD_empty A t) (h : gs_GK s0 s4 s6 t) (hb : ∀ j, t.1 15 j = 0 ∨ t.1 15 j = 1) : gs_eQ (r, u) (r', u') := by
  rw [e, e']
  exact gs_emptyL A s0 s3 s4 s18 s6 t h hb
theorem gs_hd_e {A B r r' : Int32} {u : gm_S × gm_S × gm_S × gm_S} {u' s0 s3 s4 s18 s6 t : gm_S} (e : (r, u) = gm_f_LW_head A B (s0, s3, s4, s18)) (e' : (r', u') = gm_f_MD_head A B t) (h : gs_GK s0 s4 s6 t) : gs_eQ (r, u) (r', u') := by
  rw [e, e']
  exact gs_headL A B s0 s3 s4 s18 s6 t h
theorem gs_cr_e {r r' : Int32} {u : gm_S × gm_S × gm_S × gm_S × gm_S × gm_S × gm_S × gm_S} {u' s0 s1 s8 s9 s10 s11 s12 s18 t : gm_S} (e : (r, u) = gm_f_LW_compile_r (s0, s1, s8, s9, s10, s11, s12, s18)) (e' : (r', u') = gm_f_MD_compile t) (hT : gs_TK s1 t) (hI : gp_RI t) (h2 : gm_iT (s9.2.2 11) (s9.2.2 12) (s9.2.2 13) (s9.1 2) (s9.1 3) (s9.1 4) (s9.1 5) (s9.1 10)) (h4 : gm_iN 75 (s12.2.2 3)) (h1 : gm_iW 50 (s1.2.2 1) (s1.1 0)) (hz : (gm_f_GM_compile (s0, s1, s8, s9, s10, s11, s12)).1 = 0) : gs_crQ (s0, s1, s8, s9, s10, s11, s12, s18) t (r, u) (r', u') := by
  rw [e, e']
  exact gs_law_cr s0 s1 s8 s9 s10 s11 s12 s18 t hT hI h2 h4 h1 hz
theorem gs_ct_e {r r' : Int32} {u : gm_S × gm_S × gm_S × gm_S × gm_S × gm_S × gm_S × gm_S} {u' s0 s1 s8 s9 s10 s11 s12 s18 t : gm_S} (e : (r, u) = gm_f_LW_compile_t (s0, s1, s8, s9, s10, s11, s12, s18)) (e' : (r', u') = gm_f_MD_compile t) (hT : gs_TK s1 t) (hI : gp_RI t) (h2 : gm_iT (s9.2.2 11) (s9.2.2 12) (s9.2.2 13) (s9.1 2) (s9.1 3) (s9.1 4) (s9.1 5) (s9.1 10)) (h4 : gm_iN 75 (s12.2.2 3)) (h1 : gm_iW 50 (s1.2.2 1) (s1.1 0)) (hz : ¬ (gm_f_GM_compile (s0, s1, s8, s9, s10, s11, s12)).1 = 0) : gs_ctQ (s0, s1, s8, s9, s10, s11, s12, s18) t (r, u) (r', u') := by
  rw [e, e']
  exact gs_law_ct s0 s1 s8 s9 s10 s11 s12 s18 t hT hI h2 h4 h1 hz
theorem gs_GK_r {r r' : Int32} {u : gm_S × gm_S × gm_S × gm_S × gm_S × gm_S × gm_S × gm_S} {u' t : gm_S} {S : gm_S × gm_S × gm_S × gm_S × gm_S × gm_S × gm_S × gm_S} (h : gs_crQ S t (r, u) (r', u')) : gs_GK u.1 u.2.2.2.1 u.2.2.2.2.2.1 u' := by
  obtain ⟨-, -, -, h5, -, -, -, h4, hp⟩ := h
  exact Or.inr ⟨h5, h4, hp⟩
theorem gs_GK_t {r r' : Int32} {u : gm_S × gm_S × gm_S × gm_S × gm_S × gm_S × gm_S × gm_S} {u' t s0 s4 s6 : gm_S} {S : gm_S × gm_S × gm_S × gm_S × gm_S × gm_S × gm_S} (h : gs_ctQ (s0, S) t (r, u) (r', u')) (g : gs_GK s0 s4 s6 t) : gs_GK u.1 s4 s6 u' := by
  obtain ⟨-, -, h5, -, -, -, h4, hs⟩ := h
  have h5 : u.1.2.2 5 = s0.2.2 5 := h5
  have h4 : u'.2.2 4 = t.2.2 4 := h4
  rcases g with ⟨g1, g2⟩ | ⟨g1, g2, tx, ty, R, f, p1, p2, p3⟩
  · exact Or.inl ⟨h5.trans g1, h4.trans g2⟩
  · refine Or.inr ⟨by rw [h5]; exact g1, by rw [h4]; exact g2, tx, ty, R, f, p1, ?_, p3⟩
    rw [h4]
    exact gs_half_same (hs g2) p2
