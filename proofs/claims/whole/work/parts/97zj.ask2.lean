/-! Both sides are asked: head. -/
def gs_hb (tx : Nat → Int) (ty : Nat) (f : Nat → Int × Lean.ParserDescr) (R : Nat) (c : Int) (r : Nat) : Prop := 32 ≤ c ∧ c ≤ 126 ∧ gq_lH tx ty f R c r
theorem gs_hb_of {tx : Nat → Int} {ty : Nat} {f : Nat → Int × Lean.ParserDescr} {R r n : Nat} {lw hg : Nat → Int64} {y : Int} (h : ∀ c : Int, 32 ≤ c → c ≤ 126 → (gp_ih lw hg n c ↔ gq_lH tx ty f R c r)) : gp_ih lw hg n y ↔ gs_hb tx ty f R y r := by
  constructor
  · intro t
    have b : 32 ≤ y ∧ y ≤ 126 := by
      rcases t with t | t
      · exact ⟨t.1, by omega⟩
      · exact ⟨by omega, t.2.1⟩
    exact ⟨b.1, b.2, (h y b.1 b.2).mp t⟩
  · rintro ⟨a, b, t⟩
    exact (h y a b).mpr t
theorem gs_headC (x y : Int32) (s0 s3 s4 s18 : gm_S) {tx : Nat → Int} {ty R : Nat} {f : Nat → Int × Lean.ParserDescr} (h : ¬ s0.2.2 5 = 0 → (∀ r, r < R → (s4.1 9 r).toInt = (f r).1 ∧ 0 ≤ (s4.1 10 r).toInt ∧ (s4.1 10 r).toInt < (s4.2.2 11).toInt ∧ ∀ c : Int, 32 ≤ c → c ≤ 126 → (gp_ih (s4.2.1 7) (s4.2.1 8) (Int32.toNatClampNeg (s4.1 10 r)) c ↔ gq_lH tx ty f R c r)) ∧ (s4.2.2 13).toInt = R ∧ R ≤ 8) : gs_lQ (s0.2.2 5 = 0) R (gq_fx f x.toInt R) (gs_hb tx ty f R y.toInt (gq_fx f x.toInt R)) (gm_f_LW_head x y (s0, s3, s4, s18)) := by
  have d1 : (-1 : Int32).toInt = -1 := by decide
  unfold gm_f_LW_head
  refine gf_b3 (Q := gs_lQ (s0.2.2 5 = 0) R (gq_fx f x.toInt R) (gs_hb tx ty f R y.toInt (gq_fx f x.toInt R))) (gs_qQ (s0.2.2 5 = 0) R (gq_fx f x.toInt R) (gs_hb tx ty f R y.toInt (gq_fx f x.toInt R))) ?_ (fun r u hr => ?_) (fun n r u hn hr => ?_)
  · unfold gm_f_GM_head
    refine gf_if (Q := gs_qQ (s0.2.2 5 = 0) R (gq_fx f x.toInt R) (gs_hb tx ty f R y.toInt (gq_fx f x.toInt R))) (fun q => Or.inl ⟨q, rfl⟩) (fun q => ?_)
    have q : ¬ s0.2.2 5 = 0 := q
    obtain ⟨h1, h2, h3⟩ := h q
    refine gf_ca (Q := gs_qQ (s0.2.2 5 = 0) R (gq_fx f x.toInt R) (gs_hb tx ty f R y.toInt (gq_fx f x.toInt R))) (gs_aQ s4 R (gq_fx f x.toInt R)) (gs_rootOf x s4 (fun r hr => (h1 r hr).1) h2 h3) (fun r u hr => ?_)
    rcases hr with ⟨e, hr⟩ | ⟨e, hr⟩
    · have hr : r = -1 := hr
      exact gf_if (Q := gs_qQ (s0.2.2 5 = 0) R (gq_fx f x.toInt R) (gs_hb tx ty f R y.toInt (gq_fx f x.toInt R))) (fun _ => Or.inr (Or.inl ⟨q, e, rfl⟩)) (fun w => absurd hr w)
    · have hr : r = s4.1 10 (gq_fx f x.toInt R) := hr
      have w := h1 _ e
      have hr0 : 0 ≤ r.toInt := by rw [hr]; exact w.2.1
      have hr1 : r.toInt < (s4.2.2 11).toInt := by rw [hr]; exact w.2.2.1
      refine gf_if (Q := gs_qQ (s0.2.2 5 = 0) R (gq_fx f x.toInt R) (gs_hb tx ty f R y.toInt (gq_fx f x.toInt R))) (fun t => ?_) (fun _ => ?_)
      · rw [t, d1] at hr0
        exfalso; omega
      · refine gf_ca (Q := gs_qQ (s0.2.2 5 = 0) R (gq_fx f x.toInt R) (gs_hb tx ty f R y.toInt (gq_fx f x.toInt R))) (gs_haQ s4 r y) (gs_holds r y s4 hr0 hr1) (fun r2 u2 h2 => ?_)
        refine Or.inr (Or.inr ⟨q, e, rfl, ?_⟩)
        have hb : gp_ih (s4.2.1 7) (s4.2.1 8) (Int32.toNatClampNeg r) y.toInt ↔ (gs_hb tx ty f R y.toInt (gq_fx f x.toInt R)) := by
          rw [hr]
          exact gs_hb_of w.2.2.2
        show r2 = 0 ↔ _
        rw [← hb]
        rcases h2 with ⟨t, t2⟩ | ⟨t, t2⟩
        · have t : r2 = 0 := t
          exact ⟨fun _ => t2, fun _ => t⟩
        · have t : r2 = 1 := t
          exact ⟨fun w => absurd w (by rw [t]; decide), fun w => absurd t2 w⟩
  · rcases hr with ⟨a, hr⟩ | ⟨a, e, hr⟩ | ⟨a, e, -, hr⟩
    · exact absurd (show (0 : Int32) = 2 from hr) (by decide)
    · exact absurd (show (0 : Int32) = 4 from hr) (by decide)
    · have hr : r = 0 ↔ _ := hr
      refine gf_if (Q := gs_lQ (s0.2.2 5 = 0) R (gq_fx f x.toInt R) (gs_hb tx ty f R y.toInt (gq_fx f x.toInt R))) (fun t => Or.inr (Or.inr ⟨a, e, rfl, Or.inr ⟨hr.mp t, ?_⟩⟩)) (fun t => Or.inr (Or.inr ⟨a, e, rfl, Or.inl ⟨Classical.not_not.mp (fun w => t (hr.mpr w)), ?_⟩⟩))
      · show vp_updL (s18.2.1 0) (Int32.toNatClampNeg 0) 0 (Int32.toNatClampNeg 0) = 0
        exact gx_lus _ _ _
      · show vp_updL (s18.2.1 0) (Int32.toNatClampNeg 0) 1 (Int32.toNatClampNeg 0) = 1
        exact gx_lus _ _ _
  · rcases hr with ⟨a, hr⟩ | ⟨a, e, hr⟩ | ⟨a, e, hr, -⟩
    · have hr : n = 2 := hr
      exact gf_if (Q := gs_lQ (s0.2.2 5 = 0) R (gq_fx f x.toInt R) (gs_hb tx ty f R y.toInt (gq_fx f x.toInt R))) (fun _ => Or.inl ⟨a, rfl⟩) (fun t => absurd hr t)
    · have hr : n = 4 := hr
      exact gf_if (Q := gs_lQ (s0.2.2 5 = 0) R (gq_fx f x.toInt R) (gs_hb tx ty f R y.toInt (gq_fx f x.toInt R))) (fun t => absurd t (by rw [hr]; decide)) (fun _ => Or.inr (Or.inl ⟨a, e, rfl⟩))
    · exact absurd hr hn
theorem gs_headM (x y : Int32) (S : gm_S) {tx : Nat → Int} {ty R : Nat} {f : Nat → Int × Lean.ParserDescr} (h : ¬ S.2.2 4 = -1 → gs_half tx ty R f (S.2.2 4) S) : gs_mdQ (S.2.2 4 = -1) R (gq_fx f x.toInt R) (gs_hb tx ty f R y.toInt (gq_fx f x.toInt R)) (gm_f_MD_head x y S) := by
  unfold gm_f_MD_head
  by_cases q : S.2.2 4 = -1
  · refine gf_ca (Q := gs_mdQ (S.2.2 4 = -1) R (gq_fx f x.toInt R) (gs_hb tx ty f R y.toInt (gq_fx f x.toInt R))) (fun z : Int32 × gm_S => z.2.2.2 0 = 1) ?_ (fun r u hr => ?_)
    · unfold gm_f_MD_asked gm_f_MD_asked_j21
      rw [if_pos q, if_pos q]
      rfl
    · have hr : u.2.2 0 = 1 := hr
      exact gf_if (Q := gs_mdQ (S.2.2 4 = -1) R (gq_fx f x.toInt R) (gs_hb tx ty f R y.toInt (gq_fx f x.toInt R))) (fun t => absurd t (by rw [hr]; decide)) (fun _ => Or.inl ⟨q, hr⟩)
  · refine gf_ca (Q := gs_mdQ (S.2.2 4 = -1) R (gq_fx f x.toInt R) (gs_hb tx ty f R y.toInt (gq_fx f x.toInt R))) (gs_kQ S R (gq_fx f x.toInt R)) (gs_asked x S q (h q)) (fun r u hr => ?_)
    obtain ⟨Pg, nA, nC, ⟨t, t1, t2, hU⟩, hG, -, -, e1, -⟩ := h q
    rcases hr with ⟨e, hr⟩ | ⟨e, hr, hr2⟩
    · have hr : u.2.2 0 = 2 := hr
      exact gf_if (Q := gs_mdQ (S.2.2 4 = -1) R (gq_fx f x.toInt R) (gs_hb tx ty f R y.toInt (gq_fx f x.toInt R))) (fun t => absurd t (by rw [hr]; decide)) (fun _ => Or.inr (Or.inl ⟨q, e, hr⟩))
    · have hr : u.2.2 0 = 0 := hr
      have hr2 : r = S.1 8 (8 * Int32.toNatClampNeg (S.2.2 4) + gq_fx f x.toInt R) := hr2
      obtain ⟨⟨f0, f1⟩, ⟨p0, p1⟩, ⟨r0, r1⟩, hS, hN⟩ := hU
      have ch := (hG.2.1 _ e).2.1
      have cc := gp_ch_cl ch
      have cf := gx_cl (S.2.2 4) f0
      have cp := gx_cl _ p0
      rw [← hr2] at cc
      have hM : gp_M (S.2.2 4) (S.1 9) = 160 * Int32.toNatClampNeg (S.2.2 4) + Int32.toNatClampNeg ((S.1 9) (Int32.toNatClampNeg (S.2.2 4))) := rfl
      have w : gp_ih (S.2.1 17) (S.2.1 18) (Int32.toNatClampNeg r) y.toInt ↔ (gs_hb tx ty f R y.toInt (gq_fx f x.toInt R)) := by
        rw [hr2]
        exact gs_hb_of (fun c c1 c2 => (e1 c c1 c2).1 _ e)
      refine gf_if (Q := gs_mdQ (S.2.2 4 = -1) R (gq_fx f x.toInt R) (gs_hb tx ty f R y.toInt (gq_fx f x.toInt R))) (fun _ => ?_) (fun t => absurd hr t)
      refine gf_ca (Q := gs_mdQ (S.2.2 4 = -1) R (gq_fx f x.toInt R) (gs_hb tx ty f R y.toInt (gq_fx f x.toInt R))) (gp_ihQ S r y) (gz_isInHead r y _ (by omega) (by omega)).2 (fun r3 u3 h3 => ?_)
      rcases h3 with ⟨t, t2⟩ | ⟨t, t2⟩
      · have t : r3 = 0 := t
        exact gf_if (Q := gs_mdQ (S.2.2 4 = -1) R (gq_fx f x.toInt R) (gs_hb tx ty f R y.toInt (gq_fx f x.toInt R))) (fun _ => Or.inr (Or.inr ⟨q, e, hr, Or.inr ⟨fun c => t2 (w.mpr c), rfl⟩⟩)) (fun w => absurd t w)
      · have t : r3 = 1 := t
        exact gf_if (Q := gs_mdQ (S.2.2 4 = -1) R (gq_fx f x.toInt R) (gs_hb tx ty f R y.toInt (gq_fx f x.toInt R))) (fun w => absurd w (by rw [t]; decide)) (fun _ => Or.inr (Or.inr ⟨q, e, hr, Or.inl ⟨w.mp t2, rfl⟩⟩))
theorem gs_headL (x y : Int32) (s0 s3 s4 s18 s6 s17 : gm_S) (hG : gs_GK s0 s4 s6 s17) : gs_eQ (gm_f_LW_head x y (s0, s3, s4, s18)) (gm_f_MD_head x y s17) := by
  rcases hG with ⟨a, b⟩ | ⟨a, b, tx, ty, R, f, p1, p2, -⟩
  · have w1 := gs_headC x y s0 s3 s4 s18 (tx := fun _ => 0) (ty := 0) (R := 0) (f := gs_0) (fun q => absurd a q)
    have w2 := gs_headM x y s17 (tx := fun _ => 0) (ty := 0) (R := 0) (f := gs_0) (fun q => absurd b q)
    rw [show (s0.2.2 5 = 0) = (s17.2.2 4 = -1) from propext ⟨fun _ => b, fun _ => a⟩] at w1
    exact gs_eQ_of w1 w2
  · obtain ⟨q1, q2, q3, q4⟩ := gs_cls_q p1
    have w1 := gs_headC x y s0 s3 s4 s18 (tx := tx) (ty := ty) (R := R) (f := f) (fun _ => ⟨fun r hr => ⟨(q1 r hr).1, (q1 r hr).2.1, (q1 r hr).2.2.1, (q1 r hr).2.2.2.2⟩, q2, q3⟩)
    have w2 := gs_headM x y s17 (tx := tx) (ty := ty) (R := R) (f := f) (fun _ => p2)
    rw [show (s0.2.2 5 = 0) = (s17.2.2 4 = -1) from propext ⟨fun t => absurd t a, fun t => absurd t b⟩] at w1
    exact gs_eQ_of w1 w2
