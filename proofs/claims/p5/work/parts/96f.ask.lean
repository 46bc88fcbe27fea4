/-! Questions that the reference answers of the half in use. -/
theorem gp_RI_0 {S : gm_S} (h : gp_RI S) (c : Int32) : gp_RI (S.1, S.2.1, va_up S.2.2 0 c) := h
/-- asked: 0 is told, and a part of the half answered; or nothing is -/
def gp_asQ (z : Int32 × gm_S) : Prop := z.2.2.2 0 = 0 → 0 ≤ z.1.toInt ∧ z.1.toInt < 320
theorem gz_asked (x : Int32) (S : gm_S) (h : gp_RI S) : gm_p_MD_asked x S ∧ gp_asQ (gm_f_MD_asked x S) := by
  obtain ⟨Q, hQ⟩ : ∃ Q, Q = gp_asQ := ⟨_, rfl⟩
  rw [← hQ]
  unfold gm_p_MD_asked gm_f_MD_asked
  refine gx_if (Q := Q) (fun q => ?_) (fun q => ?_)
  · unfold gm_p_MD_asked_j21 gm_f_MD_asked_j21
    refine gx_if (Q := Q) (fun _ => ⟨trivial, ?_⟩) (fun t => absurd q t)
    rw [hQ]
    exact fun t => absurd t (show ¬ (1 : Int32) = 0 by decide)
  obtain ⟨hW, hW2, hn, hb, hR⟩ := h
  rcases hR with hR | hR
  · exact absurd hR q
  obtain ⟨⟨ty, ty2, hU⟩, -⟩ := hR
  obtain ⟨⟨f0, f1⟩, ⟨p0, p1⟩, ⟨r0, r1⟩, hS, hN⟩ := hU
  have m8 := gx_mk 8 (S.2.2 4) 8 (gx_lit 8 (by decide))
  have cf := gx_cl (S.2.2 4) f0
  refine gx_ca (Q := Q) (fun z : Int32 × gm_S => gp_ru (S.1 6) (S.1 7) (S.2.2 4) x z.1) (gy_s_MD_ruleOf (S.2.2 4) x S f0 f1 r1) (fun r u hr => ?_)
  have hr : gp_ru (S.1 6) (S.1 7) (S.2.2 4) x r := hr
  unfold gm_p_MD_asked_j21 gm_f_MD_asked_j21
  refine gx_if (Q := Q) (fun t => absurd t q) (fun _ => ?_)
  refine gx_if (Q := Q) (fun _ => ⟨trivial, ?_⟩) (fun t => ?_)
  · rw [hQ]
    exact fun t => absurd t (show ¬ (2 : Int32) = 0 by decide)
  rcases hr with ⟨hr, -⟩ | ⟨hr1, hr2, -, -⟩
  · exact absurd hr t
  have s8 := gx_ad (8 * (S.2.2 4)) r
  have c8 := gx_cl (8 * (S.2.2 4) + r) (by omega)
  have cr := gx_cl r hr1
  refine ⟨⟨vp_in_iff.mpr (by omega), trivial⟩, ?_⟩
  rw [hQ]
  intro _
  have w := hS.2.2.2 (Int32.toNatClampNeg r) (by omega) (Int32.toNatClampNeg (8 * (S.2.2 4) + r)) (by omega)
  show 0 ≤ (S.1 8 (Int32.toNatClampNeg (8 * (S.2.2 4) + r))).toInt ∧ (S.1 8 (Int32.toNatClampNeg (8 * (S.2.2 4) + r))).toInt < 320
  omega
theorem gz_empty (x : Int32) (S : gm_S) (h : gp_RI S) : gm_p_MD_empty x S ∧ gp_RQ (gm_f_MD_empty x S) := by
  unfold gm_p_MD_empty gm_f_MD_empty
  refine gx_ca (Q := gp_RQ) _ (gz_asked x S h) (fun r u hr => ?_)
  refine gx_if (Q := gp_RQ) (fun q => ?_) (fun q => ⟨trivial, gp_RI_0 h _⟩)
  have w := hr q
  refine gx_in (Q := gp_RQ) (vp_in_iff.mpr w) ?_
  exact gx_if (Q := gp_RQ) (fun _ => ⟨trivial, gp_RI_0 h _⟩) (fun _ => ⟨trivial, gp_RI_0 h _⟩)
theorem gz_head (x y : Int32) (S : gm_S) (h : gp_RI S) : gm_p_MD_head x y S ∧ gp_RQ (gm_f_MD_head x y S) := by
  unfold gm_p_MD_head gm_f_MD_head
  refine gx_ca (Q := gp_RQ) _ (gz_asked x S h) (fun r u hr => ?_)
  refine gx_if (Q := gp_RQ) (fun q => ?_) (fun q => ⟨trivial, gp_RI_0 h _⟩)
  have w : 0 ≤ r.toInt ∧ r.toInt < 320 := hr q
  refine gx_ca (Q := gp_RQ) _ (gz_isInHead r y _ w.1 w.2) (fun r2 u2 _ => ?_)
  exact gx_if (Q := gp_RQ) (fun _ => ⟨trivial, gp_RI_0 h _⟩) (fun _ => ⟨trivial, gp_RI_0 h _⟩)
