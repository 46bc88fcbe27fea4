/-! What study leaves, in plain words: places of rest. -/
theorem gp_em_rest' {kd on tw M : Nat → Int32} {B Pn : Nat} {em : Nat → Int32} {x0 : Nat → Bool} (hx : ∀ k, k < Pn → x0 k = false) (h : gp_v em B = gp_it (gp_FE kd on tw M B) Pn Pn x0) : ∀ k, k < Pn → (em (B + k) = 1 ↔ gp_eF kd on tw M (fun j => B ≤ j ∧ em j = 1) (B + k)) := by
  intro k hk
  have f := gp_it_fix (gp_FE_mon kd on tw M B) (N := Pn) (x := x0) (fun n hn q => by rw [hx n hn] at q; cases q) k hk
  rw [← h] at f
  rw [← gp_v_iff (em := em), ← f, gp_FE_iff]
  constructor
  · exact gp_eF_mono (fun j q => ⟨q.1, by have := gp_v_iff.mp q.2; rw [show B + (j - B) = j by omega] at this; exact this⟩)
  · exact gp_eF_mono (fun j q => ⟨q.1, gp_v_iff.mpr (by rw [show B + (j - B) = j by omega]; exact q.2)⟩)
theorem gp_bg_rest {kd on tw M R : Nat → Int32} {em : Nat → Prop} {q B Pn : Nat} {bg : Nat → Int32} {x0 : Nat → Bool} (hx : ∀ k, k < Pn → x0 k = false) (h : gp_vb bg q B = gp_it (gp_FB kd on tw M R em q B) Pn Pn x0) : ∀ k, k < Pn → (gp_bt (bg (B + k)) q = true ↔ gp_bF kd on tw M R em (fun j => B ≤ j ∧ gp_bt (bg j) q = true) q (B + k)) := by
  intro k hk
  have f := gp_it_fix (gp_FB_mon kd on tw M R em q B) (N := Pn) (x := x0) (fun n hn t => by rw [hx n hn] at t; cases t) k hk
  rw [← h] at f
  have e : gp_bt (bg (B + k)) q = gp_vb bg q B k := rfl
  rw [e, ← f, gp_FB_iff]
  constructor
  · exact gp_bF_mono (fun j t => ⟨t.1, by have := t.2; unfold gp_vb at this; rw [show B + (j - B) = j by omega] at this; exact this⟩)
  · exact gp_bF_mono (fun j t => ⟨t.1, by unfold gp_vb; rw [show B + (j - B) = j by omega]; exact t.2⟩)
theorem gp_hd_rest {kd on tw M : Nat → Int32} {em rw : Nat → Prop} {q B Pn : Nat} {lo : Nat → Int64} {x0 : Nat → Bool} (h : gp_vl lo q B = gp_it (gp_FH kd on tw M em rw B) Pn Pn x0) : ∀ k, k < Pn → gp_hF kd on tw M em (fun j => B ≤ j ∧ gp_bl (lo j) q = true) (rw (B + k)) (B + k) → gp_bl (lo (B + k)) q = true := by
  intro k hk t
  have f := gp_it_fix (gp_FH_mon kd on tw M em rw B) (N := Pn) (x := x0) (fun n _ s => gp_FH_iff.mpr (Or.inl s)) k hk
  rw [← h] at f
  show gp_vl lo q B k = true
  rw [← f, gp_FH_iff]
  exact Or.inr (gp_hF_mono (fun j s => ⟨s.1, by unfold gp_vl; rw [show B + (j - B) = j by omega]; exact s.2⟩) t)
