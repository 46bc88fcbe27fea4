theorem gp_uself (f : Nat → Int64) (k : Nat) : f = vp_updL f k (f k) := by
  funext j
  unfold vp_updL
  by_cases q : j = k
  · rw [if_pos q, q]
  · rw [if_neg q]
/-- what findHead leaves at its part: old, and what the others bring -/
def gp_hQ (S : gm_S) (kd on tw M : Nat → Int32) (em : Nat → Prop) (C : Int) (n : Nat) (z : Int32 × gm_S) : Prop :=
  ∃ a b : Int64, z.2.2.1 17 = vp_updL (S.2.1 17) n a ∧ z.2.2.1 18 = vp_updL (S.2.1 18) n b ∧
    (∀ q : Nat, q < 64 → (gp_bl a q = true ↔ (gp_bl (S.2.1 17 n) q = true ∨ gp_hF kd on tw M em (fun j => gp_bl (S.2.1 17 j) q = true) (C < 96 ∧ (q : Int) = C - 32) n))) ∧
    (∀ q : Nat, q < 64 → (gp_bl b q = true ↔ (gp_bl (S.2.1 18 n) q = true ∨ gp_hF kd on tw M em (fun j => gp_bl (S.2.1 18 j) q = true) (96 ≤ C ∧ (q : Int) = C - 96) n)))
theorem gp_hQ0 {S S' : gm_S} {kd on tw M : Nat → Int32} {em : Nat → Prop} {C : Int} {n : Nat} (e1 : S'.2.1 17 = S.2.1 17) (e2 : S'.2.1 18 = S.2.1 18) (hk : (kd n).toInt = 0 ∨ (kd n).toInt = 2 ∨ (kd n).toInt = 8 ∨ (kd n).toInt = 9) : gp_hQ S kd on tw M em C n (0, S') := by
  refine ⟨S.2.1 17 n, S.2.1 18 n, e1.trans (gp_uself _ _), e2.trans (gp_uself _ _), fun q _ => ⟨Or.inl, fun t => t.elim id (fun t => ?_)⟩, fun q _ => ⟨Or.inl, fun t => t.elim id (fun t => ?_)⟩⟩
  · unfold gp_hF at t; omega
  · unfold gp_hF at t; omega
theorem gp_hQ1 {S S' : gm_S} {kd on tw M : Nat → Int32} {em : Nat → Prop} {C : Int} {n y : Nat} (e1 : S'.2.1 17 = vp_updL (S.2.1 17) n (S.2.1 17 n ||| S.2.1 17 y)) (e2 : S'.2.1 18 = vp_updL (S.2.1 18) n (S.2.1 18 n ||| S.2.1 18 y)) (hF : ∀ (hd : Nat → Prop) (rw : Prop), gp_hF kd on tw M em hd rw n ↔ hd y) : gp_hQ S kd on tw M em C n (0, S') := by
  refine ⟨_, _, e1, e2, fun q _ => ?_, fun q _ => ?_⟩
  · rw [gp_bl_or, Bool.or_eq_true, hF]
  · rw [gp_bl_or, Bool.or_eq_true, hF]
theorem gp_hQ2 {S S' : gm_S} {kd on tw M : Nat → Int32} {em : Nat → Prop} {C : Int} {n y w : Nat} (e1 : S'.2.1 17 = vp_updL (S.2.1 17) n ((S.2.1 17 n ||| S.2.1 17 y) ||| S.2.1 17 w)) (e2 : S'.2.1 18 = vp_updL (S.2.1 18) n ((S.2.1 18 n ||| S.2.1 18 y) ||| S.2.1 18 w)) (hF : ∀ (hd : Nat → Prop) (rw : Prop), gp_hF kd on tw M em hd rw n ↔ (hd y ∨ hd w)) : gp_hQ S kd on tw M em C n (0, S') := by
  refine ⟨_, _, e1, e2, fun q _ => ?_, fun q _ => ?_⟩
  · rw [gp_bl_or, gp_bl_or, Bool.or_eq_true, Bool.or_eq_true, hF, or_assoc]
  · rw [gp_bl_or, gp_bl_or, Bool.or_eq_true, Bool.or_eq_true, hF, or_assoc]
/-- two times at one place -/
theorem gp_upd2 {f g h : Nat → Int64} {n y w : Nat} (hw : w ≠ n) (e : g = vp_updL f n (f n ||| f y)) (e' : h = vp_updL g n (g n ||| g w)) : h = vp_updL f n ((f n ||| f y) ||| f w) := by
  rw [e', e, gx_lus, gx_lun _ _ _ hw]
  funext j
  unfold vp_updL
  by_cases q : j = n
  · rw [if_pos q, if_pos q]
  · rw [if_neg q, if_neg q, if_neg q]
