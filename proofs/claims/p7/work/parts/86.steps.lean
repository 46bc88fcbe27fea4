/-! A way up, for what parts begin with, and for heads: bit by bit. -/
def gp_vb (bg : Nat → Int32) (q B k : Nat) : Bool := gp_bt (bg (B + k)) q
def gp_vl (lo : Nat → Int64) (q B k : Nat) : Bool := gp_bl (lo (B + k)) q
noncomputable def gp_FB (kd on tw M R : Nat → Int32) (em : Nat → Prop) (q B : Nat) (x : Nat → Bool) (k : Nat) : Bool := @decide (gp_bF kd on tw M R em (fun j => B ≤ j ∧ x (j - B) = true) q (B + k)) (Classical.propDecidable _)
noncomputable def gp_FH (kd on tw M : Nat → Int32) (em : Nat → Prop) (rw : Nat → Prop) (B : Nat) (x : Nat → Bool) (k : Nat) : Bool := x k || @decide (gp_hF kd on tw M em (fun j => B ≤ j ∧ x (j - B) = true) (rw (B + k)) (B + k)) (Classical.propDecidable _)
theorem gp_FB_iff {kd on tw M R : Nat → Int32} {em : Nat → Prop} {q B : Nat} {x : Nat → Bool} {k : Nat} : gp_FB kd on tw M R em q B x k = true ↔ gp_bF kd on tw M R em (fun j => B ≤ j ∧ x (j - B) = true) q (B + k) := by unfold gp_FB; exact @decide_eq_true_iff _ (Classical.propDecidable _)
theorem gp_FH_iff {kd on tw M : Nat → Int32} {em rw : Nat → Prop} {B : Nat} {x : Nat → Bool} {k : Nat} : gp_FH kd on tw M em rw B x k = true ↔ (x k = true ∨ gp_hF kd on tw M em (fun j => B ≤ j ∧ x (j - B) = true) (rw (B + k)) (B + k)) := by
  unfold gp_FH
  rw [Bool.or_eq_true, @decide_eq_true_iff _ (Classical.propDecidable _)]
theorem gp_bF_mono {kd on tw M R : Nat → Int32} {em a b : Nat → Prop} {q n : Nat} (h : ∀ j, a j → b j) (t : gp_bF kd on tw M R em a q n) : gp_bF kd on tw M R em b q n := by
  rcases t with ⟨k, t⟩ | ⟨k, t⟩ | ⟨k, t⟩ | ⟨k, t⟩
  · exact Or.inl ⟨k, t.imp id (h _)⟩
  · exact Or.inr (Or.inl ⟨k, t.imp (h _) (fun t => ⟨t.1, h _ t.2⟩)⟩)
  · exact Or.inr (Or.inr (Or.inl ⟨k, t.imp (h _) (h _)⟩))
  · exact Or.inr (Or.inr (Or.inr ⟨k, h _ t⟩))
theorem gp_hF_mono {kd on tw M : Nat → Int32} {em a b : Nat → Prop} {rw : Prop} {n : Nat} (h : ∀ j, a j → b j) (t : gp_hF kd on tw M em a rw n) : gp_hF kd on tw M em b rw n := by
  rcases t with ⟨k, t⟩ | ⟨k, t⟩ | ⟨k, t⟩ | ⟨k, t⟩ | ⟨k, t⟩
  · exact Or.inl ⟨k, t⟩
  · exact Or.inr (Or.inl ⟨k, h _ t⟩)
  · exact Or.inr (Or.inr (Or.inl ⟨k, t.imp (h _) (fun t => ⟨t.1, h _ t.2⟩)⟩))
  · exact Or.inr (Or.inr (Or.inr (Or.inl ⟨k, t.imp (h _) (h _)⟩)))
  · exact Or.inr (Or.inr (Or.inr (Or.inr ⟨k, h _ t⟩)))
theorem gp_FB_mon (kd on tw M R : Nat → Int32) (em : Nat → Prop) (q B : Nat) : gp_mon (gp_FB kd on tw M R em q B) := by
  intro x y h n t
  rw [gp_FB_iff] at t ⊢
  exact gp_bF_mono (fun j t => ⟨t.1, h _ t.2⟩) t
theorem gp_FH_mon (kd on tw M : Nat → Int32) (em rw : Nat → Prop) (B : Nat) : gp_mon (gp_FH kd on tw M em rw B) := by
  intro x y h n t
  rw [gp_FH_iff] at t ⊢
  exact t.imp (h _) (gp_hF_mono (fun j t => ⟨t.1, h _ t.2⟩))
/-- only parts of the half are asked -/
theorem gp_bF_up {kd on tw M R : Nat → Int32} {em a : Nat → Prop} {q B n : Nat} (h3 : (kd n).toInt = 3 → B ≤ Int32.toNatClampNeg (M n)) (h4 : 4 ≤ (kd n).toInt → B ≤ Int32.toNatClampNeg (on n)) (h5 : ((kd n).toInt = 4 ∨ (kd n).toInt = 5) → B ≤ Int32.toNatClampNeg (tw n)) : gp_bF kd on tw M R em a q n ↔ gp_bF kd on tw M R em (fun j => B ≤ j ∧ a j) q n := by
  constructor
  · intro t
    rcases t with ⟨k, t⟩ | ⟨k, t⟩ | ⟨k, t⟩ | ⟨k, t⟩
    · exact Or.inl ⟨k, t.imp id (fun t => ⟨h3 k, t⟩)⟩
    · exact Or.inr (Or.inl ⟨k, t.imp (fun t => ⟨h4 (by omega), t⟩) (fun t => ⟨t.1, h5 (Or.inl k), t.2⟩)⟩)
    · exact Or.inr (Or.inr (Or.inl ⟨k, t.imp (fun t => ⟨h4 (by omega), t⟩) (fun t => ⟨h5 (Or.inr k), t⟩)⟩))
    · exact Or.inr (Or.inr (Or.inr ⟨k, h4 (by omega), t⟩))
  · exact gp_bF_mono (fun j t => t.2)
theorem gp_hF_up {kd on tw M : Nat → Int32} {em a : Nat → Prop} {rw : Prop} {B n : Nat} (h3 : (kd n).toInt = 3 → B ≤ Int32.toNatClampNeg (M n)) (h4 : 4 ≤ (kd n).toInt → B ≤ Int32.toNatClampNeg (on n)) (h5 : ((kd n).toInt = 4 ∨ (kd n).toInt = 5) → B ≤ Int32.toNatClampNeg (tw n)) : gp_hF kd on tw M em a rw n ↔ gp_hF kd on tw M em (fun j => B ≤ j ∧ a j) rw n := by
  constructor
  · intro t
    rcases t with ⟨k, t⟩ | ⟨k, t⟩ | ⟨k, t⟩ | ⟨k, t⟩ | ⟨k, t⟩
    · exact Or.inl ⟨k, t⟩
    · exact Or.inr (Or.inl ⟨k, h3 k, t⟩)
    · exact Or.inr (Or.inr (Or.inl ⟨k, t.imp (fun t => ⟨h4 (by omega), t⟩) (fun t => ⟨t.1, h5 (Or.inl k), t.2⟩)⟩))
    · exact Or.inr (Or.inr (Or.inr (Or.inl ⟨k, t.imp (fun t => ⟨h4 (by omega), t⟩) (fun t => ⟨h5 (Or.inr k), t⟩)⟩)))
    · exact Or.inr (Or.inr (Or.inr (Or.inr ⟨k, h4 (by omega), t⟩)))
  · exact gp_hF_mono (fun j t => t.2)
theorem gp_sw_next {F : (Nat → Bool) → Nat → Bool} {k : Nat} {x0 u v : Nat → Bool} (hu : u = gp_sw F k x0) (h1 : v k = F u k) (h2 : ∀ j, j ≠ k → v j = u j) : v = gp_sw F (k + 1) x0 := by
  funext j
  show v j = (if j = k then F (gp_sw F k x0) k else gp_sw F k x0 j)
  rw [← hu]
  by_cases q : j = k
  · rw [if_pos q, q]; exact h1
  · rw [if_neg q]; exact h2 j q
theorem gp_bool_eq {a b : Bool} (h : a = true ↔ b = true) : a = b := by
  cases a <;> cases b <;> simp_all
