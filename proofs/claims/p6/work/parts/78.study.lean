/-! One way up through the parts of a half: what is empty. -/
theorem gx_nr {r : Int32} (h : r = 0 ∨ r = 1) : vp_nar .boolean r = r := by
  rcases h with h | h
  · rw [h]; rfl
  · rw [h]; rfl
def gp_v (em : Nat → Int32) (B : Nat) (k : Nat) : Bool := decide (em (B + k) = 1)
theorem gp_v_iff {em : Nat → Int32} {B k : Nat} : gp_v em B k = true ↔ em (B + k) = 1 := by unfold gp_v; exact decide_eq_true_iff
noncomputable def gp_FE (kd on tw M : Nat → Int32) (B : Nat) (x : Nat → Bool) (k : Nat) : Bool := @decide (gp_eF kd on tw M (fun j => B ≤ j ∧ x (j - B) = true) (B + k)) (Classical.propDecidable _)
theorem gp_FE_iff {kd on tw M : Nat → Int32} {B : Nat} {x : Nat → Bool} {k : Nat} : gp_FE kd on tw M B x k = true ↔ gp_eF kd on tw M (fun j => B ≤ j ∧ x (j - B) = true) (B + k) := by unfold gp_FE; exact @decide_eq_true_iff _ (Classical.propDecidable _)
theorem gp_eF_mono {kd on tw M : Nat → Int32} {a b : Nat → Prop} {n : Nat} (h : ∀ j, a j → b j) (q : gp_eF kd on tw M a n) : gp_eF kd on tw M b n :=
  ⟨q.1, q.2.1, fun k => h _ (q.2.2.1 k), fun k => ⟨h _ (q.2.2.2.1 k).1, h _ (q.2.2.2.1 k).2⟩, fun k => (q.2.2.2.2.1 k).elim (fun t => Or.inl (h _ t)) (fun t => Or.inr (h _ t)), fun k => h _ (q.2.2.2.2.2 k)⟩
theorem gp_FE_mon (kd on tw M : Nat → Int32) (B : Nat) : gp_mon (gp_FE kd on tw M B) := by
  intro x y h n q
  rw [gp_FE_iff] at q ⊢
  exact gp_eF_mono (fun j t => ⟨t.1, h _ t.2⟩) q
theorem gp_eF_cg {kd on tw M : Nat → Int32} {a b : Nat → Prop} {n : Nat} (h3 : (kd n).toInt = 3 → (a (Int32.toNatClampNeg (M n)) ↔ b (Int32.toNatClampNeg (M n)))) (h4 : 4 ≤ (kd n).toInt → (a (Int32.toNatClampNeg (on n)) ↔ b (Int32.toNatClampNeg (on n)))) (h5 : ((kd n).toInt = 4 ∨ (kd n).toInt = 5) → (a (Int32.toNatClampNeg (tw n)) ↔ b (Int32.toNatClampNeg (tw n)))) : gp_eF kd on tw M a n ↔ gp_eF kd on tw M b n := by
  constructor
  · intro q
    exact ⟨q.1, q.2.1, fun k => (h3 k).mp (q.2.2.1 k), fun k => ⟨(h4 (by omega)).mp (q.2.2.2.1 k).1, (h5 (Or.inl k)).mp (q.2.2.2.1 k).2⟩, fun k => (q.2.2.2.2.1 k).elim (fun t => Or.inl ((h4 (by omega)).mp t)) (fun t => Or.inr ((h5 (Or.inr k)).mp t)), fun k => (h4 (by omega)).mp (q.2.2.2.2.2 k)⟩
  · intro q
    exact ⟨q.1, q.2.1, fun k => (h3 k).mpr (q.2.2.1 k), fun k => ⟨(h4 (by omega)).mpr (q.2.2.2.1 k).1, (h5 (Or.inl k)).mpr (q.2.2.2.1 k).2⟩, fun k => (q.2.2.2.2.1 k).elim (fun t => Or.inl ((h4 (by omega)).mpr t)) (fun t => Or.inr ((h5 (Or.inr k)).mpr t)), fun k => (h4 (by omega)).mpr (q.2.2.2.2.2 k)⟩
/-- every name of the half means a part of it -/
theorem gp_mz_in {ty fr : Int32} {rc nm wh pa kd on tw ow : Nat → Int32} (hU : gm_iU ty fr rc nm wh pa kd on tw ow) {n : Nat} (h1 : 160 * fr.toInt ≤ n) (h2 : (n : Int) < 160 * fr.toInt + (pa (Int32.toNatClampNeg fr)).toInt) (h3 : kd n = 3) : 160 * fr.toInt ≤ (gp_mz rc nm wh fr (on n)).toInt ∧ (gp_mz rc nm wh fr (on n)).toInt < 160 * fr.toInt + (pa (Int32.toNatClampNeg fr)).toInt := by
  obtain ⟨⟨f0, f1⟩, ⟨p0, p1⟩, ⟨r0, r1⟩, hG, hN⟩ := hU
  have cf := gx_cl fr f0
  have hnd := hN n h1 h2 h3
  have ex : ∃ r : Int32, gp_ru rc nm fr (on n) r ∧ 0 ≤ r.toInt ∧ r.toInt < (rc (Int32.toNatClampNeg fr)).toInt := by
    apply Classical.byContradiction
    intro no
    have all : ∀ k : Nat, (k : Int) ≤ (rc (Int32.toNatClampNeg fr)).toInt → ∀ i : Nat, i < k → ∀ j : Nat, (j : Int) = 8 * fr.toInt + i → nm j ≠ on n := by
      intro k
      induction k with
      | zero => intro _ i hi; omega
      | succ k ih =>
        intro hk i hi j hj
        by_cases q : i = k
        · intro e
          have t : (nI k).toInt = (k : Int) := nI_toInt (by omega)
          apply no
          refine ⟨nI k, Or.inr ⟨by omega, by omega, fun j' hj' => ?_, fun k' hk' j' hj' => ih (by omega) k' (by omega) j' hj'⟩, by omega, by omega⟩
          have : j' = j := by omega
          rw [this]; exact e
        · exact ih (by omega) i (by omega) j hj
    exact hnd (fun k hk j hj => all (k + 1) (by omega) k (by omega) j hj)
  obtain ⟨r, h5, h6, h7⟩ := ex
  have cr := gx_cl r h6
  have hj9 : ∀ j : Nat, (j : Int) = 8 * fr.toInt + r.toInt → wh (8 * Int32.toNatClampNeg fr + Int32.toNatClampNeg r) = wh j := by
    intro j hj
    have e : j = 8 * Int32.toNatClampNeg fr + Int32.toNatClampNeg r := by omega
    rw [e]
  have hm : gp_me rc nm wh fr (on n) (wh (8 * Int32.toNatClampNeg fr + Int32.toNatClampNeg r)) := ⟨r, h5, Or.inr ⟨h6, h7, hj9⟩⟩
  rw [← gp_mz_eq f0 hm]
  have a := hG.2.2.2 (Int32.toNatClampNeg r) (by omega) (8 * Int32.toNatClampNeg fr + Int32.toNatClampNeg r) (by omega)
  exact ⟨a.2.2.1, a.2.2.2⟩
/-- what is written for a part is what its function says of the row before -/
theorem gp_sw_step {ty fr : Int32} {rc nm wh pa kd on tw ow : Nat → Int32} (hU : gm_iU ty fr rc nm wh pa kd on tw ow) {em : Nat → Int32} {B k : Nat} (hB : (B : Int) = 160 * fr.toInt) (hk : (k : Int) < (pa (Int32.toNatClampNeg fr)).toInt) {x0 : Nat → Bool} (hv : gp_v em B = gp_sw (gp_FE kd on tw (fun n => gp_mz rc nm wh fr (on n)) B) k x0) {r : Int32} (hr : r = 1 ↔ gp_eF kd on tw (fun n => gp_mz rc nm wh fr (on n)) (fun j => em j = 1) (B + k)) : gp_v (upd em (B + k) r) B = gp_sw (gp_FE kd on tw (fun n => gp_mz rc nm wh fr (on n)) B) (k + 1) x0 := by
  have nd := (hU.2.2.2.1.1 (B + k) (by omega) (by omega)).1
  unfold gp_node at nd
  obtain ⟨k0, k1, n4, n45, -, -⟩ := nd
  have up : ∀ j : Nat, B ≤ j → (em j = 1 ↔ (B ≤ j ∧ gp_v em B (j - B) = true)) := by
    intro j hj
    rw [gp_v_iff, show B + (j - B) = j by omega]
    exact ⟨fun q => ⟨hj, q⟩, fun q => q.2⟩
  have ge : ∀ z : Int32, 160 * fr.toInt ≤ z.toInt → B ≤ Int32.toNatClampNeg z := fun z hz => by
    have := gx_cl z (by have := hU.1.1; omega)
    omega
  funext j
  show gp_v (upd em (B + k) r) B j = (if j = k then gp_FE kd on tw (fun n => gp_mz rc nm wh fr (on n)) B (gp_sw (gp_FE kd on tw (fun n => gp_mz rc nm wh fr (on n)) B) k x0) k else gp_sw (gp_FE kd on tw (fun n => gp_mz rc nm wh fr (on n)) B) k x0 j)
  rw [← hv]
  by_cases q : j = k
  · rw [if_pos q, q]
    have e1 : gp_v (upd em (B + k) r) B k = decide (r = 1) := by unfold gp_v; rw [gx_us]
    rw [e1]
    have iff : r = 1 ↔ gp_FE kd on tw (fun n => gp_mz rc nm wh fr (on n)) B (gp_v em B) k = true := by
      rw [hr, gp_FE_iff]
      refine gp_eF_cg (fun h3 => up _ (ge _ ?_)) (fun h4 => up _ (ge _ (n4 h4).1)) (fun h5 => up _ (ge _ (n45 h5).1))
      exact (gp_mz_in hU (by omega) (by omega) (Int32.toInt_inj.mp (h3.trans (by decide)))).1
    cases hd : gp_FE kd on tw (fun n => gp_mz rc nm wh fr (on n)) B (gp_v em B) k with
    | true => exact decide_eq_true (iff.mpr hd)
    | false => exact decide_eq_false (fun t => by rw [iff.mp t] at hd; cases hd)
  · rw [if_neg q]
    unfold gp_v
    rw [gx_un _ _ _ (show B + j ≠ B + k by omega)]
