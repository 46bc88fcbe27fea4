/-! The reference's table: each known cell by its equation. -/
def gp_Tb (B : Nat) (tk : Nat → Int32) (m p : Nat) : Int := (tk (11 * (m - B) + p)).toInt
/-- v characters are taken at the cost w, by what the parts of n do: ok the cells that may be looked at -/
def gp_cell (kd on tw Mz : Nat → Int32) (out row : Nat → Nat → Prop) (T C : Nat → Nat → Int) (ok : Nat → Nat → Prop) (n p : Nat) (v w : Int) : Prop :=
  ((kd n).toInt = 0 → v = 0 ∧ w = 0) ∧
  ((kd n).toInt = 1 → ((row n p ∧ v = (tw n).toInt) ∨ (¬ row n p ∧ v = -1)) ∧ w = 0) ∧
  ((kd n).toInt = 2 → ((out n p ∧ v = -1) ∨ (¬ out n p ∧ v = 1)) ∧ w = 0) ∧
  ((kd n).toInt = 3 → ok (Int32.toNatClampNeg (Mz n)) p ∧ v = T (Int32.toNatClampNeg (Mz n)) p ∧ w = C (Int32.toNatClampNeg (Mz n)) p) ∧
  ((kd n).toInt = 4 → ok (Int32.toNatClampNeg (on n)) p ∧ ((T (Int32.toNatClampNeg (on n)) p = -1 ∧ v = -1 ∧ w = C (Int32.toNatClampNeg (on n)) p) ∨ (0 ≤ T (Int32.toNatClampNeg (on n)) p ∧ ok (Int32.toNatClampNeg (tw n)) (p + (T (Int32.toNatClampNeg (on n)) p).toNat) ∧ w = C (Int32.toNatClampNeg (on n)) p + C (Int32.toNatClampNeg (tw n)) (p + (T (Int32.toNatClampNeg (on n)) p).toNat) ∧ ((T (Int32.toNatClampNeg (tw n)) (p + (T (Int32.toNatClampNeg (on n)) p).toNat) = -1 ∧ v = -1) ∨ (¬ T (Int32.toNatClampNeg (tw n)) (p + (T (Int32.toNatClampNeg (on n)) p).toNat) = -1 ∧ v = T (Int32.toNatClampNeg (on n)) p + T (Int32.toNatClampNeg (tw n)) (p + (T (Int32.toNatClampNeg (on n)) p).toNat)))))) ∧
  ((kd n).toInt = 5 → (¬ out (Int32.toNatClampNeg (on n)) p ∧ ok (Int32.toNatClampNeg (on n)) p ∧ ¬ T (Int32.toNatClampNeg (on n)) p = -1 ∧ v = T (Int32.toNatClampNeg (on n)) p ∧ w = 1 + C (Int32.toNatClampNeg (on n)) p) ∨ (¬ out (Int32.toNatClampNeg (on n)) p ∧ ok (Int32.toNatClampNeg (on n)) p ∧ T (Int32.toNatClampNeg (on n)) p = -1 ∧ ok (Int32.toNatClampNeg (tw n)) p ∧ v = T (Int32.toNatClampNeg (tw n)) p ∧ w = 1 + C (Int32.toNatClampNeg (on n)) p + C (Int32.toNatClampNeg (tw n)) p) ∨ (out (Int32.toNatClampNeg (on n)) p ∧ ok (Int32.toNatClampNeg (tw n)) p ∧ v = T (Int32.toNatClampNeg (tw n)) p ∧ w = C (Int32.toNatClampNeg (tw n)) p)) ∧
  ((kd n).toInt = 6 → (out (Int32.toNatClampNeg (on n)) p ∧ v = 0 ∧ w = 0) ∨ (¬ out (Int32.toNatClampNeg (on n)) p ∧ ok (Int32.toNatClampNeg (on n)) p ∧ w = 1 + C (Int32.toNatClampNeg (on n)) p ∧ ((T (Int32.toNatClampNeg (on n)) p = -1 ∧ v = 0) ∨ (¬ T (Int32.toNatClampNeg (on n)) p = -1 ∧ v = T (Int32.toNatClampNeg (on n)) p)))) ∧
  ((kd n).toInt = 7 → (out (Int32.toNatClampNeg (on n)) p ∧ v = 0 ∧ w = 0) ∨ (¬ out (Int32.toNatClampNeg (on n)) p ∧ ok (Int32.toNatClampNeg (on n)) p ∧ ((T (Int32.toNatClampNeg (on n)) p = -1 ∧ v = 0 ∧ w = 1 + C (Int32.toNatClampNeg (on n)) p) ∨ (0 ≤ T (Int32.toNatClampNeg (on n)) p ∧ ok n (p + (T (Int32.toNatClampNeg (on n)) p).toNat) ∧ v = T (Int32.toNatClampNeg (on n)) p + T n (p + (T (Int32.toNatClampNeg (on n)) p).toNat) ∧ w = 1 + C (Int32.toNatClampNeg (on n)) p + C n (p + (T (Int32.toNatClampNeg (on n)) p).toNat))))) ∧
  ((kd n).toInt = 8 → ok (Int32.toNatClampNeg (on n)) p ∧ w = 1 + C (Int32.toNatClampNeg (on n)) p ∧ ((T (Int32.toNatClampNeg (on n)) p = -1 ∧ v = -1) ∨ (¬ T (Int32.toNatClampNeg (on n)) p = -1 ∧ v = 0))) ∧
  ((kd n).toInt = 9 → ok (Int32.toNatClampNeg (on n)) p ∧ w = 1 + C (Int32.toNatClampNeg (on n)) p ∧ ((T (Int32.toNatClampNeg (on n)) p = -1 ∧ v = 0) ∨ (¬ T (Int32.toNatClampNeg (on n)) p = -1 ∧ v = -1))) ∧
  ((kd n).toInt = 10 → ok (Int32.toNatClampNeg (on n)) p ∧ v = T (Int32.toNatClampNeg (on n)) p ∧ w = C (Int32.toNatClampNeg (on n)) p)
theorem gp_cell_mono {kd on tw Mz : Nat → Int32} {out row : Nat → Nat → Prop} {T C T' C' : Nat → Nat → Int} {ok ok' : Nat → Nat → Prop} (h : ∀ m q, ok m q → ok' m q ∧ T' m q = T m q ∧ C' m q = C m q) {n p : Nat} {v w : Int} (c : gp_cell kd on tw Mz out row T C ok n p v w) : gp_cell kd on tw Mz out row T' C' ok' n p v w := by
  obtain ⟨c0, c1, c2, c3, c4, c5, c6, c7, c8, c9, c10⟩ := c
  refine ⟨c0, c1, c2, fun k => ?_, fun k => ?_, fun k => ?_, fun k => ?_, fun k => ?_, fun k => ?_, fun k => ?_, fun k => ?_⟩
  · obtain ⟨a, b, c⟩ := c3 k
    obtain ⟨x1, x2, x3⟩ := h _ _ a
    rw [x2, x3]; exact ⟨x1, b, c⟩
  · obtain ⟨a, b⟩ := c4 k
    obtain ⟨x1, x2, x3⟩ := h _ _ a
    rw [x2, x3]
    refine ⟨x1, ?_⟩
    rcases b with b | ⟨b1, b2, b3, b4⟩
    · exact Or.inl b
    · obtain ⟨y1, y2, y3⟩ := h _ _ b2
      rw [y2, y3]
      exact Or.inr ⟨b1, y1, b3, b4⟩
  · rcases c5 k with ⟨a1, a, a2⟩ | ⟨a1, a, a2, b, a3⟩ | ⟨a1, b, a3⟩
    · obtain ⟨x1, x2, x3⟩ := h _ _ a
      rw [x2, x3]; exact Or.inl ⟨a1, x1, a2⟩
    · obtain ⟨x1, x2, x3⟩ := h _ _ a
      obtain ⟨y1, y2, y3⟩ := h _ _ b
      rw [x2, x3, y2, y3]; exact Or.inr (Or.inl ⟨a1, x1, a2, y1, a3⟩)
    · obtain ⟨y1, y2, y3⟩ := h _ _ b
      rw [y2, y3]; exact Or.inr (Or.inr ⟨a1, y1, a3⟩)
  · rcases c6 k with a | ⟨a1, a, a2⟩
    · exact Or.inl a
    · obtain ⟨x1, x2, x3⟩ := h _ _ a
      rw [x2, x3]; exact Or.inr ⟨a1, x1, a2⟩
  · rcases c7 k with a | ⟨a1, a, a2⟩
    · exact Or.inl a
    · obtain ⟨x1, x2, x3⟩ := h _ _ a
      rw [x2, x3]
      refine Or.inr ⟨a1, x1, ?_⟩
      rcases a2 with a2 | ⟨b1, b2, b3⟩
      · exact Or.inl a2
      · obtain ⟨y1, y2, y3⟩ := h _ _ b2
        rw [y2, y3]; exact Or.inr ⟨b1, y1, b3⟩
  · obtain ⟨a, b⟩ := c8 k
    obtain ⟨x1, x2, x3⟩ := h _ _ a
    rw [x2, x3]; exact ⟨x1, b⟩
  · obtain ⟨a, b⟩ := c9 k
    obtain ⟨x1, x2, x3⟩ := h _ _ a
    rw [x2, x3]; exact ⟨x1, b⟩
  · obtain ⟨a, b, c⟩ := c10 k
    obtain ⟨x1, x2, x3⟩ := h _ _ a
    rw [x2, x3]; exact ⟨x1, b, c⟩
/-- a cell that was known before the cell c -/
def gp_okc (B P fed : Nat) (tk : Nat → Int32) (rk : Nat → Nat) (c : Nat) (m q : Nat) : Prop := B ≤ m ∧ m < B + P ∧ q ≤ fed ∧ ¬ gp_Tb B tk m q = -3 ∧ rk (11 * (m - B) + q) < c
def gp_cp (w : Int) : Int := if w ≤ 1000 then w else 1001
/-- each known cell has its equation, over cells that were known before it -/
def gp_FI (kd on tw Mz : Nat → Int32) (out row : Nat → Nat → Prop) (B P fed : Nat) (tk ck : Nat → Int32) (rk : Nat → Nat) (t : Nat) : Prop :=
  ∀ k p, k < P → p ≤ fed → ¬ gp_Tb B tk (B + k) p = -3 → rk (11 * k + p) < t ∧ ∃ w : Int, 0 ≤ w ∧ gp_Tb B ck (B + k) p = gp_cp w ∧ gp_cell kd on tw Mz out row (gp_Tb B tk) (gp_Tb B ck) (gp_okc B P fed tk rk (rk (11 * k + p))) (B + k) p (gp_Tb B tk (B + k) p) w
/-- one cell more is known -/
theorem gp_FI_set {kd on tw Mz : Nat → Int32} {out row : Nat → Nat → Prop} {B P fed : Nat} {tk ck : Nat → Int32} {rk : Nat → Nat} {t : Nat} (h : gp_FI kd on tw Mz out row B P fed tk ck rk t) {k p : Nat} (hk : k < P) (hp : p ≤ fed) (hf : fed ≤ 10) (h3 : gp_Tb B tk (B + k) p = -3) {v w' : Int32} {w : Int} (hv : ¬ v.toInt = -3) (hw : 0 ≤ w) (hw2 : w'.toInt = gp_cp w) (hc : gp_cell kd on tw Mz out row (gp_Tb B tk) (gp_Tb B ck) (gp_okc B P fed tk rk t) (B + k) p v.toInt w) : gp_FI kd on tw Mz out row B P fed (upd tk (11 * k + p) v) (upd ck (11 * k + p) w') (fun j => if j = 11 * k + p then t else rk j) (t + 1) := by
  have T' : ∀ (a : Nat → Int32) (x : Int32) m q, 11 * (m - B) + q ≠ 11 * k + p → gp_Tb B (upd a (11 * k + p) x) m q = gp_Tb B a m q := fun a x m q hne => by unfold gp_Tb; rw [gx_un _ _ _ hne]
  have T0 : ∀ (a : Nat → Int32) (x : Int32), gp_Tb B (upd a (11 * k + p) x) (B + k) p = x.toInt := fun a x => by unfold gp_Tb; rw [show 11 * (B + k - B) + p = 11 * k + p by omega, gx_us]
  have ne : ∀ m q, ¬ gp_Tb B tk m q = -3 → 11 * (m - B) + q ≠ 11 * k + p := fun m q hq e => hq (by have h3 := h3; unfold gp_Tb at h3 ⊢; rw [show 11 * (B + k - B) + p = 11 * k + p by omega] at h3; rw [e]; exact h3)
  have mono : ∀ (r r' : Nat), r ≤ r' → r ≤ t → ∀ m q, gp_okc B P fed tk rk r m q → gp_okc B P fed (upd tk (11 * k + p) v) (fun j => if j = 11 * k + p then t else rk j) r' m q ∧ gp_Tb B (upd tk (11 * k + p) v) m q = gp_Tb B tk m q ∧ gp_Tb B (upd ck (11 * k + p) w') m q = gp_Tb B ck m q := by
    rintro r r' hr hr2 m q ⟨a1, a2, a3, a4, a5⟩
    have n1 := ne m q a4
    refine ⟨⟨a1, a2, a3, ?_, ?_⟩, T' _ _ _ _ n1, T' _ _ _ _ n1⟩
    · rw [T' _ _ _ _ n1]; exact a4
    · dsimp only
      rw [if_neg n1]; omega
  intro k' p' hk' hp' hq
  by_cases e : 11 * k' + p' = 11 * k + p
  · have e1 : k' = k := by omega
    have e2 : p' = p := by omega
    subst e1 e2
    dsimp only
    rw [if_pos rfl, T0, T0]
    exact ⟨by omega, w, hw, hw2, gp_cell_mono (mono t t (Nat.le_refl t) (Nat.le_refl t)) hc⟩
  · have n1 : 11 * (B + k' - B) + p' ≠ 11 * k + p := by rw [show B + k' - B = k' by omega]; exact e
    rw [T' _ _ _ _ n1] at hq
    obtain ⟨a1, w0, a2, a3, a4⟩ := h k' p' hk' hp' hq
    dsimp only
    rw [if_neg e, T' _ _ _ _ n1, T' _ _ _ _ n1]
    exact ⟨by omega, w0, a2, a3, gp_cell_mono (mono _ _ (Nat.le_refl _) (by omega)) a4⟩
