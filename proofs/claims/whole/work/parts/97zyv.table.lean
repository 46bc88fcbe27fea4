/-! The dearest grammars, by the length of the text. -/
def gj_tF : List Nat := [0, 0, 0, 0, 0, 1, 1, 2, 4, 6, 8, 10, 12, 15, 18, 24, 32, 40, 50, 60, 72, 85, 104, 136, 170, 210, 260, 312, 372, 444, 552, 690, 860, 1060, 1310, 1572, 1884, 2244, 2770, 3460, 4310, 5310, 6560, 7872, 9444, 11316, 13860, 17310, 21560, 26560, 32810]
def gj_tS : List Nat := [0, 0, 0, 0, 0, 1, 1, 2, 4, 6, 8, 10, 13, 16, 22, 30, 38, 48, 58, 70, 84, 108, 140, 174, 216, 266, 318, 380, 458, 588, 732, 904, 1114, 1366, 1636, 1954, 2394, 2980, 3700, 4562, 5614, 6884, 8250, 9938, 12016, 14948, 18550, 22862, 28132, 34498, 41434]
def gj_F (t : Nat) : Nat := gj_tF.getD t 0
def gj_S (t : Nat) : Nat := gj_tS.getD t 0
theorem gj_F_c : ∀ t : Fin 51, ∀ a : Fin 51, ∀ j : Fin 26, t.val + a.val + 2 * j.val + 3 ≤ 50 → (t.val < 3 → a.val = 0) → a.val * (2 + gj_F t.val) + j.val ≤ gj_F (t.val + a.val + 2 * j.val + 3) ∧ gj_S t.val + (a.val * (2 + gj_F t.val) + j.val) ≤ gj_S (t.val + a.val + 2 * j.val + 3) := by decide +kernel
theorem gj_F_m1 : ∀ t : Fin 50, gj_F t.val ≤ gj_F (t.val + 1) ∧ gj_S t.val ≤ gj_S (t.val + 1) := by decide +kernel
theorem gj_F_h : ∀ t : Fin 51, 16 + gj_S t.val + (50 - t.val) * max 4 (2 + gj_F t.val) ≤ 74814 ∧ gj_F t.val + (51 - t.val) * max 4 (2 + gj_F t.val) ≤ 86558 := by decide +kernel
theorem gj_F_m : ∀ d t, t + d ≤ 50 → gj_F t ≤ gj_F (t + d) ∧ gj_S t ≤ gj_S (t + d) := by
  intro d
  induction d with
  | zero => intro t _; exact ⟨Nat.le_refl _, Nat.le_refl _⟩
  | succ d ih =>
    intro t h
    have i := ih t (by omega)
    have s := gj_F_m1 ⟨t + d, by omega⟩
    exact ⟨Nat.le_trans i.1 s.1, Nat.le_trans i.2 s.2⟩
/-- rules more, k of them, with a names and j looks -/
theorem gj_F_s {t t' a j : Nat} (h : t + a + 2 * j + 3 ≤ t') (h2 : t' ≤ 50) (h3 : t < 3 → a = 0) : a * (2 + gj_F t) + j ≤ gj_F t' ∧ gj_S t + (a * (2 + gj_F t) + j) ≤ gj_S t' := by
  have c := gj_F_c ⟨t, by omega⟩ ⟨a, by omega⟩ ⟨j, by omega⟩ (by show t + a + 2 * j + 3 ≤ 50; omega) h3
  have m := gj_F_m (t' - (t + a + 2 * j + 3)) (t + a + 2 * j + 3) (by omega)
  rw [show t + a + 2 * j + 3 + (t' - (t + a + 2 * j + 3)) = t' by omega] at m
  exact ⟨Nat.le_trans c.1 m.1, Nat.le_trans c.2 m.2⟩
