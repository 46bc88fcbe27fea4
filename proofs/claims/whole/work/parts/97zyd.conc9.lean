/-! The class's runner against the machine over lists: from the beginning. -/
theorem gw_fill5 {n : Nat} {x : Int32} {S : gm_S} (hn : n ≤ 90) : ∀ (F : Nat) (v : Int32) (U : gm_S) (k : Nat), v.toInt = (k : Nat) → k ≤ n → n < F + k → (∀ i, i < k → U.1 0 i = x) → ∀ i, i < n → (gm_f_Arrays_fill_5 n x S F v U).2.1 0 i = x := by
  have on : (Int32.ofNat n).toInt = n := gx_on n (by omega)
  intro F
  induction F with
  | zero => intro v U k _ h1 h2; omega
  | succ F ih =>
    intro v U k hv h1 h2 hU i hi
    have cv := gp_cl_n hv
    have av := gx_ak v 1 1 (by decide)
    rw [gm_f_Arrays_fill_5]
    by_cases q : Int32.ofNat n ≤ v
    · rw [if_pos q]
      rw [Int32.le_iff_toInt_le] at q
      exact hU i (by omega)
    · rw [if_neg q]
      rw [Int32.le_iff_toInt_le] at q
      refine ih (v + 1) _ (k + 1) (by omega) (by omega) (by omega) (fun j hj => ?_) i hi
      show upd (U.1 0) (Int32.toNatClampNeg v) x j = x
      rw [cv]
      by_cases e : j = k
      · rw [e, gx_us]
      · rw [gx_un _ _ _ e]
        exact hU j (by omega)
def gw_M0 : gv_Mm := (fun _ _ => -2, fun _ _ => [], 0)
def gw_bgQ (x : Int32) (z : Int32 × (gm_S × gm_S × gm_S × gm_S × gm_S)) : Prop := z.2.1.2.2 7 = 0 ∧ z.2.1.2.2 10 = x ∧ z.2.1.2.2 11 = 0 ∧ z.2.1.2.2 12 = 0 ∧ z.2.1.2.2 13 = 0 ∧ z.2.1.2.2 14 = 0 ∧ z.2.2.1.2.2 2 = 0 ∧ (∀ i, i < 88 → z.2.2.2.1.1 0 i = -2) ∧ z.2.2.2.2.1.2.2 2 = 0
theorem gw_begin (x : Int32) (S : gm_S × gm_S × gm_S × gm_S × gm_S) : gw_bgQ x (gm_f_Runner_begin x S) := by
  unfold gm_f_Runner_begin
  refine gf_ca (Q := gw_bgQ x) (fun z => (∀ i, i < 88 → z.2.1.1 0 i = -2) ∧ z.2.2.2.2 2 = 0) ?_ (fun r u hu => ⟨rfl, rfl, rfl, rfl, rfl, rfl, rfl, hu.1, hu.2⟩)
  unfold gm_f_Memory_forget
  refine gf_ca (Q := fun z : Int32 × (gm_S × gm_S) => (∀ i, i < 88 → z.2.1.1 0 i = -2) ∧ z.2.2.2.2 2 = 0) (fun z => ∀ i, i < 88 → z.2.1 0 i = -2) ?_ (fun r u hu => ⟨hu, rfl⟩)
  unfold gm_f_Arrays_fill
  exact gw_fill5 (by omega) 100 0 _ 0 (by decide) (by omega) (by omega) (fun i hi => absurd hi (by omega))
theorem gw_run {A : gv_A} (x : Int32) (S : gw_S8) {s : gv_Sx} {n : Nat} (hC : gw_C A ((S.1.1, S.1.2.1, (va_up S.1.2.2 10 x)), S.2.1, S.2.2.1, S.2.2.2.1, S.2.2.2.2.1, S.2.2.2.2.2.2.1, S.2.2.2.2.2.2.2)) (hs : s.1 = 1 ∨ s.1 = 2 ∨ s.1 = 3) (hn : n < 1000000000) (hr : gv_run A n (0, 0, 0, [], [], 0, gw_M0) = s) : gw_fin s (gm_f_Runner_run x S) := by
  have z0 : (0 : Int32).toInt = 0 := by decide
  have n2 : (-2 : Int32).toInt = -2 := by decide
  unfold gm_f_Runner_run
  refine gf_ca (Q := gw_fin s) (gw_bgQ x) (gw_begin x _) (fun r3 u3 h3 => ?_)
  obtain ⟨b7, b10, b11, b12, b13, b14, bc, bm, bk⟩ := h3
  have b7 : u3.1.2.2 7 = 0 := b7
  have b10 : u3.1.2.2 10 = x := b10
  have b11 : u3.1.2.2 11 = 0 := b11
  have b12 : u3.1.2.2 12 = 0 := b12
  have b13 : u3.1.2.2 13 = 0 := b13
  have b14 : u3.1.2.2 14 = 0 := b14
  have bc : u3.2.1.2.2 2 = 0 := bc
  have bm : ∀ i, i < 88 → u3.2.2.1.1 0 i = -2 := bm
  have bk : u3.2.2.2.1.2.2 2 = 0 := bk
  obtain ⟨c1, c2, c3, c4, c5, c6, c7, c8, c9⟩ := hC
  refine gw_run8 x S u3 hs n 1000000001 0 _ (0, 0, [], [], 0, gw_M0) ⟨c1, c2, c3, c4, c5, c6, c7, ?_, c9⟩ ⟨?_, ?_, Nat.zero_le 10, ?_, Nat.zero_le 550, trivial, ⟨?_, Nat.zero_le 275, trivial⟩, ?_, [], ⟨?_, Nat.zero_le 5720, trivial⟩, rfl, fun r p hr hp => ⟨?_, ⟨by show (-2 : Int) ≤ -2; omega, by show (-2 : Int) ≤ 10; omega⟩, fun w => absurd (show (0 : Int) ≤ -2 from w) (by omega)⟩⟩ ?_ (by omega) (by rw [z0]; omega) (by rw [z0]; omega) (by show 0 + n < 2000000000; omega) hr
  · show u3.1.2.2 10 = 0 ↔ _
    rw [b10]; exact c8
  · show (u3.1.2.2 12).toInt = 0
    rw [b12]; exact z0
  · show (u3.1.2.2 13).toInt = 0
    rw [b13]; exact z0
  · show (u3.1.2.2 7).toInt = 0
    rw [b7]; exact z0
  · show (u3.2.1.2.2 2).toInt = 0
    rw [bc]; exact z0
  · show (u3.1.2.2 14).toInt = 0
    rw [b14]; exact z0
  · show (u3.2.2.2.1.2.2 2).toInt = 0
    rw [bk]; exact z0
  · show (u3.2.2.1.1 0 (11 * r + p)).toInt = -2
    rw [bm _ (by omega)]; exact n2
  · show (u3.1.2.2 11).toInt = 0
    rw [b11]; exact z0
