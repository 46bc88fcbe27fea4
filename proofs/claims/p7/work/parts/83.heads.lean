/-! Heads, as the reference adds to them: bit by bit. -/
def gp_bl (v : Int64) (q : Nat) : Bool := v.toBitVec.getLsbD q
theorem gp_bl_or (a b : Int64) (q : Nat) : gp_bl (a ||| b) q = (gp_bl a q || gp_bl b q) := by
  unfold gp_bl
  rw [Int64.toBitVec_or, BitVec.getLsbD_or]
theorem gx_lus (f : Nat → Int64) (k : Nat) (x : Int64) : vp_updL f k x k = x := if_pos rfl
theorem gx_lun (f : Nat → Int64) (k : Nat) (x : Int64) {j : Nat} (h : j ≠ k) : vp_updL f k x j = f j := if_neg h
/-- a head holds a character, as far as the others' do: rw what a row brings -/
def gp_hF (kd on tw M : Nat → Int32) (em hd : Nat → Prop) (rw : Prop) (n : Nat) : Prop :=
  ((kd n).toInt = 1 ∧ rw) ∨ ((kd n).toInt = 3 ∧ hd (Int32.toNatClampNeg (M n))) ∨ ((kd n).toInt = 4 ∧ (hd (Int32.toNatClampNeg (on n)) ∨ (em (Int32.toNatClampNeg (on n)) ∧ hd (Int32.toNatClampNeg (tw n))))) ∨ ((kd n).toInt = 5 ∧ (hd (Int32.toNatClampNeg (on n)) ∨ hd (Int32.toNatClampNeg (tw n)))) ∨ (((kd n).toInt = 6 ∨ (kd n).toInt = 7 ∨ (kd n).toInt = 10) ∧ hd (Int32.toNatClampNeg (on n)))
/-- addHead: both rows at one place -/
theorem gy_s_MD_addHead (x y : Int32) (S : gm_S) (hx : 0 ≤ x.toInt) (hx2 : x.toInt < 320) (hy : 0 ≤ y.toInt) (hy2 : y.toInt < 320) : gm_p_MD_addHead x y S ∧ (fun z : Int32 × gm_S => z.2.2.1 17 = vp_updL (S.2.1 17) (Int32.toNatClampNeg x) (S.2.1 17 (Int32.toNatClampNeg x) ||| S.2.1 17 (Int32.toNatClampNeg y)) ∧ z.2.2.1 18 = vp_updL (S.2.1 18) (Int32.toNatClampNeg x) (S.2.1 18 (Int32.toNatClampNeg x) ||| S.2.1 18 (Int32.toNatClampNeg y))) (gm_f_MD_addHead x y S) := by
  have i1 : vp_in x 320 := vp_in_iff.mpr (by omega)
  have i2 : vp_in y 320 := vp_in_iff.mpr (by omega)
  unfold gm_p_MD_addHead gm_f_MD_addHead
  exact ⟨⟨i1, i2, i1, i1, i2, i1, trivial⟩, rfl, rfl⟩
theorem gp_sh_lo : ∀ j : Nat, j < 64 → ∀ q : Nat, q < 64 → gp_bl (1 <<< ((nI (j + 32) - 32).toInt64 &&& 63)) q = decide (q = j) := by decide +kernel
theorem gp_sh_hi : ∀ j : Nat, j < 31 → ∀ q : Nat, q < 64 → gp_bl (1 <<< ((nI (j + 96) - 96).toInt64 &&& 63)) q = decide (q = j) := by decide +kernel
