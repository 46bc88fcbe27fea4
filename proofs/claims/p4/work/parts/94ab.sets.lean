/-! Sets of characters: bits, and what a class of the text holds. -/
/-- the character c is in a head -/
def gp_ih (lw hg : Nat → Int64) (n : Nat) (c : Int) : Prop := (32 ≤ c ∧ c < 96 ∧ gp_bl (lw n) (c - 32).toNat = true) ∨ (96 ≤ c ∧ c ≤ 126 ∧ gp_bl (hg n) (c - 96).toNat = true)
/-- an item of a class, from i on, holds c -/
def gq_it (tx : Nat → Int) (ty i : Nat) (c : Int) : Prop := if gp_cn tx ty i = i + 3 then tx i ≤ c ∧ c ≤ tx (i + 2) else c = tx i
def gq_ni (tx : Nat → Int) (ty a : Nat) : Nat → Nat
  | 0 => a
  | k + 1 => gp_cn tx ty (gq_ni tx ty a k)
/-- the first k items from a on hold c -/
def gq_ic (tx : Nat → Int) (ty a k : Nat) (c : Int) : Prop := ∃ j, j < k ∧ gq_it tx ty (gq_ni tx ty a j) c
/-- what a leaf from a to b holds: all if a = b -/
def gq_st (tx : Nat → Int) (ty a b : Nat) (c : Int) : Prop := (a = b ∧ 32 ≤ c ∧ c ≤ 126) ∨ ∃ k, b = gq_ni tx ty a k ∧ 1 ≤ k ∧ gq_ic tx ty a k c
