/-! How much code a node of the class makes, and how deep it is. -/
/-- a row of parts, the first first -/
def gq_fw (R : Nat → Lean.ParserDescr → Prop) (pt : Nat → Int32) : List Lean.ParserDescr → Nat → Prop
  | [], _ => True
  | e :: r, i => 0 ≤ (pt i).toInt ∧ R (Int32.toNatClampNeg (pt i)) e ∧ gq_fw R pt r (i + 1)
theorem gq_fw_sn {R : Nat → Lean.ParserDescr → Prop} {pt : Nat → Int32} {e : Lean.ParserDescr} : ∀ (l : List Lean.ParserDescr) (i : Nat), gq_fw R pt l i → 0 ≤ (pt (i + l.length)).toInt → R (Int32.toNatClampNeg (pt (i + l.length))) e → gq_fw R pt (l ++ [e]) i := by
  intro l
  induction l with
  | nil => intro i _ h1 h2; exact ⟨h1, h2, trivial⟩
  | cons x r ih =>
    intro i h h1 h2
    have h1 : 0 ≤ (pt (i + (r.length + 1))).toInt := h1
    have h2 : R (Int32.toNatClampNeg (pt (i + (r.length + 1)))) e := h2
    rw [show i + (r.length + 1) = i + 1 + r.length by omega] at h1 h2
    exact ⟨h.1, h.2.1, ih (i + 1) h.2.2 h1 h2⟩
theorem gq_sg_fw {R : Nat → Lean.ParserDescr → Prop} {pt : Nat → Int32} : ∀ (l : List Lean.ParserDescr) (lo hi : Nat), gq_sg R pt l lo hi → gq_fw R pt l.reverse lo ∧ hi = lo + l.length := by
  intro l
  induction l with
  | nil => intro lo hi h; exact ⟨trivial, h⟩
  | cons e r ih =>
    intro lo hi h
    obtain ⟨k, h1, h2, h3, h4⟩ := h
    obtain ⟨i1, i2⟩ := ih lo k h4
    rw [List.reverse_cons]
    refine ⟨gq_fw_sn _ lo i1 ?_ ?_, ?_⟩
    · rw [List.length_reverse, ← i2]; exact h2
    · rw [List.length_reverse, ← i2]; exact h3
    · rw [List.length_cons]; omega
/-- how much code an expression makes -/
def gt_w : Lean.ParserDescr → Nat
  | .cat nm k => if k = 1 then gp_n2 nm else if k = 0 then 0 else 1
  | .node _ k x => gt_w x + (if k = 6 ∨ k = 7 then 3 else 2)
  | .binary nm x y => if gp_n1 nm = 1 then gt_w x + 5 else gt_w x + gt_w y + (if gp_n2 nm = 5 then 3 else 0)
  | _ => 0
def gq_fww (P : Nat → Nat → Prop) (pt : Nat → Int32) : List Nat → Nat → Prop
  | [], _ => True
  | w :: r, i => P (Int32.toNatClampNeg (pt i)) w ∧ gq_fww P pt r (i + 1)
def gq_ex (k : Int) (m : Nat) : Nat := if k = 2 then 0 else if k = 3 then 3 * (m - 1) else if k = 4 ∨ k = 5 then 3 else if k = 6 then 5 else 2
def gq_C (kd fr to pt : Nat → Int32) : Nat → Nat → Nat → Prop
  | 0, d, w => (kd d).toInt ≤ 1 ∧ 1 ≤ w
  | k + 1, d, w => ((kd d).toInt ≤ 1 ∧ 1 ≤ w) ∨ (2 ≤ (kd d).toInt ∧ 0 ≤ (fr d).toInt ∧ ∃ ws : List Nat, (to d).toInt = (fr d).toInt + ws.length ∧ gq_fww (fun d' w' => d' < d ∧ gq_C kd fr to pt k d' w') pt ws (Int32.toNatClampNeg (fr d)) ∧ gq_ex (kd d).toInt ws.length + ws.sum ≤ w)
theorem gq_fww_m {P P' : Nat → Nat → Prop} {pt pt' : Nat → Int32} : ∀ (ws : List Nat) (i : Nat), (∀ j w, i ≤ j → j < i + ws.length → P (Int32.toNatClampNeg (pt j)) w → P' (Int32.toNatClampNeg (pt' j)) w) → gq_fww P pt ws i → gq_fww P' pt' ws i := by
  intro ws
  induction ws with
  | nil => intro i _ _; exact trivial
  | cons w r ih =>
    intro i h q
    have hl : (w :: r).length = r.length + 1 := rfl
    exact ⟨h i w (Nat.le_refl i) (by omega) q.1, ih (i + 1) (fun j w j1 j2 => h j w (by omega) (by omega)) q.2⟩
theorem gq_C_k {kd fr to pt : Nat → Int32} : ∀ (k d w : Nat), gq_C kd fr to pt k d w → gq_C kd fr to pt (k + 1) d w := by
  intro k
  induction k with
  | zero => intro d w h; exact Or.inl h
  | succ k ih =>
    intro d w h
    rcases h with h | ⟨h1, h0, ws, h2, h3, h4⟩
    · exact Or.inl h
    · exact Or.inr ⟨h1, h0, ws, h2, gq_fww_m ws _ (fun j w' _ _ q => ⟨q.1, ih _ _ q.2⟩) h3, h4⟩
theorem gq_C_kk {kd fr to pt : Nat → Int32} {k k' d w : Nat} (hk : k ≤ k') (h : gq_C kd fr to pt k d w) : gq_C kd fr to pt k' d w := by
  induction k' with
  | zero =>
    have : k = 0 := by omega
    subst this
    exact h
  | succ k' ih =>
    by_cases q : k = k' + 1
    · subst q; exact h
    · exact gq_C_k k' d w (ih (by omega))
theorem gq_C_tr {kd fr to pt kd' fr' to' pt' : Nat → Int32} {N M : Nat} (h1 : ∀ d, d < N → kd' d = kd d ∧ fr' d = fr d ∧ to' d = to d) (h2 : ∀ i, i < M → pt' i = pt i) (h3 : ∀ d, d < N → (to d).toInt ≤ M) : ∀ (k d w : Nat), d < N → gq_C kd fr to pt k d w → gq_C kd' fr' to' pt' k d w := by
  intro k
  induction k with
  | zero =>
    intro d w hd h
    obtain ⟨e1, -, -⟩ := h1 d hd
    show (kd' d).toInt ≤ 1 ∧ 1 ≤ w
    rw [e1]
    exact h
  | succ k ih =>
    intro d w hd h
    obtain ⟨e1, e2, e3⟩ := h1 d hd
    rcases h with h | ⟨g1, b1, ws, g2, g3, g4⟩
    · left
      rw [e1]
      exact h
    · right
      rw [e1, e2, e3]
      have b2 := h3 d hd
      have cf := gx_cl (fr d) b1
      refine ⟨g1, b1, ws, g2, gq_fww_m ws _ (fun j w' j1 j2 q => ?_) g3, g4⟩
      rw [h2 j (by omega)]
      exact ⟨q.1, ih _ _ (by omega) q.2⟩
theorem gt_w_fo (k : Nat) : ∀ (r : List Lean.ParserDescr) (x : Lean.ParserDescr), gt_w (r.foldl (fun acc y => gp_e2 k y acc) x) = gt_w x + (r.map gt_w).sum + (if k = 5 then 3 else 0) * r.length := by
  intro r
  induction r with
  | nil => intro x; show gt_w x = gt_w x + 0 + _ * 0; omega
  | cons y r ih =>
    intro x
    rw [List.foldl_cons, ih, List.map_cons, List.sum_cons, List.length_cons]
    have e : gt_w (gp_e2 k y x) = gt_w y + gt_w x + (if k = 5 then 3 else 0) := rfl
    rw [e, Nat.mul_add, Nat.mul_one]
    omega
theorem gt_w_jn (k : Nat) (l : List Lean.ParserDescr) : gt_w (gp_jn k l) = (l.map gt_w).sum + (if k = 5 then 3 else 0) * (l.length - 1) := by
  cases l with
  | nil => rfl
  | cons x r =>
    show gt_w (r.foldl (fun acc y => gp_e2 k y acc) x) = _
    rw [gt_w_fo, List.map_cons, List.sum_cons, List.length_cons, show r.length + 1 - 1 = r.length by omega]
theorem gt_sum_rev : ∀ l : List Nat, l.reverse.sum = l.sum := by
  intro l
  exact List.sum_reverse l
/-- the weights of a row of parts -/
theorem gq_fw_ww {R : Nat → Lean.ParserDescr → Prop} {P : Nat → Nat → Prop} {pt : Nat → Int32} (h : ∀ d e, R d e → P d (gt_w e)) : ∀ (l : List Lean.ParserDescr) (i : Nat), gq_fw R pt l i → gq_fww P pt (l.map gt_w) i := by
  intro l
  induction l with
  | nil => intro i _; exact trivial
  | cons e r ih => intro i q; exact ⟨h _ _ q.2.1, ih (i + 1) q.2.2⟩
theorem gq_fww_rep {P : Nat → Nat → Prop} {pt : Nat → Int32} {w : Nat} : ∀ (j i : Nat), (∀ k, k < j → P (Int32.toNatClampNeg (pt (i + k))) w) → gq_fww P pt (List.replicate j w) i := by
  intro j
  induction j with
  | zero => intro i _; exact trivial
  | succ j ih =>
    intro i h
    refine ⟨h 0 (by omega), ih (i + 1) (fun k hk => ?_)⟩
    have := h (k + 1) (by omega)
    rw [show i + (k + 1) = i + 1 + k by omega] at this
    exact this
theorem gt_sum_rep : ∀ (j : Nat), (List.replicate j 1).sum = j := by
  intro j
  induction j with
  | zero => rfl
  | succ j ih => rw [List.replicate_succ, List.sum_cons, ih]; omega
theorem gt_w_row (a b : Nat) : gt_w (gp_e0 1 a b) = b := rfl
theorem gq_C_lf {kd fr to pt : Nat → Int32} {k d w : Nat} (h : (kd d).toInt ≤ 1) (hw : 1 ≤ w) : gq_C kd fr to pt k d w := by
  cases k with
  | zero => exact ⟨h, hw⟩
  | succ k => exact Or.inl ⟨h, hw⟩
