/-! The class writes code: a node. -/
theorem gt_jf_2 (k : Nat) (y x : Lean.ParserDescr) : ∀ A : List Lean.ParserDescr, gt_jf k (A ++ [gp_e2 k y x]) = gt_jf k (A ++ [y, x]) := by
  intro A
  induction A with
  | nil => rfl
  | cons a A ih =>
    cases A with
    | nil => rfl
    | cons b A => exact congrArg (gp_e2 k a) ih
theorem gt_jf_fo (k : Nat) : ∀ (r : List Lean.ParserDescr) (x : Lean.ParserDescr), r.foldl (fun acc y => gp_e2 k y acc) x = gt_jf k (r.reverse ++ [x]) := by
  intro r
  induction r with
  | nil => intro x; rfl
  | cons y r ih =>
    intro x
    rw [List.foldl_cons, ih, gt_jf_2, List.reverse_cons, List.append_assoc]
    rfl
theorem gt_jn (k : Nat) (l : List Lean.ParserDescr) : gp_jn k l = gt_jf k l.reverse := by
  cases l with
  | nil => rfl
  | cons x r => rw [List.reverse_cons]; exact gt_jf_fo k r x
/-- all that a layout needs of the tree -/
def gt_tree (tx : Nat → Int) (ty R : Nat) (f : Nat → Int × Lean.ParserDescr) (T0 T : gm_S) (nn : Nat) : Prop := gq_RT tx ty T0 nn R f ∧ gq_TE T0 T ∧ (∀ j, T.1 5 j = 0 ∨ T.1 5 j = 1) ∧ (∀ d e, d < nn → gq_Tr tx ty T0 d e → (T.1 5 d = 1 ↔ gq_em (gq_EL f R) e)) ∧ ∀ c : Int, 32 ≤ c → c ≤ 126 → (∀ d e, d < nn → gq_Tr tx ty T0 d e → (gp_ih (T.2.1 7) (T.2.1 8) d c ↔ gq_fb (gq_EL f R) (gq_lfH tx ty c) gq_sx (fun k => gq_lH tx ty f R c (gq_fx f (k : Int) R)) e)) ∧ ∀ d, d < nn → (T0.1 0 d).toInt = 0 → (gp_ih (T.2.1 7) (T.2.1 8) d c ↔ gp_ih (T0.2.1 7) (T0.2.1 8) d c)
/-- the node d holds the characters C -/
def gt_hd (T : gm_S) (d : Int32) (C : Int → Prop) : Prop := 0 ≤ d.toInt ∧ d.toInt < (T.2.2 11).toInt ∧ ∀ c : Int, 32 ≤ c → c ≤ 126 → (gp_ih (T.2.1 7) (T.2.1 8) (Int32.toNatClampNeg d) c ↔ C c)
abbrev gt_ctx (tx : Nat → Int) (ty R : Nat) (f : Nat → Int × Lean.ParserDescr) (T : gm_S) : gt_X := (gt_hd T, gq_em (gq_EL f R), fun e c => gq_fb (gq_EL f R) (gq_lfH tx ty c) gq_sx (fun k => gq_lH tx ty f R c (gq_fx f (k : Int) R)) e, tx, ty, fun c => gq_fx f (c : Int) R)
theorem gt_em {tx : Nat → Int} {ty R nn : Nat} {f : Nat → Int × Lean.ParserDescr} {T0 T : gm_S} (h : gt_tree tx ty R f T0 T nn) {d : Nat} {e : Lean.ParserDescr} (hd : d < nn) (r : gq_Tr tx ty T0 d e) : T.1 5 d = 0 ↔ ¬ gq_em (gq_EL f R) e := by
  rw [← h.2.2.2.1 d e hd r]
  rcases h.2.2.1 d with t | t
  · rw [t]; exact ⟨fun _ => by decide, fun _ => rfl⟩
  · rw [t]; exact ⟨fun t => absurd t (by decide), fun t => absurd rfl t⟩
theorem gt_hdn {tx : Nat → Int} {ty R nn : Nat} {f : Nat → Int × Lean.ParserDescr} {T0 T : gm_S} (h : gt_tree tx ty R f T0 T nn) {p : Int32} {e : Lean.ParserDescr} (h0 : 0 ≤ p.toInt) (hd : Int32.toNatClampNeg p < nn) (r : gq_Tr tx ty T0 (Int32.toNatClampNeg p) e) : gt_hd T p ((gt_ctx tx ty R f T).2.2.1 e) := by
  have c := gx_cl p h0
  refine ⟨h0, ?_, fun c c1 c2 => (h.2.2.2.2 c c1 c2).1 _ e hd r⟩
  rw [h.2.1.2.2.2.2.2.2.2.1, h.1.1.1]
  omega
/-- a set is taken -/
theorem gt_take {X : gt_X} {T : gm_S} {F : Nat} {x y : Int32} {e : Lean.ParserDescr} {C : Int → Prop} {w : Nat} (hy : y < 40) (h0 : T.1 0 (Int32.toNatClampNeg x) = 0) (hC : X.1 x C) (hw : 1 ≤ w) (hL : ∀ (op od tg : Nat → Int32) (n : Nat), op n = 0 → X.1 (od n) C → gt_L X op od tg e n (n + 1)) : gt_fx X T (gm_g_Code_writeNode (F + 1)) x y w e := by
  intro S n op od tg hT hn h200 e1 e2 e3
  rw [gm_g_Code_writeNode]
  unfold gm_f_Code_writeNode
  rw [if_pos hy]
  refine gf_ca (Q := gt_W X op od tg n w e) (fun _ => True) trivial (fun _ _ _ => ?_)
  rw [hT, if_pos h0]
  refine gf_ca (Q := gt_W X op od tg n w e) (gt_aQ op od tg 0 x n) (gt_add 0 x _ hn (by omega) e1 e2 e3) (fun r u hu => ?_)
  obtain ⟨a1, a2, a3, a4, a5⟩ := hu
  have a3 : u.1.1 1 = upd op n 0 := a3
  have a4 : u.1.1 2 = upd od n x := a4
  have a5 : u.1.1 3 = upd tg n (-1) := a5
  refine ⟨n + 1, a2, by omega, ?_, ?_, fun k k1 k2 k3 => ?_⟩
  · show gt_L X (u.1.1 1) (u.1.1 2) (u.1.1 3) e n (n + 1)
    rw [a3, a4, a5]
    exact hL _ _ _ n (gx_us _ _ _) (by rw [gx_us]; exact hC)
  · show gt_sm op od tg (u.1.1 1) (u.1.1 2) (u.1.1 3) 0 n
    rw [a3, a4, a5]
    exact gt_sm_u _ _ _ _ _ _ _
  · have k3 : u.1.1 1 k = 5 := k3
    have : k = n := by omega
    rw [a3, this, gx_us] at k3
    exact absurd k3 (by decide)
/-- a row of sets is a row -/
def gt_rl (a : Nat) : Nat → List Lean.ParserDescr
  | 0 => []
  | n + 1 => gp_e0 1 a 1 :: gt_rl (a + 1) n
theorem gt_row {X : gt_X} {op od tg : Nat → Int32} : ∀ (m a n b : Nat), gt_L X op od tg (gt_jf 4 (gt_rl a m)) n b → gt_L X op od tg (gp_e0 1 a m) n b := by
  intro m
  induction m with
  | zero =>
    intro a n b h
    have : b = n := h.2.1 rfl
    exact ⟨by decide, fun q => absurd q (by decide), fun _ => ⟨this, fun j hj => absurd hj (Nat.not_lt_zero j)⟩, fun q => absurd q (by decide), fun q => absurd q (by decide)⟩
  | succ m ih =>
    intro a n b h
    cases m with
    | zero => exact h
    | succ m =>
      rcases h with ⟨q, -⟩ | ⟨-, -, k, h1, h2⟩ | ⟨-, q, -⟩
      · exact absurd q (by decide)
      · obtain ⟨g1, g2⟩ := h1.2.2.1 rfl
        obtain ⟨g3, g4⟩ := (ih (a + 1) k b h2).2.2.1 rfl
        have g1 : k = n + 1 := g1
        have g3 : b = k + (m + 1) := g3
        have g2 := g2 0 (by show 0 < 1; omega)
        refine ⟨by decide, fun q => absurd q (by decide), fun _ => ⟨by show b = n + (m + 1 + 1); omega, fun j hj => ?_⟩, fun q => absurd q (by decide), fun q => absurd q (by decide)⟩
        have hj : j < m + 1 + 1 := hj
        cases j with
        | zero => exact g2
        | succ j =>
          have := g4 j (by show j < m + 1; omega)
          rw [show n + (j + 1) = k + j by omega]
          refine ⟨this.1, ?_⟩
          have e : (fun c : Int => c = X.2.2.2.1 (gp_n1 (Lean.Name.num (Lean.Name.num .anonymous a) (m + 1 + 1)) + (j + 1))) = (fun c : Int => c = X.2.2.2.1 (gp_n1 (Lean.Name.num (Lean.Name.num .anonymous (a + 1)) (m + 1)) + j)) := by
            funext c
            show (c = X.2.2.2.1 (a + (j + 1))) = (c = X.2.2.2.1 (a + 1 + j))
            rw [show a + (j + 1) = a + 1 + j by omega]
          rw [e]
          exact this.2
      · exact absurd q (by decide)
