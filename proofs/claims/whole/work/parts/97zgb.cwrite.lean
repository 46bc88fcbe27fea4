/-! The class writes code: the pieces. -/
abbrev gt_St : Type := gm_S × gm_S
/-- an instruction is added -/
def gt_aQ (op od tg : Nat → Int32) (x y : Int32) (n : Nat) (z : Int32 × gt_St) : Prop := z.1.toInt = (n : Nat) ∧ (z.2.1.2.2 5).toInt = ((n + 1 : Nat) : Int) ∧ z.2.1.1 1 = upd op n x ∧ z.2.1.1 2 = upd od n y ∧ z.2.1.1 3 = upd tg n (-1)
theorem gt_add {op od tg : Nat → Int32} (x y : Int32) (S : gt_St) {n : Nat} (hn : (S.1.2.2 5).toInt = (n : Nat)) (h : n < 200) (e1 : S.1.1 1 = op) (e2 : S.1.1 2 = od) (e3 : S.1.1 3 = tg) : gt_aQ op od tg x y n (gm_f_Code_add x y S) := by
  have c := gx_cl (S.1.2.2 5) (by omega)
  have a1 := gx_ak (S.1.2.2 5) 1 1 (by decide)
  have s1 := gx_sk (S.1.2.2 5 + 1) 1 1 (by decide)
  have l : S.1.2.2 5 < 200 := by rw [Int32.lt_iff_toInt_lt, gx_lit 200 (by decide)]; omega
  unfold gm_f_Code_add
  rw [if_pos l]
  have cn : Int32.toNatClampNeg (S.1.2.2 5) = n := by omega
  refine ⟨?_, ?_, ?_, ?_, ?_⟩
  · show ((S.1.2.2 5 + 1) - 1).toInt = (n : Nat)
    omega
  · show (S.1.2.2 5 + 1).toInt = ((n + 1 : Nat) : Int)
    omega
  · show upd (S.1.1 1) (Int32.toNatClampNeg (S.1.2.2 5)) x = upd op n x
    rw [cn, e1]
  · show upd (S.1.1 2) (Int32.toNatClampNeg (S.1.2.2 5)) y = upd od n y
    rw [cn, e2]
  · show upd (S.1.1 3) (Int32.toNatClampNeg (S.1.2.2 5)) (-1) = upd tg n (-1)
    rw [cn, e3]
/-- an instruction is aimed: k at v -/
def gt_mQ (tg : Nat → Int32) (k v : Nat) (z : Int32 × gt_St) : Prop := ∃ s : Int32, s.toInt = (v : Nat) ∧ z.2.1.1 3 = upd tg k s
theorem gt_aim {tg : Nat → Int32} (x : Int32) (S : gt_St) {n k : Nat} (hn : (S.1.2.2 5).toInt = (n : Nat)) (hx : x.toInt = (k : Nat)) (h : k < n) (e3 : S.1.1 3 = tg) : gt_mQ tg k n (gm_f_Code_aim x S) := by
  have c := gx_cl x (by omega)
  have l0 : ¬ x < 0 := by rw [Int32.lt_iff_toInt_lt]; have : (0 : Int32).toInt = 0 := by decide
                          omega
  have l1 : ¬ S.1.2.2 5 ≤ x := by rw [Int32.le_iff_toInt_le]; omega
  unfold gm_f_Code_aim
  rw [if_neg l0, if_neg l1]
  refine ⟨S.1.2.2 5, hn, ?_⟩
  show upd (S.1.1 3) (Int32.toNatClampNeg x) (S.1.2.2 5) = upd tg k (S.1.2.2 5)
  rw [e3, show Int32.toNatClampNeg x = k by omega]
def gt_nQ (tg : Nat → Int32) (z : Int32 × gt_St) : Prop := z.2.1.1 3 = tg
theorem gt_aimn {tg : Nat → Int32} (x : Int32) (S : gt_St) (hx : x = -1) (e3 : S.1.1 3 = tg) : gt_nQ tg (gm_f_Code_aim x S) := by
  unfold gm_f_Code_aim
  rw [if_pos (by rw [hx]; decide)]
  exact e3
/-- a look, where there is one -/
def gt_kQ (X : gt_X) (op od tg : Nat → Int32) (e : Lean.ParserDescr) (x : Int32) (n : Nat) (z : Int32 × gt_St) : Prop := (X.2.1 e ∧ z.1 = -1 ∧ (z.2.1.2.2 5).toInt = (n : Nat) ∧ z.2.1.1 1 = op ∧ z.2.1.1 2 = od ∧ z.2.1.1 3 = tg) ∨ (¬ X.2.1 e ∧ gt_aQ op od tg 1 x n z)
theorem gt_look {X : gt_X} {op od tg : Nat → Int32} {e : Lean.ParserDescr} (x : Int32) (S : gt_St) {n : Nat} (hem : S.2.1 5 (Int32.toNatClampNeg x) = 0 ↔ ¬ X.2.1 e) (hn : (S.1.2.2 5).toInt = (n : Nat)) (h : n < 200) (e1 : S.1.1 1 = op) (e2 : S.1.1 2 = od) (e3 : S.1.1 3 = tg) : gt_kQ X op od tg e x n (gm_f_Code_writeLook x S) := by
  unfold gm_f_Code_writeLook
  refine gf_if (Q := gt_kQ X op od tg e x n) (fun q => ?_) (fun q => ?_)
  · refine gf_ca (Q := gt_kQ X op od tg e x n) (gt_aQ op od tg 1 x n) (gt_add 1 x _ hn h e1 e2 e3) (fun r u hu => ?_)
    exact Or.inr ⟨hem.mp q, hu⟩
  · exact Or.inl ⟨Classical.not_not.mp (fun w => q (hem.mpr w)), rfl, hn, e1, e2, e3⟩
/-- commits that are left open -/
def gt_cl (op tg : Nat → Int32) (a b : Nat) : Prop := ∀ k, a ≤ k → k < b → op k = 5 → ¬ tg k = -1
/-- an expression has been written from n on -/
def gt_W (X : gt_X) (op od tg : Nat → Int32) (n w : Nat) (e : Lean.ParserDescr) (z : Int32 × gt_St) : Prop := ∃ b, (z.2.1.2.2 5).toInt = (b : Nat) ∧ b ≤ n + w ∧ gt_L X (z.2.1.1 1) (z.2.1.1 2) (z.2.1.1 3) e n b ∧ gt_sm op od tg (z.2.1.1 1) (z.2.1.1 2) (z.2.1.1 3) 0 n ∧ gt_cl (z.2.1.1 1) (z.2.1.1 3) n b
/-- how a part is written, at the level y -/
def gt_fx (X : gt_X) (T : gm_S) (fx : Int32 → Int32 → gt_St → Int32 × gt_St) (x y : Int32) (w : Nat) (e : Lean.ParserDescr) : Prop := ∀ (S : gt_St) (n : Nat) (op od tg : Nat → Int32), S.2 = T → (S.1.2.2 5).toInt = (n : Nat) → n + w ≤ 200 → S.1.1 1 = op → S.1.1 2 = od → S.1.1 3 = tg → gt_W X op od tg n w e (fx x y S)
def gt_bQ (X : gt_X) (op od tg : Nat → Int32) (b0 b1 : Int32) (n w : Nat) (e : Lean.ParserDescr) (z : Int32 × gt_St) : Prop := z.1.toInt = (n : Nat) ∧ ∃ m, (z.2.1.2.2 5).toInt = ((m + 1 : Nat) : Int) ∧ m ≤ n + 1 + w ∧ z.2.1.1 1 n = b0 ∧ z.2.1.1 3 n = -1 ∧ gt_L X (z.2.1.1 1) (z.2.1.1 2) (z.2.1.1 3) e (n + 1) m ∧ z.2.1.1 1 m = b1 ∧ z.2.1.1 3 m = -1 ∧ gt_sm op od tg (z.2.1.1 1) (z.2.1.1 2) (z.2.1.1 3) 0 n ∧ gt_cl (z.2.1.1 1) (z.2.1.1 3) (n + 1) m
theorem gt_sm_u (op od tg : Nat → Int32) (x y v : Int32) (n : Nat) : gt_sm op od tg (upd op n x) (upd od n y) (upd tg n v) 0 n := fun k _ k2 => ⟨gx_un _ _ _ (by omega), gx_un _ _ _ (by omega), gx_un _ _ _ (by omega)⟩
theorem gt_between {X : gt_X} {T : gm_S} {op od tg : Nat → Int32} {fx : Int32 → Int32 → gt_St → Int32 × gt_St} {e : Lean.ParserDescr} {w : Nat} (b0 x b1 y : Int32) (S : gt_St) {n : Nat} (hf : gt_fx X T fx x (y + 1) w e) (hT : S.2 = T) (hn : (S.1.2.2 5).toInt = (n : Nat)) (h : n + w + 2 ≤ 200) (e1 : S.1.1 1 = op) (e2 : S.1.1 2 = od) (e3 : S.1.1 3 = tg) : gt_bQ X op od tg b0 b1 n w e (gm_f_Code_writeBetween fx b0 x b1 y S) := by
  unfold gm_f_Code_writeBetween
  refine gf_ca (Q := gt_bQ X op od tg b0 b1 n w e) (gt_aQ op od tg b0 (-1) n) (gt_add b0 (-1) _ hn (by omega) e1 e2 e3) (fun r3 u3 h3 => ?_)
  obtain ⟨a1, a2, a3, a4, a5⟩ := h3
  refine gf_ca (Q := gt_bQ X op od tg b0 b1 n w e) (gt_W X (upd op n b0) (upd od n (-1)) (upd tg n (-1)) (n + 1) w e) (hf _ (n + 1) _ _ _ hT a2 (by omega) a3 a4 a5) (fun r14 u14 h14 => ?_)
  obtain ⟨m, c1, c2, c3, c4, c5⟩ := h14
  have le := gt_L_le _ _ _ c3
  refine gf_ca (Q := gt_bQ X op od tg b0 b1 n w e) (gt_aQ (u14.1.1 1) (u14.1.1 2) (u14.1.1 3) b1 (-1) m) (gt_add b1 (-1) _ c1 (by omega) rfl rfl rfl) (fun r20 u20 h20 => ?_)
  obtain ⟨d1, d2, d3, d4, d5⟩ := h20
  have sm := gt_sm_u (u14.1.1 1) (u14.1.1 2) (u14.1.1 3) b1 (-1) (-1) m
  obtain ⟨g1, g2, g3⟩ := c4 n (by omega) (by omega)
  have d3 : u20.1.1 1 = upd (u14.1.1 1) m b1 := d3
  have d4 : u20.1.1 2 = upd (u14.1.1 2) m (-1) := d4
  have d5 : u20.1.1 3 = upd (u14.1.1 3) m (-1) := d5
  refine ⟨a1, m, d2, by omega, ?_, ?_, ?_, ?_, ?_, ?_, ?_⟩
  · show u20.1.1 1 n = b0
    rw [d3, gx_un _ _ _ (show n ≠ m by omega)]
    exact g1.trans (gx_us _ _ _)
  · show u20.1.1 3 n = -1
    rw [d5, gx_un _ _ _ (show n ≠ m by omega)]
    exact g3.trans (gx_us _ _ _)
  · show gt_L X (u20.1.1 1) (u20.1.1 2) (u20.1.1 3) e (n + 1) m
    rw [d3, d4, d5]
    exact gt_L_sm _ _ _ (gt_sm_w sm (by omega) (Nat.le_refl m)) c3
  · show u20.1.1 1 m = b1
    rw [d3, gx_us]
  · show u20.1.1 3 m = -1
    rw [d5, gx_us]
  · show gt_sm op od tg (u20.1.1 1) (u20.1.1 2) (u20.1.1 3) 0 n
    rw [d3, d4, d5]
    exact gt_sm_t (gt_sm_t (gt_sm_u op od tg b0 (-1) (-1) n) (gt_sm_w c4 (Nat.le_refl 0) (by omega))) (gt_sm_w sm (Nat.le_refl 0) (by omega))
  · show gt_cl (u20.1.1 1) (u20.1.1 3) (n + 1) m
    rw [d3, d5]
    intro k k1 k2
    rw [gx_un _ _ _ (show k ≠ m by omega), gx_un _ _ _ (show k ≠ m by omega)]
    exact c5 k k1 k2
/-- a look and a try, the commit left open -/
def gt_tQ (X : gt_X) (op od tg : Nat → Int32) (n w : Nat) (e : Lean.ParserDescr) (z : Int32 × gt_St) : Prop := ∃ l m, (z.2.1.2.2 5).toInt = ((m + 1 : Nat) : Int) ∧ m + 1 ≤ n + w + 3 ∧ gt_lk X (z.2.1.1 1) (z.2.1.1 2) (z.2.1.1 3) e n l (m + 1) ∧ z.2.1.1 1 l = 2 ∧ (z.2.1.1 3 l).toInt = ((m + 1 : Nat) : Int) ∧ gt_L X (z.2.1.1 1) (z.2.1.1 2) (z.2.1.1 3) e (l + 1) m ∧ z.2.1.1 1 m = 5 ∧ z.2.1.1 3 m = -1 ∧ gt_sm op od tg (z.2.1.1 1) (z.2.1.1 2) (z.2.1.1 3) 0 n ∧ gt_cl (z.2.1.1 1) (z.2.1.1 3) n m
/-- the aims of a look at n (where there is one) and of a try at l -/
theorem gt_aims {X : gt_X} {op od tg op' od' tg' tg2 tg3 : Nat → Int32} {e : Lean.ParserDescr} {x : Int32} {n l m : Nat} (hlk : (X.2.1 e ∧ l = n) ∨ (¬ X.2.1 e ∧ l = n + 1 ∧ op' n = 1 ∧ od' n = x)) (hX : X.1 x (X.2.2.1 e)) (h2 : (X.2.1 e ∧ tg2 = tg') ∨ (¬ X.2.1 e ∧ ∃ s : Int32, s.toInt = ((m + 1 : Nat) : Int) ∧ tg2 = upd tg' n s)) (h3 : ∃ s : Int32, s.toInt = ((m + 1 : Nat) : Int) ∧ tg3 = upd tg2 l s) : gt_lk X op' od' tg3 e n l (m + 1) ∧ (tg3 l).toInt = ((m + 1 : Nat) : Int) ∧ ∀ k, k ≠ l → (X.2.1 e ∨ k ≠ n) → tg3 k = tg' k := by
  obtain ⟨s, s1, s2⟩ := h3
  refine ⟨?_, ?_, fun k k1 k2 => ?_⟩
  · rcases hlk with q | ⟨q1, q2, q3, q4⟩
    · exact Or.inl q
    · refine Or.inr ⟨q1, q2, q3, ?_, by rw [q4]; exact hX⟩
      rcases h2 with ⟨t, -⟩ | ⟨-, s', t1, t2⟩
      · exact absurd t q1
      · rw [s2, gx_un _ _ _ (show n ≠ l by omega), t2, gx_us]
        exact t1
  · rw [s2, gx_us]
    exact s1
  · rw [s2, gx_un _ _ _ k1]
    rcases h2 with ⟨-, t⟩ | ⟨t, s', t1, t2⟩
    · rw [t]
    · rw [t2, gx_un _ _ _ (k2.resolve_left t)]
theorem gt_tried {X : gt_X} {T : gm_S} {op od tg : Nat → Int32} {fx : Int32 → Int32 → gt_St → Int32 × gt_St} {e : Lean.ParserDescr} {w : Nat} (x y : Int32) (S : gt_St) {n : Nat} (hf : gt_fx X T fx x (y + 1) w e) (hem : T.1 5 (Int32.toNatClampNeg x) = 0 ↔ ¬ X.2.1 e) (hX : X.1 x (X.2.2.1 e)) (hT : S.2 = T) (hn : (S.1.2.2 5).toInt = (n : Nat)) (h : n + w + 3 ≤ 200) (e1 : S.1.1 1 = op) (e2 : S.1.1 2 = od) (e3 : S.1.1 3 = tg) : gt_tQ X op od tg n w e (gm_f_Code_writeTried fx x y S) := by
  have d1 : (-1 : Int32).toInt = -1 := by decide
  unfold gm_f_Code_writeTried
  refine gf_ca (Q := gt_tQ X op od tg n w e) (gt_kQ X op od tg e x n) (gt_look (e := e) x _ (by show S.2.1 5 _ = 0 ↔ _; rw [hT]; exact hem) hn (by omega) e1 e2 e3) (fun r2 u2 h2 => ?_)
  have key : ∃ l op1 od1 tg1, u2.1.1 1 = op1 ∧ u2.1.1 2 = od1 ∧ u2.1.1 3 = tg1 ∧ (u2.1.2.2 5).toInt = (l : Nat) ∧ l ≤ n + 1 ∧ gt_sm op od tg op1 od1 tg1 0 n ∧ ((X.2.1 e ∧ l = n ∧ r2 = -1) ∨ (¬ X.2.1 e ∧ l = n + 1 ∧ r2.toInt = (n : Nat) ∧ op1 n = 1 ∧ od1 n = x)) := by
    rcases h2 with ⟨q, a1, a2, a3, a4, a5⟩ | ⟨q, a1, a2, a3, a4, a5⟩
    · exact ⟨n, op, od, tg, a3, a4, a5, a2, by omega, gt_sm_r _ _ _ _ _, Or.inl ⟨q, rfl, a1⟩⟩
    · exact ⟨n + 1, _, _, _, a3, a4, a5, a2, by omega, gt_sm_u _ _ _ _ _ _ _, Or.inr ⟨q, rfl, a1, gx_us _ _ _, gx_us _ _ _⟩⟩
  obtain ⟨l, op1, od1, tg1, f1, f2, f3, f4, f5, f6, f7⟩ := key
  have ln : n ≤ l := by rcases f7 with ⟨-, q, -⟩ | ⟨-, q, -⟩ <;> omega
  refine gf_ca (Q := gt_tQ X op od tg n w e) (gt_bQ X op1 od1 tg1 2 5 l w e) (gt_between 2 x 5 y _ hf hT f4 (by omega) f1 f2 f3) (fun r11 u11 h11 => ?_)
  obtain ⟨b1, m, b2, b3, b4, b5, b6, b7, b8, b9, b10⟩ := h11
  have b2 : (u11.1.2.2 5).toInt = ((m + 1 : Nat) : Int) := b2
  have b1 : r11.toInt = (l : Nat) := b1
  have le := gt_L_le _ _ _ b6
  refine gf_ca (Q := gt_tQ X op od tg n w e) (fun z : Int32 × gt_St => (X.2.1 e ∧ z.2.1.1 3 = u11.1.1 3) ∨ (¬ X.2.1 e ∧ ∃ s : Int32, s.toInt = ((m + 1 : Nat) : Int) ∧ z.2.1.1 3 = upd (u11.1.1 3) n s)) ?_ (fun r18 u18 h18 => ?_)
  · rcases f7 with ⟨q, q1, q2⟩ | ⟨q, q1, q2, q3, q4⟩
    · exact Or.inl ⟨q, gt_aimn r2 _ q2 rfl⟩
    · exact Or.inr ⟨q, gt_aim (n := m + 1) (k := n) r2 _ b2 q2 (by omega) rfl⟩
  refine gf_ca (Q := gt_tQ X op od tg n w e) (gt_mQ (u18.1.1 3) l (m + 1)) (gt_aim (n := m + 1) (k := l) r11 _ b2 b1 (by omega) rfl) (fun r24 u24 h24 => ?_)
  obtain ⟨t1, t2, t3⟩ := gt_aims (op := op) (od := od) (tg := tg) (op' := u11.1.1 1) (od' := u11.1.1 2) (tg' := u11.1.1 3) (tg2 := u18.1.1 3) (tg3 := u24.1.1 3) (x := x) (n := n) (l := l) (m := m) (by
    rcases f7 with ⟨q, q1, -⟩ | ⟨q, q1, -, q3, q4⟩
    · exact Or.inl ⟨q, q1⟩
    · obtain ⟨g1, g2, -⟩ := b9 n (by omega) (by omega)
      exact Or.inr ⟨q, q1, g1.trans q3, g2.trans q4⟩) hX h18 h24
  have keep : ∀ k, (k < n ∨ l < k) → u24.1.1 3 k = u11.1.1 3 k := fun k hk => t3 k (by omega) (Or.inr (by omega))
  refine ⟨l, m, b2, by omega, t1, b4, t2, ?_, b7, ?_, ?_, ?_⟩
  · exact gt_L_sm _ _ _ (fun k k1 k2 => ⟨rfl, rfl, keep k (by omega)⟩) b6
  · show u24.1.1 3 m = -1
    rw [keep m (by omega)]
    exact b8
  · show gt_sm op od tg (u11.1.1 1) (u11.1.1 2) (u24.1.1 3) 0 n
    have s := gt_sm_t f6 (gt_sm_w b9 (Nat.le_refl 0) ln)
    exact fun k k1 k2 => ⟨(s k k1 k2).1, (s k k1 k2).2.1, (keep k (by omega)).trans (s k k1 k2).2.2⟩
  · show gt_cl (u11.1.1 1) (u24.1.1 3) n m
    intro k k1 k2 k3
    by_cases q : l < k
    · rw [keep k (by omega)]
      exact b10 k (by omega) k2 k3
    · exfalso
      by_cases q2 : k = l
      · rw [q2, b4] at k3
        exact absurd k3 (by decide)
      · rcases f7 with ⟨-, q1, -⟩ | ⟨-, q1, -, q3, -⟩
        · omega
        · have : k = n := by omega
          obtain ⟨g1, -, -⟩ := b9 n (by omega) (by omega)
          rw [this, g1, q3] at k3
          exact absurd k3 (by decide)
