/-! The class writes code: options, loops, sequences, choices. -/
theorem gt_option {X : gt_X} {T : gm_S} {op od tg : Nat → Int32} {fx : Int32 → Int32 → gt_St → Int32 × gt_St} {e : Lean.ParserDescr} {w : Nat} (x y : Int32) (S : gt_St) {n : Nat} (hf : gt_fx X T fx x (y + 1) w e) (hem : T.1 5 (Int32.toNatClampNeg x) = 0 ↔ ¬ X.2.1 e) (hX : X.1 x (X.2.2.1 e)) (hT : S.2 = T) (hn : (S.1.2.2 5).toInt = (n : Nat)) (h : n + w + 3 ≤ 200) (e1 : S.1.1 1 = op) (e2 : S.1.1 2 = od) (e3 : S.1.1 3 = tg) : gt_W X op od tg n (w + 3) (gp_e1 6 e) (gm_f_Code_writeOption fx x y S) := by
  unfold gm_f_Code_writeOption
  refine gf_ca (Q := gt_W X op od tg n (w + 3) (gp_e1 6 e)) (gt_tQ X op od tg n w e) (gt_tried x y _ hf hem hX hT hn h e1 e2 e3) (fun r3 u3 h3 => ?_)
  obtain ⟨l, m, t1, t2, t3, t4, t5, t6, t7, t8, t9, t10⟩ := h3
  have t1 : (u3.1.2.2 5).toInt = ((m + 1 : Nat) : Int) := t1
  have s1 := gx_sk (u3.1.2.2 5) 1 1 (by decide)
  have g1 := gt_lk_le t3
  have g2 := gt_L_le _ _ _ t6
  refine gf_ca (Q := gt_W X op od tg n (w + 3) (gp_e1 6 e)) (gt_mQ (u3.1.1 3) m (m + 1)) (gt_aim (n := m + 1) (k := m) _ _ t1 (by omega) (by omega) rfl) (fun r13 u13 h13 => ?_)
  obtain ⟨s, s2, s3⟩ := h13
  have s3 : u13.1.1 3 = upd (u3.1.1 3) m s := s3
  have keep : ∀ k, k ≠ m → u13.1.1 3 k = u3.1.1 3 k := fun k hk => by rw [s3, gx_un _ _ _ hk]
  have sm : gt_sm (u3.1.1 1) (u3.1.1 2) (u3.1.1 3) (u3.1.1 1) (u3.1.1 2) (u13.1.1 3) 0 m := fun k _ k2 => ⟨rfl, rfl, keep k (by omega)⟩
  refine ⟨m + 1, t1, by omega, ?_, gt_sm_t t9 (gt_sm_w sm (Nat.le_refl 0) (by omega)), ?_⟩
  · refine Or.inl ⟨Or.inl rfl, l, m, gt_lk_sm (gt_sm_w sm (Nat.zero_le n) (Nat.le_refl m)) (by omega) t3, t4, ?_, gt_L_sm _ _ _ (gt_sm_w sm (Nat.zero_le _) (Nat.le_refl m)) t6, t7, fun _ => ?_, fun q => absurd q (by decide), rfl⟩
    · show (u13.1.1 3 l).toInt = _
      rw [keep l (by omega)]
      exact t5
    · show (u13.1.1 3 m).toInt = _
      rw [s3, gx_us]
      exact s2
  · show gt_cl (u3.1.1 1) (u13.1.1 3) n (m + 1)
    intro k k1 k2 k3
    by_cases q : k = m
    · rw [q, s3, gx_us]
      intro t
      rw [t] at s2
      exact absurd s2 (by have : (-1 : Int32).toInt = -1 := by decide
                          omega)
    · rw [keep k q]
      exact t10 k k1 (by omega) k3
/-- a loop: l the try, m the commit; the jump v (where there is one) leads past the try -/
def gt_oQ (X : gt_X) (op od tg : Nat → Int32) (v : Int32) (n w : Nat) (e : Lean.ParserDescr) (z : Int32 × gt_St) : Prop := ∃ l m, (z.2.1.2.2 5).toInt = ((m + 1 : Nat) : Int) ∧ m + 1 ≤ n + w + 3 ∧ gt_lk X (z.2.1.1 1) (z.2.1.1 2) (z.2.1.1 3) e n l (m + 1) ∧ z.2.1.1 1 l = 2 ∧ (z.2.1.1 3 l).toInt = ((m + 1 : Nat) : Int) ∧ gt_L X (z.2.1.1 1) (z.2.1.1 2) (z.2.1.1 3) e (l + 1) m ∧ z.2.1.1 1 m = 5 ∧ (z.2.1.1 3 m).toInt = (n : Nat) ∧ (∀ k, k < n → z.2.1.1 1 k = op k ∧ z.2.1.1 2 k = od k ∧ (¬ v.toInt = (k : Nat) → z.2.1.1 3 k = tg k) ∧ (v.toInt = (k : Nat) → (z.2.1.1 3 k).toInt = ((l + 1 : Nat) : Int))) ∧ gt_cl (z.2.1.1 1) (z.2.1.1 3) n (m + 1)
theorem gt_loop {X : gt_X} {T : gm_S} {op od tg : Nat → Int32} {fx : Int32 → Int32 → gt_St → Int32 × gt_St} {e : Lean.ParserDescr} {w : Nat} (x y v : Int32) (S : gt_St) {n : Nat} (hf : gt_fx X T fx x (y + 1) w e) (hem : T.1 5 (Int32.toNatClampNeg x) = 0 ↔ ¬ X.2.1 e) (hX : X.1 x (X.2.2.1 e)) (hv : v = -1 ∨ ∃ j : Nat, v.toInt = (j : Nat) ∧ j < n) (hT : S.2 = T) (hn : (S.1.2.2 5).toInt = (n : Nat)) (h : n + w + 3 ≤ 200) (e1 : S.1.1 1 = op) (e2 : S.1.1 2 = od) (e3 : S.1.1 3 = tg) : gt_oQ X op od tg v n w e (gm_f_Code_writeLoop fx x y v S) := by
  have d1 : (-1 : Int32).toInt = -1 := by decide
  unfold gm_f_Code_writeLoop
  refine gf_ca (Q := gt_oQ X op od tg v n w e) (gt_kQ X op od tg e x n) (gt_look (e := e) x _ (by show S.2.1 5 _ = 0 ↔ _; rw [hT]; exact hem) hn (by omega) e1 e2 e3) (fun r8 u8 h8 => ?_)
  have key : ∃ l op1 od1 tg1, u8.1.1 1 = op1 ∧ u8.1.1 2 = od1 ∧ u8.1.1 3 = tg1 ∧ (u8.1.2.2 5).toInt = (l : Nat) ∧ l ≤ n + 1 ∧ gt_sm op od tg op1 od1 tg1 0 n ∧ ((X.2.1 e ∧ l = n ∧ r8 = -1) ∨ (¬ X.2.1 e ∧ l = n + 1 ∧ r8.toInt = (n : Nat) ∧ op1 n = 1 ∧ od1 n = x)) := by
    rcases h8 with ⟨q, a1, a2, a3, a4, a5⟩ | ⟨q, a1, a2, a3, a4, a5⟩
    · exact ⟨n, op, od, tg, a3, a4, a5, a2, by omega, gt_sm_r _ _ _ _ _, Or.inl ⟨q, rfl, a1⟩⟩
    · exact ⟨n + 1, _, _, _, a3, a4, a5, a2, by omega, gt_sm_u _ _ _ _ _ _ _, Or.inr ⟨q, rfl, a1, gx_us _ _ _, gx_us _ _ _⟩⟩
  obtain ⟨l, op1, od1, tg1, f1, f2, f3, f4, f5, f6, f7⟩ := key
  have ln : n ≤ l := by rcases f7 with ⟨-, q, -⟩ | ⟨-, q, -⟩ <;> omega
  refine gf_ca (Q := gt_oQ X op od tg v n w e) (gt_aQ op1 od1 tg1 2 (-1) l) (gt_add 2 (-1) _ f4 (by omega) f1 f2 f3) (fun r16 u16 h16 => ?_)
  obtain ⟨a1, a2, a3, a4, a5⟩ := h16
  have a1 : r16.toInt = (l : Nat) := a1
  have a2 : (u16.1.2.2 5).toInt = ((l + 1 : Nat) : Int) := a2
  have a3 : u16.1.1 1 = upd op1 l 2 := a3
  have a4 : u16.1.1 2 = upd od1 l (-1) := a4
  have a5 : u16.1.1 3 = upd tg1 l (-1) := a5
  refine gf_ca (Q := gt_oQ X op od tg v n w e) (fun z : Int32 × gt_St => (∀ k : Nat, ¬ v.toInt = (k : Nat) → z.2.1.1 3 k = upd tg1 l (-1) k) ∧ ∀ k : Nat, k < n → v.toInt = (k : Nat) → (z.2.1.1 3 k).toInt = ((l + 1 : Nat) : Int)) ?_ (fun r23 u23 h23 => ?_)
  · rcases hv with hv | ⟨j, hj, hj2⟩
    · have w := gt_aimn (tg := upd tg1 l (-1)) v (((va_up (va_up (va_up S.1.1 1 (u16.1.1 1)) 2 (u16.1.1 2)) 3 (u16.1.1 3)), S.1.2.1, va_up S.1.2.2 5 (u16.1.2.2 5)), S.2) hv a5
      exact ⟨fun k _ => congrFun w k, fun k _ q => absurd q (by rw [hv, d1]; omega)⟩
    · obtain ⟨s, s1, s2⟩ := gt_aim (tg := upd tg1 l (-1)) (n := l + 1) (k := j) v (((va_up (va_up (va_up S.1.1 1 (u16.1.1 1)) 2 (u16.1.1 2)) 3 (u16.1.1 3)), S.1.2.1, va_up S.1.2.2 5 (u16.1.2.2 5)), S.2) a2 hj (by omega) a5
      refine ⟨fun k q => ?_, fun k _ q => ?_⟩
      · exact (congrFun s2 k).trans (gx_un _ _ _ (fun t => q (by rw [t]; exact hj)))
      · have : k = j := by omega
        rw [this]
        exact (congrArg Int32.toInt ((congrFun s2 j).trans (gx_us _ _ _))).trans s1
  obtain ⟨j1, j2⟩ := h23
  refine gf_ca (Q := gt_oQ X op od tg v n w e) (gt_W X (u16.1.1 1) (u16.1.1 2) (u23.1.1 3) (l + 1) w e) (hf _ (l + 1) _ _ _ hT a2 (by omega) rfl rfl rfl) (fun r31 u31 h31 => ?_)
  obtain ⟨m, c1, c2, c3, c4, c5⟩ := h31
  have le := gt_L_le _ _ _ c3
  refine gf_ca (Q := gt_oQ X op od tg v n w e) (gt_aQ (u31.1.1 1) (u31.1.1 2) (u31.1.1 3) 5 (-1) m) (gt_add 5 (-1) _ c1 (by omega) rfl rfl rfl) (fun r37 u37 h37 => ?_)
  obtain ⟨b1, b2, b3, b4, b5⟩ := h37
  have b1 : r37.toInt = (m : Nat) := b1
  have b2 : (u37.1.2.2 5).toInt = ((m + 1 : Nat) : Int) := b2
  have b3 : u37.1.1 1 = upd (u31.1.1 1) m 5 := b3
  have b4 : u37.1.1 2 = upd (u31.1.1 2) m (-1) := b4
  have b5 : u37.1.1 3 = upd (u31.1.1 3) m (-1) := b5
  refine gf_ca (Q := gt_oQ X op od tg v n w e) (fun z : Int32 × gt_St => (X.2.1 e ∧ z.2.1.1 3 = u37.1.1 3) ∨ (¬ X.2.1 e ∧ ∃ s : Int32, s.toInt = ((m + 1 : Nat) : Int) ∧ z.2.1.1 3 = upd (u37.1.1 3) n s)) ?_ (fun r45 u45 h45 => ?_)
  · rcases f7 with ⟨q, q1, q2⟩ | ⟨q, q1, q2, q3, q4⟩
    · exact Or.inl ⟨q, gt_aimn r8 _ q2 rfl⟩
    · exact Or.inr ⟨q, gt_aim (n := m + 1) (k := n) r8 _ b2 q2 (by omega) rfl⟩
  refine gf_ca (Q := gt_oQ X op od tg v n w e) (gt_mQ (u45.1.1 3) l (m + 1)) (gt_aim (n := m + 1) (k := l) r16 _ b2 a1 (by omega) rfl) (fun r51 u51 h51 => ?_)
  obtain ⟨op_n, od_n⟩ : (¬ X.2.1 e → u37.1.1 1 n = 1) ∧ (¬ X.2.1 e → u37.1.1 2 n = x) := by
    refine ⟨fun t => ?_, fun t => ?_⟩
    · rcases f7 with ⟨q, -⟩ | ⟨q, q1, -, q3, q4⟩
      · exact absurd q t
      · rw [b3, gx_un _ _ _ (show n ≠ m by omega), (c4 n (by omega) (by omega)).1, a3, gx_un _ _ _ (show n ≠ l by omega)]
        exact q3
    · rcases f7 with ⟨q, -⟩ | ⟨q, q1, -, q3, q4⟩
      · exact absurd q t
      · rw [b4, gx_un _ _ _ (show n ≠ m by omega), (c4 n (by omega) (by omega)).2.1, a4, gx_un _ _ _ (show n ≠ l by omega)]
        exact q4
  obtain ⟨t1, t2, t3⟩ := gt_aims (op := op) (od := od) (tg := tg) (op' := u37.1.1 1) (od' := u37.1.1 2) (tg' := u37.1.1 3) (tg2 := u45.1.1 3) (tg3 := u51.1.1 3) (x := x) (n := n) (l := l) (m := m) (by
    rcases f7 with ⟨q, q1, -⟩ | ⟨q, q1, -⟩
    · exact Or.inl ⟨q, q1⟩
    · exact Or.inr ⟨q, q1, op_n q, od_n q⟩) hX h45 h51
  have keep : ∀ k, (k < n ∨ l < k) → u51.1.1 3 k = u37.1.1 3 k := fun k hk => t3 k (by omega) (Or.inr (by omega))
  refine gf_if (Q := gt_oQ X op od tg v n w e) (fun q => ?_) (fun q => ?_)
  · rw [q, d1] at b1
    exfalso; omega
  have cm := gx_cl r37 (by omega)
  have em : Int32.toNatClampNeg r37 = m := by omega
  have fin : ∀ k, k ≠ m → upd (u51.1.1 3) (Int32.toNatClampNeg r37) (S.1.2.2 5) k = u51.1.1 3 k := fun k hk => gx_un _ _ _ (by omega)
  have sm : gt_sm (u37.1.1 1) (u37.1.1 2) (u51.1.1 3) (u37.1.1 1) (u37.1.1 2) (upd (u51.1.1 3) (Int32.toNatClampNeg r37) (S.1.2.2 5)) 0 m := fun k _ k2 => ⟨rfl, rfl, fin k (by omega)⟩
  have sm2 : gt_sm (u31.1.1 1) (u31.1.1 2) (u31.1.1 3) (u37.1.1 1) (u37.1.1 2) (upd (u51.1.1 3) (Int32.toNatClampNeg r37) (S.1.2.2 5)) (l + 1) m := fun k k1 k2 => by
    refine ⟨?_, ?_, ?_⟩
    · rw [b3, gx_un _ _ _ (by omega)]
    · rw [b4, gx_un _ _ _ (by omega)]
    · rw [fin k (by omega), keep k (by omega), b5, gx_un _ _ _ (by omega)]
  have opl : u37.1.1 1 l = 2 := by rw [b3, gx_un _ _ _ (show l ≠ m by omega), (c4 l (by omega) (by omega)).1, a3, gx_us]
  refine ⟨l, m, b2, by omega, gt_lk_sm (gt_sm_w sm (Nat.zero_le n) (Nat.le_refl m)) (by omega) t1, opl, ?_, gt_L_sm _ _ _ sm2 c3, ?_, ?_, fun k hk => ⟨?_, ?_, fun q => ?_, fun q => ?_⟩, ?_⟩
  · show (upd (u51.1.1 3) (Int32.toNatClampNeg r37) (S.1.2.2 5) l).toInt = _
    rw [fin l (by omega)]
    exact t2
  · show u37.1.1 1 m = 5
    rw [b3, gx_us]
  · show (upd (u51.1.1 3) (Int32.toNatClampNeg r37) (S.1.2.2 5) m).toInt = _
    rw [em, gx_us]
    exact hn
  · show u37.1.1 1 k = op k
    rw [b3, gx_un _ _ _ (show k ≠ m by omega), (c4 k (by omega) (by omega)).1, a3, gx_un _ _ _ (show k ≠ l by omega)]
    exact (f6 k (Nat.zero_le k) hk).1
  · show u37.1.1 2 k = od k
    rw [b4, gx_un _ _ _ (show k ≠ m by omega), (c4 k (by omega) (by omega)).2.1, a4, gx_un _ _ _ (show k ≠ l by omega)]
    exact (f6 k (Nat.zero_le k) hk).2.1
  · show upd (u51.1.1 3) (Int32.toNatClampNeg r37) (S.1.2.2 5) k = tg k
    rw [fin k (by omega), keep k (by omega), b5, gx_un _ _ _ (show k ≠ m by omega), (c4 k (by omega) (by omega)).2.2, j1 k q, gx_un _ _ _ (show k ≠ l by omega)]
    exact (f6 k (Nat.zero_le k) hk).2.2
  · show (upd (u51.1.1 3) (Int32.toNatClampNeg r37) (S.1.2.2 5) k).toInt = _
    rw [fin k (by omega), keep k (by omega), b5, gx_un _ _ _ (show k ≠ m by omega), (c4 k (by omega) (by omega)).2.2]
    exact j2 k hk q
  · show gt_cl (u37.1.1 1) (upd (u51.1.1 3) (Int32.toNatClampNeg r37) (S.1.2.2 5)) n (m + 1)
    intro k k1 k2 k3
    by_cases q1 : k = m
    · rw [q1, em, gx_us]
      intro t
      rw [t, d1] at hn
      omega
    · rw [fin k q1]
      by_cases q2 : l < k
      · rw [keep k (by omega), b5, gx_un _ _ _ (show k ≠ m by omega)]
        rw [b3, gx_un _ _ _ (show k ≠ m by omega)] at k3
        exact c5 k (by omega) (by omega) k3
      · exfalso
        by_cases q3 : k = l
        · rw [q3, opl] at k3
          exact absurd k3 (by decide)
        · rcases f7 with ⟨-, t, -⟩ | ⟨t0, t, -⟩
          · omega
          · have : k = n := by omega
            rw [this, op_n t0] at k3
            exact absurd k3 (by decide)
/-- a list of expressions, joined, the first first -/
def gt_jf (k : Nat) : List Lean.ParserDescr → Lean.ParserDescr
  | [] => gp_e0 0 0 0
  | [x] => x
  | x :: y :: r => gp_e2 k x (gt_jf k (y :: r))
/-- the parts from i on: how they are written, what can be empty, what begins them -/
def gt_ch (X : gt_X) (T : gm_S) (fx : Int32 → Int32 → gt_St → Int32 × gt_St) (y : Int32) : List (Lean.ParserDescr × Nat) → Nat → Prop
  | [], _ => True
  | p :: r, i => gt_fx X T fx (T.1 4 i) (y + 1) p.2 p.1 ∧ (T.1 5 (Int32.toNatClampNeg (T.1 4 i)) = 0 ↔ ¬ X.2.1 p.1) ∧ X.1 (T.1 4 i) (X.2.2.1 p.1) ∧ gt_ch X T fx y r (i + 1)
def gt_cs (X : gt_X) (T : gm_S) (fx : Int32 → Int32 → gt_St → Int32 × gt_St) (y : Int32) : List (Lean.ParserDescr × Nat) → Nat → Prop
  | [], _ => True
  | p :: r, i => gt_fx X T fx (T.1 4 i) (y + 1) p.2 p.1 ∧ gt_cs X T fx y r (i + 1)
def gt_sw : List (Lean.ParserDescr × Nat) → Nat
  | [] => 0
  | p :: r => p.2 + gt_sw r
theorem gt_seq {X : gt_X} {T : gm_S} {fx : Int32 → Int32 → gt_St → Int32 × gt_St} (x y : Int32) (S : gt_St) (hT : S.2 = T) {hi : Nat} (hhi : (T.1 3 (Int32.toNatClampNeg x)).toInt = (hi : Nat)) : ∀ (L : List (Lean.ParserDescr × Nat)) (F : Nat) (v : Int32) (U : gt_St) (i n : Nat) (op od tg : Nat → Int32), L.length < F → v.toInt = (i : Nat) → hi = i + L.length → gt_cs X T fx y L i → (U.1.2.2 5).toInt = (n : Nat) → n + gt_sw L ≤ 200 → U.1.1 1 = op → U.1.1 2 = od → U.1.1 3 = tg → gt_W X op od tg n (gt_sw L) (gt_jf 4 (L.map Prod.fst)) (gm_f_Code_writeSequence_10 fx x y S F v U) := by
  intro L
  induction L with
  | nil =>
    intro F v U i n op od tg hF hv hh _ hn h200 e1 e2 e3
    cases F with
    | zero => exact absurd hF (by show ¬ 0 < 0; omega)
    | succ F =>
      rw [gm_f_Code_writeSequence_10]
      have le : S.2.1 3 (Int32.toNatClampNeg x) ≤ v := by
        rw [hT, Int32.le_iff_toInt_le, hhi, hv]
        have : hi = i + 0 := hh
        omega
      rw [if_pos le]
      refine ⟨n, hn, by omega, ⟨by decide, fun _ => rfl, fun q => absurd q (by decide), fun q => absurd q (by decide), fun q => absurd q (by decide)⟩, ?_, fun k k1 k2 => by omega⟩
      show gt_sm op od tg (U.1.1 1) (U.1.1 2) (U.1.1 3) 0 n
      rw [e1, e2, e3]
      exact gt_sm_r _ _ _ _ _
  | cons p r ih =>
    intro F v U i n op od tg hF hv hh hc hn h200 e1 e2 e3
    cases F with
    | zero => exact absurd hF (by show ¬ _ < 0; omega)
    | succ F =>
      have hF : r.length + 1 < F + 1 := hF
      have hh : hi = i + (r.length + 1) := hh
      have h200 : n + (p.2 + gt_sw r) ≤ 200 := h200
      obtain ⟨c1, c2⟩ := hc
      have cv := gx_cl v (by omega)
      have av := gx_ak v 1 1 (by decide)
      have ev : Int32.toNatClampNeg v = i := by omega
      have hiz : hi ≤ 2147483647 := by
        have := Int32.toInt_lt (T.1 3 (Int32.toNatClampNeg x))
        omega
      rw [gm_f_Code_writeSequence_10]
      have le : ¬ S.2.1 3 (Int32.toNatClampNeg x) ≤ v := by
        rw [hT, Int32.le_iff_toInt_le, hhi, hv]
        omega
      rw [if_neg le, hT, ev]
      refine gf_ca (Q := gt_W X op od tg n (gt_sw (p :: r)) (gt_jf 4 ((p :: r).map Prod.fst))) (gt_W X op od tg n p.2 p.1) (c1 _ n op od tg rfl hn (by omega) e1 e2 e3) (fun r36 u36 h36 => ?_)
      obtain ⟨m, w1, w2, w3, w4, w5⟩ := h36
      have le1 := gt_L_le _ _ _ w3
      have R := ih F (v + 1) ((((va_up (va_up (va_up S.1.1 1 (u36.1.1 1)) 2 (u36.1.1 2)) 3 (u36.1.1 3)), S.1.2.1, va_up S.1.2.2 5 (u36.1.2.2 5))), T) (i + 1) m (u36.1.1 1) (u36.1.1 2) (u36.1.1 3) (by omega) (by omega) (by omega) c2 w1 (by omega) rfl rfl rfl
      generalize gm_f_Code_writeSequence_10 fx x y S F (v + 1) ((((va_up (va_up (va_up S.1.1 1 (u36.1.1 1)) 2 (u36.1.1 2)) 3 (u36.1.1 3)), S.1.2.1, va_up S.1.2.2 5 (u36.1.2.2 5))), T) = z at R ⊢
      obtain ⟨b, y1, y2, y3, y4, y5⟩ := R
      have le2 := gt_L_le _ _ _ y3
      refine ⟨b, y1, by show b ≤ n + (p.2 + gt_sw r); omega, ?_, gt_sm_t w4 (gt_sm_w y4 (Nat.le_refl 0) (by omega)), fun k k1 k2 k3 => ?_⟩
      · have first : gt_L X (z.2.1.1 1) (z.2.1.1 2) (z.2.1.1 3) p.1 n m := gt_L_sm _ _ _ (gt_sm_w y4 (Nat.zero_le n) (Nat.le_refl m)) w3
        cases r with
        | nil =>
          have : b = m := y3.2.1 rfl
          rw [this]
          exact first
        | cons p' r' => exact Or.inr (Or.inl ⟨rfl, rfl, m, first, y3⟩)
      · by_cases q : k < m
        · obtain ⟨g1, -, g3⟩ := y4 k (Nat.zero_le k) q
          rw [g3]
          rw [g1] at k3
          exact w5 k k1 q k3
        · exact y5 k (by omega) k2 k3
