/-! The class writes code: choices. -/
/-- the open commits from a on lead to b -/
def gt_ac (op tg tg' : Nat → Int32) (a b : Nat) : Prop := (∀ k, a ≤ k → k < b → op k = 5 → tg k = -1 → (tg' k).toInt = (b : Nat)) ∧ (∀ k, (k < a ∨ b ≤ k ∨ ¬ op k = 5 ∨ ¬ tg k = -1) → tg' k = tg k)
def gt_acQ (op tg : Nat → Int32) (a b : Nat) (z : Int32 × gt_St) : Prop := gt_ac op tg (z.2.1.1 3) a b
theorem gt_aimC2 {op tg : Nat → Int32} (x : Int32) (S : gt_St) {b : Nat} (hb : (S.1.2.2 5).toInt = (b : Nat)) (e1 : S.1.1 1 = op) {a : Nat} : ∀ (F : Nat) (v : Int32) (U : gt_St) (i : Nat), v.toInt = (i : Nat) → a ≤ i → i ≤ b → b < F + i → (∀ k, a ≤ k → k < i → op k = 5 → tg k = -1 → (U.1.1 3 k).toInt = (b : Nat)) → (∀ k, (k < a ∨ i ≤ k ∨ ¬ op k = 5 ∨ ¬ tg k = -1) → U.1.1 3 k = tg k) → gt_acQ op tg a b (gm_f_Code_aimCommitsFrom_2 x S F v U) := by
  intro F
  induction F with
  | zero => intro v U i _ _ _ h; exact absurd h (by omega)
  | succ F ih =>
    intro v U i hv h1 h2 h3 hA hB
    have cv := gx_cl v (by omega)
    have av := gx_ak v 1 1 (by decide)
    have ev : Int32.toNatClampNeg v = i := by omega
    have bz : b ≤ 2147483647 := by
      have := Int32.toInt_lt (S.1.2.2 5)
      omega
    rw [gm_f_Code_aimCommitsFrom_2]
    refine gf_if (Q := gt_acQ op tg a b) (fun q => ?_) (fun q => ?_)
    · have q1 := gx_le q
      have : i = b := by omega
      subst this
      exact ⟨hA, hB⟩
    · have q1 := gx_len q
      rw [e1, ev]
      have step : ∀ tg' : Nat → Int32, (op i = 5 → tg i = -1 → (tg' i).toInt = (b : Nat)) → ((¬ op i = 5 ∨ ¬ tg i = -1) → tg' i = tg i) → (∀ k, k ≠ i → tg' k = U.1.1 3 k) → gt_acQ op tg a b (gm_f_Code_aimCommitsFrom_2 x S F (v + 1) (((va_up S.1.1 3 tg'), S.1.2.1, S.1.2.2), S.2)) := by
        intro tg' s1 s2 s3
        refine ih (v + 1) _ (i + 1) (by omega) (by omega) (by omega) (by omega) (fun k k1 k2 k3 k4 => ?_) (fun k hk => ?_)
        · show (tg' k).toInt = _
          by_cases t : k = i
          · subst t; exact s1 k3 k4
          · rw [s3 k t]; exact hA k k1 (by omega) k3 k4
        · show tg' k = _
          by_cases t : k = i
          · subst t
            exact s2 (by rcases hk with hk | hk | hk | hk; (exfalso; omega); (exfalso; omega); (exact Or.inl hk); (exact Or.inr hk))
          · rw [s3 k t]
            exact hB k (hk.imp id (Or.imp (fun w => by omega) id))
      refine gf_if (Q := gt_acQ op tg a b) (fun o => ?_) (fun o => ?_)
      · refine gf_if (Q := gt_acQ op tg a b) (fun t => ?_) (fun t => ?_)
        · have ti : U.1.1 3 i = tg i := hB i (Or.inr (Or.inl (Nat.le_refl i)))
          refine gf_ca (Q := gt_acQ op tg a b) (gt_mQ (U.1.1 3) i b) (gt_aim (n := b) (k := i) v _ hb hv (by omega) rfl) (fun r u hu => ?_)
          obtain ⟨s, s1, s2⟩ := hu
          have s2 : u.1.1 3 = upd (U.1.1 3) i s := s2
          exact step (u.1.1 3) (fun _ _ => by rw [s2, gx_us]; exact s1) (fun w => by rcases w with w | w; (exact absurd o w); (exact absurd (ti ▸ t) w)) (fun k hk => by rw [s2, gx_un _ _ _ hk])
        · have ti : U.1.1 3 i = tg i := hB i (Or.inr (Or.inl (Nat.le_refl i)))
          exact step (U.1.1 3) (fun _ w => absurd (ti.trans w) t) (fun _ => ti) (fun k _ => rfl)
      · have ti : U.1.1 3 i = tg i := hB i (Or.inr (Or.inl (Nat.le_refl i)))
        exact step (U.1.1 3) (fun w _ => absurd w o) (fun _ => ti) (fun k _ => rfl)
theorem gt_aimC {op tg : Nat → Int32} (x : Int32) (S : gt_St) {a b : Nat} (hx : x.toInt = (a : Nat)) (hb : (S.1.2.2 5).toInt = (b : Nat)) (hab : a ≤ b) (h200 : b ≤ 200) (e1 : S.1.1 1 = op) (e3 : S.1.1 3 = tg) : gt_acQ op tg a b (gm_f_Code_aimCommitsFrom x S) := by
  unfold gm_f_Code_aimCommitsFrom
  exact gt_aimC2 x S hb e1 300 x _ a hx (Nat.le_refl a) hab (by omega) (fun k k1 k2 => absurd k1 (by omega)) (fun k _ => congrFun e3 k)
/-- the alternatives but the last, their commits open -/
def gt_pre (X : gt_X) (op od tg : Nat → Int32) : List Lean.ParserDescr → Nat → Nat → Prop
  | [], a, b => b = a
  | e :: r, a, b => ∃ l m, gt_lk X op od tg e a l (m + 1) ∧ op l = 2 ∧ (tg l).toInt = ((m + 1 : Nat) : Int) ∧ gt_L X op od tg e (l + 1) m ∧ op m = 5 ∧ tg m = -1 ∧ gt_cl op tg a m ∧ gt_pre X op od tg r (m + 1) b
theorem gt_pre_le {X : gt_X} {op od tg : Nat → Int32} : ∀ (L : List Lean.ParserDescr) (a b : Nat), gt_pre X op od tg L a b → a ≤ b := by
  intro L
  induction L with
  | nil => intro a b h; exact Nat.le_of_eq (Eq.symm h)
  | cons e r ih =>
    intro a b h
    obtain ⟨l, m, h1, -, -, h4, -, -, -, h8⟩ := h
    have := gt_lk_le h1
    have := gt_L_le _ _ _ h4
    have := ih _ _ h8
    omega
theorem gt_pre_sm {X : gt_X} {op od tg op' od' tg' : Nat → Int32} : ∀ (L : List Lean.ParserDescr) (a b : Nat), gt_sm op od tg op' od' tg' a b → gt_pre X op od tg L a b → gt_pre X op' od' tg' L a b := by
  intro L
  induction L with
  | nil => intro a b _ h; exact h
  | cons e r ih =>
    intro a b s h
    obtain ⟨l, m, h1, h2, h3, h4, h5, h6, h7, h8⟩ := h
    have g1 := gt_lk_le h1
    have g2 := gt_L_le _ _ _ h4
    have g3 := gt_pre_le _ _ _ h8
    obtain ⟨e1, e2, e3⟩ := s l (by omega) (by omega)
    obtain ⟨f1, f2, f3⟩ := s m (by omega) (by omega)
    refine ⟨l, m, gt_lk_sm s (by omega) h1, e1.trans h2, by rw [e3]; exact h3, gt_L_sm _ _ _ (gt_sm_w s (by omega) (by omega)) h4, f1.trans h5, f3.trans h6, fun k k1 k2 k3 => ?_, ih _ _ (gt_sm_w s (by omega) (Nat.le_refl b)) h8⟩
    obtain ⟨d1, d2, d3⟩ := s k k1 (by omega)
    rw [d3]
    rw [d1] at k3
    exact h7 k k1 k2 k3
theorem gt_pre_sn {X : gt_X} {op od tg : Nat → Int32} {e : Lean.ParserDescr} {c l m : Nat} (h1 : gt_lk X op od tg e c l (m + 1)) (h2 : op l = 2) (h3 : (tg l).toInt = ((m + 1 : Nat) : Int)) (h4 : gt_L X op od tg e (l + 1) m) (h5 : op m = 5) (h6 : tg m = -1) (h7 : gt_cl op tg c m) : ∀ (L : List Lean.ParserDescr) (a : Nat), gt_pre X op od tg L a c → gt_pre X op od tg (L ++ [e]) a (m + 1) := by
  intro L
  induction L with
  | nil =>
    intro a h
    have h : c = a := h
    subst h
    exact ⟨l, m, h1, h2, h3, h4, h5, h6, h7, rfl⟩
  | cons x r ih =>
    intro a h
    obtain ⟨l', m', g1, g2, g3, g4, g5, g6, g7, g8⟩ := h
    exact ⟨l', m', g1, g2, g3, g4, g5, g6, g7, ih _ g8⟩
/-- the choice is closed -/
theorem gt_close {X : gt_X} {op od tg tg' : Nat → Int32} {x : Lean.ParserDescr} {c b : Nat} (hL : gt_L X op od tg x c b) (hc : gt_cl op tg c b) {a0 : Nat} (h : gt_ac op tg tg' a0 b) : ∀ (L : List Lean.ParserDescr) (a : Nat), a0 ≤ a → gt_pre X op od tg L a c → gt_L X op od tg' (gt_jf 5 (L ++ [x])) a b := by
  have same : ∀ a b', b' ≤ b → gt_cl op tg a b' → gt_sm op od tg op od tg' a b' := fun a b' hb' hcl k k1 k2 => ⟨rfl, rfl, h.2 k (by
    by_cases q : op k = 5
    · exact Or.inr (Or.inr (Or.inr (hcl k k1 k2 q)))
    · exact Or.inr (Or.inr (Or.inl q)))⟩
  intro L
  induction L with
  | nil =>
    intro a ha q
    have q : c = a := q
    subst q
    exact gt_L_sm _ _ _ (same c b (Nat.le_refl b) hc) hL
  | cons e r ih =>
    intro a ha q
    obtain ⟨l, m, g1, g2, g3, g4, g5, g6, g7, g8⟩ := q
    have k1 := gt_lk_le g1
    have k2 := gt_L_le _ _ _ g4
    have k3 := gt_pre_le _ _ _ g8
    have k4 := gt_L_le _ _ _ hL
    have s := same a m (by omega) g7
    have rest := ih (m + 1) (by omega) g8
    have res : gt_L X op od tg' (gp_e2 5 e (gt_jf 5 (r ++ [x]))) a b := by
      obtain ⟨-, -, sl⟩ := s l (by omega) (by omega)
      refine Or.inr (Or.inr ⟨rfl, rfl, l, m, gt_lk_sm s (by omega) g1, g2, by rw [sl]; exact g3, gt_L_sm _ _ _ (gt_sm_w s (by omega) (Nat.le_refl m)) g4, g5, h.1 m (by omega) (by omega) g5 g6, rest⟩)
    cases r with
    | nil => exact res
    | cons e' r' => exact res
def gt_fs (L : List (Lean.ParserDescr × Nat)) : List Lean.ParserDescr := L.map Prod.fst
/-- what a choice costs -/
def gt_cw : List (Lean.ParserDescr × Nat) → Nat
  | [] => 0
  | [p] => p.2
  | p :: q :: r => p.2 + 3 + gt_cw (q :: r)
theorem gt_cho {X : gt_X} {T : gm_S} {fx : Int32 → Int32 → gt_St → Int32 × gt_St} (x y : Int32) (S : gt_St) (hT : S.2 = T) {hi n0 : Nat} (hhi : (T.1 3 (Int32.toNatClampNeg x)).toInt = (hi : Nat)) (hn0 : (S.1.2.2 5).toInt = (n0 : Nat)) {op0 od0 tg0 : Nat → Int32} : ∀ (L : List (Lean.ParserDescr × Nat)) (p : Lean.ParserDescr × Nat) (PR : List Lean.ParserDescr) (F : Nat) (v : Int32) (U : gt_St) (i n : Nat), L.length + 2 < F → v.toInt = (i : Nat) → hi = i + (L.length + 1) → gt_ch X T fx y (p :: L) i → (U.1.2.2 5).toInt = (n : Nat) → n + gt_cw (p :: L) ≤ 200 → gt_pre X (U.1.1 1) (U.1.1 2) (U.1.1 3) PR n0 n → gt_sm op0 od0 tg0 (U.1.1 1) (U.1.1 2) (U.1.1 3) 0 n0 → gt_W X op0 od0 tg0 n0 (n - n0 + gt_cw (p :: L)) (gt_jf 5 (PR ++ gt_fs (p :: L))) (gm_f_Code_writeChoice_29 fx x y S F v U) := by
  intro L
  induction L with
  | nil =>
    intro p PR F v U i n hF hv hh hc hn h200 hpre hsm
    have le0 := gt_pre_le _ _ _ hpre
    cases F with
    | zero => exact absurd hF (by omega)
    | succ F =>
      cases F with
      | zero => exact absurd hF (by show ¬ 0 + 2 < 0 + 1; omega)
      | succ F =>
        have hh : hi = i + (0 + 1) := hh
        have h200 : n + p.2 ≤ 200 := h200
        obtain ⟨c1, -, -, -⟩ := hc
        have cv := gx_cl v (by omega)
        have av := gx_ak v 1 1 (by decide)
        have sh := gx_sk (T.1 3 (Int32.toNatClampNeg x)) 1 1 (by decide)
        have hiz := Int32.toInt_lt (T.1 3 (Int32.toNatClampNeg x))
        have ev : Int32.toNatClampNeg v = i := by omega
        rw [gm_f_Code_writeChoice_29, hT]
        have n1 : ¬ (T.1 3 (Int32.toNatClampNeg x) - 1) < v := by rw [Int32.lt_iff_toInt_lt]; omega
        have n2 : (T.1 3 (Int32.toNatClampNeg x) - 1) ≤ v := by rw [Int32.le_iff_toInt_le]; omega
        rw [if_neg n1, if_pos n2, ev]
        refine gf_ca (Q := gt_W X op0 od0 tg0 n0 (n - n0 + p.2) (gt_jf 5 (PR ++ [p.1]))) (gt_W X (U.1.1 1) (U.1.1 2) (U.1.1 3) n p.2 p.1) (c1 _ n _ _ _ rfl hn (by omega) rfl rfl rfl) (fun r75 u75 h75 => ?_)
        obtain ⟨b, w1, w2, w3, w4, w5⟩ := h75
        have le1 := gt_L_le _ _ _ w3
        rw [gm_f_Code_writeChoice_29, hT]
        have n3 : (T.1 3 (Int32.toNatClampNeg x) - 1) < v + 1 := by rw [Int32.lt_iff_toInt_lt]; omega
        rw [if_pos n3]
        refine gf_ca (Q := gt_W X op0 od0 tg0 n0 (n - n0 + p.2) (gt_jf 5 (PR ++ [p.1]))) (gt_acQ (u75.1.1 1) (u75.1.1 3) n0 b) (gt_aimC (a := n0) (b := b) _ _ hn0 w1 (by omega) (by omega) rfl rfl) (fun r86 u86 h86 => ?_)
        have h86 : gt_ac (u75.1.1 1) (u75.1.1 3) (u86.1.1 3) n0 b := h86
        refine ⟨b, w1, by omega, ?_, ?_, ?_⟩
        · exact gt_close w3 w5 h86 PR n0 (Nat.le_refl n0) (gt_pre_sm _ _ _ (gt_sm_w w4 (Nat.zero_le n0) (Nat.le_refl n)) hpre)
        · have s := gt_sm_t hsm (gt_sm_w w4 (Nat.le_refl 0) le0)
          exact fun k k1 k2 => ⟨(s k k1 k2).1, (s k k1 k2).2.1, (h86.2 k (Or.inl k2)).trans (s k k1 k2).2.2⟩
        · show gt_cl (u75.1.1 1) (u86.1.1 3) n0 b
          intro k k1 k2 k3 t
          by_cases q : u75.1.1 3 k = -1
          · have := h86.1 k k1 k2 k3 q
            rw [t] at this
            exact absurd this (by have : (-1 : Int32).toInt = -1 := by decide
                                  omega)
          · rw [h86.2 k (Or.inr (Or.inr (Or.inr q)))] at t
            exact q t
  | cons p' r ih =>
    intro p PR F v U i n hF hv hh hc hn h200 hpre hsm
    have le0 := gt_pre_le _ _ _ hpre
    cases F with
    | zero => exact absurd hF (by omega)
    | succ F =>
      have hF : r.length + 1 + 2 < F + 1 := hF
      have hh : hi = i + (r.length + 1 + 1) := hh
      have h200 : n + (p.2 + 3 + gt_cw (p' :: r)) ≤ 200 := h200
      obtain ⟨c1, c2, c3, c4⟩ := hc
      have cv := gx_cl v (by omega)
      have av := gx_ak v 1 1 (by decide)
      have sh := gx_sk (T.1 3 (Int32.toNatClampNeg x)) 1 1 (by decide)
      have hiz := Int32.toInt_lt (T.1 3 (Int32.toNatClampNeg x))
      have ev : Int32.toNatClampNeg v = i := by omega
      rw [gm_f_Code_writeChoice_29, hT]
      have n1 : ¬ (T.1 3 (Int32.toNatClampNeg x) - 1) < v := by rw [Int32.lt_iff_toInt_lt]; omega
      have n2 : ¬ (T.1 3 (Int32.toNatClampNeg x) - 1) ≤ v := by rw [Int32.le_iff_toInt_le]; omega
      rw [if_neg n1, if_neg n2, ev]
      refine gf_ca (Q := gt_W X op0 od0 tg0 n0 (n - n0 + gt_cw (p :: p' :: r)) (gt_jf 5 (PR ++ gt_fs (p :: p' :: r)))) (gt_tQ X (U.1.1 1) (U.1.1 2) (U.1.1 3) n p.2 p.1) (gt_tried _ y _ c1 c2 c3 rfl hn (by omega) rfl rfl rfl) (fun r55 u55 h55 => ?_)
      obtain ⟨l, m, t1, t2, t3, t4, t5, t6, t7, t8, t9, t10⟩ := h55
      have g1 := gt_lk_le t3
      have g2 := gt_L_le _ _ _ t6
      have pre2 := gt_pre_sn t3 t4 t5 t6 t7 t8 t10 PR n0 (gt_pre_sm _ _ _ (gt_sm_w t9 (Nat.zero_le n0) (Nat.le_refl n)) hpre)
      have R := ih p' (PR ++ [p.1]) F (v + 1) ((((va_up (va_up (va_up S.1.1 1 (u55.1.1 1)) 2 (u55.1.1 2)) 3 (u55.1.1 3)), S.1.2.1, va_up S.1.2.2 5 (u55.1.2.2 5))), T) (i + 1) (m + 1) (by omega) (by omega) (by omega) c4 t1 (by omega) pre2 (gt_sm_t hsm (gt_sm_w t9 (Nat.le_refl 0) le0))
      rw [show PR ++ gt_fs (p :: p' :: r) = (PR ++ [p.1]) ++ gt_fs (p' :: r) by rw [List.append_assoc]; rfl]
      generalize gm_f_Code_writeChoice_29 fx x y S F (v + 1) ((((va_up (va_up (va_up S.1.1 1 (u55.1.1 1)) 2 (u55.1.1 2)) 3 (u55.1.1 3)), S.1.2.1, va_up S.1.2.2 5 (u55.1.2.2 5))), T) = z at R ⊢
      obtain ⟨b, y1, y2, y3⟩ := R
      exact ⟨b, y1, by show b ≤ n0 + (n - n0 + (p.2 + 3 + gt_cw (p' :: r))); omega, y3⟩
