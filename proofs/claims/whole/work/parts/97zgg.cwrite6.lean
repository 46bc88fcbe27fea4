/-! The class writes code: all rules. -/
/-- the code of the rules f: op, od, tg the instructions, st where the rules start, n how many -/
def gt_code (X : gt_X) (f : Nat → Int × Lean.ParserDescr) (R : Nat) (op od tg st : Nat → Int32) (n : Nat) : Prop := 2 ≤ n ∧ op 0 = 8 ∧ (od 0).toInt = 0 ∧ op 1 = 12 ∧ ∀ r, r < R → ∃ a b, (st r).toInt = (a : Nat) ∧ 2 ≤ a ∧ gt_L X op od tg (f r).2 a b ∧ op b = 9 ∧ b < n
theorem gt_code_sm {X : gt_X} {f : Nat → Int × Lean.ParserDescr} {R n m : Nat} {op od tg st op' od' tg' st' : Nat → Int32} (h : gt_code X f R op od tg st n) (s : gt_sm op od tg op' od' tg' 0 n) (hs : ∀ r, r < R → st' r = st r) (hm : n ≤ m) : gt_code X f R op' od' tg' st' m := by
  obtain ⟨h0, h1, h2, h3, h4⟩ := h
  obtain ⟨a1, a2, -⟩ := s 0 (Nat.le_refl 0) (by omega)
  obtain ⟨b1, -, -⟩ := s 1 (by omega) (by omega)
  refine ⟨by omega, a1.trans h1, by rw [a2]; exact h2, b1.trans h3, fun r hr => ?_⟩
  obtain ⟨a, b, g1, g2, g3, g4, g5⟩ := h4 r hr
  refine ⟨a, b, by rw [hs r hr]; exact g1, g2, gt_L_sm _ _ _ (gt_sm_w s (Nat.zero_le a) (by omega)) g3, (s b (Nat.zero_le b) g5).1.trans g4, by omega⟩
/-- every instruction behind the first two is a rule's -/
def gt_cov (X : gt_X) (f : Nat → Int × Lean.ParserDescr) (R : Nat) (op od tg : Nat → Int32) (n : Nat) : Prop := ∀ j, 2 ≤ j → j < n → ∃ r a b, r < R ∧ gt_L X op od tg (f r).2 a b ∧ op b = 9 ∧ a ≤ j ∧ j ≤ b ∧ b < n
theorem gt_cov_sm {X : gt_X} {f : Nat → Int × Lean.ParserDescr} {R n : Nat} {op od tg op' od' tg' : Nat → Int32} (h : gt_cov X f R op od tg n) (s : gt_sm op od tg op' od' tg' 0 n) : gt_cov X f R op' od' tg' n := by
  intro j h2 hj
  obtain ⟨r, a, b, g1, g2, g3, g4, g5, g6⟩ := h j h2 hj
  exact ⟨r, a, b, g1, gt_L_sm _ _ _ (gt_sm_w s (Nat.zero_le a) (by omega)) g2, (s b (Nat.zero_le b) g6).1.trans g3, g4, g5, g6⟩
def gt_wQ (X : gt_X) (f : Nat → Int × Lean.ParserDescr) (R : Nat) (z : Int32 × gt_St) : Prop := ∃ n : Nat, (z.2.1.2.2 5).toInt = (n : Nat) ∧ n ≤ 200 ∧ gt_code X f R (z.2.1.1 1) (z.2.1.1 2) (z.2.1.1 3) (z.2.1.1 4) n ∧ gt_cov X f R (z.2.1.1 1) (z.2.1.1 2) (z.2.1.1 3) n
theorem gt_write23 {tx : Nat → Int} {ty R nn K : Nat} {f : Nat → Int × Lean.ParserDescr} {T0 T : gm_S} {W : Nat → Nat} (h : gt_tree tx ty R f T0 T nn) (hk : gq_kn T0 nn R) (hK : K < 40) (hC : ∀ r, r < R → gq_C (T0.1 0) (T0.1 2) (T0.1 3) (T0.1 4) K (Int32.toNatClampNeg (T0.1 10 r)) (W r)) (hW : 2 + gt_ws W R ≤ 200) (S : gt_St) (r9 : Int32) (u9 : gt_St) (r17 : Int32) (u17 : gt_St) (hT : S.2 = T) : ∀ (F : Nat) (v : Int32) (U : gt_St) (i n : Nat), v.toInt = (i : Nat) → i ≤ R → R < F + i → (U.1.2.2 5).toInt = (n : Nat) → n ≤ 2 + gt_ws W i → gt_code (gt_ctx tx ty R f T) f i (U.1.1 1) (U.1.1 2) (U.1.1 3) (U.1.1 4) n → gt_cov (gt_ctx tx ty R f T) f i (U.1.1 1) (U.1.1 2) (U.1.1 3) n → gt_wQ (gt_ctx tx ty R f T) f R (gm_f_Code_write_23 S r9 u9 r17 u17 F v U) := by
  obtain ⟨t0, t1, t2, t3, t4, t9, t10, t11, t13⟩ := h.2.1
  have hR8 := h.1.1.2.2.2.1
  intro F
  induction F with
  | zero => intro v U i n _ h1 h2; exfalso; omega
  | succ F ih =>
    intro v U i n hv hi hF hn hle hcode hcov
    have cv := gx_cl v (by omega)
    have av := gx_ak v 1 1 (by decide)
    have ev : Int32.toNatClampNeg v = i := by omega
    have mono := gt_ws_le (W := W) hi
    rw [gm_f_Code_write_23]
    refine gf_if (Q := gt_wQ (gt_ctx tx ty R f T) f R) (fun q => ?_) (fun q => ?_)
    · have q1 := gx_le q
      rw [hT, t13, h.1.1.2.2.1] at q1
      have : i = R := by omega
      subst this
      exact ⟨n, hn, by omega, hcode, hcov⟩
    · have q1 := gx_len q
      rw [hT, t13, h.1.1.2.2.1] at q1
      have iR : i < R := by omega
      obtain ⟨rt0, rt1⟩ := h.1.1.2.2.2.2.1 i iR
      have mono2 := gt_ws_le (W := W) (show i + 1 ≤ R by omega)
      have mono2 : gt_ws W i + W i + 1 ≤ gt_ws W R := mono2
      rw [ev]
      have z00 : (0 : Int32).toInt = 0 := by decide
      have node := gt_node h hk K (Int32.toNatClampNeg (T0.1 10 i)) (W i) (f i).2 rt1 (h.1.2.2.2.2.1 i iR).2 (hC i iR) 41 (S.2.1 10 i) 0 (by omega) (by rw [hT, t10]; exact (gx_cl _ rt0).symm) (by decide) (by rw [z00]; omega)
      refine gf_ca (Q := gt_wQ (gt_ctx tx ty R f T) f R) (gt_W (gt_ctx tx ty R f T) (U.1.1 1) (U.1.1 2) (U.1.1 3) n (W i) (f i).2) (node _ n _ _ _ hT hn (by omega) rfl rfl rfl) (fun r55 u55 h55 => ?_)
      obtain ⟨b, w1, w2, w3, w4, w5⟩ := h55
      have le := gt_L_le _ _ _ w3
      refine gf_ca (Q := gt_wQ (gt_ctx tx ty R f T) f R) (gt_aQ (u55.1.1 1) (u55.1.1 2) (u55.1.1 3) 9 (-1) b) (gt_add 9 (-1) _ w1 (by omega) rfl rfl rfl) (fun r62 u62 h62 => ?_)
      obtain ⟨a1, a2, a3, a4, a5⟩ := h62
      have a3 : u62.1.1 1 = upd (u55.1.1 1) b 9 := a3
      have a4 : u62.1.1 2 = upd (u55.1.1 2) b (-1) := a4
      have a5 : u62.1.1 3 = upd (u55.1.1 3) b (-1) := a5
      have s2 : gt_sm (u55.1.1 1) (u55.1.1 2) (u55.1.1 3) (u62.1.1 1) (u62.1.1 2) (u62.1.1 3) 0 b := by
        rw [a3, a4, a5]
        exact gt_sm_u _ _ _ _ _ _ _
      have n2 := hcode.1
      refine ih (v + 1) _ (i + 1) (b + 1) (by omega) (by omega) (by omega) a2 (by show b + 1 ≤ 2 + (gt_ws W i + W i + 1); omega) ?_ ?_
      case refine_2 =>
        intro j hj2 hj
        by_cases q : j < n
        · obtain ⟨r, a, b', g1, g2, g3, g4, g5, g6⟩ := gt_cov_sm hcov (gt_sm_t w4 (gt_sm_w s2 (Nat.le_refl 0) le)) j hj2 q
          exact ⟨r, a, b', by omega, g2, g3, g4, g5, by omega⟩
        · refine ⟨i, n, b, by omega, gt_L_sm _ _ _ (gt_sm_w s2 (Nat.zero_le n) (Nat.le_refl b)) w3, ?_, by omega, by omega, by omega⟩
          show u62.1.1 1 b = 9
          rw [a3, gx_us]
      obtain ⟨g0, g1, g2, g3, g4⟩ := gt_code_sm (st' := upd (U.1.1 4) i (U.1.2.2 5)) (m := b + 1) hcode (gt_sm_t w4 (gt_sm_w s2 (Nat.le_refl 0) le)) (fun r hr => gx_un _ _ _ (by omega)) (by omega)
      refine ⟨g0, g1, g2, g3, fun r hr => ?_⟩
      by_cases q : r = i
      · subst q
        refine ⟨n, b, ?_, n2, gt_L_sm _ _ _ (gt_sm_w s2 (Nat.zero_le n) (Nat.le_refl b)) w3, ?_, by omega⟩
        · show (upd (U.1.1 4) r (U.1.2.2 5) r).toInt = _
          rw [gx_us]
          exact hn
        · show u62.1.1 1 b = 9
          rw [a3, gx_us]
      · exact g4 r (by omega)
theorem gt_write {tx : Nat → Int} {ty R nn K : Nat} {f : Nat → Int × Lean.ParserDescr} {T0 T : gm_S} {W : Nat → Nat} (h : gt_tree tx ty R f T0 T nn) (hk : gq_kn T0 nn R) (hK : K < 40) (hC : ∀ r, r < R → gq_C (T0.1 0) (T0.1 2) (T0.1 3) (T0.1 4) K (Int32.toNatClampNeg (T0.1 10 r)) (W r)) (hW : 2 + gt_ws W R ≤ 200) (S : gt_St) (hT : S.2 = T) : gt_wQ (gt_ctx tx ty R f T) f R (gm_f_Code_write S) := by
  have z0 : (0 : Int32).toInt = 0 := by decide
  have hR8 := h.1.1.2.2.2.1
  unfold gm_f_Code_write
  refine gf_ca (Q := gt_wQ (gt_ctx tx ty R f T) f R) (gt_aQ (S.1.1 1) (S.1.1 2) (S.1.1 3) 8 0 0) (gt_add (n := 0) 8 0 _ z0 (by omega) rfl rfl rfl) (fun r9 u9 h9 => ?_)
  obtain ⟨a1, a2, a3, a4, a5⟩ := h9
  refine gf_ca (Q := gt_wQ (gt_ctx tx ty R f T) f R) (gt_aQ (upd (S.1.1 1) 0 8) (upd (S.1.1 2) 0 0) (upd (S.1.1 3) 0 (-1)) 12 (-1) 1) (gt_add (n := 1) 12 (-1) _ a2 (by omega) a3 a4 a5) (fun r17 u17 h17 => ?_)
  obtain ⟨b1, b2, b3, b4, b5⟩ := h17
  have b3 : u17.1.1 1 = upd (upd (S.1.1 1) 0 8) 1 12 := b3
  have b4 : u17.1.1 2 = upd (upd (S.1.1 2) 0 0) 1 (-1) := b4
  refine gt_write23 h hk hK hC hW S r9 u9 r17 u17 hT 200 0 _ 0 2 z0 (by omega) (by omega) b2 (by show 2 ≤ 2 + 0; omega) ⟨Nat.le_refl 2, ?_, ?_, ?_, fun r hr => absurd hr (by omega)⟩ (fun j h1 h2 => absurd h1 (by omega))
  · show u17.1.1 1 0 = 8
    rw [b3, gx_un _ _ _ (by omega), gx_us]
  · show (u17.1.1 2 0).toInt = 0
    rw [b4, gx_un _ _ _ (by omega), gx_us]
    exact z0
  · show u17.1.1 1 1 = 12
    rw [b3, gx_us]
