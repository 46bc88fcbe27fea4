/-! The class's code and tree as the machine over lists has them. -/
noncomputable def gy_A (Cc T s2 : gm_S) (n R : Nat) (lo : Bool) : gv_A := (Cc.1 1, Cc.1 2, Cc.1 3, Cc.1 4, n, R, fun d q => gy_dc (q < 10 ∧ ¬ (gm_f_Tree_holds d (gm_f_Row_at 10 (Int32.ofNat q) s2).1 T).1 = 0), lo)
theorem gy_hold0 (d : Int32) (T : gm_S) : (gm_f_Tree_holds d (-1) T).1 = 0 := by
  unfold gm_f_Tree_holds
  by_cases a : d < 0
  · rw [if_pos a]
  · rw [if_neg a]
    by_cases b : (T.2.2 11) ≤ d
    · rw [if_pos b]
    · rw [if_neg b, if_pos (by decide)]
theorem gy_row_y {s2 : gm_S} {fed q : Nat} {x : Int32} (hx : x.toInt = (q : Nat)) (hf : (s2.2.2 1).toInt = fed) (h : q < fed) : (gm_f_Row_at 10 x s2).1 = s2.1 0 q := by
  unfold gm_f_Row_at
  have a : ¬ x < 0 := fun h9 => by have := gx_ltr (k := 0) (by decide) h9; omega
  have b : ¬ (s2.2.2 1) ≤ x := fun h9 => by have := gx_le h9; omega
  rw [if_neg a, if_neg b, gp_cl_n hx]
theorem gy_row_n {s2 : gm_S} {fed q : Nat} {x : Int32} (hx : x.toInt = (q : Nat)) (hf : (s2.2.2 1).toInt = fed) (h : fed ≤ q) : (gm_f_Row_at 10 x s2).1 = -1 := by
  unfold gm_f_Row_at
  have a : ¬ x < 0 := fun h9 => by have := gx_ltr (k := 0) (by decide) h9; omega
  have b : (s2.2.2 1) ≤ x := by rw [Int32.le_iff_toInt_le]; omega
  rw [if_neg a, if_pos b]
theorem gy_hd_g {T s2 : gm_S} {fed : Nat} {sub : Nat → Int} (hf : (s2.2.2 1).toInt = fed) (h10 : fed ≤ 10) (hs : ∀ q, q < fed → (s2.1 0 q).toInt = sub q ∧ 32 ≤ sub q ∧ sub q ≤ 126) (Cc : gm_S) (n R : Nat) (lo : Bool) (d : Int32) (P : Int → Prop) (q : Nat) (hP : gt_hd T d P) : (gy_A Cc T s2 n R lo).2.2.2.2.2.2.1 d q = true ↔ q < fed ∧ P (sub q) := by
  obtain ⟨d0, d1, hP⟩ := hP
  refine gy_dc_i.trans ?_
  constructor
  · rintro ⟨q10, nz⟩
    have on : (Int32.ofNat q).toInt = (q : Nat) := gx_on q (by omega)
    by_cases l : q < fed
    · obtain ⟨s1, s2', s3⟩ := hs q l
      rw [gy_row_y on hf l] at nz
      refine ⟨l, ?_⟩
      rcases gs_holds d (s2.1 0 q) T d0 d1 with ⟨z, -⟩ | ⟨-, w⟩
      · exact absurd z nz
      · rw [s1] at w
        exact (hP _ s2' s3).mp w
    · rw [gy_row_n on hf (by omega)] at nz
      exact absurd (gy_hold0 d T) nz
  · rintro ⟨l, p⟩
    have on : (Int32.ofNat q).toInt = (q : Nat) := gx_on q (by omega)
    obtain ⟨s1, s2', s3⟩ := hs q l
    refine ⟨by omega, ?_⟩
    rw [gy_row_y on hf l]
    rcases gs_holds d (s2.1 0 q) T d0 d1 with ⟨-, w⟩ | ⟨w, -⟩
    · rw [s1] at w
      exact absurd ((hP _ s2' s3).mpr p) w
    · rw [w]; decide
/-- what is known of a system of rules -/
def gy_G (tx : Nat → Int) (ty R : Nat) (f : Nat → Int × Lean.ParserDescr) : Prop := 1 ≤ R ∧ R ≤ 8 ∧ gs_no R (gq_un f R) ∧ gs_no R (gq_wd f R) ∧ (∀ r, r < R → gr_cn (f r).2) ∧ (∀ r, r < R → gv_wf f R (f r).2) ∧ 0 ≤ (f 0).1 ∧ gt_ws (fun r => gv_sd (f r).2) R ≤ 50 ∧ (∀ r, r < R → gt_w (f r).2 ≤ 150) ∧ gv_su (fun _ => true) (fun r => 3 + gj_L (f r).2) R ≤ 50 ∧ ∀ r, r < R → gn_s (f r).2 ≤ 7
theorem gy_X_rules {tx : Nat → Int} {ty R n : Nat} {f : Nat → Int × Lean.ParserDescr} {T Cc : gm_S} (hG : gy_G tx ty R f) (hc : gt_code (gt_ctx tx ty R f T) f R (Cc.1 1) (Cc.1 2) (Cc.1 3) (Cc.1 4) n) : ∀ r, r < R → gv_df (fun c => gq_fx f (c : Int) R < R) (f r).2 ∧ ∃ a b, (Cc.1 4 r).toInt = (a : Nat) ∧ gt_L (gy_X tx ty R f T) (Cc.1 1) (Cc.1 2) (Cc.1 3) (f r).2 a b ∧ Cc.1 1 b = 9 ∧ b < n := by
  intro r hr
  refine ⟨gv_wf_df _ (hG.2.2.2.2.2.1 r hr), ?_⟩
  obtain ⟨a, b, g1, g2, g3, g4, g5⟩ := hc.2.2.2.2 r hr
  exact ⟨a, b, g1, gy_L_X _ _ _ (hG.2.2.2.2.1 r hr) g3, g4, g5⟩
theorem gy_X_of {tx : Nat → Int} {ty R n fed : Nat} {f : Nat → Int × Lean.ParserDescr} {T Cc s2 : gm_S} {sub : Nat → Int} (hG : gy_G tx ty R f) (hc : gt_code (gt_ctx tx ty R f T) f R (Cc.1 1) (Cc.1 2) (Cc.1 3) (Cc.1 4) n) (hf : (s2.2.2 1).toInt = fed) (h10 : fed ≤ 10) (hs : ∀ q, q < fed → (s2.1 0 q).toInt = sub q ∧ 32 ≤ sub q ∧ sub q ≤ 126) : gv_X (gy_A Cc T s2 n R true) (gy_X tx ty R f T) (gy_C tx ty R f fed sub true) f fed sub := by
  refine ⟨fun d P q _ hP => gy_hd_g hf h10 hs Cc n R true d P q hP, fun x q _ => ?_, fun _ => rfl, fun a m q _ => gy_dc_i, fun a b q _ => gy_dc_i, gy_X_rules hG hc⟩
  exact gy_dc_i.trans ⟨fun h => h rfl, fun h _ => h⟩
theorem gy_Y_of {tx : Nat → Int} {ty R n fed : Nat} {f : Nat → Int × Lean.ParserDescr} {T Cc s2 : gm_S} {sub : Nat → Int} (hG : gy_G tx ty R f) (hc : gt_code (gt_ctx tx ty R f T) f R (Cc.1 1) (Cc.1 2) (Cc.1 3) (Cc.1 4) n) (hf : (s2.2.2 1).toInt = fed) (h10 : fed ≤ 10) (hs : ∀ q, q < fed → (s2.1 0 q).toInt = sub q ∧ 32 ≤ sub q ∧ sub q ≤ 126) : gv_Y (gy_A Cc T s2 n R false) (gy_X tx ty R f T) (gy_C tx ty R f fed sub false) f fed sub := by
  refine ⟨fun d P q _ hP => gy_hd_g hf h10 hs Cc n R false d P q hP, fun x q => ?_, fun _ => rfl, fun a m q _ => gy_dc_i, fun a b q _ => gy_dc_i, gy_X_rules hG hc⟩
  exact gy_dc_i.mpr (fun h => absurd h (by decide))
/-- the constants of the class's runner -/
theorem gy_gwC {tx : Nat → Int} {ty R n fed : Nat} {f : Nat → Int × Lean.ParserDescr} {T Cc s2 : gm_S} (hG : gy_G tx ty R f) (hn : (Cc.2.2 5).toInt = (n : Nat)) (hn2 : n ≤ 200) (hc : gt_code (gt_ctx tx ty R f T) f R (Cc.1 1) (Cc.1 2) (Cc.1 3) (Cc.1 4) n) (hv : gt_cov (gt_ctx tx ty R f T) f R (Cc.1 1) (Cc.1 2) (Cc.1 3) n) (hR : (T.2.2 13).toInt = (R : Nat)) (hf : (s2.2.2 1).toInt = fed) (h10 : fed ≤ 10) (S0 K Me Ke : gm_S) {lo : Bool} (hl : S0.2.2 10 = 0 ↔ lo = false) : gw_C (gy_A Cc T s2 n R lo) (S0, s2, K, Me, Ke, Cc, T) := by
  refine ⟨rfl, rfl, rfl, rfl, hn, hn2, hR, hl, fun d x q hx => ?_, fun d q h => (gy_dc_i.mp h).1, fun a ha h8 => ?_⟩
  · show (gm_f_Tree_holds d (gm_f_Row_at 10 x s2).1 T).1 = 0 ↔ ¬ gy_dc (q < 10 ∧ ¬ (gm_f_Tree_holds d (gm_f_Row_at 10 (Int32.ofNat q) s2).1 T).1 = 0) = true
    by_cases l : q < 10
    · have on : (Int32.ofNat q).toInt = (q : Nat) := gx_on q (by omega)
      have e : x = Int32.ofNat q := Int32.toInt_inj.mp (by rw [hx, on])
      rw [← e]
      constructor
      · intro z w
        exact (gy_dc_i.mp w).2 z
      · intro w
        exact Classical.byContradiction (fun z => w (gy_dc_i.mpr ⟨l, z⟩))
    · constructor
      · intro _ w
        exact l (gy_dc_i.mp w).1
      · intro _
        rw [gy_row_n hx hf (by omega)]
        exact gy_hold0 d T
  · have ha : a < n := ha
    have h8 : Cc.1 1 a = 8 := h8
    show 0 ≤ (Cc.1 2 a).toInt ∧ (Cc.1 2 a).toInt < 8
    have R8 := hG.2.1
    by_cases a0 : a = 0
    · rw [a0, hc.2.2.1]; omega
    · by_cases a1 : a = 1
      · rw [a1, hc.2.2.2.1] at h8
        exact absurd h8 (by decide)
      · obtain ⟨r, x, y, r1, r2, r3, r4, r5, r6⟩ := hv a (by omega) ha
        by_cases ay : a = y
        · rw [ay, r3] at h8
          exact absurd h8 (by decide)
        · obtain ⟨c, c1, c2⟩ := gy_op8 _ _ _ r2 (gv_wf_df _ (hG.2.2.2.2.2.1 r r1)) a r4 (by omega) h8
          have c2 : (Cc.1 2 a).toInt = (gq_fx f (c : Int) R : Nat) := c2
          rw [c2]
          omega
