/-! The reference's tables out of its study: places of rest, and the least ones. -/
theorem gq_fx_ok {f : Nat → Int × Lean.ParserDescr} {c : Int} : ∀ R, gq_fx f c R < R → (f (gq_fx f c R)).1 = c := by
  intro R
  induction R with
  | zero => intro h; omega
  | succ R ih =>
    intro h
    unfold gq_fx at h ⊢
    by_cases q : gq_fx f c R < R
    · rw [if_pos q]; exact ih q
    · rw [if_neg q] at h ⊢
      by_cases w : (f R).1 = c
      · rw [if_pos w]; exact w
      · rw [if_neg w] at h; omega
theorem gq_fx_at {f : Nat → Int × Lean.ParserDescr} {c : Int} {r : Nat} (h1 : (f r).1 = c) (h2 : ∀ k, k < r → (f k).1 ≠ c) : ∀ R, r < R → gq_fx f c R = r := by
  intro R
  induction R with
  | zero => intro h; omega
  | succ R ih =>
    intro h
    unfold gq_fx
    by_cases e : r < R
    · rw [ih e, if_pos e]
    · have er : r = R := by omega
      subst er
      rw [if_neg (fun q => h2 _ q (gq_fx_ok _ q)), if_pos h1]
theorem gq_fx_no {f : Nat → Int × Lean.ParserDescr} {c : Int} : ∀ R, (∀ k, k < R → (f k).1 ≠ c) → gq_fx f c R = R := by
  intro R
  induction R with
  | zero => intro _; rfl
  | succ R ih =>
    intro h
    unfold gq_fx
    rw [ih (fun k hk => h k (by omega)), if_neg (Nat.lt_irrefl R), if_neg (h R (by omega))]
/-- the reference's names mean what the rules say -/
theorem gr_R_of {Pg : Nat → Nat → Nat → Prop} {ty fr : Int32} {rc nm wh pa kd on tw ow : Nat → Int32} {R nA nC : Nat} {f : Nat → Int × Lean.ParserDescr} (hU : gm_iU ty fr rc nm wh pa kd on tw ow) (hG : gp_G Pg fr rc nm wh pa kd on tw ow R f nA nC) : gr_R Pg (gp_B fr) (gp_M fr pa) R kd on tw (fun n => gp_mz rc nm wh fr (on n)) (fun r => Int32.toNatClampNeg (wh (8 * Int32.toNatClampNeg fr + r))) f ∧ ∀ n c : Nat, gp_B fr ≤ n → n < gp_M fr pa → (kd n).toInt = 3 → (on n).toInt = c → (gp_rz rc nm fr (on n)).toInt = ((gq_fx f (c : Int) R : Nat) : Int) := by
  have f0 := hU.1
  have p0 := hU.2.1
  have r0 := hU.2.2.1
  have cf := gx_cl fr (by omega)
  have cp := gx_cl (pa (Int32.toNatClampNeg fr)) (by omega)
  obtain ⟨g1, g2, -⟩ := hG
  have key : ∀ n c : Nat, gp_B fr ≤ n → n < gp_M fr pa → (kd n).toInt = 3 → (on n).toInt = c → ∃ k : Nat, k < R ∧ gq_fx f (c : Int) R = k ∧ (gp_rz rc nm fr (on n)).toInt = (k : Int) ∧ gp_mz rc nm wh fr (on n) = wh (8 * Int32.toNatClampNeg fr + k) := by
    intro n c h1 h2 k3 kc
    obtain ⟨z, r, hr, hz⟩ := gp_me_ex rc nm wh fr (on n) f0.1 r0.2
    have ez := gp_mz_eq f0.1 (⟨r, hr, hz⟩ : gp_me rc nm wh fr (on n) z)
    have er := gp_rz_eq f0.1 hr
    have mi := gp_mz_in hU (n := n) (by unfold gp_B at h1; omega) (by unfold gp_M at h2; omega) (Int32.toInt_inj.mp (by rw [k3]; rfl))
    rcases hz with ⟨-, z1⟩ | ⟨q1, q2, q3⟩
    · exfalso
      rw [← ez, z1] at mi
      have : (-1 : Int32).toInt = -1 := by decide
      omega
    · rcases hr with ⟨hr, -⟩ | ⟨-, -, w1, w2⟩
      · exfalso
        rw [hr] at q1
        have : (-1 : Int32).toInt = -1 := by decide
        omega
      · have kn : ((r.toInt.toNat : Nat) : Int) = r.toInt := by omega
        have kl : r.toInt.toNat < R := by omega
        refine ⟨r.toInt.toNat, kl, gq_fx_at ?_ ?_ R kl, by rw [← er]; omega, ?_⟩
        · have a := w1 (8 * Int32.toNatClampNeg fr + r.toInt.toNat) (by omega)
          rw [← (g2 _ kl).1, a, kc]
        · intro k hk e
          have a := w2 k (by omega) (8 * Int32.toNatClampNeg fr + k) (by omega)
          refine a (Int32.toInt_inj.mp ?_)
          rw [(g2 k (by omega)).1, e, kc]
        · rw [← ez]
          exact q3 _ (by omega)
  refine ⟨⟨fun r hr => ?_, fun n c h1 h2 k3 kc => ?_⟩, fun n c h1 h2 k3 kc => ?_⟩
  · have g := (g2 r hr).2
    have cc := gp_ch_cl g.1
    exact ⟨cc.1, cc.2.1, g.2⟩
  · obtain ⟨k, a, b, -, d⟩ := key n c h1 h2 k3 kc
    rw [b]
    refine ⟨a, ?_⟩
    show Int32.toNatClampNeg (gp_mz rc nm wh fr (on n)) = _
    rw [d]
  · obtain ⟨k, a, b, d, -⟩ := key n c h1 h2 k3 kc
    rw [b, d]
/-- what a part names lies below M -/
def gr_in (B M : Nat) (kd on tw Mz : Nat → Int32) (n : Nat) : Prop := ((kd n).toInt = 3 → B ≤ Int32.toNatClampNeg (Mz n) ∧ Int32.toNatClampNeg (Mz n) < M) ∧ (4 ≤ (kd n).toInt → B ≤ Int32.toNatClampNeg (on n) ∧ Int32.toNatClampNeg (on n) < M) ∧ ((kd n).toInt = 4 ∨ (kd n).toInt = 5 → B ≤ Int32.toNatClampNeg (tw n) ∧ Int32.toNatClampNeg (tw n) < M)
theorem gr_eF_in {B M : Nat} {kd on tw Mz : Nat → Int32} {a b : Nat → Prop} {n : Nat} (i : gr_in B M kd on tw Mz n) (h : ∀ j, (B ≤ j ∧ j < M) → a j → b j) (q : gp_eF kd on tw Mz a n) : gp_eF kd on tw Mz b n :=
  ⟨q.1, q.2.1, fun k => h _ (i.1 k) (q.2.2.1 k), fun k => ⟨h _ (i.2.1 (by omega)) (q.2.2.2.1 k).1, h _ (i.2.2 (Or.inl k)) (q.2.2.2.1 k).2⟩, fun k => (q.2.2.2.2.1 k).elim (fun t => Or.inl (h _ (i.2.1 (by omega)) t)) (fun t => Or.inr (h _ (i.2.2 (Or.inr k)) t)), fun k => h _ (i.2.1 (by omega)) (q.2.2.2.2.2 k)⟩
theorem gr_nB_in {B M : Nat} {kd on tw Mz : Nat → Int32} {em base sx a b : Nat → Prop} {n : Nat} (i : gr_in B M kd on tw Mz n) (h : ∀ j, (B ≤ j ∧ j < M) → a j → b j) (q : gr_nB kd on tw Mz em base sx a n) : gr_nB kd on tw Mz em base sx b n := by
  rcases q with q | ⟨k, q⟩ | ⟨k, q⟩ | ⟨k, q⟩ | ⟨k, s, q⟩
  · exact Or.inl q
  · exact Or.inr (Or.inl ⟨k, h _ (i.1 k) q⟩)
  · exact Or.inr (Or.inr (Or.inl ⟨k, q.elim (fun t => Or.inl (h _ (i.2.1 (by omega)) t)) (fun t => Or.inr ⟨t.1, h _ (i.2.2 (Or.inl k)) t.2⟩)⟩))
  · exact Or.inr (Or.inr (Or.inr (Or.inl ⟨k, q.elim (fun t => Or.inl (h _ (i.2.1 (by omega)) t)) (fun t => Or.inr (h _ (i.2.2 (Or.inr k)) t))⟩)))
  · exact Or.inr (Or.inr (Or.inr (Or.inr ⟨k, s, h _ (i.2.1 (by omega)) q⟩)))
theorem gr_pick (Pn B : Nat) (Y : Nat → Prop) : ∃ y : Nat → Bool, ∀ k, y k = true ↔ (k < Pn → Y (B + k)) := ⟨fun k => @decide (k < Pn → Y (B + k)) (Classical.propDecidable _), fun _ => @decide_eq_true_iff _ (Classical.propDecidable _)⟩
theorem gr_em_least {kd on tw Mz : Nat → Int32} {B Pn : Nat} {em : Nat → Int32} {x0 : Nat → Bool} (hx : ∀ k, k < Pn → x0 k = false) (hin : ∀ n, B ≤ n → n < B + Pn → gr_in B (B + Pn) kd on tw Mz n) (h : gp_v em B = gp_it (gp_FE kd on tw Mz B) Pn Pn x0) (Y : Nat → Prop) (hY : ∀ n, B ≤ n → n < B + Pn → gp_eF kd on tw Mz Y n → Y n) : ∀ n, B ≤ n → n < B + Pn → em n = 1 → Y n := by
  intro n h1 h2 q
  obtain ⟨y, hy⟩ := gr_pick Pn B Y
  have w := gp_it_le (gp_FE_mon kd on tw Mz B) (N := Pn) (x := x0) (y := y) (fun k hk t => (hy k).mpr fun _ => hY _ (by omega) (by omega) (gr_eF_in (hin _ (by omega) (by omega)) (fun j hj t => ?_) (gp_FE_iff.mp t))) (fun k t => (hy k).mpr fun hk => by rw [hx k hk] at t; cases t) Pn (n - B) (by rw [← h]; exact gp_v_iff.mpr (by rw [show B + (n - B) = n by omega]; exact q))
  · have := (hy _).mp w (by omega)
    rw [show B + (n - B) = n by omega] at this
    exact this
  · have := (hy _).mp t.2 (by omega)
    rw [show B + (j - B) = j by omega] at this
    exact this
/-- what the beginnings ask, as one of the systems of 97y -/
def gr_b3 (kd Rz : Nat → Int32) (q n : Nat) : Prop := (kd n).toInt = 3 ∧ (q : Int) = (Rz n).toInt
theorem gr_bF_iff {kd on tw Mz Rz : Nat → Int32} {em bg : Nat → Prop} {q n : Nat} : gp_bF kd on tw Mz Rz em bg q n ↔ gr_nB kd on tw Mz em (gr_b3 kd Rz q) (fun _ => False) bg n := by
  constructor
  · rintro (⟨k, t | t⟩ | h | h | ⟨k, t⟩)
    · exact Or.inl ⟨k, t⟩
    · exact Or.inr (Or.inl ⟨k, t⟩)
    · exact Or.inr (Or.inr (Or.inl h))
    · exact Or.inr (Or.inr (Or.inr (Or.inl h)))
    · exact Or.inr (Or.inr (Or.inr (Or.inr ⟨k, fun q => q, t⟩)))
  · rintro (⟨k, t⟩ | ⟨k, t⟩ | h | h | ⟨k, -, t⟩)
    · exact Or.inl ⟨k, Or.inl t⟩
    · exact Or.inl ⟨k, Or.inr t⟩
    · exact Or.inr (Or.inl h)
    · exact Or.inr (Or.inr (Or.inl h))
    · exact Or.inr (Or.inr (Or.inr ⟨k, t⟩))
theorem gr_bg_least {kd on tw Mz Rz : Nat → Int32} {em : Nat → Prop} {q B Pn : Nat} {bg : Nat → Int32} {x0 : Nat → Bool} (hx : ∀ k, k < Pn → x0 k = false) (hin : ∀ n, B ≤ n → n < B + Pn → gr_in B (B + Pn) kd on tw Mz n) (h : gp_vb bg q B = gp_it (gp_FB kd on tw Mz Rz em q B) Pn Pn x0) (Y : Nat → Prop) (hY : ∀ n, B ≤ n → n < B + Pn → gr_nB kd on tw Mz em (gr_b3 kd Rz q) (fun _ => False) Y n → Y n) : ∀ n, B ≤ n → n < B + Pn → gp_bt (bg n) q = true → Y n := by
  intro n h1 h2 t0
  obtain ⟨y, hy⟩ := gr_pick Pn B Y
  have w := gp_it_le (gp_FB_mon kd on tw Mz Rz em q B) (N := Pn) (x := x0) (y := y) (fun k hk t => (hy k).mpr fun _ => hY _ (by omega) (by omega) (gr_nB_in (hin _ (by omega) (by omega)) (fun j hj t => ?_) (gr_bF_iff.mp (gp_FB_iff.mp t)))) (fun k t => (hy k).mpr fun hk => by rw [hx k hk] at t; cases t) Pn (n - B) (by rw [← h]; unfold gp_vb; rw [show B + (n - B) = n by omega]; exact t0)
  · have := (hy _).mp w (by omega)
    rw [show B + (n - B) = n by omega] at this
    exact this
  · have := (hy _).mp t.2 (by omega)
    rw [show B + (j - B) = j by omega] at this
    exact this
theorem gr_it_ge {F : (Nat → Bool) → Nat → Bool} (hF : gp_mon F) {N : Nat} {x : Nat → Bool} (hx : gp_sup F N x) : ∀ r, (∀ k, x k = true → gp_it F N r x k = true) ∧ gp_sup F N (gp_it F N r x) := by
  intro r
  induction r with
  | zero => exact ⟨fun _ h => h, hx⟩
  | succ r ih =>
    have g := gp_sw_ge hF ih.2 N (Nat.le_refl _)
    exact ⟨fun k h => g.1 k (ih.1 k h), g.2⟩
/-- what the heads ask: what was there, and the first of a row -/
def gr_b1 (kd : Nat → Int32) (rw : Nat → Prop) (B : Nat) (x0 : Nat → Bool) (n : Nat) : Prop := (B ≤ n ∧ x0 (n - B) = true) ∨ ((kd n).toInt = 1 ∧ rw n)
theorem gr_hF_iff {kd on tw Mz : Nat → Int32} {em hd rw : Nat → Prop} {B : Nat} {x0 : Nat → Bool} {n : Nat} (hk : (kd n).toInt ≤ 10) : gr_nB kd on tw Mz em (gr_b1 kd rw B x0) gq_sx hd n ↔ ((B ≤ n ∧ x0 (n - B) = true) ∨ gp_hF kd on tw Mz em hd (rw n) n) := by
  constructor
  · rintro ((h | h) | h | h | h | ⟨k, s, t⟩)
    · exact Or.inl h
    · exact Or.inr (Or.inl h)
    · exact Or.inr (Or.inr (Or.inl h))
    · exact Or.inr (Or.inr (Or.inr (Or.inl h)))
    · exact Or.inr (Or.inr (Or.inr (Or.inr (Or.inl h))))
    · refine Or.inr (Or.inr (Or.inr (Or.inr (Or.inr ⟨?_, t⟩))))
      unfold gq_sx at s
      omega
  · rintro (h | h | h | h | h | ⟨k, t⟩)
    · exact Or.inl (Or.inl h)
    · exact Or.inl (Or.inr h)
    · exact Or.inr (Or.inl h)
    · exact Or.inr (Or.inr (Or.inl h))
    · exact Or.inr (Or.inr (Or.inr (Or.inl h)))
    · refine Or.inr (Or.inr (Or.inr (Or.inr ⟨by omega, ?_, t⟩)))
      unfold gq_sx
      omega
theorem gr_hd_least {kd on tw Mz : Nat → Int32} {em rw : Nat → Prop} {q B Pn : Nat} {lo : Nat → Int64} {x0 : Nat → Bool} (hk : ∀ n, B ≤ n → n < B + Pn → (kd n).toInt ≤ 10) (hin : ∀ n, B ≤ n → n < B + Pn → gr_in B (B + Pn) kd on tw Mz n) (h : gp_vl lo q B = gp_it (gp_FH kd on tw Mz em rw B) Pn Pn x0) (Y : Nat → Prop) (hY : ∀ n, B ≤ n → n < B + Pn → gr_nB kd on tw Mz em (gr_b1 kd rw B x0) gq_sx Y n → Y n) : ∀ n, B ≤ n → n < B + Pn → gp_bl (lo n) q = true → Y n := by
  intro n h1 h2 t0
  obtain ⟨y, hy⟩ := gr_pick Pn B Y
  have w := gp_it_le (gp_FH_mon kd on tw Mz em rw B) (N := Pn) (x := x0) (y := y) (fun k hk1 t => (hy k).mpr fun _ => (gp_FH_iff.mp t).elim (fun t => (hy k).mp t hk1) (fun t => hY _ (by omega) (by omega) (gr_nB_in (hin _ (by omega) (by omega)) (fun j hj t => ?_) ((gr_hF_iff (hk _ (by omega) (by omega))).mpr (Or.inr t))))) (fun k t => (hy k).mpr fun hk1 => hY _ (by omega) (by omega) ((gr_hF_iff (hk _ (by omega) (by omega))).mpr (Or.inl ⟨by omega, by rw [show B + k - B = k by omega]; exact t⟩))) Pn (n - B) (by rw [← h]; unfold gp_vl; rw [show B + (n - B) = n by omega]; exact t0)
  · have := (hy _).mp w (by omega)
    rw [show B + (n - B) = n by omega] at this
    exact this
  · have := (hy _).mp t.2 (by omega)
    rw [show B + (j - B) = j by omega] at this
    exact this
theorem gr_hd_rest {kd on tw Mz : Nat → Int32} {em rw : Nat → Prop} {q B Pn : Nat} {lo : Nat → Int64} {x0 : Nat → Bool} (hk : ∀ n, B ≤ n → n < B + Pn → (kd n).toInt ≤ 10) (hin : ∀ n, B ≤ n → n < B + Pn → gr_in B (B + Pn) kd on tw Mz n) (h : gp_vl lo q B = gp_it (gp_FH kd on tw Mz em rw B) Pn Pn x0) : ∀ n, B ≤ n → n < B + Pn → ((B ≤ n ∧ gp_bl (lo n) q = true) ↔ gr_nB kd on tw Mz em (gr_b1 kd rw B x0) gq_sx (fun j => B ≤ j ∧ gp_bl (lo j) q = true) n) := by
  have up : ∀ n, B ≤ n → n < B + Pn → gr_nB kd on tw Mz em (gr_b1 kd rw B x0) gq_sx (fun j => B ≤ j ∧ gp_bl (lo j) q = true) n → B ≤ n ∧ gp_bl (lo n) q = true := by
    intro n h1 h2 w
    refine ⟨h1, ?_⟩
    have en : B + (n - B) = n := by omega
    rcases (gr_hF_iff (hk n h1 h2)).mp w with w | w
    · have g := (gr_it_ge (gp_FH_mon kd on tw Mz em rw B) (N := Pn) (x := x0) (fun k _ t => gp_FH_iff.mpr (Or.inl t)) Pn).1 _ w.2
      rw [← h] at g
      unfold gp_vl at g
      rw [en] at g
      exact g
    · have g := gp_hd_rest h (n - B) (by omega)
      rw [en] at g
      exact g w
  intro n h1 h2
  refine ⟨fun w => ?_, up n h1 h2⟩
  exact gr_hd_least hk hin h (fun n => gr_nB kd on tw Mz em (gr_b1 kd rw B x0) gq_sx (fun j => B ≤ j ∧ gp_bl (lo j) q = true) n) (fun m m1 m2 y => gr_nB_in (hin m m1 m2) (fun j hj t => up j hj.1 hj.2 t) y) n h1 h2 w.2
