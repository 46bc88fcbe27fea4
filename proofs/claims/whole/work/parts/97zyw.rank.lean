/-! Rules that begin one another, by ranks; the numbers. -/
theorem gj_lE_o {f : Nat → Int × Lean.ParserDescr} {R r : Nat} (h : gq_lE f R r) : r < R ∧ gq_em (gq_EL f R) (f r).2 := by
  refine h (fun s => s < R ∧ gq_em (gq_EL f R) (f s).2) (fun s hs q => ⟨hs, gq_em_mono (fun c w => ?_) _ q⟩)
  exact gv_lE_b w.1 w.2
/-- a leaf that is the rule s, where s begins with k -/
theorem gj_fb_t {f : Nat → Int × Lean.ParserDescr} {R k s : Nat} {X : Nat → Prop} (hX : X s) : ∀ e : Lean.ParserDescr, gq_fb (gq_EL f R) (gq_lfB f R s) (fun _ => False) (fun c => X (gq_fx f (c : Int) R)) e → gq_fb (gq_EL f R) (gq_lfB f R k) (fun _ => False) (fun c => X (gq_fx f (c : Int) R)) e := by
  intro e
  induction e with
  | cat nm j =>
    rintro (⟨c, e1, e2⟩ | h)
    · rw [e1]
      exact Or.inr ⟨rfl, by show X (gq_fx f (c : Int) R); rw [e2]; exact hX⟩
    · exact Or.inr h
  | node nm j x ih => intro h; exact ⟨h.1, ih h.2⟩
  | binary nm x y ih1 ih2 => exact fun h => h.elim (fun h => Or.inl (ih1 h)) (fun h => Or.inr ⟨h.1, ih2 h.2⟩)
  | _ => intro h; exact h
theorem gj_lB_t {f : Nat → Int × Lean.ParserDescr} {R k s t : Nat} (h1 : gq_lB f R s t) (h2 : gq_lB f R k s) : gq_lB f R k t := by
  refine h1 (gq_lB f R k) (fun t' ht q => ?_)
  intro X hX
  refine hX t' ht (gq_fb_mono (fun c w => w X hX) _ (gj_fb_t (X := gq_lB f R k) h2 _ q))
theorem gj_bg_t {f : Nat → Int × Lean.ParserDescr} {R k s : Nat} (hs : s < R) (h2 : gv_bg f R k (f s).2) : ∀ e, gv_bg f R s e → gv_bg f R k e := by
  have h3 := gv_bg_r hs h2
  intro e h
  exact gq_fb_mono (fun c w => w) _ (gj_fb_t (X := gq_lB f R k) h3 e (gq_fb_mono (fun c w => gj_lB_t w h3) _ h))
def gj_rk (f : Nat → Int × Lean.ParserDescr) (R : Nat) (b : Lean.ParserDescr → Nat → Bool) (r : Nat) : Nat := gv_su (b (f r).2) (fun _ => 1) R
theorem gj_rk_lt {f : Nat → Int × Lean.ParserDescr} {R : Nat} {b : Lean.ParserDescr → Nat → Bool} (hb : gv_pb f R b) (hw : gs_no R (gq_wd f R)) {r s : Nat} (hs : s < R) (h : b (f r).2 s = true) : gj_rk f R b s + 1 ≤ gj_rk f R b r :=
  gv_su_p (x := b (f s).2) (y := b (f r).2) (w := fun _ => 1) (c := s) (fun q => gv_bg_no hw hs ((hb _ _).mp q)) h R hs (fun k _ q => (hb _ _).mpr (gj_bg_t hs ((hb _ _).mp q) _ ((hb _ _).mp h)))
theorem gj_su1 : ∀ R, gv_su (fun _ => true) (fun _ => 1) R = R := by
  intro R
  induction R with
  | zero => rfl
  | succ R ih => rw [gv_su, if_pos rfl, ih]
theorem gj_rk_R {f : Nat → Int × Lean.ParserDescr} {R : Nat} {b : Lean.ParserDescr → Nat → Bool} (hb : gv_pb f R b) (hw : gs_no R (gq_wd f R)) {r : Nat} (hr : r < R) : gj_rk f R b r + 1 ≤ R := by
  have p := gv_su_p (x := b (f r).2) (y := fun _ => true) (w := fun _ => 1) (c := r) (fun h => gv_bg_no hw hr ((hb _ _).mp h)) rfl R hr (fun _ _ _ => rfl)
  rw [gj_su1] at p
  exact p
/-! sums over some of the rules -/
theorem gj_su_at {P : Nat → Bool} {w : Nat → Nat} {r : Nat} (h : P r = true) : ∀ n, r < n → w r ≤ gv_su P w n := by
  intro n
  induction n with
  | zero => intro h; exact absurd h (by omega)
  | succ n ih =>
    intro hr
    rw [gv_su]
    by_cases e : r = n
    · rw [← e, if_pos h]; omega
    · have := ih (by omega); omega
theorem gj_su_w {P : Nat → Bool} {w w' : Nat → Nat} : ∀ n, (∀ k, k < n → P k = true → w k ≤ w' k) → gv_su P w n ≤ gv_su P w' n := by
  intro n
  induction n with
  | zero => intro _; exact Nat.le_refl _
  | succ n ih =>
    intro h
    have := ih (fun k hk => h k (by omega))
    rw [gv_su, gv_su]
    by_cases p : P n = true
    · have := h n (by omega) p
      rw [if_pos p, if_pos p]; omega
    · rw [if_neg p, if_neg p]; omega
theorem gj_su_a {P : Nat → Bool} {w w' : Nat → Nat} : ∀ n, gv_su P (fun k => w k + w' k) n = gv_su P w n + gv_su P w' n := by
  intro n
  induction n with
  | zero => rfl
  | succ n ih =>
    rw [gv_su, gv_su, gv_su, ih]
    by_cases p : P n = true
    · rw [if_pos p, if_pos p, if_pos p]; omega
    · rw [if_neg p, if_neg p, if_neg p]; omega
theorem gj_su_m {P : Nat → Bool} {w : Nat → Nat} (u : Nat) : ∀ n, gv_su P (fun k => w k * u) n = gv_su P w n * u := by
  intro n
  induction n with
  | zero => rw [show gv_su P w 0 = 0 from rfl, Nat.zero_mul]; rfl
  | succ n ih =>
    rw [gv_su, gv_su, ih, Nat.add_mul]
    by_cases p : P n = true
    · rw [if_pos p, if_pos p]
    · rw [if_neg p, if_neg p, Nat.zero_mul]
theorem gj_su_sp (er : Nat → Bool) (rk w : Nat → Nat) (i : Nat) : ∀ n, gv_su (fun r => er r && decide (rk r < i + 1)) w n = gv_su (fun r => er r && decide (rk r < i)) w n + gv_su (fun r => er r && decide (rk r = i)) w n := by
  intro n
  induction n with
  | zero => rfl
  | succ n ih =>
    rw [gv_su, gv_su, gv_su, ih]
    cases hq : er n with
    | false =>
      have e1 : ∀ x : Bool, (false && x) = true → False := fun x h => by cases h
      rw [if_neg (fun h => e1 _ h), if_neg (fun h => e1 _ h), if_neg (fun h => e1 _ h)]
      omega
    | true =>
      have e1 : ∀ x : Bool, (true && x) = x := fun x => rfl
      rw [e1, e1, e1]
      by_cases a : rk n < i
      · rw [if_pos (decide_eq_true (show rk n < i + 1 by omega)), if_pos (decide_eq_true a), if_neg (fun h => by have := of_decide_eq_true h; omega)]
        omega
      · by_cases c : rk n = i
        · rw [if_pos (decide_eq_true (show rk n < i + 1 by omega)), if_neg (fun h => a (of_decide_eq_true h)), if_pos (decide_eq_true c)]
          omega
        · rw [if_neg (fun h => by have := of_decide_eq_true h; omega), if_neg (fun h => a (of_decide_eq_true h)), if_neg (fun h => c (of_decide_eq_true h))]
          omega
theorem gj_su_3 (P : Nat → Bool) (a j : Nat → Nat) : ∀ n, (gv_su P a n = 0 ∧ gv_su P j n = 0) ∨ gv_su P a n + 2 * gv_su P j n + 3 ≤ gv_su P (fun r => 3 + a r + 2 * j r) n := by
  intro n
  induction n with
  | zero => exact Or.inl ⟨rfl, rfl⟩
  | succ n ih =>
    rw [gv_su, gv_su, gv_su]
    by_cases p : P n = true
    · rw [if_pos p, if_pos p, if_pos p]
      refine Or.inr ?_
      rcases ih with ⟨x, y⟩ | x
      · rw [x, y]; omega
      · omega
    · rw [if_neg p, if_neg p, if_neg p]
      exact ih
theorem gj_su_eq {P : Nat → Bool} {w w' : Nat → Nat} : ∀ n, (∀ k, k < n → P k = true → w k = w' k) → gv_su P w n = gv_su P w' n := by
  intro n
  induction n with
  | zero => intro _; rfl
  | succ n ih =>
    intro h
    rw [gv_su, gv_su, ih (fun k hk => h k (by omega))]
    by_cases p : P n = true
    · rw [if_pos p, if_pos p, h n (by omega) p]
    · rw [if_neg p, if_neg p]
/-- what rules of a rank below i cost that take nothing -/
def gj_Fn (A J : Nat → Nat) : Nat → Nat
  | 0 => 0
  | i + 1 => max (gj_Fn A J i) (A i * (2 + gj_Fn A J i) + J i)
theorem gj_Fn_m (A J : Nat → Nat) : ∀ d i, gj_Fn A J i ≤ gj_Fn A J (i + d) := by
  intro d
  induction d with
  | zero => intro i; exact Nat.le_refl _
  | succ d ih => intro i; exact Nat.le_trans (ih i) (Nat.le_max_left _ _)
theorem gj_Fn_le (A J : Nat → Nat) {i i' : Nat} (h : i ≤ i') : gj_Fn A J i ≤ gj_Fn A J i' := by
  have := gj_Fn_m A J (i' - i) i
  rw [show i + (i' - i) = i' by omega] at this
  exact this
/-- the numbers of a system of rules -/
theorem gj_Fn_b {er : Nat → Bool} {rk a j : Nat → Nat} {R : Nat} (ht : gv_su er (fun r => 3 + a r + 2 * j r) R ≤ 50) (h3 : ∀ r, r < R → er r = true → 0 < a r → ∃ s, s < R ∧ er s = true ∧ rk s < rk r) : ∀ i, gj_Fn (fun i => gv_su (fun r => er r && decide (rk r = i)) a R) (fun i => gv_su (fun r => er r && decide (rk r = i)) j R) i ≤ gj_F (gv_su (fun r => er r && decide (rk r < i)) (fun r => 3 + a r + 2 * j r) R) ∧ gv_su (fun r => er r && decide (rk r < i)) (fun r => a r * (2 + gj_Fn (fun i => gv_su (fun r => er r && decide (rk r = i)) a R) (fun i => gv_su (fun r => er r && decide (rk r = i)) j R) (rk r)) + j r) R ≤ gj_S (gv_su (fun r => er r && decide (rk r < i)) (fun r => 3 + a r + 2 * j r) R) := by
  generalize hA : (fun i => gv_su (fun r => er r && decide (rk r = i)) a R) = A
  generalize hJ : (fun i => gv_su (fun r => er r && decide (rk r = i)) j R) = J
  have t50 : ∀ i, gv_su (fun r => er r && decide (rk r < i)) (fun r => 3 + a r + 2 * j r) R ≤ 50 := fun i => Nat.le_trans (gv_su_m R (fun k _ q => by rw [Bool.and_eq_true] at q; exact q.1)) ht
  intro i
  induction i with
  | zero =>
    refine ⟨Nat.zero_le _, ?_⟩
    have z : ∀ n, gv_su (fun r => er r && decide (rk r < 0)) (fun r => a r * (2 + gj_Fn A J (rk r)) + j r) n = 0 := by
      intro n
      induction n with
      | zero => rfl
      | succ n ih => rw [gv_su, ih, if_neg (fun q => by rw [Bool.and_eq_true] at q; have := of_decide_eq_true q.2; omega)]
    rw [z]
    exact Nat.zero_le _
  | succ i ih =>
    obtain ⟨i1, i2⟩ := ih
    have T := t50 (i + 1)
    have sp := gj_su_sp er rk (fun r => 3 + a r + 2 * j r) i R
    have sp2 := gj_su_sp er rk (fun r => a r * (2 + gj_Fn A J (rk r)) + j r) i R
    have s3 := gj_su_3 (fun r => er r && decide (rk r = i)) a j R
    have eA : gv_su (fun r => er r && decide (rk r = i)) a R = A i := by rw [← hA]
    have eJ : gv_su (fun r => er r && decide (rk r = i)) j R = J i := by rw [← hJ]
    have e4 : gv_su (fun r => er r && decide (rk r = i)) (fun r => a r * (2 + gj_Fn A J (rk r)) + j r) R = A i * (2 + gj_Fn A J i) + J i := by
      rw [gj_su_eq (w' := fun r => a r * (2 + gj_Fn A J i) + j r) R (fun k _ q => by
        rw [Bool.and_eq_true] at q
        rw [of_decide_eq_true q.2]), gj_su_a, gj_su_m, eA, eJ]
    rw [sp2, e4]
    have F1 : gj_Fn A J (i + 1) = max (gj_Fn A J i) (A i * (2 + gj_Fn A J i) + J i) := rfl
    rw [F1, sp]
    rw [sp] at T
    rw [eA, eJ] at s3
    -- names are there only above other rules
    have low : gv_su (fun r => er r && decide (rk r < i)) (fun r => 3 + a r + 2 * j r) R < 3 → A i = 0 := by
      intro l
      have no : ∀ s, s < R → er s = true → rk s < i → False := by
        intro s s1 s2 s3
        have := gj_su_at (P := fun r => er r && decide (rk r < i)) (w := fun r => 3 + a r + 2 * j r) (r := s) (by
          show (er s && decide (rk s < i)) = true
          rw [Bool.and_eq_true]; exact ⟨s2, decide_eq_true s3⟩) R s1
        have this : 3 + a s + 2 * j s ≤ _ := this
        omega
      rw [← eA]
      have z : gv_su (fun r => er r && decide (rk r = i)) a R ≤ gv_su (fun r => er r && decide (rk r = i)) (fun _ => 0) R := gj_su_w R (fun k hk q => by
        rw [Bool.and_eq_true] at q
        by_cases p : 0 < a k
        · obtain ⟨s, s1, s2, s3⟩ := h3 k hk q.1 p
          exact (no s s1 s2 (by have := of_decide_eq_true q.2; omega)).elim
        · omega)
      have z0 : ∀ n, gv_su (fun r => er r && decide (rk r = i)) (fun _ => 0) n = 0 := by
        intro n
        induction n with
        | zero => rfl
        | succ n ih => rw [gv_su, ih]; split <;> rfl
      rw [z0] at z
      omega
    have mono : ∀ M, M ≤ gj_F (gv_su (fun r => er r && decide (rk r < i)) (fun r => 3 + a r + 2 * j r) R) → A i * (2 + M) + J i ≤ A i * (2 + gj_F (gv_su (fun r => er r && decide (rk r < i)) (fun r => 3 + a r + 2 * j r) R)) + J i := fun M h => Nat.add_le_add_right (Nat.mul_le_mul_left _ (by omega)) _
    have m := mono _ i1
    generalize gv_su (fun r => er r && decide (rk r < i)) (fun r => 3 + a r + 2 * j r) R = t at *
    generalize gv_su (fun r => er r && decide (rk r = i)) (fun r => 3 + a r + 2 * j r) R = d at *
    have mm := gj_F_m d t T
    rcases s3 with ⟨x, y⟩ | x
    · rw [x, y, Nat.zero_mul] at *
      exact ⟨Nat.max_le.mpr ⟨by omega, by omega⟩, by omega⟩
    · have fs := gj_F_s (t := t) (t' := t + d) (a := A i) (j := J i) (by omega) T low
      exact ⟨Nat.max_le.mpr ⟨by omega, by omega⟩, by omega⟩
