/-! The numbers of a system of rules that fits into the text. -/
theorem gj_num {f : Nat → Int × Lean.ParserDescr} {R : Nat} {b : Lean.ParserDescr → Nat → Bool} {em : Lean.ParserDescr → Bool} (hb : gv_pb f R b) (hem : ∀ e, em e = true ↔ gq_em (gq_EL f R) e) (hw : gs_no R (gq_wd f R)) (hf : ∀ r, r < R → gv_wf f R (f r).2) (hR : R ≤ 8) (hL : gv_su (fun _ => true) (fun r => 3 + gj_L (f r).2) R ≤ 50) : ∃ ph W : Nat → Nat, (∀ c : Nat, gq_fx f (c : Int) R < R → gj_Z em ph (f (gq_fx f (c : Int) R)).2 ≤ ph c) ∧ (∀ r, r < R → 2 + gj_D em ph (f r).2 ≤ W r) ∧ gv_su (fun _ => true) W R ≤ 74814 ∧ ∀ r, r < R → ∀ e', e' ∈ gp_sb (f r).2 → gj_D em ph e' ≤ 86558 := by
  obtain ⟨er, her⟩ : ∃ er : Nat → Bool, ∀ r, er r = em (f r).2 := ⟨fun r => em (f r).2, fun _ => rfl⟩
  obtain ⟨a, ha⟩ : ∃ a : Nat → Nat, ∀ r, a r = gj_a em (f r).2 := ⟨fun r => gj_a em (f r).2, fun _ => rfl⟩
  obtain ⟨j, hj⟩ : ∃ j : Nat → Nat, ∀ r, j r = gj_j em (f r).2 := ⟨fun r => gj_j em (f r).2, fun _ => rfl⟩
  obtain ⟨rk, hrk⟩ : ∃ rk : Nat → Nat, ∀ r, rk r = gj_rk f R b r := ⟨gj_rk f R b, fun _ => rfl⟩
  obtain ⟨A, hA⟩ : ∃ A : Nat → Nat, A = fun i => gv_su (fun r => er r && decide (rk r = i)) a R := ⟨_, rfl⟩
  obtain ⟨J, hJ⟩ : ∃ J : Nat → Nat, J = fun i => gv_su (fun r => er r && decide (rk r = i)) j R := ⟨_, rfl⟩
  obtain ⟨ps, hps⟩ : ∃ ps : Nat → Nat, ∀ r, ps r = if er r = true then gj_Fn A J (rk r + 1) else 0 := ⟨_, fun _ => rfl⟩
  have rkl : ∀ r s, r < R → s < R → b (f r).2 s = true → rk s + 1 ≤ rk r := fun r s _ hs h => by rw [hrk, hrk]; exact gj_rk_lt hb hw hs h
  have rkR : ∀ r, r < R → rk r + 1 ≤ R := fun r hr => by rw [hrk]; exact gj_rk_R hb hw hr
  have psF : ∀ r i, rk r + 1 ≤ i → ps r ≤ gj_Fn A J i := by
    intro r i h
    rw [hps]
    by_cases e : er r = true
    · rw [if_pos e]; exact gj_Fn_le A J h
    · rw [if_neg e]; exact Nat.zero_le _
  have Zr : ∀ r, r < R → gj_Z em (fun c => ps (gq_fx f (c : Int) R)) (f r).2 ≤ a r * (2 + gj_Fn A J (rk r)) + j r := by
    intro r hr
    rw [ha, hj]
    exact gj_Za hb hem (f r).2 (hf r hr) (fun s hs q => psF s _ (rkl r s hr hs q))
  have up : ∀ r, r < R → er r = true → a r * (2 + gj_Fn A J (rk r)) + j r ≤ gj_Fn A J (rk r + 1) := by
    intro r hr e
    have F1 : gj_Fn A J (rk r + 1) = max (gj_Fn A J (rk r)) (A (rk r) * (2 + gj_Fn A J (rk r)) + J (rk r)) := rfl
    rw [F1]
    refine Nat.le_trans ?_ (Nat.le_max_right _ _)
    have p : (er r && decide (rk r = rk r)) = true := by rw [Bool.and_eq_true]; exact ⟨e, decide_eq_true rfl⟩
    have a1 : a r ≤ A (rk r) := by rw [hA]; exact gj_su_at (P := fun s => er s && decide (rk s = rk r)) p R hr
    have j1 : j r ≤ J (rk r) := by rw [hJ]; exact gj_su_at (P := fun s => er s && decide (rk s = rk r)) p R hr
    exact Nat.add_le_add (Nat.mul_le_mul_right _ a1) j1
  obtain ⟨u, hu⟩ : ∃ u, u = max 4 (2 + gj_Fn A J R) := ⟨_, rfl⟩
  have u4 : 4 ≤ u := by rw [hu]; exact Nat.le_max_left _ _
  have uF : 2 + gj_Fn A J R ≤ u := by rw [hu]; exact Nat.le_max_right _ _
  have T := gj_T_of (ph := fun c => ps (gq_fx f (c : Int) R)) hem u4 (fun c hc => by
    have := psF _ R (rkR _ hc)
    show 2 + ps (gq_fx f (c : Int) R) ≤ u
    omega)
  -- characters
  have aj : ∀ r, r < R → ∃ m, a r + 2 * j r + m ≤ gj_L (f r).2 ∧ gj_D em (fun c => ps (gq_fx f (c : Int) R)) (f r).2 ≤ gj_Z em (fun c => ps (gq_fx f (c : Int) R)) (f r).2 + m * u := by
    intro r hr
    obtain ⟨-, ⟨m, m1, m2⟩, -, -⟩ := T (f r).2 (hf r hr)
    exact ⟨m, by rw [ha, hj]; exact m1, m2⟩
  obtain ⟨mf, hmf⟩ : ∃ mf : Nat → Nat, ∀ r, r < R → a r + 2 * j r + mf r ≤ gj_L (f r).2 ∧ gj_D em (fun c => ps (gq_fx f (c : Int) R)) (f r).2 ≤ gj_Z em (fun c => ps (gq_fx f (c : Int) R)) (f r).2 + mf r * u := by
    refine ⟨fun r => if h : r < R then Classical.choose (aj r h) else 0, fun r hr => ?_⟩
    have e : (if h : r < R then Classical.choose (aj r h) else 0) = Classical.choose (aj r hr) := dif_pos hr
    show a r + 2 * j r + (if h : r < R then Classical.choose (aj r h) else 0) ≤ _ ∧ _ ≤ _ + (if h : r < R then Classical.choose (aj r h) else 0) * u
    rw [e]
    exact Classical.choose_spec (aj r hr)
  have tall : gv_su (fun _ => true) (fun r => 3 + a r + 2 * j r) R + gv_su (fun _ => true) mf R ≤ 50 := by
    rw [← gj_su_a]
    refine Nat.le_trans (gj_su_w R (fun k hk _ => ?_)) hL
    have := (hmf k hk).1
    omega
  have ter : gv_su er (fun r => 3 + a r + 2 * j r) R ≤ gv_su (fun _ => true) (fun r => 3 + a r + 2 * j r) R := gv_su_le _ _ _
  have FB := gj_Fn_b (er := er) (rk := rk) (a := a) (j := j) (R := R) (by omega) (fun r hr e p => by
    rw [ha] at p
    obtain ⟨s, s1, s2, s3⟩ := gj_a_pos hb hem (fun c _ h => (hem _).mpr (gj_lE_o h).2) (f r).2 (hf r hr) p
    exact ⟨s, s1, by rw [her]; exact s3, by have := rkl r s hr s1 s2; omega⟩) R
  rw [← hA, ← hJ] at FB
  have same : ∀ w : Nat → Nat, gv_su (fun r => er r && decide (rk r < R)) w R = gv_su er w R := by
    intro w
    have g : ∀ n, n ≤ R → gv_su (fun r => er r && decide (rk r < R)) w n = gv_su er w n := by
      intro n
      induction n with
      | zero => intro _; rfl
      | succ n ih =>
        intro hn
        have := rkR n (by omega)
        rw [gv_su, gv_su, ih (by omega), decide_eq_true (show rk n < R by omega), Bool.and_true]
    exact g R (Nat.le_refl _)
  rw [same, same] at FB
  obtain ⟨FB1, FB2⟩ := FB
  obtain ⟨t, ht⟩ : ∃ t, t = gv_su er (fun r => 3 + a r + 2 * j r) R := ⟨_, rfl⟩
  rw [← ht] at FB1 FB2 ter
  have um : u ≤ max 4 (2 + gj_F t) := by rw [hu]; exact Nat.max_le.mpr ⟨Nat.le_max_left _ _, Nat.le_trans (by omega) (Nat.le_max_right _ _)⟩
  have tb := gj_F_h ⟨t, by omega⟩
  have tb1 : 16 + gj_S t + (50 - t) * max 4 (2 + gj_F t) ≤ 74814 := tb.1
  have tb2 : gj_F t + (51 - t) * max 4 (2 + gj_F t) ≤ 86558 := tb.2
  have ne0 : ∀ r, r < R → ¬ er r = true → a r = 0 ∧ j r = 0 ∧ gj_Z em (fun c => ps (gq_fx f (c : Int) R)) (f r).2 = 0 ∧ ∀ x, x ∈ gp_sb (f r).2 → gj_D em (fun c => ps (gq_fx f (c : Int) R)) x ≤ gj_L (f r).2 * u := by
    intro r hr e
    rw [her] at e
    obtain ⟨-, -, -, n⟩ := T (f r).2 (hf r hr)
    obtain ⟨n1, n2, n3, n4⟩ := n e
    exact ⟨by rw [ha]; exact n1, by rw [hj]; exact n2, n3, n4⟩
  refine ⟨fun c => ps (gq_fx f (c : Int) R), fun r => 2 + gj_D em (fun c => ps (gq_fx f (c : Int) R)) (f r).2, ?_, fun _ _ => Nat.le_refl _, ?_, ?_⟩
  · intro c hc
    show _ ≤ ps (gq_fx f (c : Int) R)
    rw [hps]
    by_cases e : er (gq_fx f (c : Int) R) = true
    · rw [if_pos e]
      exact Nat.le_trans (Zr _ hc) (up _ hc e)
    · rw [(ne0 _ hc e).2.2.1]; exact Nat.zero_le _
  · have s1 : gv_su (fun _ => true) (fun r => 2 + gj_D em (fun c => ps (gq_fx f (c : Int) R)) (f r).2) R ≤ gv_su (fun _ => true) (fun r => 2 + ((if er r = true then a r * (2 + gj_Fn A J (rk r)) + j r else 0) + mf r * u)) R := by
      refine gj_su_w R (fun r hr _ => ?_)
      have := (hmf r hr).2
      have z := Zr r hr
      by_cases e : er r = true
      · rw [if_pos e]; omega
      · rw [if_neg e]
        have := (ne0 r hr e).2.2.1
        omega
    have e5 : gv_su (fun _ => true) (fun r => 2 + ((if er r = true then a r * (2 + gj_Fn A J (rk r)) + j r else 0) + mf r * u)) R = gv_su (fun _ => true) (fun _ => 2) R + (gv_su (fun _ => true) (fun r => if er r = true then a r * (2 + gj_Fn A J (rk r)) + j r else 0) R + gv_su (fun _ => true) mf R * u) := by
      rw [gj_su_a (w := fun _ => 2) (w' := fun r => (if er r = true then a r * (2 + gj_Fn A J (rk r)) + j r else 0) + mf r * u), gj_su_a (w := fun r => if er r = true then a r * (2 + gj_Fn A J (rk r)) + j r else 0) (w' := fun r => mf r * u), gj_su_m]
    rw [e5] at s1
    have s2 : gv_su (fun _ => true) (fun _ => 2) R = 2 * R := by
      have g : ∀ n, gv_su (fun _ => true) (fun _ => 2) n = 2 * n := by
        intro n
        induction n with
        | zero => rfl
        | succ n ih => rw [gv_su, if_pos rfl, ih]; omega
      exact g R
    have s3 : gv_su (fun _ => true) (fun r => if er r = true then a r * (2 + gj_Fn A J (rk r)) + j r else 0) R = gv_su er (fun r => a r * (2 + gj_Fn A J (rk r)) + j r) R := by
      have g : ∀ n, gv_su (fun _ => true) (fun r => if er r = true then a r * (2 + gj_Fn A J (rk r)) + j r else 0) n = gv_su er (fun r => a r * (2 + gj_Fn A J (rk r)) + j r) n := by
        intro n
        induction n with
        | zero => rfl
        | succ n ih => rw [gv_su, gv_su, ih, if_pos rfl]
      exact g R
    rw [s2, s3] at s1
    have m := Nat.mul_le_mul (show gv_su (fun _ => true) mf R ≤ 50 - t by omega) um
    omega
  · intro r hr x hx
    by_cases e : er r = true
    · have e' := e
      rw [her] at e'
      obtain ⟨-, -, n, -⟩ := T (f r).2 (hf r hr)
      obtain ⟨m, m1, m2⟩ := n e' x hx
      rw [← ha, ← hj] at m1
      have z := Nat.le_trans (Zr r hr) (up r hr e)
      have z2 := gj_Fn_le A J (rkR r hr)
      -- t and m
      have key : t + m ≤ 51 := by
        have q := gv_su_p (x := fun s => er s && !decide (s = r)) (y := fun _ => true) (w := fun s => 3 + gj_L (f s).2) (c := r) (by
          show ¬ (er r && !decide (r = r)) = true
          rw [decide_eq_true (rfl : r = r), Bool.not_true, Bool.and_false]
          exact fun h => absurd h (by decide)) rfl R hr (fun _ _ _ => rfl)
        have q2 : gv_su (fun s => er s && !decide (s = r)) (fun s => 3 + a s + 2 * j s) R ≤ gv_su (fun s => er s && !decide (s = r)) (fun s => 3 + gj_L (f s).2) R := gj_su_w R (fun s hs _ => by have := (hmf s hs).1; omega)
        have q3 := gv_su_1 (x := fun s => er s && !decide (s = r)) (y := er) (w := fun s => 3 + a s + 2 * j s) (c := r) (fun s hs => by
          show er s = (er s && !decide (s = r))
          rw [decide_eq_false hs, Bool.not_false, Bool.and_true]) e (by
          show ¬ (er r && !decide (r = r)) = true
          rw [decide_eq_true (rfl : r = r), Bool.not_true, Bool.and_false]
          exact fun h => absurd h (by decide)) R
        rw [if_pos hr] at q3
        omega
      have mm := Nat.mul_le_mul (show m ≤ 51 - t by omega) um
      omega
    · have n := (ne0 r hr e).2.2.2 x hx
      have key : t + gj_L (f r).2 ≤ 51 := by
        have q := gv_su_p (x := er) (y := fun _ => true) (w := fun s => 3 + gj_L (f s).2) (c := r) e rfl R hr (fun _ _ _ => rfl)
        have q2 : gv_su er (fun s => 3 + a s + 2 * j s) R ≤ gv_su er (fun s => 3 + gj_L (f s).2) R := gj_su_w R (fun s hs _ => by have := (hmf s hs).1; omega)
        omega
      have mm := Nat.mul_le_mul (show gj_L (f r).2 ≤ 51 - t by omega) um
      omega
