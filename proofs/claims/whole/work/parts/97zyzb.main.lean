/-! A run from the beginning, over lists. -/
/-- how a run of the machine ends: v characters, c tries, captures L -/
def gv_fn (v : Int) (c : Nat) (L : List (Nat × Nat)) (s : gv_Sx) : Prop := (c ≤ 1000 → (0 ≤ v → s.1 = 1 ∧ s.2.2.1 = v.toNat ∧ s.2.2.2.2.1 = gv_rv L ∧ s.2.2.2.2.2.1 = c) ∧ (v = -1 → s.1 = 2 ∧ s.2.2.2.2.2.1 = c)) ∧ (1000 < c → s.1 = 3 ∧ s.2.2.2.2.2.1 = 1000)
theorem gv_main {A : gv_A} (lo : A.2.2.2.2.2.2.2 = true) {X : gt_X} {C : gv_C} {f : Nat → Int × Lean.ParserDescr} {fed : Nat} {sub : Nat → Int} (h : gv_X A X C f fed sub) {c0 : Nat} (hc : X.2.2.2.2.2 c0 = 0) (h2 : 2 ≤ A.2.2.2.2.1) (o0 : A.1 0 = 8) (d0 : (A.2.1 0).toInt = 0) (o1 : A.1 1 = 12) (hR : 0 < A.2.2.2.2.2.1) (k : Nat) (M : gv_Mm) (hv : gv_v C k (gp_e0 3 c0 0) 0 ≠ -2) (hd : gv_d C k (gp_e0 3 c0 0) 0 ≤ 550) (hp : gv_p C k (gp_e0 3 c0 0) 0 ≤ 275) : ∃ n s, n ≤ 1 + gv_s C k (gp_e0 3 c0 0) 0 1000 ∧ gv_run A n (0, 0, 0, [], [], 0, M) = s ∧ gv_fn (gv_v C k (gp_e0 3 c0 0) 0) (gv_c C k (gp_e0 3 c0 0) 0) (gv_L C k (gp_e0 3 c0 0) 0) s := by
  have g := gv_v_ge C k (gp_e0 3 c0 0) 0
  have t := gv_sim lo h k (gp_e0 3 c0 0) 0 hv 0 1 ⟨by omega, fun h => absurd h (by decide), fun h => absurd h (by decide), fun h => absurd h (by decide), fun _ => ⟨rfl, o0, by rw [d0]; show (0 : Int) = (X.2.2.2.2.2 c0 : Nat); rw [hc]; rfl⟩⟩ (by omega) (Nat.zero_le _) (fun _ => by show X.2.2.2.2.2 c0 < _; rw [hc]; exact hR) [] [] 0 M (by show 0 + _ ≤ 550; omega) (by show 0 + _ ≤ 275; omega)
  obtain ⟨t1, t2⟩ := t
  by_cases c : gv_c C k (gp_e0 3 c0 0) 0 ≤ 1000
  · obtain ⟨s, ⟨n, n1, n2⟩, s2⟩ := t1 (by show 0 + _ ≤ 1000; omega)
    by_cases v0 : 0 ≤ gv_v C k (gp_e0 3 c0 0) 0
    · have e := s2.1 v0
      have st := gv_s12 (A := A) (a := 1) (by omega) o1 (0 + (gv_v C k (gp_e0 3 c0 0) 0).toNat) [] (gv_rv (gv_L C k (gp_e0 3 c0 0) 0) ++ []) (0 + gv_c C k (gp_e0 3 c0 0) 0) M
      refine ⟨n + 1, _, by have n1 : n ≤ gv_s C k (gp_e0 3 c0 0) 0 1000 := n1; omega, rfl, ?_⟩
      have r : gv_run A (n + 1) (0, 0, 0, [], [], 0, M) = ((1 : Nat), ((1 : Nat) : Int), 0 + (gv_v C k (gp_e0 3 c0 0) 0).toNat, ([] : List gv_Fr), gv_rv (gv_L C k (gp_e0 3 c0 0) 0) ++ [], 0 + gv_c C k (gp_e0 3 c0 0) 0, M) := by
        rw [gv_run_t]
        have n2 : gv_run A n (0, 0, 0, [], [], 0, M) = s := n2
        rw [n2, e]
        exact st
      rw [r]
      refine ⟨fun _ => ⟨fun _ => ⟨rfl, Nat.zero_add _, List.append_nil _, Nat.zero_add _⟩, fun w => absurd w (by omega)⟩, fun w => absurd w (by omega)⟩
    · obtain ⟨K', a', q', e⟩ := s2.2 (by omega)
      refine ⟨n, s, by have n1 : n ≤ gv_s C k (gp_e0 3 c0 0) 0 1000 := n1; omega, n2, fun _ => ⟨fun w => absurd w v0, fun _ => ?_⟩, fun w => absurd w (by omega)⟩
      rw [e, gv_fl]
      exact ⟨rfl, Nat.zero_add _⟩
  · obtain ⟨s, ⟨n, n1, n2⟩, s2, s3⟩ := t2 (by show 1000 < 0 + _; omega) (Nat.zero_le _)
    exact ⟨n, s, by have n1 : n ≤ gv_s C k (gp_e0 3 c0 0) 0 1000 := n1; omega, n2, fun w => absurd w c, fun _ => ⟨s2, s3⟩⟩
/-- how a run with the memory ends: w evaluations -/
def gv_fY (v : Int) (w : Nat) (L : List (Nat × Nat)) (s : gv_Sx) : Prop := (0 ≤ v → s.1 = 1 ∧ s.2.2.1 = v.toNat ∧ s.2.2.2.2.1 = gv_rv L ∧ s.2.2.2.2.2.1 = w) ∧ (v = -1 → s.1 = 2 ∧ s.2.2.2.2.2.1 = w)
theorem gv_mainY {A : gv_A} (lo : A.2.2.2.2.2.2.2 = false) {X : gt_X} {C : gv_C} {f : Nat → Int × Lean.ParserDescr} {fed : Nat} {sub : Nat → Int} {W : Nat → Nat} {B : Nat} (h : gv_Y A X C f fed sub) (hf : fed ≤ 10) (hB : ∀ r p k, r < A.2.2.2.2.2.1 → p ≤ fed → gv_v C k (f r).2 p ≠ -2 → gv_l C k (f r).2 p + 1 ≤ B) (hW : ∀ r p k, r < A.2.2.2.2.2.1 → p ≤ fed → 0 ≤ gv_v C k (f r).2 p → (gv_L C k (f r).2 p).length ≤ W p) (hWt : gv_su (fun _ => true) (fun i => W (i % 11)) (11 * A.2.2.2.2.2.1) ≤ 5720) {c0 : Nat} (hc : X.2.2.2.2.2 c0 = 0) (h2 : 2 ≤ A.2.2.2.2.1) (o0 : A.1 0 = 8) (d0 : (A.2.1 0).toInt = 0) (o1 : A.1 1 = 12) (hR : 0 < A.2.2.2.2.2.1) (k : Nat) (hv : gv_v C k (gp_e0 3 c0 0) 0 ≠ -2) (hd : gv_d C k (gp_e0 3 c0 0) 0 ≤ 550) (hp : gv_p C k (gp_e0 3 c0 0) 0 ≤ 275) : ∃ n s w, n ≤ 2 + B * (11 * A.2.2.2.2.2.1) ∧ gv_run A n (0, 0, 0, [], [], 0, gw_M0) = s ∧ gv_fY (gv_v C k (gp_e0 3 c0 0) 0) w (gv_L C k (gp_e0 3 c0 0) 0) s ∧ ∃ M : gv_Mm, w = gv_kc A.2.2.2.2.2.1 M ∧ ∀ r p : Nat, ¬ M.1 (r : Nat) p = -2 ↔ (r, p) ∈ gv_r C X.2.2.2.2.2 k (gp_e0 3 c0 0) 0 := by
  have g := gv_v_ge C k (gp_e0 3 c0 0) 0
  have mi : gv_MI C X.2.2.2.2.2 f A.2.2.2.2.2.1 fed W gw_M0 := ⟨fun r p w => absurd rfl w, Nat.zero_le _⟩
  obtain ⟨w', M', N, T, t1, t2⟩ := gv_simY lo h hf hB hW hWt k (gp_e0 3 c0 0) 0 hv 0 1 ⟨by omega, fun h => absurd h (by decide), fun h => absurd h (by decide), fun h => absurd h (by decide), fun _ => ⟨rfl, o0, by rw [d0]; show (0 : Int) = (X.2.2.2.2.2 c0 : Nat); rw [hc]; rfl⟩⟩ (by omega) (Nat.zero_le _) (fun _ => by show X.2.2.2.2.2 c0 < _; rw [hc]; exact hR) [] [] 0 gw_M0 mi (by show 0 + _ ≤ 550; omega) (by show 0 + _ ≤ 275; omega)
  obtain ⟨T1, T2, T3, T4⟩ := T
  have k0 : gv_kc A.2.2.2.2.2.1 gw_M0 = 0 := by
    have z : ∀ n, gp_c (fun i => decide (¬ gw_M0.1 ((i / 11 : Nat) : Int) (i % 11) = -2)) n = 0 := by
      intro n
      induction n with
      | zero => rfl
      | succ n ih =>
        show gp_c _ n + (if decide (¬ gw_M0.1 ((n / 11 : Nat) : Int) (n % 11) = -2) = true then 1 else 0) = 0
        rw [ih, if_neg (show ¬ decide (¬ gw_M0.1 ((n / 11 : Nat) : Int) (n % 11) = -2) = true from fun w => (of_decide_eq_true w) rfl)]
    exact z _
  rw [k0] at T3 T4
  have kb : gv_kc A.2.2.2.2.2.1 M' ≤ 11 * A.2.2.2.2.2.1 := gp_c_le _ _
  have lb : gv_l C k (gp_e0 3 c0 0) 0 ≤ 1 := by
    cases k with
    | zero => exact Nat.zero_le _
    | succ k => exact Nat.le_refl _
  have bb := Nat.mul_le_mul_left B kb
  have nb : N ≤ 1 + B * (11 * A.2.2.2.2.2.1) := by omega
  have mem : ∃ M : gv_Mm, w' = gv_kc A.2.2.2.2.2.1 M ∧ ∀ r p : Nat, ¬ M.1 (r : Nat) p = -2 ↔ (r, p) ∈ gv_r C X.2.2.2.2.2 k (gp_e0 3 c0 0) 0 := ⟨M', by omega, fun r p => (T2 r p).trans ⟨fun w => w.elim (fun w => absurd rfl w) id, Or.inr⟩⟩
  by_cases v0 : 0 ≤ gv_v C k (gp_e0 3 c0 0) 0
  · obtain ⟨n, n1, n2⟩ := t1 v0
    have st := gv_s12 (A := A) (a := 1) (by omega) o1 (0 + (gv_v C k (gp_e0 3 c0 0) 0).toNat) [] (gv_rv (gv_L C k (gp_e0 3 c0 0) 0) ++ []) w' M'
    refine ⟨n + 1, _, w', by omega, rfl, ?_, mem⟩
    have r : gv_run A (n + 1) (0, 0, 0, [], [], 0, gw_M0) = ((1 : Nat), ((1 : Nat) : Int), 0 + (gv_v C k (gp_e0 3 c0 0) 0).toNat, ([] : List gv_Fr), gv_rv (gv_L C k (gp_e0 3 c0 0) 0) ++ [], w', M') := by
      rw [gv_run_t]
      have n2 : gv_run A n (0, 0, 0, [], [], 0, gw_M0) = _ := n2
      rw [n2]
      exact st
    rw [r]
    exact ⟨fun _ => ⟨rfl, Nat.zero_add _, List.append_nil _, rfl⟩, fun w => absurd w (by omega)⟩
  · obtain ⟨K', a', q', n, n1, n2⟩ := t2 (by omega)
    refine ⟨n, _, w', by omega, n2, ⟨fun w => absurd w v0, fun _ => ?_⟩, mem⟩
    rw [gv_fl]
    exact ⟨rfl, rfl⟩
