/-! The class's runner against the machine over lists: a run. -/
abbrev gw_S8 : Type := gm_S × gm_S × gm_S × gm_S × gm_S × gm_S × gm_S × gm_S
/-- what a step is given -/
def gw_S7 (S U : gw_S8) : gw_St := (((va_up (va_up (va_up (va_up S.1.1 3 (U.1.1 3)) 4 (U.1.1 4)) 5 (U.1.1 5)) 6 (U.1.1 6)), S.1.2.1, (va_up (va_up (va_up (va_up (va_up (va_up S.1.2.2 7 (U.1.2.2 7)) 10 (U.1.2.2 10)) 11 (U.1.2.2 11)) 12 (U.1.2.2 12)) 13 (U.1.2.2 13)) 14 (U.1.2.2 14))), S.2.1, ((va_up (va_up S.2.2.1.1 0 (U.2.2.1.1 0)) 1 (U.2.2.1.1 1)), S.2.2.1.2.1, (va_up S.2.2.1.2.2 2 (U.2.2.1.2.2 2))), ((va_up (va_up (va_up S.2.2.2.1.1 0 (U.2.2.2.1.1 0)) 1 (U.2.2.2.1.1 1)) 2 (U.2.2.2.1.1 2)), S.2.2.2.1.2.1, S.2.2.2.1.2.2), ((va_up (va_up S.2.2.2.2.1.1 0 (U.2.2.2.2.1.1 0)) 1 (U.2.2.2.2.1.1 1)), S.2.2.2.2.1.2.1, (va_up S.2.2.2.2.1.2.2 2 (U.2.2.2.2.1.2.2 2))), S.2.2.2.2.2.2.1, S.2.2.2.2.2.2.2)
/-- how a run ends -/
def gw_fin (s : gv_Sx) (z : Int32 × gw_S8) : Prop := (z.2.1.2.2 14).toInt = (s.2.2.2.2.2.1 : Nat) ∧ (s.1 = 1 → z.1.toInt = (s.2.2.1 : Nat) ∧ gw_K 275 s.2.2.2.2.1 z.2.2.2.1) ∧ (s.1 = 2 → z.1 = -1 ∧ z.2.2.2.1.2.2 2 = 0) ∧ (s.1 = 3 → z.1 = -2 ∧ z.2.2.2.1.2.2 2 = 0)
theorem gw_end (x : Int32) (S : gw_S8) (u3 : gm_S × gm_S × gm_S × gm_S × gm_S) (F : Nat) (v : Int32) (U : gw_S8) {s : gv_Sx} (h : gw_Z (gw_S7 S U) s) (hs : s.1 = 1 ∨ s.1 = 2 ∨ s.1 = 3) : gw_fin s (gm_f_Runner_run_8 x S u3 (F + 1) v U) := by
  obtain ⟨h1, h2, h3⟩ := h (by omega)
  have h1 : (U.1.2.2 11).toInt = (s.1 : Nat) := h1
  have l1 : (1 : Int32).toInt = 1 := by decide
  have l2 : (2 : Int32).toInt = 2 := by decide
  have z0 : (0 : Int32).toInt = 0 := by decide
  have n0 : ¬ U.1.2.2 11 = 0 := fun e => by
    rw [e, z0] at h1
    omega
  have en : ∀ Q : Int32 × gw_S8 → Prop, (∀ a b c : Int32 × gw_S8, (U.1.2.2 11 = 1 → Q a) → (U.1.2.2 11 = 2 → Q b) → (¬ U.1.2.2 11 = 1 → ¬ U.1.2.2 11 = 2 → Q c) → Q (if U.1.2.2 11 = 1 then a else if U.1.2.2 11 = 2 then b else c)) := by
    intro Q a b c ha hb hc
    exact gf_if (Q := Q) ha (fun n => gf_if (Q := Q) hb (fun n2 => hc n n2))
  have c1 : U.1.2.2 11 = 1 → s.1 = 1 := fun e => by rw [e, l1] at h1; omega
  have c2 : U.1.2.2 11 = 2 → s.1 = 2 := fun e => by rw [e, l2] at h1; omega
  have c3 : ¬ U.1.2.2 11 = 1 → ¬ U.1.2.2 11 = 2 → s.1 = 3 := fun e1 e2 => by
    rcases hs with q | q | q
    · exact absurd (Int32.toInt_inj.mp (by rw [h1, l1, q]; rfl)) e1
    · exact absurd (Int32.toInt_inj.mp (by rw [h1, l2, q]; rfl)) e2
    · exact q
  rw [gm_f_Runner_run_8]
  refine gf_if (Q := gw_fin s) (fun _ => en (gw_fin s) _ _ _ (fun e => ?_) (fun e => ?_) (fun e1 e2 => ?_)) (fun _ => gf_if (Q := gw_fin s) (fun e => absurd e n0) (fun _ => en (gw_fin s) _ _ _ (fun e => ?_) (fun e => ?_) (fun e1 e2 => ?_)))
  · have q := c1 e
    have R := h3 (Or.inr q)
    exact ⟨h2, fun _ => ⟨R.2.1, R.2.2.2.2.2.2.1⟩, fun w => by omega, fun w => by omega⟩
  · have q := c2 e
    exact ⟨h2, fun w => by omega, fun _ => ⟨rfl, rfl⟩, fun w => by omega⟩
  · have q := c3 e1 e2
    exact ⟨h2, fun w => by omega, fun w => by omega, fun _ => ⟨rfl, rfl⟩⟩
  · have q := c1 e
    have R := h3 (Or.inr q)
    exact ⟨h2, fun _ => ⟨R.2.1, R.2.2.2.2.2.2.1⟩, fun w => by omega, fun w => by omega⟩
  · have q := c2 e
    exact ⟨h2, fun w => by omega, fun _ => ⟨rfl, rfl⟩, fun w => by omega⟩
  · have q := c3 e1 e2
    exact ⟨h2, fun w => by omega, fun w => by omega, fun _ => ⟨rfl, rfl⟩⟩
theorem gv_run_s (A : gv_A) (s : gv_Sx) (h : ¬ s.1 = 0) : ∀ n, gv_run A n s = s := by
  intro n
  induction n with
  | zero => rfl
  | succ n ih =>
    rw [gv_run, if_neg h]
    exact ih
/-- a step makes at most one more -/
theorem gv_fl_w (lo : Bool) : ∀ (fr : List gv_Fr) (K : List (Nat × Int)) (w : Nat) (M : gv_Mm) (a : Int) (q : Nat), (gv_fl lo fr K w M a q).2.2.2.2.2.1 = w := by
  intro fr
  induction fr with
  | nil => intro K w M a q; rfl
  | cons x r ih =>
    intro K w M a q
    rw [gv_fl]
    split
    · split
      · exact ih K w M a q
      · rfl
    · exact ih K w _ a q
theorem gv_pu_w (t r : Int) (a : Int) (q : Nat) (fr : List gv_Fr) (K : List (Nat × Int)) (w : Nat) (M : gv_Mm) : (gv_pu t r a q fr K w M).2.2.2.2.2.1 = w := by
  unfold gv_pu
  split <;> rfl
theorem gv_st_w (A : gv_A) (c : gv_Cf) : (gv_st A c).2.2.2.2.2.1 ≤ c.2.2.2.2.1 + 1 := by
  obtain ⟨a, q, fr, K, w, M⟩ := c
  unfold gv_st gv_sto
  obtain ⟨Q, hQ⟩ : ∃ Q : gv_Sx → Prop, Q = fun s => s.2.2.2.2.2.1 ≤ w + 1 := ⟨_, rfl⟩
  have fl : ∀ (lo : Bool) (fr : List gv_Fr) (K : List (Nat × Int)) (M : gv_Mm) (a : Int) (q : Nat), Q (gv_fl lo fr K w M a q) := by
    intro lo fr K M a q
    rw [hQ]
    show (gv_fl lo fr K w M a q).2.2.2.2.2.1 ≤ w + 1
    rw [gv_fl_w]; omega
  have pu : ∀ (t r : Int) (a : Int) (q : Nat) (fr : List gv_Fr) (K : List (Nat × Int)) (w' : Nat) (M : gv_Mm), w' ≤ w + 1 → Q (gv_pu t r a q fr K w' M) := by
    intro t r a q fr K w' M h
    rw [hQ]
    show (gv_pu t r a q fr K w' M).2.2.2.2.2.1 ≤ w + 1
    rw [gv_pu_w]; exact h
  have sa : ∀ (k : Nat) (a : Int) (q : Nat) (fr : List gv_Fr) (K : List (Nat × Int)) (M : gv_Mm), Q (k, a, q, fr, K, w, M) := by
    intro k a q fr K M
    rw [hQ]
    exact Nat.le_succ w
  show (fun s : gv_Sx => s.2.2.2.2.2.1 ≤ w + 1) _
  rw [← hQ]
  refine gf_if (Q := Q) (fun _ => gf_if (Q := Q) (fun _ => sa _ _ _ _ _ _) (fun _ => fl _ _ _ _ _ _)) (fun _ => ?_)
  refine gf_if (Q := Q) (fun _ => sa _ _ _ _ _ _) (fun _ => ?_)
  refine gf_if (Q := Q) (fun _ => gf_if (Q := Q) (fun _ => sa _ _ _ _ _ _) (fun _ => pu _ _ _ _ _ _ _ _ ?_)) (fun _ => ?_)
  · by_cases l : A.2.2.2.2.2.2.2 = true
    · rw [if_pos l]; exact Nat.le_refl _
    · rw [if_neg l]; exact Nat.le_succ _
  refine gf_if (Q := Q) (fun _ => pu _ _ _ _ _ _ _ _ (Nat.le_succ w)) (fun _ => ?_)
  refine gf_if (Q := Q) (fun _ => sa _ _ _ _ _ _) (fun _ => ?_)
  refine gf_if (Q := Q) (fun _ => sa _ _ _ _ _ _) (fun _ => ?_)
  refine gf_if (Q := Q) (fun _ => ?_) (fun _ => ?_)
  · cases fr with
    | nil => exact sa _ _ _ _ _ _
    | cons y r => exact sa _ _ _ _ _ _
  refine gf_if (Q := Q) (fun _ => fl _ _ _ _ _ _) (fun _ => ?_)
  refine gf_if (Q := Q) (fun _ => gf_if (Q := Q) (fun _ => pu _ _ _ _ _ _ _ _ ?_) (fun _ => gf_if (Q := Q) (fun _ => fl _ _ _ _ _ _) (fun _ => sa _ _ _ _ _ _))) (fun _ => ?_)
  · by_cases l : A.2.2.2.2.2.2.2 = true
    · rw [if_pos l]; exact Nat.le_succ _
    · rw [if_neg l]; exact Nat.le_refl _
  refine gf_if (Q := Q) (fun _ => ?_) (fun _ => ?_)
  · cases fr with
    | nil => exact sa _ _ _ _ _ _
    | cons y r => exact gf_if (Q := Q) (fun _ => sa _ _ _ _ _ _) (fun _ => sa _ _ _ _ _ _)
  refine gf_if (Q := Q) (fun _ => sa _ _ _ _ _ _) (fun _ => ?_)
  exact gf_if (Q := Q) (fun _ => sa _ _ _ _ _ _) (fun _ => sa _ _ _ _ _ _)
theorem gw_run8 {A : gv_A} (x : Int32) (S : gw_S8) (u3 : gm_S × gm_S × gm_S × gm_S × gm_S) {s : gv_Sx} (hs : s.1 = 1 ∨ s.1 = 2 ∨ s.1 = 3) : ∀ (n F : Nat) (v : Int32) (U : gw_S8) (c : gv_Cf), gw_C A (gw_S7 S U) → gw_R (gw_S7 S U) c → (U.1.2.2 11).toInt = 0 → n < F → 0 ≤ v.toInt → v.toInt + n < 1000000000 → c.2.2.2.2.1 + n < 2000000000 → gv_run A n (0, c) = s → gw_fin s (gm_f_Runner_run_8 x S u3 F v U) := by
  have z0 : (0 : Int32).toInt = 0 := by decide
  intro n
  induction n with
  | zero =>
    intro F v U c hC hR h11 hF hv hv2 hw hr
    have hr : ((0 : Nat), c) = s := hr
    rw [← hr] at hs
    have hs : (0 : Nat) = 1 ∨ (0 : Nat) = 2 ∨ (0 : Nat) = 3 := hs
    omega
  | succ n ih =>
    intro F v U c hC hR h11 hF hv hv2 hw hr
    have hr : gv_run A n (gv_st A c) = s := hr
    cases F with
    | zero => exact absurd hF (by omega)
    | succ F =>
      have st := gw_step (gw_S7 S U) hC h11 hR (by omega)
      have sw := gv_st_w A c
      have av := gx_ak v 1 1 (by decide)
      have e0 : U.1.2.2 11 = 0 := Int32.toInt_inj.mp (by rw [h11, z0])
      rw [gm_f_Runner_run_8, if_neg (by rw [Int32.le_iff_toInt_le, gx_lit 1000000000 (by decide)]; omega), if_pos e0]
      refine gf_ca (Q := gw_fin s) (fun z => gw_Z z.2 (gv_st A c)) st (fun r22 u22 h22 => ?_)
      have h22 : gw_Z u22 (gv_st A c) := h22
      by_cases q : (gv_st A c).1 = 0
      · obtain ⟨h1, h2, h3⟩ := h22 (by omega)
        have ec : gv_st A c = (0, (gv_st A c).2) := by rw [← q]
        rw [ec] at hr
        refine ih F (v + 1) _ (gv_st A c).2 (by exact hC) ?_ ?_ (by omega) (by omega) (by omega) (by omega) hr
        · obtain ⟨r1, r2, r3, r4, r5, r6, r7, r8, r9⟩ := h3 (Or.inl q)
          exact ⟨r1, r2, r3, r4, r5, r6, r7, r8, r9⟩
        · show (u22.1.2.2 11).toInt = 0
          rw [h1, q]; rfl
      · rw [gv_run_s A _ q n] at hr
        rw [hr] at h22
        cases F with
        | zero => exact absurd hF (by omega)
        | succ F => exact gw_end x S u3 F (v + 1) _ (gw_Z_e h22 rfl rfl rfl rfl rfl rfl rfl rfl rfl rfl rfl rfl rfl rfl rfl rfl rfl rfl) hs
