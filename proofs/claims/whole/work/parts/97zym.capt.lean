/-! Captures: how many there are, counted by the reference's parts. -/
/-- the capture parts of at most the rank of m -/
def gy_nc (kd : Nat → Int32) (B P : Nat) (rank : Nat → Nat) (m : Nat) : Nat := gp_c (fun x => decide ((kd (B + x)).toInt = 10) && decide (rank (B + x) ≤ rank m)) P
theorem gy_nc_le {kd : Nat → Int32} {B P : Nat} {rank : Nat → Nat} {m m' : Nat} (h : rank m' < rank m) : gy_nc kd B P rank m' ≤ gy_nc kd B P rank m := gp_c_mono (fun k _ q => by
  rw [Bool.and_eq_true] at q ⊢
  exact ⟨q.1, decide_eq_true (by have := of_decide_eq_true q.2; omega)⟩)
theorem gy_nc_lt {kd : Nat → Int32} {B P : Nat} {rank : Nat → Nat} {m m' : Nat} (h : rank m' < rank m) (hm : B ≤ m) (hm2 : m < B + P) (hk : (kd m).toInt = 10) : gy_nc kd B P rank m' + 1 ≤ gy_nc kd B P rank m := by
  have e : B + (m - B) = m := by omega
  refine gp_c_lt (k := m - B) (fun k _ q => ?_) (by omega) ?_ (fun q => ?_)
  · rw [Bool.and_eq_true] at q ⊢
    exact ⟨q.1, decide_eq_true (by have := of_decide_eq_true q.2; omega)⟩
  · rw [Bool.and_eq_true, e]
    exact ⟨decide_eq_true hk, decide_eq_true (Nat.le_refl _)⟩
  · rw [Bool.and_eq_true, e] at q
    have := of_decide_eq_true q.2
    omega
theorem gy_nc_b (kd : Nat → Int32) (B P : Nat) (rank : Nat → Nat) (m : Nat) : gy_nc kd B P rank m ≤ gp_kc kd B P := gp_c_mono (fun k _ q => by
  rw [Bool.and_eq_true] at q
  exact q.1)
/-- what v characters can bring -/
def gy_ev (N c : Nat) (v : Int) : Nat := if v ≤ 0 then 0 else c + N * (v.toNat - 1)
theorem gy_ev_0 (N c : Nat) : gy_ev N c 0 = 0 := if_pos (Int.le_refl 0)
theorem gy_ev_m {N c c' : Nat} (h : c' ≤ c) (v : Int) : gy_ev N c' v ≤ gy_ev N c v := by
  unfold gy_ev
  by_cases z : v ≤ 0
  · rw [if_pos z, if_pos z]; exact Nat.le_refl 0
  · rw [if_neg z, if_neg z]; omega
theorem gy_ev_2 {N c c1 c2 : Nat} {v1 v2 : Int} (h1 : 0 ≤ v1) (h2 : 0 ≤ v2) (k1 : c1 ≤ c) (k2 : v1 = 0 → c2 ≤ c) (k3 : c2 ≤ N) : gy_ev N c1 v1 + gy_ev N c2 v2 ≤ gy_ev N c (v1 + v2) := by
  by_cases z1 : v1 = 0
  · rw [z1, gy_ev_0, Int.zero_add, Nat.zero_add]
    exact gy_ev_m (k2 z1) v2
  · by_cases z2 : v2 = 0
    · rw [z2, gy_ev_0, Int.add_zero, Nat.add_zero]
      exact gy_ev_m k1 v1
    · obtain ⟨a, ha⟩ : ∃ a : Nat, v1 = (a : Int) + 1 := ⟨(v1 - 1).toNat, by omega⟩
      obtain ⟨b, hb⟩ : ∃ b : Nat, v2 = (b : Int) + 1 := ⟨(v2 - 1).toNat, by omega⟩
      unfold gy_ev
      rw [if_neg (show ¬ v1 ≤ 0 by omega), if_neg (show ¬ v2 ≤ 0 by omega), if_neg (show ¬ v1 + v2 ≤ 0 by omega), show v1.toNat - 1 = a by omega, show v2.toNat - 1 = b by omega, show (v1 + v2).toNat - 1 = a + b + 1 by omega, Nat.mul_add, Nat.mul_add, Nat.mul_one]
      omega
theorem gy_ev_b {N c : Nat} (h : c ≤ N) {v : Int} {d : Nat} (hv : v ≤ d) : gy_ev N c v ≤ N * d := by
  unfold gy_ev
  by_cases z : v ≤ 0
  · rw [if_pos z]; exact Nat.zero_le _
  · rw [if_neg z]
    obtain ⟨a, ha⟩ : ∃ a : Nat, v = (a : Int) + 1 := ⟨(v - 1).toNat, by omega⟩
    rw [show v.toNat - 1 = a by omega]
    have := Nat.mul_le_mul_left N (show a + 1 ≤ d by omega)
    rw [Nat.mul_add, Nat.mul_one] at this
    omega
/-- room for what comes behind v characters -/
theorem gy_ev_r {N c c1 c2 fed q : Nat} {v : Int} (h0 : 0 ≤ v) (hf : (q : Int) + v ≤ fed) (k1 : c1 ≤ c) (k2 : v = 0 → c2 ≤ c) (k3 : c2 ≤ N) : gy_ev N c1 v + (c2 + N * (fed - (q + v.toNat))) ≤ c + N * (fed - q) := by
  by_cases z : v = 0
  · have := k2 z
    rw [z, gy_ev_0, show q + Int.toNat 0 = q from rfl]
    omega
  · obtain ⟨a, ha⟩ : ∃ a : Nat, v = (a : Int) + 1 := ⟨(v - 1).toNat, by omega⟩
    unfold gy_ev
    rw [if_neg (show ¬ v ≤ 0 by omega), show v.toNat - 1 = a by omega, show fed - q = fed - (q + v.toNat) + (a + 1) by omega, Nat.mul_add, Nat.mul_add, Nat.mul_one]
    omega
theorem gy_L {kd on tw Mz em : Nat → Int32} {Pg : Nat → Nat → Nat → Prop} {out row : Nat → Nat → Prop} {B P fed : Nat} {T D : Nat → Nat → Int} {C : gv_C} (hT : gy_T kd on tw Mz Pg out row B P fed T D C) {rank : Nat → Nat} (RK : gp_RK kd on tw Mz em B P rank) (hz : ∀ m q, B ≤ m → m < B + P → q ≤ fed → T m q = 0 → em m = 1) : ∀ (k : Nat) (e : Lean.ParserDescr) (m q : Nat), gp_rep Pg B kd on tw e m → B ≤ m → m < B + P → q ≤ fed → 0 ≤ gv_v C k e q → (gv_L C k e q).length ≤ gy_ev (gp_kc kd B P) (gy_nc kd B P rank m) (gv_v C k e q) := by
  have hvT := gy_v hT
  obtain ⟨h1, h2, h3, h4, h5, h6⟩ := hT
  intro k
  induction k with
  | zero => intro e m q _ _ _ _ hv; exact absurd (show (0 : Int) ≤ -2 from hv) (by decide)
  | succ k ih =>
    intro e m q hr b1 b2 hq hv
    obtain ⟨rk3, rk4, rk4e, rk5, rk7⟩ := RK m b1 b2
    cases e with
    | cat nm j =>
      have hr' := hr
      obtain ⟨j3, kj, -⟩ := hr'
      by_cases j2 : j ≤ 2
      · rw [show gv_L C (k + 1) (.cat nm j) q = [] from if_pos j2]
        exact Nat.zero_le _
      · have e3 : j = 3 := by omega
        subst e3
        have eL : gv_L C (k + 1) (.cat nm 3) q = gv_L C k (C.1 (gp_n1 nm)) q := rfl
        have ev : gv_v C (k + 1) (.cat nm 3) q = gv_v C k (C.1 (gp_n1 nm)) q := rfl
        rw [ev] at hv ⊢
        rw [eL]
        obtain ⟨n1, n2, n3⟩ := h5 nm m hr b1 b2
        exact Nat.le_trans (ih _ _ q n3 n1 n2 hq hv) (gy_ev_m (gy_nc_le (rk3 kj)) _)
    | node nm j x =>
      have hr' := hr
      obtain ⟨j6, kj, ch, rx⟩ := hr'
      obtain ⟨o1, o2, -⟩ := gp_ch_cl ch
      have rl := rk4 (by omega)
      have ix := ih x (Int32.toNatClampNeg (on m)) q rx o1 (by omega) hq
      have tx := hvT k x (Int32.toNatClampNeg (on m)) q rx o1 (by omega) hq
      have zx := hz (Int32.toNatClampNeg (on m)) q o1 (by omega) hq
      obtain ⟨-, tx2, -⟩ := h1 (Int32.toNatClampNeg (on m)) q o1 (by omega) hq
      have mx := gy_ev_m (N := gp_kc kd B P) (gy_nc_le (kd := kd) (B := B) (P := P) rl)
      have : j = 6 ∨ j = 7 ∨ j = 8 ∨ j = 9 ∨ j = 10 := by omega
      rcases this with q0 | q0 | q0 | q0 | q0
      · subst q0
        have ev : gv_v C (k + 1) (.node nm 6 x) q = if C.2.2.2 x q = true then (if gv_v C k x q = -1 then 0 else gv_v C k x q) else 0 := rfl
        have eL : gv_L C (k + 1) (.node nm 6 x) q = if C.2.2.2 x q = true then (if gv_v C k x q = -1 then [] else gv_L C k x q) else [] := rfl
        rw [ev] at hv ⊢
        rw [eL]
        by_cases z : C.2.2.2 x q = true
        · rw [if_pos z] at hv ⊢
          rw [if_pos z]
          by_cases y : gv_v C k x q = -1
          · rw [if_pos y]; exact Nat.zero_le _
          · rw [if_neg y] at hv ⊢
            rw [if_neg y]
            exact Nat.le_trans (ix hv) (mx _)
        · rw [if_neg z]; exact Nat.zero_le _
      · subst q0
        have ev : gv_v C (k + 1) (.node nm 7 x) q = if C.2.2.2 x q = true then (if gv_v C k x q = -1 then 0 else if gv_v C k x q = -2 then -2 else if gv_v C k (.node nm 7 x) (q + (gv_v C k x q).toNat) = -2 then -2 else gv_v C k x q + gv_v C k (.node nm 7 x) (q + (gv_v C k x q).toNat)) else 0 := rfl
        have eL : gv_L C (k + 1) (.node nm 7 x) q = if C.2.2.2 x q = true then (if gv_v C k x q < 0 then [] else gv_L C k x q ++ gv_L C k (.node nm 7 x) (q + (gv_v C k x q).toNat)) else [] := rfl
        rw [ev] at hv ⊢
        rw [eL]
        by_cases z : C.2.2.2 x q = true
        · rw [if_pos z] at hv ⊢
          rw [if_pos z]
          by_cases y : gv_v C k x q < 0
          · rw [if_pos y]; exact Nat.zero_le _
          · rw [if_neg y]
            rw [if_neg (show ¬ gv_v C k x q = -1 by omega), if_neg (show ¬ gv_v C k x q = -2 by omega)] at hv ⊢
            by_cases s : gv_v C k (.node nm 7 x) (q + (gv_v C k x q).toNat) = -2
            · rw [if_pos s] at hv; exact absurd hv (by decide)
            · rw [if_neg s] at hv ⊢
              have tx := tx (by omega)
              have ix := ix (by omega)
              have hq2 : q + (gv_v C k x q).toNat ≤ fed := by omega
              have ts := hvT k (.node nm 7 x) m _ hr b1 b2 hq2 s
              obtain ⟨ts1, ts2, -⟩ := h1 m _ b1 b2 hq2
              have gs := gv_v_ge C k (.node nm 7 x) (q + (gv_v C k x q).toNat)
              have nz : ¬ gv_v C k x q = 0 := by
                intro e0
                have a := zx (by rw [tx]; exact e0)
                rw [rk7 (Or.inl kj)] at a
                exact absurd a (by decide)
              rw [List.length_append]
              by_cases sn : gv_v C k (.node nm 7 x) (q + (gv_v C k x q).toNat) = -1
              · exfalso
                obtain ⟨-, -, ok, w, -, -, cell⟩ := h1 m _ b1 b2 hq2
                obtain ⟨-, -, -, -, -, -, -, e7, -, -, -⟩ := cell
                rw [ts, sn] at e7
                rcases e7 kj with ⟨-, b, -⟩ | ⟨-, -, ⟨-, b, -⟩ | ⟨b, -, c, -⟩⟩
                · exact absurd b (by decide)
                · exact absurd b (by decide)
                · obtain ⟨u1, -⟩ := h1 (Int32.toNatClampNeg (on m)) _ o1 (by omega) hq2
                  obtain ⟨-, u2, -⟩ := h1 (Int32.toNatClampNeg (on m)) _ o1 (by omega) hq2
                  obtain ⟨u3, -⟩ := h1 m (q + (gv_v C k x q).toNat + (T (Int32.toNatClampNeg (on m)) (q + (gv_v C k x q).toNat)).toNat) b1 b2 (by omega)
                  have z1 := hz (Int32.toNatClampNeg (on m)) (q + (gv_v C k x q).toNat) o1 (by omega) hq2
                  have z2 : ¬ T (Int32.toNatClampNeg (on m)) (q + (gv_v C k x q).toNat) = 0 := by
                    intro e0
                    have a := z1 e0
                    rw [rk7 (Or.inl kj)] at a
                    exact absurd a (by decide)
                  omega
              · have is := ih (.node nm 7 x) m _ hr b1 b2 hq2 (by omega)
                exact Nat.le_trans (Nat.add_le_add ix is) (gy_ev_2 (by omega) (by omega) (gy_nc_le rl) (fun e0 => absurd e0 nz) (gy_nc_b kd B P rank m))
        · rw [if_neg z]; exact Nat.zero_le _
      · subst q0
        rw [show gv_L C (k + 1) (.node nm 8 x) q = [] from rfl]
        exact Nat.zero_le _
      · subst q0
        rw [show gv_L C (k + 1) (.node nm 9 x) q = [] from rfl]
        exact Nat.zero_le _
      · subst q0
        have ev : gv_v C (k + 1) (.node nm 10 x) q = gv_v C k x q := rfl
        have eL : gv_L C (k + 1) (.node nm 10 x) q = (q, q + (gv_v C k x q).toNat) :: gv_L C k x q := rfl
        rw [ev] at hv ⊢
        rw [eL, List.length_cons]
        have nz : ¬ gv_v C k x q = 0 := by
          intro e0
          have a := zx (by rw [tx (by omega)]; exact e0)
          rw [rk7 (Or.inr kj)] at a
          exact absurd a (by decide)
        have ix := ix hv
        have l := gy_nc_lt (kd := kd) rl b1 b2 kj
        unfold gy_ev at ix ⊢
        rw [if_neg (show ¬ gv_v C k x q ≤ 0 by omega)] at ix ⊢
        omega
    | binary nm x y =>
      have hr' := hr
      obtain ⟨j45, kj, ch1, ch2, rx, ry⟩ := hr'
      obtain ⟨o1, o2, -⟩ := gp_ch_cl ch1
      obtain ⟨p1, p2, -⟩ := gp_ch_cl ch2
      have rl := rk4 (by omega)
      have ix := ih x (Int32.toNatClampNeg (on m)) q rx o1 (by omega) hq
      have tx := hvT k x (Int32.toNatClampNeg (on m)) q rx o1 (by omega) hq
      have zx := hz (Int32.toNatClampNeg (on m)) q o1 (by omega) hq
      obtain ⟨-, tx2, -⟩ := h1 (Int32.toNatClampNeg (on m)) q o1 (by omega) hq
      by_cases n4 : gp_n2 nm = 4
      · have ev : gv_v C (k + 1) (.binary nm x y) q = if gv_v C k x q < 0 then gv_v C k x q else if gv_v C k y (q + (gv_v C k x q).toNat) < 0 then gv_v C k y (q + (gv_v C k x q).toNat) else gv_v C k x q + gv_v C k y (q + (gv_v C k x q).toNat) := if_pos n4
        have eL : gv_L C (k + 1) (.binary nm x y) q = gv_L C k x q ++ gv_L C k y (q + (gv_v C k x q).toNat) := if_pos n4
        rw [ev] at hv ⊢
        rw [eL, List.length_append]
        by_cases a : gv_v C k x q < 0
        · rw [if_pos a] at hv; omega
        · rw [if_neg a] at hv ⊢
          by_cases b : gv_v C k y (q + (gv_v C k x q).toNat) < 0
          · rw [if_pos b] at hv; omega
          · rw [if_neg b] at hv ⊢
            have tx := tx (by omega)
            have iy := ih y (Int32.toNatClampNeg (tw m)) (q + (gv_v C k x q).toNat) ry p1 (by omega) (by omega) (by omega)
            exact Nat.le_trans (Nat.add_le_add (ix (by omega)) iy) (gy_ev_2 (by omega) (by omega) (gy_nc_le rl) (fun e0 => gy_nc_le (rk4e (by omega) (zx (by rw [tx]; exact e0)))) (gy_nc_b kd B P rank _))
      · have rl2 := rk5 (by omega)
        have iy := ih y (Int32.toNatClampNeg (tw m)) q ry p1 (by omega) hq
        have ev : gv_v C (k + 1) (.binary nm x y) q = if C.2.2.2 x q = true then (if gv_v C k x q = -1 then gv_v C k y q else gv_v C k x q) else gv_v C k y q := if_neg n4
        have eL : gv_L C (k + 1) (.binary nm x y) q = if C.2.2.2 x q = true then (if gv_v C k x q = -1 then gv_L C k y q else gv_L C k x q) else gv_L C k y q := if_neg n4
        rw [ev] at hv ⊢
        rw [eL]
        by_cases z : C.2.2.2 x q = true
        · rw [if_pos z] at hv ⊢
          rw [if_pos z]
          by_cases w : gv_v C k x q = -1
          · rw [if_pos w] at hv ⊢
            rw [if_pos w]
            exact Nat.le_trans (iy hv) (gy_ev_m (gy_nc_le rl2) _)
          · rw [if_neg w] at hv ⊢
            rw [if_neg w]
            exact Nat.le_trans (ix hv) (gy_ev_m (gy_nc_le rl) _)
        · rw [if_neg z] at hv ⊢
          rw [if_neg z]
          exact Nat.le_trans (iy hv) (gy_ev_m (gy_nc_le rl2) _)
    | _ => exact absurd hr (fun h => h)
