/-! The reference gathers captures: its stack and its nodes suffice. -/
def gp_su (f : Nat → Nat) (a : Nat → Int32) : Nat → Nat
  | 0 => 0
  | h + 1 => gp_su f a h + f (Int32.toNatClampNeg (a (2 * h)))
theorem gp_su_ext (f : Nat → Nat) {a b : Nat → Int32} : ∀ h, (∀ i, i < h → a (2 * i) = b (2 * i)) → gp_su f a h = gp_su f b h := by
  intro h
  induction h with
  | zero => intro _; rfl
  | succ h ih =>
    intro e
    unfold gp_su
    rw [ih (fun i hi => e i (by omega)), e h (by omega)]
/-- what a cell can bring in captures -/
def gp_ev (cp : Nat → Nat → Nat) (T : Nat → Nat → Int) (m q : Nat) : Nat := if T m q ≤ 0 then 0 else cp m q + 20 * ((T m q).toNat - 1)
def gp_ei (S : gm_S) (cp : Nat → Nat → Nat) (c : Nat) : Nat := gp_ev cp (gp_Tb (gp_Bs S) (S.1 34)) (gp_Bs S + c / 11) (c % 11)
theorem gp_ei_c {S : gm_S} {cp : Nat → Nat → Nat} {m q : Nat} (hm : gp_Bs S ≤ m) (hq : q ≤ 10) : gp_ei S cp (11 * (m - gp_Bs S) + q) = gp_ev cp (gp_Tb (gp_Bs S) (S.1 34)) m q := by
  unfold gp_ei
  rw [show (11 * (m - gp_Bs S) + q) / 11 = m - gp_Bs S by omega, show (11 * (m - gp_Bs S) + q) % 11 = q by omega, show gp_Bs S + (m - gp_Bs S) = m by omega]
/-- a stack of cells, h high; nd nodes were made, n steps are left -/
def gp_GI (S : gm_S) (P fed : Nat) (rk : Nat → Nat) (cp : Nat → Nat → Nat) (a : Nat → Int32) (h nd n : Nat) : Prop :=
  (∀ i, i < h → ∃ m q, gp_vc S P fed m q ∧ (a (2 * i)).toInt = ((11 * (m - gp_Bs S) + q : Nat) : Int) ∧ i + gp_dd (S.1 10) (gp_Bs S) P rk (11 * (m - gp_Bs S) + q) ≤ 825) ∧ gp_su (gp_wt P rk) a h < n ∧ nd + gp_su (gp_ei S cp) a h ≤ 200
theorem gp_cl_n {x : Int32} {k : Nat} (h : x.toInt = (k : Int)) : Int32.toNatClampNeg x = k := by
  have := gx_cl x (by omega)
  omega
/-- one more on the stack -/
theorem gp_GI_push {S : gm_S} {P fed : Nat} {rk : Nat → Nat} {cp : Nat → Nat → Nat} {a : Nat → Int32} {h nd : Nat} (v : ∀ i, i < h → ∃ m q, gp_vc S P fed m q ∧ (a (2 * i)).toInt = ((11 * (m - gp_Bs S) + q : Nat) : Int) ∧ i + gp_dd (S.1 10) (gp_Bs S) P rk (11 * (m - gp_Bs S) + q) ≤ 825) {m q : Nat} (hv : gp_vc S P fed m q) (hf : fed ≤ 10) (hd : h + gp_dd (S.1 10) (gp_Bs S) P rk (11 * (m - gp_Bs S) + q) ≤ 825) {r y : Int32} (hr : r.toInt = ((11 * (m - gp_Bs S) + q : Nat) : Int)) :
    (∀ i, i < h + 1 → ∃ m q, gp_vc S P fed m q ∧ (upd (upd a (2 * h) r) (2 * h + 1) y (2 * i)).toInt = ((11 * (m - gp_Bs S) + q : Nat) : Int) ∧ i + gp_dd (S.1 10) (gp_Bs S) P rk (11 * (m - gp_Bs S) + q) ≤ 825) ∧ (∀ f, gp_su f (upd (upd a (2 * h) r) (2 * h + 1) y) (h + 1) = gp_su f a h + f (11 * (m - gp_Bs S) + q)) := by
  have lo : ∀ i, i < h → upd (upd a (2 * h) r) (2 * h + 1) y (2 * i) = a (2 * i) := fun i hi => by rw [gx_un _ _ _ (by omega), gx_un _ _ _ (by omega)]
  have top : upd (upd a (2 * h) r) (2 * h + 1) y (2 * h) = r := by rw [gx_un _ _ _ (by omega), gx_us]
  refine ⟨fun i hi => ?_, fun f => ?_⟩
  · by_cases e : i = h
    · rw [e, top]
      exact ⟨m, q, hv, hr, hd⟩
    · rw [lo i (by omega)]
      exact v i (by omega)
  · have e : gp_su f (upd (upd a (2 * h) r) (2 * h + 1) y) (h + 1) = gp_su f (upd (upd a (2 * h) r) (2 * h + 1) y) h + f (Int32.toNatClampNeg (upd (upd a (2 * h) r) (2 * h + 1) y (2 * h))) := rfl
    rw [e, gp_su_ext f h lo, top, gp_cl_n hr]
def gp_hoQ (S : gm_S) (h : Nat) (x y w : Int32) (z : Int32 × gm_S) : Prop := (z.2.2.2 38).toInt = ((2 * (h + 1) : Nat) : Int) ∧ ∃ r : Int32, r.toInt = ((11 * (Int32.toNatClampNeg x - gp_Bs S) + Int32.toNatClampNeg y : Nat) : Int) ∧ z.2.1 37 = upd (upd (S.1 37) (2 * h) r) (2 * h + 1) w
theorem gz_hold (x y w : Int32) (S : gm_S) {P fed : Nat} (hC : gp_WC S P fed) (hx : gp_Bs S ≤ Int32.toNatClampNeg x) (hx2 : Int32.toNatClampNeg x < gp_Bs S + P) (hx3 : 0 ≤ x.toInt) (hy : 0 ≤ y.toInt) (hy2 : y.toInt ≤ fed) {h : Nat} (hw : (S.2.2 38).toInt = ((2 * h : Nat) : Int)) (hh : h ≤ 830) : gm_p_MD_hold x y w S ∧ (gp_hoQ S h x y w) (gm_f_MD_hold x y w S) := by
  obtain ⟨⟨b0, b1⟩, ⟨p0, p1⟩, ⟨f0, f1⟩, -⟩ := hC
  have cx := gx_cl x hx3
  have cb := gx_cl (S.2.2 4) b0
  have hx' : 160 * Int32.toNatClampNeg (S.2.2 4) ≤ Int32.toNatClampNeg x := hx
  have hx2' : Int32.toNatClampNeg x < 160 * Int32.toNatClampNeg (S.2.2 4) + P := hx2
  have a1 := gx_ak (S.2.2 38) 1 1 (by decide)
  have a2 := gx_ak (S.2.2 38) 2 2 (gx_lit 2 (by decide))
  have e0 : Int32.toNatClampNeg (S.2.2 38) = 2 * h := gp_cl_n hw
  have e1 : Int32.toNatClampNeg ((S.2.2 38) + 1) = 2 * h + 1 := gp_cl_n (by omega)
  unfold gm_p_MD_hold gm_f_MD_hold
  refine gx_ca (Q := gp_hoQ S h x y w) _ (gz_cell x y S b0 b1 (by omega) (by omega) hy (by omega)) ?_
  intro r u hr
  have hr1 : vp_in r 1760 := hr.1
  have hr2 : Int32.toNatClampNeg r = 11 * (Int32.toNatClampNeg x - gp_Bs S) + Int32.toNatClampNeg y := hr.2
  have hr3 := vp_in_iff.mp hr1
  have cr := gx_cl r hr3.1
  refine ⟨⟨vp_in_iff.mpr (by omega), vp_in_iff.mpr (by omega), trivial⟩, ?_, r, by omega, ?_⟩
  · show ((S.2.2 38) + 2).toInt = ((2 * (h + 1) : Nat) : Int)
    omega
  · show upd (upd (S.1 37) (Int32.toNatClampNeg (S.2.2 38)) r) (Int32.toNatClampNeg ((S.2.2 38) + 1)) w = _
    rw [e0, e1]
theorem gx_d11 (x : Int32) (h : 0 ≤ x.toInt) (h2 : x.toInt < 2000) : (x / 11).toInt = x.toInt / 11 ∧ (x - x / 11 * 11).toInt = x.toInt % 11 := by
  have e : (11 : Int32).toInt = 11 := gx_lit 11 (by decide)
  have a := lg_idiv_nonneg (x := x) (y := 11) h (by omega)
  rw [e] at a
  have m := gx_mu (x / 11) 11
  rw [e, a] at m
  have m2 : (x / 11 * 11).toInt = x.toInt / 11 * 11 := by omega
  have s := gx_sb x (x / 11 * 11)
  exact ⟨a, by omega⟩
/-- E of two cells that make one -/
theorem gp_ev_2 {cp : Nat → Nat → Nat} {T : Nat → Nat → Int} {m q m1 m2 q2 : Nat} (h1 : 0 ≤ T m1 q) (h2 : 0 ≤ T m2 q2) (hv : T m q = T m1 q + T m2 q2) (hq : q2 = q + (T m1 q).toNat) (c1 : cp m1 q ≤ cp m q) (c2 : T m1 q = 0 → cp m2 q ≤ cp m q) (c20 : cp m2 q2 ≤ 20) : gp_ev cp T m1 q + gp_ev cp T m2 q2 ≤ gp_ev cp T m q := by
  unfold gp_ev
  by_cases z1 : T m1 q = 0
  · have e : q2 = q := by omega
    have c2 := c2 z1
    rw [if_pos (show T m1 q ≤ 0 by omega)]
    by_cases z2 : T m2 q2 ≤ 0
    · rw [if_pos z2, if_pos (show T m q ≤ 0 by omega)]
      exact Nat.le_refl 0
    · rw [if_neg z2, if_neg (show ¬ T m q ≤ 0 by omega)]
      rw [e] at z2 hv ⊢
      have : (T m q).toNat = (T m2 q).toNat := by omega
      omega
  · rw [if_neg (show ¬ T m1 q ≤ 0 by omega), if_neg (show ¬ T m q ≤ 0 by omega)]
    by_cases z2 : T m2 q2 ≤ 0
    · rw [if_pos z2]
      have : (T m q).toNat = (T m1 q).toNat := by omega
      omega
    · rw [if_neg z2]
      have : (T m q).toNat = (T m1 q).toNat + (T m2 q2).toNat := by omega
      omega
theorem gp_ev_1 {cp : Nat → Nat → Nat} {T : Nat → Nat → Int} {m q m1 : Nat} {d : Nat} (hv : T m q = T m1 q) (h0 : 1 ≤ d → 0 < T m q) (c1 : cp m1 q + d ≤ cp m q) : gp_ev cp T m1 q + d ≤ gp_ev cp T m q := by
  unfold gp_ev
  rw [hv]
  by_cases z : T m1 q ≤ 0
  · rw [if_pos z]
    omega
  · rw [if_neg z, if_neg z]
    omega
