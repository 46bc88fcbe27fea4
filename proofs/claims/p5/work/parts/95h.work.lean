/-! The reference works a cell out. -/
noncomputable abbrev gp_Mz (S : gm_S) : Nat → Int32 := fun n => gp_mz (S.1 6) (S.1 7) (S.1 8) (S.2.2 4) (S.1 11 n)
abbrev gp_So (S : gm_S) (fed : Nat) : Nat → Nat → Prop := gp_out (S.1 15) (S.2.1 17) (S.2.1 18) (S.1 33) fed
abbrev gp_Sr (S : gm_S) (fed : Nat) : Nat → Nat → Prop := gp_row (S.1 11) (S.1 12) (S.1 33) (S.1 14) (Int32.toNatClampNeg (S.2.2 4)) fed
abbrev gp_Bs (S : gm_S) : Nat := 160 * Int32.toNatClampNeg (S.2.2 4)
/-- what a match goes by -/
def gp_WC (S : gm_S) (P fed : Nat) : Prop :=
  (0 ≤ (S.2.2 4).toInt ∧ (S.2.2 4).toInt ≤ 1) ∧ (((S.1 9) (Int32.toNatClampNeg (S.2.2 4))).toInt = P ∧ P ≤ 100) ∧ ((S.2.2 32).toInt = fed ∧ fed ≤ 10) ∧ (∃ ty : Int32, gm_iU ty (S.2.2 4) (S.1 6) (S.1 7) (S.1 8) (S.1 9) (S.1 10) (S.1 11) (S.1 12) (S.1 13)) ∧ gp_SC (S.1 10) (S.1 11) (S.1 12) (gp_Mz S) (S.1 15) (S.1 14) (S.1 33) (S.2.1 17) (S.2.1 18) (Int32.toNatClampNeg (S.2.2 4)) (gp_Bs S) P fed
def gp_ceQ (S : gm_S) (x y : Int32) (z : Int32 × gm_S) : Prop := vp_in z.1 1760 ∧ Int32.toNatClampNeg z.1 = 11 * (Int32.toNatClampNeg x - gp_Bs S) + Int32.toNatClampNeg y
theorem gz_cell (x y : Int32) (S : gm_S) (hb : 0 ≤ (S.2.2 4).toInt) (hb2 : (S.2.2 4).toInt ≤ 1) (hx : 160 * (S.2.2 4).toInt ≤ x.toInt) (hx2 : x.toInt < 160 * (S.2.2 4).toInt + 100) (hy : 0 ≤ y.toInt) (hy2 : y.toInt ≤ 10) : gm_p_MD_cell x y S ∧ (gp_ceQ S x y) (gm_f_MD_cell x y S) := by
  have m := gx_mk 160 (S.2.2 4) 160 (gx_lit 160 (by decide))
  have s := gx_sb x (160 * (S.2.2 4))
  have e1 : (x - 160 * (S.2.2 4)).toInt = x.toInt - 160 * (S.2.2 4).toInt := by omega
  have m2 := gx_mk 11 (x - 160 * (S.2.2 4)) 11 (gx_lit 11 (by decide))
  rw [e1] at m2
  have e2 : (11 * (x - 160 * (S.2.2 4))).toInt = 11 * (x.toInt - 160 * (S.2.2 4).toInt) := by omega
  have a := gx_ad (11 * (x - 160 * (S.2.2 4))) y
  have e3 : ((11 * (x - 160 * (S.2.2 4))) + y).toInt = 11 * (x.toInt - 160 * (S.2.2 4).toInt) + y.toInt := by omega
  have c := gx_cl ((11 * (x - 160 * (S.2.2 4))) + y) (by omega)
  have cx := gx_cl x (by omega)
  have cy := gx_cl y hy
  have cb := gx_cl (S.2.2 4) hb
  refine ⟨trivial, vp_in_iff.mpr ?_, ?_⟩
  · show 0 ≤ ((11 * (x - 160 * (S.2.2 4))) + y).toInt ∧ ((11 * (x - 160 * (S.2.2 4))) + y).toInt < _
    omega
  · show Int32.toNatClampNeg ((11 * (x - 160 * (S.2.2 4))) + y) = _
    unfold gp_Bs
    omega
def gp_tkQ (S : gm_S) (x y : Int32) (z : Int32 × gm_S) : Prop := z.1.toInt = gp_Tb (gp_Bs S) (S.1 34) (Int32.toNatClampNeg x) (Int32.toNatClampNeg y)
theorem gz_taken (x y : Int32) (S : gm_S) {P fed : Nat} (hC : gp_WC S P fed) (hx : gp_Bs S ≤ Int32.toNatClampNeg x) (hx2 : Int32.toNatClampNeg x < gp_Bs S + P) (hx3 : 0 ≤ x.toInt) (hy : 0 ≤ y.toInt) (hy2 : y.toInt ≤ fed) : gm_p_MD_taken x y S ∧ (gp_tkQ S x y) (gm_f_MD_taken x y S) := by
  obtain ⟨⟨b0, b1⟩, ⟨p0, p1⟩, ⟨f0, f1⟩, -⟩ := hC
  have cx := gx_cl x hx3
  have cb := gx_cl (S.2.2 4) b0
  have hx : 160 * Int32.toNatClampNeg (S.2.2 4) ≤ Int32.toNatClampNeg x := hx
  have hx2 : Int32.toNatClampNeg x < 160 * Int32.toNatClampNeg (S.2.2 4) + P := hx2
  unfold gm_p_MD_taken gm_f_MD_taken
  refine gx_ca (Q := gp_tkQ S x y) _ (gz_cell x y S b0 b1 (by omega) (by omega) hy (by omega)) ?_
  intro r u hr
  refine ⟨⟨hr.1, trivial⟩, ?_⟩
  have e : Int32.toNatClampNeg r = 11 * (Int32.toNatClampNeg x - gp_Bs S) + Int32.toNatClampNeg y := hr.2
  show (S.1 34 (Int32.toNatClampNeg r)).toInt = _
  rw [e]
  rfl
def gp_csQ (S : gm_S) (x y : Int32) (z : Int32 × gm_S) : Prop := z.1.toInt = gp_Tb (gp_Bs S) (S.1 35) (Int32.toNatClampNeg x) (Int32.toNatClampNeg y)
theorem gz_costOf (x y : Int32) (S : gm_S) {P fed : Nat} (hC : gp_WC S P fed) (hx : gp_Bs S ≤ Int32.toNatClampNeg x) (hx2 : Int32.toNatClampNeg x < gp_Bs S + P) (hx3 : 0 ≤ x.toInt) (hy : 0 ≤ y.toInt) (hy2 : y.toInt ≤ fed) : gm_p_MD_costOf x y S ∧ (gp_csQ S x y) (gm_f_MD_costOf x y S) := by
  obtain ⟨⟨b0, b1⟩, ⟨p0, p1⟩, ⟨f0, f1⟩, -⟩ := hC
  have cx := gx_cl x hx3
  have cb := gx_cl (S.2.2 4) b0
  have hx : 160 * Int32.toNatClampNeg (S.2.2 4) ≤ Int32.toNatClampNeg x := hx
  have hx2 : Int32.toNatClampNeg x < 160 * Int32.toNatClampNeg (S.2.2 4) + P := hx2
  unfold gm_p_MD_costOf gm_f_MD_costOf
  refine gx_ca (Q := gp_csQ S x y) _ (gz_cell x y S b0 b1 (by omega) (by omega) hy (by omega)) ?_
  intro r u hr
  refine ⟨⟨hr.1, trivial⟩, ?_⟩
  have e : Int32.toNatClampNeg r = 11 * (Int32.toNatClampNeg x - gp_Bs S) + Int32.toNatClampNeg y := hr.2
  show (S.1 35 (Int32.toNatClampNeg r)).toInt = _
  rw [e]
  rfl
/-- a cell was set -/
def gp_wS (S : gm_S) (P fed : Nat) (rk : Nat → Nat) (t n p : Nat) (z : Int32 × gm_S) : Prop :=
  z.1 = 1 ∧ ∃ (v w' : Int32) (w : Int), ¬ v.toInt = -3 ∧ 0 ≤ w ∧ w'.toInt = gp_cp w ∧ z.2.1 34 = upd (S.1 34) (11 * (n - gp_Bs S) + p) v ∧ z.2.1 35 = upd (S.1 35) (11 * (n - gp_Bs S) + p) w' ∧ gp_cell (S.1 10) (S.1 11) (S.1 12) (gp_Mz S) (gp_So S fed) (gp_Sr S fed) (gp_Tb (gp_Bs S) (S.1 34)) (gp_Tb (gp_Bs S) (S.1 35)) (gp_okc (gp_Bs S) P fed (S.1 34) rk t) n p v.toInt w
/-- a cell that this one waits for -/
def gp_dpn (kd on tw Mz : Nat → Int32) (T : Nat → Nat → Int) (n p m q : Nat) : Prop :=
  ((kd n).toInt = 3 ∧ m = Int32.toNatClampNeg (Mz n) ∧ q = p) ∨ (4 ≤ (kd n).toInt ∧ m = Int32.toNatClampNeg (on n) ∧ q = p) ∨ ((kd n).toInt = 4 ∧ m = Int32.toNatClampNeg (tw n) ∧ 0 ≤ T (Int32.toNatClampNeg (on n)) p ∧ q = p + (T (Int32.toNatClampNeg (on n)) p).toNat) ∨ ((kd n).toInt = 5 ∧ m = Int32.toNatClampNeg (tw n) ∧ q = p) ∨ ((kd n).toInt = 7 ∧ m = n ∧ 0 ≤ T (Int32.toNatClampNeg (on n)) p ∧ q = p + (T (Int32.toNatClampNeg (on n)) p).toNat)
/-- what the working out of a cell leaves -/
def gp_wQ (S : gm_S) (P fed : Nat) (rk : Nat → Nat) (t n p : Nat) (z : Int32 × gm_S) : Prop :=
  (z.1 = 0 ∧ z.2.1 34 = S.1 34 ∧ z.2.1 35 = S.1 35 ∧ ∃ m q, gp_dpn (S.1 10) (S.1 11) (S.1 12) (gp_Mz S) (gp_Tb (gp_Bs S) (S.1 34)) n p m q ∧ q ≤ fed ∧ gp_Tb (gp_Bs S) (S.1 34) m q = -3) ∨ gp_wS S P fed rk t n p z
theorem gz_set (x y v w : Int32) (S : gm_S) {P fed : Nat} (hC : gp_WC S P fed) {rk : Nat → Nat} {t : Nat} (hx : gp_Bs S ≤ Int32.toNatClampNeg x) (hx2 : Int32.toNatClampNeg x < gp_Bs S + P) (hx3 : 0 ≤ x.toInt) (hy : 0 ≤ y.toInt) (hy2 : y.toInt ≤ fed) (hv : ¬ v.toInt = -3) (hw : 0 ≤ w.toInt) (hc : gp_cell (S.1 10) (S.1 11) (S.1 12) (gp_Mz S) (gp_So S fed) (gp_Sr S fed) (gp_Tb (gp_Bs S) (S.1 34)) (gp_Tb (gp_Bs S) (S.1 35)) (gp_okc (gp_Bs S) P fed (S.1 34) rk t) (Int32.toNatClampNeg x) (Int32.toNatClampNeg y) v.toInt w.toInt) : gm_p_MD_set x y v w S ∧ gp_wS S P fed rk t (Int32.toNatClampNeg x) (Int32.toNatClampNeg y) (gm_f_MD_set x y v w S) := by
  obtain ⟨⟨b0, b1⟩, ⟨p0, p1⟩, ⟨f0, f1⟩, -⟩ := hC
  have cx := gx_cl x hx3
  have cb := gx_cl (S.2.2 4) b0
  have hx' : 160 * Int32.toNatClampNeg (S.2.2 4) ≤ Int32.toNatClampNeg x := hx
  have hx2' : Int32.toNatClampNeg x < 160 * Int32.toNatClampNeg (S.2.2 4) + P := hx2
  have z := gz_cell x y S b0 b1 (by omega) (by omega) hy (by omega)
  unfold gm_p_MD_set gm_f_MD_set
  refine gx_ca (Q := gp_wS S P fed rk t (Int32.toNatClampNeg x) (Int32.toNatClampNeg y)) _ z ?_
  intro r u hr
  have e : Int32.toNatClampNeg r = 11 * (Int32.toNatClampNeg x - gp_Bs S) + Int32.toNatClampNeg y := hr.2
  refine gx_in (Q := gp_wS S P fed rk t (Int32.toNatClampNeg x) (Int32.toNatClampNeg y)) hr.1 ?_
  refine gx_ca (Q := gp_wS S P fed rk t (Int32.toNatClampNeg x) (Int32.toNatClampNeg y)) (gp_ceQ S x y) z ?_
  intro r2 u2 hr2
  have e2 : Int32.toNatClampNeg r2 = 11 * (Int32.toNatClampNeg x - gp_Bs S) + Int32.toNatClampNeg y := hr2.2
  refine gx_if (Q := gp_wS S P fed rk t (Int32.toNatClampNeg x) (Int32.toNatClampNeg y)) (fun q => ⟨⟨hr2.1, trivial⟩, rfl, v, w, w.toInt, hv, hw, ?_, ?_, ?_, hc⟩) (fun q => ⟨⟨hr2.1, trivial⟩, rfl, v, 1001, w.toInt, hv, hw, ?_, ?_, ?_, hc⟩)
  · have := gx_ler (k := 1000) (gx_lit 1000 (by decide)) q
    exact (if_pos this).symm
  · show upd (S.1 34) (Int32.toNatClampNeg r) v = _
    rw [e]
  · show upd (S.1 35) (Int32.toNatClampNeg r2) w = _
    rw [e2]
  · have := gx_lenr (k := 1000) (gx_lit 1000 (by decide)) q
    rw [gx_lit 1001 (by decide)]
    exact (if_neg (by omega)).symm
  · show upd (S.1 34) (Int32.toNatClampNeg r) v = _
    rw [e]
  · show upd (S.1 35) (Int32.toNatClampNeg r2) 1001 = _
    rw [e2]
/-- both ends of a set -/
theorem gp_wS_q {S : gm_S} {P fed : Nat} {rk : Nat → Nat} {t n p : Nat} {r : Int32} {u : gm_S} (h : gp_wS S P fed rk t n p (r, u)) : ((r = 0 ∨ r = 1) ∧ True) ∧ gp_wQ S P fed rk t n p (r, ((va_up (va_up S.1 34 (u.1 34)) 35 (u.1 35)), S.2.1, S.2.2)) := ⟨⟨Or.inr h.1, trivial⟩, Or.inr h⟩
theorem gp_wS_b {S : gm_S} {P fed : Nat} {rk : Nat → Nat} {t n p : Nat} {r : Int32} {u : gm_S} (h : gp_wS S P fed rk t n p (r, u)) : ((r = 0 → True) ∧ (¬ r = 0 → True)) ∧ gp_wQ S P fed rk t n p (if r = 0 then (0, ((va_up (va_up S.1 34 (u.1 34)) 35 (u.1 35)), S.2.1, S.2.2)) else (1, ((va_up (va_up S.1 34 (u.1 34)) 35 (u.1 35)), S.2.1, S.2.2))) := by
  have e : ¬ r = 0 := by
    have : r = 1 := h.1
    rw [this]; decide
  rw [if_neg e]
  exact ⟨⟨fun _ => trivial, fun _ => trivial⟩, Or.inr ⟨rfl, h.2⟩⟩
/-- a known cell may be looked at, and is within bounds -/
theorem gp_FI_k {S : gm_S} {P fed : Nat} (hC : gp_WC S P fed) {rk : Nat → Nat} {t : Nat} (hFI : gp_FI (S.1 10) (S.1 11) (S.1 12) (gp_Mz S) (gp_So S fed) (gp_Sr S fed) (gp_Bs S) P fed (S.1 34) (S.1 35) rk t) {m q : Nat} (hm : gp_Bs S ≤ m) (hm2 : m < gp_Bs S + P) (hq : q ≤ fed) (h3 : ¬ gp_Tb (gp_Bs S) (S.1 34) m q = -3) : gp_okc (gp_Bs S) P fed (S.1 34) rk t m q ∧ (gp_Tb (gp_Bs S) (S.1 34) m q = -1 ∨ (0 ≤ gp_Tb (gp_Bs S) (S.1 34) m q ∧ (q : Int) + gp_Tb (gp_Bs S) (S.1 34) m q ≤ fed)) ∧ 0 ≤ gp_Tb (gp_Bs S) (S.1 35) m q ∧ gp_Tb (gp_Bs S) (S.1 35) m q ≤ 1001 := by
  have e : gp_Bs S + (m - gp_Bs S) = m := by omega
  have a := hFI (m - gp_Bs S) q (by omega) hq (by rw [e]; exact h3)
  have b := gp_FI_sd hC.2.2.2.2 hFI t (m - gp_Bs S) q (by omega) hq a.1 (by rw [e]; exact h3)
  obtain ⟨a1, w, a2, a3, -⟩ := a
  rw [e] at a3 b
  refine ⟨⟨hm, hm2, hq, h3, a1⟩, ?_, ?_, ?_⟩
  · rcases b with b | ⟨b1, b2, -⟩
    · exact Or.inl b
    · exact Or.inr ⟨b1, b2⟩
  · rw [a3]; unfold gp_cp; split <;> omega
  · rw [a3]; unfold gp_cp; split <;> omega
theorem gz_workLike (k : Int32) (x y : Int32) (S : gm_S) {P fed : Nat} (hC : gp_WC S P fed) {rk : Nat → Nat} {t : Nat} (hFI : gp_FI (S.1 10) (S.1 11) (S.1 12) (gp_Mz S) (gp_So S fed) (gp_Sr S fed) (gp_Bs S) P fed (S.1 34) (S.1 35) rk t) (hx : gp_Bs S ≤ Int32.toNatClampNeg x) (hx2 : Int32.toNatClampNeg x < gp_Bs S + P) (hx3 : 0 ≤ x.toInt) (hy : 0 ≤ y.toInt) (hy2 : y.toInt ≤ fed) (hk : gp_Bs S ≤ Int32.toNatClampNeg k) (hk2 : Int32.toNatClampNeg k < gp_Bs S + P) (hk3 : 0 ≤ k.toInt) (hd : gp_dpn (S.1 10) (S.1 11) (S.1 12) (gp_Mz S) (gp_Tb (gp_Bs S) (S.1 34)) (Int32.toNatClampNeg x) (Int32.toNatClampNeg y) (Int32.toNatClampNeg k) (Int32.toNatClampNeg y)) (hc : ∀ ok : Nat → Nat → Prop, ok (Int32.toNatClampNeg k) (Int32.toNatClampNeg y) → gp_cell (S.1 10) (S.1 11) (S.1 12) (gp_Mz S) (gp_So S fed) (gp_Sr S fed) (gp_Tb (gp_Bs S) (S.1 34)) (gp_Tb (gp_Bs S) (S.1 35)) ok (Int32.toNatClampNeg x) (Int32.toNatClampNeg y) (gp_Tb (gp_Bs S) (S.1 34) (Int32.toNatClampNeg k) (Int32.toNatClampNeg y)) (gp_Tb (gp_Bs S) (S.1 35) (Int32.toNatClampNeg k) (Int32.toNatClampNeg y))) : gm_p_MD_workLike x k y S ∧ gp_wQ S P fed rk t (Int32.toNatClampNeg x) (Int32.toNatClampNeg y) (gm_f_MD_workLike x k y S) := by
  have cy := gx_cl y hy
  have n3 : (-3 : Int32).toInt = -3 := by decide
  have tk := gz_taken k y S hC hk hk2 hk3 hy hy2
  unfold gm_p_MD_workLike gm_f_MD_workLike
  refine gx_ca (Q := gp_wQ S P fed rk t (Int32.toNatClampNeg x) (Int32.toNatClampNeg y)) _ tk ?_
  intro r u hr
  have hr : r.toInt = gp_Tb (gp_Bs S) (S.1 34) (Int32.toNatClampNeg k) (Int32.toNatClampNeg y) := hr
  refine gx_if (Q := gp_wQ S P fed rk t (Int32.toNatClampNeg x) (Int32.toNatClampNeg y)) (fun q => ⟨trivial, Or.inl ⟨rfl, rfl, rfl, _, _, hd, by omega, ?_⟩⟩) (fun q => ?_)
  · have := gx_eq q; omega
  have q1 := gx_eqn q
  obtain ⟨ok, v, c0, c1⟩ := gp_FI_k hC hFI hk hk2 (show Int32.toNatClampNeg y ≤ fed by omega) (by omega)
  refine gx_ca (Q := gp_wQ S P fed rk t (Int32.toNatClampNeg x) (Int32.toNatClampNeg y)) _ tk ?_
  intro r2 u2 hr2
  have hr2 : r2.toInt = gp_Tb (gp_Bs S) (S.1 34) (Int32.toNatClampNeg k) (Int32.toNatClampNeg y) := hr2
  refine gx_ca (Q := gp_wQ S P fed rk t (Int32.toNatClampNeg x) (Int32.toNatClampNeg y)) _ (gz_costOf k y S hC hk hk2 hk3 hy hy2) ?_
  intro r3 u3 hr3
  have hr3 : r3.toInt = gp_Tb (gp_Bs S) (S.1 35) (Int32.toNatClampNeg k) (Int32.toNatClampNeg y) := hr3
  refine gx_ca (Q := gp_wQ S P fed rk t (Int32.toNatClampNeg x) (Int32.toNatClampNeg y)) _ (gz_set x y r2 r3 S hC (rk := rk) (t := t) hx hx2 hx3 hy hy2 (by omega) (by omega) (by rw [hr2, hr3]; exact hc _ ok)) ?_
  intro r4 u4 hr4
  exact gp_wS_b hr4
theorem gp_vid (f : Nat → Nat → Int32) (k : Nat) : va_up f k (f k) = f := by
  funext j
  by_cases h : j = k
  · rw [h, va_up_self]
  · rw [va_up_ne _ _ h]
theorem gp_v45 (S : gm_S) : va_up (va_up S.1 34 (S.1 34)) 35 (S.1 35) = S.1 := by rw [gp_vid, gp_vid]
theorem gz_workPair (x y : Int32) (S : gm_S) {P fed : Nat} (hC : gp_WC S P fed) {rk : Nat → Nat} {t : Nat} (hFI : gp_FI (S.1 10) (S.1 11) (S.1 12) (gp_Mz S) (gp_So S fed) (gp_Sr S fed) (gp_Bs S) P fed (S.1 34) (S.1 35) rk t) (hx : gp_Bs S ≤ Int32.toNatClampNeg x) (hx2 : Int32.toNatClampNeg x < gp_Bs S + P) (hx3 : 0 ≤ x.toInt) (hy : 0 ≤ y.toInt) (hy2 : y.toInt ≤ fed) (k4 : (S.1 10 (Int32.toNatClampNeg x)).toInt = 4) : gm_p_MD_workPair x y S ∧ gp_wQ S P fed rk t (Int32.toNatClampNeg x) (Int32.toNatClampNeg y) (gm_f_MD_workPair x y S) := by
  obtain ⟨Q, hQ⟩ : ∃ Q, Q = gp_wQ S P fed rk t (Int32.toNatClampNeg x) (Int32.toNatClampNeg y) := ⟨_, rfl⟩
  rw [← hQ]
  have hC' := hC
  obtain ⟨⟨b0, b1⟩, ⟨p0, p1⟩, ⟨f0, f1⟩, -, SC⟩ := hC'
  have nd := SC.1 (Int32.toNatClampNeg x) hx hx2
  obtain ⟨a1, a2, a3⟩ := nd.2.1 (by omega)
  obtain ⟨t1, t2, t3⟩ := nd.2.2.1 (Or.inl k4)
  have cy := gx_cl y hy
  have cx := gx_cl x hx3
  have cb := gx_cl (S.2.2 4) b0
  have hB : gp_Bs S = 160 * Int32.toNatClampNeg (S.2.2 4) := rfl
  have ix : vp_in x 320 := vp_in_iff.mpr (by omega)
  have n3 : (-3 : Int32).toInt = -3 := by decide
  have n1 : (-1 : Int32).toInt = -1 := by decide
  unfold gm_p_MD_workPair gm_f_MD_workPair
  refine gx_in (Q := Q) ix ?_
  refine gx_ca (Q := Q) _ (gz_taken _ y S hC a1 (by omega) (by omega) hy hy2) ?_
  intro r u hr
  have hr : r.toInt = gp_Tb (gp_Bs S) (S.1 34) (Int32.toNatClampNeg (S.1 11 (Int32.toNatClampNeg x))) (Int32.toNatClampNeg y) := hr
  refine gx_if (Q := Q) (fun q => ⟨trivial, by rw [hQ]; exact Or.inl ⟨rfl, rfl, rfl, _, _, Or.inr (Or.inl ⟨by omega, rfl, rfl⟩), by omega, by have := gx_eq q; omega⟩⟩) (fun q => ?_)
  have q1 := gx_eqn q
  obtain ⟨ok, v, c0, c1⟩ := gp_FI_k hC hFI a1 (show Int32.toNatClampNeg (S.1 11 (Int32.toNatClampNeg x)) < gp_Bs S + P by omega) (show Int32.toNatClampNeg y ≤ fed by omega) (by omega)
  refine gx_in (Q := Q) ix ?_
  refine gx_ca (Q := Q) _ (gz_costOf _ y S hC a1 (by omega) (by omega) hy hy2) ?_
  intro r2 u2 hr2
  have hr2 : r2.toInt = gp_Tb (gp_Bs S) (S.1 35) (Int32.toNatClampNeg (S.1 11 (Int32.toNatClampNeg x))) (Int32.toNatClampNeg y) := hr2
  have cell : ∀ v w, (gp_okc (gp_Bs S) P fed (S.1 34) rk t (Int32.toNatClampNeg (S.1 11 (Int32.toNatClampNeg x))) (Int32.toNatClampNeg y) ∧ ((gp_Tb (gp_Bs S) (S.1 34) (Int32.toNatClampNeg (S.1 11 (Int32.toNatClampNeg x))) (Int32.toNatClampNeg y) = -1 ∧ v = -1 ∧ w = gp_Tb (gp_Bs S) (S.1 35) (Int32.toNatClampNeg (S.1 11 (Int32.toNatClampNeg x))) (Int32.toNatClampNeg y)) ∨ (0 ≤ gp_Tb (gp_Bs S) (S.1 34) (Int32.toNatClampNeg (S.1 11 (Int32.toNatClampNeg x))) (Int32.toNatClampNeg y) ∧ gp_okc (gp_Bs S) P fed (S.1 34) rk t (Int32.toNatClampNeg (S.1 12 (Int32.toNatClampNeg x))) (Int32.toNatClampNeg y + (gp_Tb (gp_Bs S) (S.1 34) (Int32.toNatClampNeg (S.1 11 (Int32.toNatClampNeg x))) (Int32.toNatClampNeg y)).toNat) ∧ w = gp_Tb (gp_Bs S) (S.1 35) (Int32.toNatClampNeg (S.1 11 (Int32.toNatClampNeg x))) (Int32.toNatClampNeg y) + gp_Tb (gp_Bs S) (S.1 35) (Int32.toNatClampNeg (S.1 12 (Int32.toNatClampNeg x))) (Int32.toNatClampNeg y + (gp_Tb (gp_Bs S) (S.1 34) (Int32.toNatClampNeg (S.1 11 (Int32.toNatClampNeg x))) (Int32.toNatClampNeg y)).toNat) ∧ ((gp_Tb (gp_Bs S) (S.1 34) (Int32.toNatClampNeg (S.1 12 (Int32.toNatClampNeg x))) (Int32.toNatClampNeg y + (gp_Tb (gp_Bs S) (S.1 34) (Int32.toNatClampNeg (S.1 11 (Int32.toNatClampNeg x))) (Int32.toNatClampNeg y)).toNat) = -1 ∧ v = -1) ∨ (¬ gp_Tb (gp_Bs S) (S.1 34) (Int32.toNatClampNeg (S.1 12 (Int32.toNatClampNeg x))) (Int32.toNatClampNeg y + (gp_Tb (gp_Bs S) (S.1 34) (Int32.toNatClampNeg (S.1 11 (Int32.toNatClampNeg x))) (Int32.toNatClampNeg y)).toNat) = -1 ∧ v = gp_Tb (gp_Bs S) (S.1 34) (Int32.toNatClampNeg (S.1 11 (Int32.toNatClampNeg x))) (Int32.toNatClampNeg y) + gp_Tb (gp_Bs S) (S.1 34) (Int32.toNatClampNeg (S.1 12 (Int32.toNatClampNeg x))) (Int32.toNatClampNeg y + (gp_Tb (gp_Bs S) (S.1 34) (Int32.toNatClampNeg (S.1 11 (Int32.toNatClampNeg x))) (Int32.toNatClampNeg y)).toNat)))))) → gp_cell (S.1 10) (S.1 11) (S.1 12) (gp_Mz S) (gp_So S fed) (gp_Sr S fed) (gp_Tb (gp_Bs S) (S.1 34)) (gp_Tb (gp_Bs S) (S.1 35)) (gp_okc (gp_Bs S) P fed (S.1 34) rk t) (Int32.toNatClampNeg x) (Int32.toNatClampNeg y) v w := fun v w h => ⟨fun k => by omega, fun k => by omega, fun k => by omega, fun k => by omega, fun _ => h, fun k => by omega, fun k => by omega, fun k => by omega, fun k => by omega, fun k => by omega, fun k => by omega⟩
  generalize hT : gp_Tb (gp_Bs S) (S.1 34) (Int32.toNatClampNeg (S.1 11 (Int32.toNatClampNeg x))) (Int32.toNatClampNeg y) = va at hr v cell
  generalize hCa : gp_Tb (gp_Bs S) (S.1 35) (Int32.toNatClampNeg (S.1 11 (Int32.toNatClampNeg x))) (Int32.toNatClampNeg y) = ca at hr2 c0 c1 cell
  refine gx_if (Q := Q) (fun w => ?_) (fun w => ?_)
  · have w1 := gx_eqr (k := -1) n1 w
    refine gx_ca (Q := Q) _ (gz_set x y (-1) r2 S hC (rk := rk) (t := t) hx hx2 hx3 hy hy2 (by omega) (by omega) (cell _ _ ⟨ok, Or.inl ⟨by omega, n1, hr2⟩⟩)) ?_
    intro r3 u3 h3
    rw [hQ]
    exact gp_wS_q h3
  · have w1 := gx_eqnr (k := -1) n1 w
    have va0 : 0 ≤ va ∧ (Int32.toNatClampNeg y : Int) + va ≤ fed := by
      rcases v with v | v
      · omega
      · exact v
    have s := gx_ad y r
    have s1 : (y + r).toInt = y.toInt + va := by omega
    have cs := gx_cl (y + r) (by omega)
    have es : Int32.toNatClampNeg (y + r) = Int32.toNatClampNeg y + va.toNat := by omega
    refine gx_in (Q := Q) ix ?_
    refine gx_ca (Q := Q) _ (gz_taken _ (y + r) S hC t1 (by omega) (by omega) (by omega) (by omega)) ?_
    intro r4 u4 h4
    have h4 : r4.toInt = gp_Tb (gp_Bs S) (S.1 34) (Int32.toNatClampNeg (S.1 12 (Int32.toNatClampNeg x))) (Int32.toNatClampNeg (y + r)) := h4
    rw [es] at h4
    refine gx_if (Q := Q) (fun q => ⟨trivial, by rw [hQ]; exact Or.inl ⟨rfl, rfl, rfl, _, _, Or.inr (Or.inr (Or.inl ⟨k4, rfl, by rw [hT]; exact va0.1, by rw [hT]⟩)), by omega, by have := gx_eq q; omega⟩⟩) (fun q => ?_)
    have q2 := gx_eqn q
    obtain ⟨ok', v', d0, d1⟩ := gp_FI_k hC hFI t1 (show Int32.toNatClampNeg (S.1 12 (Int32.toNatClampNeg x)) < gp_Bs S + P by omega) (show Int32.toNatClampNeg y + va.toNat ≤ fed by omega) (by omega)
    generalize hTb : gp_Tb (gp_Bs S) (S.1 34) (Int32.toNatClampNeg (S.1 12 (Int32.toNatClampNeg x))) (Int32.toNatClampNeg y + va.toNat) = vb at h4 v' cell
    generalize hCb : gp_Tb (gp_Bs S) (S.1 35) (Int32.toNatClampNeg (S.1 12 (Int32.toNatClampNeg x))) (Int32.toNatClampNeg y + va.toNat) = cb' at d0 d1 cell
    have j89 : ∀ k0 : Int32, ¬ k0.toInt = -3 → ((vb = -1 ∧ k0.toInt = -1) ∨ (¬ vb = -1 ∧ k0.toInt = va + vb)) → gm_p_MD_workPair_j89 x y S r u r2 u2 r4 u4 k0 y x S ∧ Q (gm_f_MD_workPair_j89 x y S r u r2 u2 r4 u4 k0 y x S) := by
      intro k0 hk0 hk1
      unfold gm_p_MD_workPair_j89 gm_f_MD_workPair_j89
      rw [gp_v45 S]
      refine gx_in (Q := Q) ix ?_
      refine gx_ca (Q := Q) _ (gz_costOf _ (y + r) S hC t1 (by omega) (by omega) (by omega) (by omega)) ?_
      intro r5 u5 h5
      have h5 : r5.toInt = gp_Tb (gp_Bs S) (S.1 35) (Int32.toNatClampNeg (S.1 12 (Int32.toNatClampNeg x))) (Int32.toNatClampNeg (y + r)) := h5
      rw [es, hCb] at h5
      have sw := gx_ad r2 r5
      have sw1 : (r2 + r5).toInt = ca + cb' := by omega
      refine gx_ca (Q := Q) _ (gz_set x y k0 (r2 + r5) S hC (rk := rk) (t := t) hx hx2 hx3 hy hy2 hk0 (by omega) (cell _ _ ⟨ok, Or.inr ⟨va0.1, ok', sw1, hk1⟩⟩)) ?_
      intro r6 u6 h6
      rw [hQ]
      exact gp_wS_q h6
    refine gx_if (Q := Q) (fun e => ?_) (fun e => ?_)
    · have e1 := gx_eqr (k := -1) n1 e
      exact j89 (-1) (by omega) (Or.inl ⟨by omega, n1⟩)
    · have e1 := gx_eqnr (k := -1) n1 e
      have sv := gx_ad r r4
      have vb0 : 0 ≤ vb ∧ ((Int32.toNatClampNeg y + va.toNat : Nat) : Int) + vb ≤ fed := by
        rcases v' with v' | v'
        · omega
        · exact v'
      have sv1 : (r + r4).toInt = va + vb := by omega
      exact j89 (r + r4) (by omega) (Or.inr ⟨by omega, sv1⟩)
