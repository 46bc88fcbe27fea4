/-! What study leaves alone. -/
def gp_hx (x : Int32) (S : gm_S) (z : Int32 × gm_S) : Prop := ∀ k, k ≠ Int32.toNatClampNeg x → z.2.2.1 17 k = S.2.1 17 k ∧ z.2.2.1 18 k = S.2.1 18 k
theorem gz_addHead (x y : Int32) (S : gm_S) : gp_hx x S (gm_f_MD_addHead x y S) := fun k hk => ⟨gp_uL _ _ _ hk, gp_uL _ _ _ hk⟩
theorem gz_findHead (x : Int32) (S : gm_S) : gp_hx x S (gm_f_MD_findHead x S) := by
  have r : ∀ a : Int32, gp_hx x S (a, S) := fun a k _ => ⟨rfl, rfl⟩
  have one : ∀ y : Int32, gp_hx x S (gm_bd (gm_f_MD_addHead x y S) (fun _ u => (0, (S.1, (va_up (va_up S.2.1 17 (u.2.1 17)) 18 (u.2.1 18)), S.2.2)))) := fun y => gf_ca (Q := gp_hx x S) (gp_hx x S) (gz_addHead x y S) (fun _ u h => h)
  have two : ∀ (y : Int32) (u : gm_S), gp_hx x S (0, u) → gp_hx x S (gm_bd (gm_f_MD_addHead x y (S.1, (va_up (va_up S.2.1 17 (u.2.1 17)) 18 (u.2.1 18)), S.2.2)) (fun _ w => (0, (S.1, (va_up (va_up S.2.1 17 (w.2.1 17)) 18 (w.2.1 18)), S.2.2)))) := fun y u hu => gf_ca (Q := gp_hx x S) (gp_hx x (S.1, (va_up (va_up S.2.1 17 (u.2.1 17)) 18 (u.2.1 18)), S.2.2)) (gz_addHead x y _) (fun _ w h k hk => ⟨(h k hk).1.trans (hu k hk).1, (h k hk).2.trans (hu k hk).2⟩)
  unfold gm_f_MD_findHead
  refine gf_if (Q := gp_hx x S) (fun _ => ?_) (fun _ => ?_)
  · refine gf_if (Q := gp_hx x S) (fun _ k hk => ⟨rfl, gp_uL _ _ _ hk⟩) (fun _ k hk => ⟨gp_uL _ _ _ hk, rfl⟩)
  refine gf_if (Q := gp_hx x S) (fun _ => r 0) (fun _ => ?_)
  refine gf_if (Q := gp_hx x S) (fun _ => gf_ca (Q := gp_hx x S) (fun _ => True) trivial (fun _ _ _ => one _)) (fun _ => ?_)
  refine gf_if (Q := gp_hx x S) (fun _ => gf_ca (Q := gp_hx x S) (gp_hx x S) (gz_addHead x _ S) (fun _ u h => gf_if (Q := gp_hx x S) (fun _ => h) (fun _ => two _ u h))) (fun _ => ?_)
  refine gf_if (Q := gp_hx x S) (fun _ => gf_ca (Q := gp_hx x S) (gp_hx x S) (gz_addHead x _ S) (fun _ u h => two _ u h)) (fun _ => ?_)
  refine gf_if (Q := gp_hx x S) (fun _ => one _) (fun _ => ?_)
  refine gf_if (Q := gp_hx x S) (fun _ => one _) (fun _ => ?_)
  refine gf_if (Q := gp_hx x S) (fun _ => r 0) (fun _ => ?_)
  refine gf_if (Q := gp_hx x S) (fun _ => r 0) (fun _ => ?_)
  exact gf_if (Q := gp_hx x S) (fun _ => one _) (fun _ => r 0)
/-- the other half stays as it is -/
def gp_sF (S U : gm_S) : Prop := (∀ n, (n < 160 * Int32.toNatClampNeg (S.2.2 5) ∨ 160 * Int32.toNatClampNeg (S.2.2 5) + 160 ≤ n) → U.1 15 n = S.1 15 n ∧ U.1 16 n = S.1 16 n ∧ U.2.1 17 n = S.2.1 17 n ∧ U.2.1 18 n = S.2.1 18 n) ∧ ∀ n, (n < 50 * Int32.toNatClampNeg (S.2.2 5) ∨ 50 * Int32.toNatClampNeg (S.2.2 5) + 50 ≤ n) → U.1 14 n = S.1 14 n
abbrev gp_sQ (S : gm_S) (z : Int32 × gm_S) : Prop := gp_sF S z.2
theorem gz_sf135 (S : gm_S) (v1 : Int32) (U1 : gm_S) (v2 : Int32) (U2 : gm_S) (v3 : Int32) (U3 : gm_S) (v4 : Int32) (U4 : gm_S) (hf : 0 ≤ (S.2.2 5).toInt) (hf2 : (S.2.2 5).toInt ≤ 1) (hp2 : ((S.1 9) (Int32.toNatClampNeg (S.2.2 5))).toInt ≤ 100) (hp : 0 ≤ ((S.1 9) (Int32.toNatClampNeg (S.2.2 5))).toInt) : ∀ (n : Nat) (v : Int32) (U : gm_S) (k : Int32 → gm_S → Int32 × gm_S), gp_sF S U → 160 * (S.2.2 5).toInt ≤ v.toInt → (∀ w W, gp_sF S W → gp_sQ S (k w W)) → gp_sQ S (gm_f_MD_study_135 S v1 U1 v2 U2 v3 U3 v4 U4 n v U k) := by
  have m := gx_mk 160 (S.2.2 5) 160 (gx_lit 160 (by decide))
  have s := gx_ad (160 * (S.2.2 5)) ((S.1 9) (Int32.toNatClampNeg (S.2.2 5)))
  have T : (160 * (S.2.2 5) + (S.1 9) (Int32.toNatClampNeg (S.2.2 5))).toInt = 160 * (S.2.2 5).toInt + ((S.1 9) (Int32.toNatClampNeg (S.2.2 5))).toInt := by omega
  clear m s
  have cf := gx_cl (S.2.2 5) hf
  intro n
  induction n with
  | zero => intro v U k h _ _; exact h
  | succ n ih =>
    intro v U k h hv hk
    rw [gm_f_MD_study_135]
    refine gf_if (Q := gp_sQ S) (fun _ => hk _ _ h) (fun q => ?_)
    have q1 := gx_len q
    rw [T] at q1
    have cv := gx_cl v (by omega)
    have b := gx_ak v 1 1 (by decide)
    refine gf_ca (Q := gp_sQ S) (fun _ => True) trivial (fun r _ _ => ?_)
    refine gf_ca (Q := gp_sQ S) (gp_hx v _) (gz_findHead v _) (fun _ u hu => ?_)
    refine ih _ _ k ⟨fun j hj => ?_, h.2⟩ (by omega) hk
    obtain ⟨a1, a2, a3, a4⟩ := h.1 j hj
    have hn : j ≠ Int32.toNatClampNeg v := by omega
    have hu := hu j hn
    exact ⟨a1, (gx_un _ _ _ hn).trans a2, hu.1.trans a3, hu.2.trans a4⟩
theorem gz_sf127 (S : gm_S) (v1 : Int32) (U1 : gm_S) (v2 : Int32) (U2 : gm_S) (v3 : Int32) (U3 : gm_S) (hf : 0 ≤ (S.2.2 5).toInt) (hf2 : (S.2.2 5).toInt ≤ 1) (hp2 : ((S.1 9) (Int32.toNatClampNeg (S.2.2 5))).toInt ≤ 100) (hp : 0 ≤ ((S.1 9) (Int32.toNatClampNeg (S.2.2 5))).toInt) : ∀ (n : Nat) (v : Int32) (U : gm_S), gp_sF S U → gp_sQ S (gm_f_MD_study_127 S v1 U1 v2 U2 v3 U3 n v U) := by
  have m := gx_mk 160 (S.2.2 5) 160 (gx_lit 160 (by decide))
  intro n
  induction n with
  | zero => intro v U h; exact h
  | succ n ih =>
    intro v U h
    rw [gm_f_MD_study_127]
    refine gf_if (Q := gp_sQ S) (fun _ => h) (fun q => ?_)
    exact gz_sf135 S v1 U1 v2 U2 v3 U3 v U hf hf2 hp2 hp 200 _ _ _ h (by omega) (fun w W hW => ih _ _ hW)
theorem gz_sf94 (S : gm_S) (v1 : Int32) (U1 : gm_S) (v2 : Int32) (U2 : gm_S) (v3 : Int32) (U3 : gm_S) (hf : 0 ≤ (S.2.2 5).toInt) (hf2 : (S.2.2 5).toInt ≤ 1) (hp2 : ((S.1 9) (Int32.toNatClampNeg (S.2.2 5))).toInt ≤ 100) (hp : 0 ≤ ((S.1 9) (Int32.toNatClampNeg (S.2.2 5))).toInt) : ∀ (n : Nat) (v : Int32) (U : gm_S) (k : Int32 → gm_S → Int32 × gm_S), gp_sF S U → 160 * (S.2.2 5).toInt ≤ v.toInt → (∀ w W, gp_sF S W → gp_sQ S (k w W)) → gp_sQ S (gm_f_MD_study_94 S v1 U1 v2 U2 v3 U3 n v U k) := by
  have m := gx_mk 160 (S.2.2 5) 160 (gx_lit 160 (by decide))
  have s := gx_ad (160 * (S.2.2 5)) ((S.1 9) (Int32.toNatClampNeg (S.2.2 5)))
  have T : (160 * (S.2.2 5) + (S.1 9) (Int32.toNatClampNeg (S.2.2 5))).toInt = 160 * (S.2.2 5).toInt + ((S.1 9) (Int32.toNatClampNeg (S.2.2 5))).toInt := by omega
  clear m s
  have cf := gx_cl (S.2.2 5) hf
  intro n
  induction n with
  | zero => intro v U k h _ _; exact h
  | succ n ih =>
    intro v U k h hv hk
    rw [gm_f_MD_study_94]
    refine gf_if (Q := gp_sQ S) (fun _ => hk _ _ h) (fun q => ?_)
    have q1 := gx_len q
    rw [T] at q1
    have cv := gx_cl v (by omega)
    have b := gx_ak v 1 1 (by decide)
    refine gf_ca (Q := gp_sQ S) (fun _ => True) trivial (fun r _ _ => ?_)
    refine ih _ _ k ⟨fun j hj => ?_, h.2⟩ (by omega) hk
    obtain ⟨a1, a2, a3, a4⟩ := h.1 j hj
    exact ⟨(gx_un _ _ _ (by omega)).trans a1, a2, a3, a4⟩
theorem gz_sf86 (S : gm_S) (v1 : Int32) (U1 : gm_S) (v2 : Int32) (U2 : gm_S) (hf : 0 ≤ (S.2.2 5).toInt) (hf2 : (S.2.2 5).toInt ≤ 1) (hp2 : ((S.1 9) (Int32.toNatClampNeg (S.2.2 5))).toInt ≤ 100) (hp : 0 ≤ ((S.1 9) (Int32.toNatClampNeg (S.2.2 5))).toInt) : ∀ (n : Nat) (v : Int32) (U : gm_S), gp_sF S U → gp_sQ S (gm_f_MD_study_86 S v1 U1 v2 U2 n v U) := by
  have m := gx_mk 160 (S.2.2 5) 160 (gx_lit 160 (by decide))
  intro n
  induction n with
  | zero => intro v U h; exact h
  | succ n ih =>
    intro v U h
    rw [gm_f_MD_study_86]
    refine gf_if (Q := gp_sQ S) (fun _ => gz_sf127 S v1 U1 v2 U2 v U hf hf2 hp2 hp 200 _ _ h) (fun q => ?_)
    exact gz_sf94 S v1 U1 v2 U2 v U hf hf2 hp2 hp 200 _ _ _ h (by omega) (fun w W hW => ih _ _ hW)
theorem gz_sf59 (S : gm_S) (v1 : Int32) (U1 : gm_S) (hf : 0 ≤ (S.2.2 5).toInt) (hf2 : (S.2.2 5).toInt ≤ 1) (hp2 : ((S.1 9) (Int32.toNatClampNeg (S.2.2 5))).toInt ≤ 100) (hp : 0 ≤ ((S.1 9) (Int32.toNatClampNeg (S.2.2 5))).toInt) : ∀ (n : Nat) (v : Int32) (U : gm_S), gp_sF S U → 160 * (S.2.2 5).toInt ≤ v.toInt → gp_sQ S (gm_f_MD_study_59 S v1 U1 n v U) := by
  have m := gx_mk 160 (S.2.2 5) 160 (gx_lit 160 (by decide))
  have s := gx_ad (160 * (S.2.2 5)) ((S.1 9) (Int32.toNatClampNeg (S.2.2 5)))
  have T : (160 * (S.2.2 5) + (S.1 9) (Int32.toNatClampNeg (S.2.2 5))).toInt = 160 * (S.2.2 5).toInt + ((S.1 9) (Int32.toNatClampNeg (S.2.2 5))).toInt := by omega
  clear m s
  have cf := gx_cl (S.2.2 5) hf
  intro n
  induction n with
  | zero => intro v U h _; exact h
  | succ n ih =>
    intro v U h hv
    rw [gm_f_MD_study_59]
    refine gf_if (Q := gp_sQ S) (fun _ => gz_sf86 S v1 U1 v U hf hf2 hp2 hp 200 _ _ h) (fun q => ?_)
    have q1 := gx_len q
    rw [T] at q1
    have cv := gx_cl v (by omega)
    have b := gx_ak v 1 1 (by decide)
    refine ih _ _ ⟨fun j hj => ?_, h.2⟩ (by omega)
    obtain ⟨a1, a2, a3, a4⟩ := h.1 j hj
    exact ⟨(gx_un _ _ _ (by omega)).trans a1, (gx_un _ _ _ (by omega)).trans a2, a3, a4⟩
theorem gz_sf23 (S : gm_S) (hf : 0 ≤ (S.2.2 5).toInt) (hf2 : (S.2.2 5).toInt ≤ 1) (hp2 : ((S.1 9) (Int32.toNatClampNeg (S.2.2 5))).toInt ≤ 100) (hp : 0 ≤ ((S.1 9) (Int32.toNatClampNeg (S.2.2 5))).toInt) (ht : (S.2.2 2).toInt ≤ 50) : ∀ (n : Nat) (v : Int32) (U : gm_S), gp_sF S U → 0 ≤ v.toInt → gp_sQ S (gm_f_MD_study_23 S n v U) := by
  have m := gx_mk 160 (S.2.2 5) 160 (gx_lit 160 (by decide))
  have m5 := gx_mk 50 (S.2.2 5) 50 (gx_lit 50 (by decide))
  have cf := gx_cl (S.2.2 5) hf
  intro n
  induction n with
  | zero => intro v U h _; exact h
  | succ n ih =>
    intro v U h hv
    rw [gm_f_MD_study_23]
    refine gf_if (Q := gp_sQ S) (fun _ => gz_sf59 S v U hf hf2 hp2 hp 200 _ _ h (by omega)) (fun q => ?_)
    have q1 := gx_len q
    have s := gx_ad (50 * (S.2.2 5)) v
    have cv := gx_cl ((50 * (S.2.2 5)) + v) (by omega)
    have b := gx_ak v 1 1 (by decide)
    refine ih _ _ ⟨h.1, fun j hj => ?_⟩ (by omega)
    exact (gx_un _ _ _ (by omega)).trans (h.2 j hj)
/-- study leaves the other half alone -/
theorem gz_study_F (S : gm_S) (hf : 0 ≤ (S.2.2 5).toInt) (hf2 : (S.2.2 5).toInt ≤ 1) (hp2 : ((S.1 9) (Int32.toNatClampNeg (S.2.2 5))).toInt ≤ 100) (hp : 0 ≤ ((S.1 9) (Int32.toNatClampNeg (S.2.2 5))).toInt) (ht : (S.2.2 2).toInt ≤ 50) : gp_sQ S (gm_f_MD_study S) := by
  unfold gm_f_MD_study
  exact gz_sf23 S hf hf2 hp2 hp ht 200 0 S ⟨fun _ _ => ⟨rfl, rfl, rfl, rfl⟩, fun _ _ => rfl⟩ (by decide)
