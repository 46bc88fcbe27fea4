/-! Parts that are no sets have no bits. -/
def gp_Z (fr : Int32) (pa kd : Nat → Int32) (lw hg : Nat → Int64) : Prop := ∃ J : Nat, pa (Int32.toNatClampNeg fr) = Int32.ofNat J ∧ ∀ j, j < J → kd (Int32.toNatClampNeg (160 * fr + Int32.ofNat j)) ≠ 2 → lw (Int32.toNatClampNeg (160 * fr + Int32.ofNat j)) = 0 ∧ hg (Int32.toNatClampNeg (160 * fr + Int32.ofNat j)) = 0
def gp_Zq (fr : Int32) (z : Int32 × gm_S) : Prop := gp_Z fr (z.2.1 9) (z.2.1 10) (z.2.2.1 17) (z.2.2.1 18)
theorem gp_Z_inc {fr : Int32} {pa kd : Nat → Int32} {lw hg lw' hg' : Nat → Int64} {r : Nat} (h : gp_Z fr pa kd lw hg) (hk : kd r = 2) (hx : ∀ k, k ≠ r → lw' k = lw k ∧ hg' k = hg k) : gp_Z fr pa kd lw' hg' := by
  obtain ⟨J, h1, h2⟩ := h
  refine ⟨J, h1, fun j hj q => ?_⟩
  have e := hx (Int32.toNatClampNeg (160 * fr + Int32.ofNat j)) (fun t => q (by rw [t]; exact hk))
  rw [e.1, e.2]
  exact h2 j hj q
theorem gp_Z_create (x y w : Int32) (S : gm_S) (h : gp_Z (S.2.2 5) (S.1 9) (S.1 10) (S.2.1 17) (S.2.1 18)) : gp_Zq (S.2.2 5) (gm_f_MD_create x y w S) := by
  obtain ⟨J, h1, h2⟩ := h
  unfold gm_f_MD_create
  refine ⟨J + 1, ?_, fun j hj => ?_⟩
  · show upd (S.1 9) (Int32.toNatClampNeg (S.2.2 5)) (((S.1 9) (Int32.toNatClampNeg (S.2.2 5))) + 1) (Int32.toNatClampNeg (S.2.2 5)) = Int32.ofNat (J + 1)
    rw [gx_us, h1, Int32.ofNat_add]
    rfl
  · show upd (S.1 10) (Int32.toNatClampNeg ((160 * (S.2.2 5)) + ((S.1 9) (Int32.toNatClampNeg (S.2.2 5))))) x (Int32.toNatClampNeg (160 * (S.2.2 5) + Int32.ofNat j)) ≠ 2 → vp_updL (S.2.1 17) (Int32.toNatClampNeg ((160 * (S.2.2 5)) + ((S.1 9) (Int32.toNatClampNeg (S.2.2 5))))) 0 (Int32.toNatClampNeg (160 * (S.2.2 5) + Int32.ofNat j)) = 0 ∧ vp_updL (S.2.1 18) (Int32.toNatClampNeg ((160 * (S.2.2 5)) + ((S.1 9) (Int32.toNatClampNeg (S.2.2 5))))) 0 (Int32.toNatClampNeg (160 * (S.2.2 5) + Int32.ofNat j)) = 0
    by_cases q : Int32.toNatClampNeg (160 * (S.2.2 5) + Int32.ofNat j) = Int32.toNatClampNeg ((160 * (S.2.2 5)) + ((S.1 9) (Int32.toNatClampNeg (S.2.2 5))))
    · rw [q, gx_lus, gx_lus]
      exact fun _ => ⟨rfl, rfl⟩
    · rw [gx_un _ _ _ q, gx_lun _ _ _ q, gx_lun _ _ _ q]
      refine h2 j ?_
      have : j ≠ J := fun t => q (by rw [t, h1])
      omega
theorem gp_Z_create' {F : Int32} (x y w : Int32) (S : gm_S) (e : S.2.2 5 = F) (h : gp_Z F (S.1 9) (S.1 10) (S.2.1 17) (S.2.1 18)) : gp_Zq F (gm_f_MD_create x y w S) := by
  subst e
  exact gp_Z_create x y w S h
theorem gp_Z_createK (x y w : Int32) (S : gm_S) : (gm_f_MD_create x y w S).2.1 10 (Int32.toNatClampNeg (gm_f_MD_create x y w S).1) = x := by
  unfold gm_f_MD_create
  exact gx_us _ _ _
def gp_Zk (fr x : Int32) (z : Int32 × gm_S) : Prop := gp_Zq fr z ∧ z.2.1 10 (Int32.toNatClampNeg z.1) = x
theorem gp_Z_createB (x y w : Int32) (S : gm_S) (h : gp_Z (S.2.2 5) (S.1 9) (S.1 10) (S.2.1 17) (S.2.1 18)) : gp_Zk (S.2.2 5) x (gm_f_MD_create x y w S) := ⟨gp_Z_create x y w S h, gp_Z_createK x y w S⟩
theorem gp_Z_createB' {F : Int32} (x y w : Int32) (S : gm_S) (e : S.2.2 5 = F) (h : gp_Z F (S.1 9) (S.1 10) (S.2.1 17) (S.2.1 18)) : gp_Zk F x (gm_f_MD_create x y w S) := by
  subst e
  exact gp_Z_createB x y w S h
theorem gp_Z_j106 (x : Int32) (S : gm_S) (r3 : Int32) (u3 : gm_S) (v2 : Int32) (W : gm_S) (v : Int32) (U : gm_S) (h : gp_Z (S.2.2 5) (U.1 9) (U.1 10) (U.2.1 17) (U.2.1 18)) : gp_Zq (S.2.2 5) (gm_f_MD_primary_j106 x S r3 u3 v2 W v U) := by
  unfold gm_f_MD_primary_j106
  exact h
theorem gp_Z_j100 (x : Int32) (S : gm_S) (r3 : Int32) (u3 : gm_S) (v2 : Int32) (W : gm_S) (v : Int32) (U : gm_S) (h : gp_Z (S.2.2 5) (U.1 9) (U.1 10) (U.2.1 17) (U.2.1 18)) : gp_Zq (S.2.2 5) (gm_f_MD_primary_j100 x S r3 u3 v2 W v U) := by
  unfold gm_f_MD_primary_j100
  refine gf_ca (Q := gp_Zq (S.2.2 5)) (gp_Zq (S.2.2 5)) (gp_Z_create' _ _ _ _ rfl h) (fun r u hu => ?_)
  exact gp_Z_j106 _ _ _ _ _ _ _ _ hu
theorem gp_Z_j76 (x : Int32) (S : gm_S) (r3 : Int32) (u3 : gm_S) (v2 : Int32) (U : gm_S) (h : gp_Z (S.2.2 5) (U.1 9) (U.1 10) (U.2.1 17) (U.2.1 18)) : gp_Zq (S.2.2 5) (gm_f_MD_primary_j76 x S r3 u3 v2 U) := by
  unfold gm_f_MD_primary_j76
  refine gf_if (Q := gp_Zq (S.2.2 5)) (fun _ => ?_) (fun _ => ?_)
  · exact gp_Z_j106 _ _ _ _ _ _ _ _ h
  refine gf_if (Q := gp_Zq (S.2.2 5)) (fun _ => ?_) (fun _ => ?_)
  · exact gp_Z_j100 _ _ _ _ _ _ _ _ h
  · exact gp_Z_j100 _ _ _ _ _ _ _ _ h
theorem gp_Z_j49 (x : Int32) (S : gm_S) (r3 : Int32) (u3 W : gm_S) (v : Int32) (U : gm_S) (h : gp_Z (S.2.2 5) (U.1 9) (U.1 10) (U.2.1 17) (U.2.1 18)) : gp_Zq (S.2.2 5) (gm_f_MD_primary_j49 x S r3 u3 W v U) := by
  unfold gm_f_MD_primary_j49
  refine gf_ca (Q := gp_Zq (S.2.2 5)) (gp_Zq (S.2.2 5)) (gp_Z_create' _ _ _ _ rfl h) (fun r u hu => ?_)
  refine gf_if (Q := gp_Zq (S.2.2 5)) (fun _ => ?_) (fun _ => ?_)
  · refine gf_ca (Q := gp_Zq (S.2.2 5)) (gp_Zq (S.2.2 5)) (gp_Z_create' _ _ _ _ rfl hu) (fun r u hu => ?_)
    unfold gm_f_MD_primary_j75
    exact gp_Z_j76 _ _ _ _ _ _ hu
  · unfold gm_f_MD_primary_j75
    exact gp_Z_j76 _ _ _ _ _ _ hu
theorem gp_Z_j25 (x : Int32) (S : gm_S) (r3 : Int32) (u3 U : gm_S) (h : gp_Z (S.2.2 5) (U.1 9) (U.1 10) (U.2.1 17) (U.2.1 18)) : gp_Zq (S.2.2 5) (gm_f_MD_primary_j25 x S r3 u3 U) := by
  unfold gm_f_MD_primary_j25
  refine gf_if (Q := gp_Zq (S.2.2 5)) (fun _ => ?_) (fun _ => ?_)
  · exact gp_Z_j49 _ _ _ _ _ _ _ h
  · exact gp_Z_j49 _ _ _ _ _ _ _ h
theorem gp_Z_primary (x : Int32) (S : gm_S) (h : gp_Z (S.2.2 5) (S.1 9) (S.1 10) (S.2.1 17) (S.2.1 18)) : gp_Zq (S.2.2 5) (gm_f_MD_primary x S) := by
  unfold gm_f_MD_primary
  refine gf_ca (Q := gp_Zq (S.2.2 5)) (fun _ => True) trivial (fun r u _ => ?_)
  refine gf_if (Q := gp_Zq (S.2.2 5)) (fun _ => gp_Z_j25 _ _ _ _ _ h) (fun _ => ?_)
  refine gf_if (Q := gp_Zq (S.2.2 5)) (fun _ => gp_Z_j25 _ _ _ _ _ h) (fun _ => ?_)
  refine gf_if (Q := gp_Zq (S.2.2 5)) (fun _ => gp_Z_j25 _ _ _ _ _ h) (fun _ => ?_)
  exact gp_Z_j76 _ _ _ _ _ _ h
theorem gp_Z_primary' {F : Int32} (x : Int32) (S : gm_S) (e : S.2.2 5 = F) (h : gp_Z F (S.1 9) (S.1 10) (S.2.1 17) (S.2.1 18)) : gp_Zq F (gm_f_MD_primary x S) := by
  subst e
  exact gp_Z_primary x S h
theorem gp_Z_es45 (S : gm_S) (k : Int32) (W : gm_S) : ∀ (n : Nat) (a b : Int32) (U : gm_S), gp_Z (S.2.2 5) (U.1 9) (U.1 10) (U.2.1 17) (U.2.1 18) → gp_Zq (S.2.2 5) (gm_f_MD_endSequence_45 S k W n a b U) := by
  intro n
  induction n with
  | zero => intro a b U h; exact h
  | succ n ih =>
    intro a b U h
    rw [gm_f_MD_endSequence_45]
    refine gf_if (Q := gp_Zq (S.2.2 5)) (fun _ => h) (fun _ => ?_)
    refine gf_ca (Q := gp_Zq (S.2.2 5)) (gp_Zq (S.2.2 5)) (gp_Z_create' _ _ _ _ rfl h) (fun r u hu => ?_)
    exact ih _ _ _ hu
theorem gp_Z_endSequence (S : gm_S) (h : gp_Z (S.2.2 5) (S.1 9) (S.1 10) (S.2.1 17) (S.2.1 18)) : gp_Zq (S.2.2 5) (gm_f_MD_endSequence S) := by
  unfold gm_f_MD_endSequence
  refine gf_if (Q := gp_Zq (S.2.2 5)) (fun _ => ?_) (fun _ => ?_)
  · refine gf_ca (Q := gp_Zq (S.2.2 5)) (gp_Zq (S.2.2 5)) (gp_Z_create' _ _ _ _ rfl h) (fun r u hu => ?_)
    unfold gm_f_MD_endSequence_j37
    exact gp_Z_es45 _ _ _ _ _ _ _ hu
  · unfold gm_f_MD_endSequence_j37
    exact gp_Z_es45 _ _ _ _ _ _ _ h
theorem gp_Z_endSequence' {F : Int32} (S : gm_S) (e : S.2.2 5 = F) (h : gp_Z F (S.1 9) (S.1 10) (S.2.1 17) (S.2.1 18)) : gp_Zq F (gm_f_MD_endSequence S) := by
  subst e
  exact gp_Z_endSequence  S h
theorem gp_Z_close23 (S W : gm_S) : ∀ (n : Nat) (a b : Int32) (U : gm_S), gp_Z (S.2.2 5) (U.1 9) (U.1 10) (U.2.1 17) (U.2.1 18) → gp_Zq (S.2.2 5) (gm_f_MD_close_23 S W n a b U) := by
  intro n
  induction n with
  | zero => intro a b U h; exact h
  | succ n ih =>
    intro a b U h
    rw [gm_f_MD_close_23]
    refine gf_if (Q := gp_Zq (S.2.2 5)) (fun _ => ?_) (fun _ => ?_)
    · refine gf_if (Q := gp_Zq (S.2.2 5)) (fun _ => h) (fun _ => ?_)
      refine gf_if (Q := gp_Zq (S.2.2 5)) (fun _ => ?_) (fun _ => ?_)
      · refine gf_ca (Q := gp_Zq (S.2.2 5)) (gp_Zq (S.2.2 5)) (gp_Z_create' _ _ _ _ rfl h) (fun r u hu => ?_)
        refine gf_ca (Q := gp_Zq (S.2.2 5)) (gp_Zq (S.2.2 5)) (gp_Z_primary' _ _ rfl hu) (fun r u hu => ?_)
        exact hu
      · refine gf_ca (Q := gp_Zq (S.2.2 5)) (gp_Zq (S.2.2 5)) (gp_Z_primary' _ _ rfl h) (fun r u hu => ?_)
        exact hu
    · refine gf_ca (Q := gp_Zq (S.2.2 5)) (gp_Zq (S.2.2 5)) (gp_Z_create' _ _ _ _ rfl h) (fun r u hu => ?_)
      exact ih _ _ _ hu
theorem gp_Z_close (S : gm_S) (h : gp_Z (S.2.2 5) (S.1 9) (S.1 10) (S.2.1 17) (S.2.1 18)) : gp_Zq (S.2.2 5) (gm_f_MD_close S) := by
  unfold gm_f_MD_close
  refine gf_ca (Q := gp_Zq (S.2.2 5)) (gp_Zq (S.2.2 5)) (gp_Z_endSequence' _ rfl h) (fun r u hu => ?_)
  exact gp_Z_close23 _ _ _ _ _ _ hu
theorem gp_Z_close' {F : Int32} (S : gm_S) (e : S.2.2 5 = F) (h : gp_Z F (S.1 9) (S.1 10) (S.2.1 17) (S.2.1 18)) : gp_Zq F (gm_f_MD_close S) := by
  subst e
  exact gp_Z_close  S h
theorem gp_Z_row17 (S : gm_S) : ∀ (n : Nat) (U : gm_S), gp_Z (S.2.2 5) (U.1 9) (U.1 10) (U.2.1 17) (U.2.1 18) → gp_Zq (S.2.2 5) (gm_f_MD_readRow_17 S n U) := by
  intro n
  induction n with
  | zero => intro U h; exact h
  | succ n ih =>
    intro U h
    rw [gm_f_MD_readRow_17]
    refine gf_ca (Q := (gp_Zq (S.2.2 5))) (fun _ => True) trivial (fun _ _ _ => ?_)
    refine gf_if (Q := (gp_Zq (S.2.2 5))) (fun _ => ?_) (fun _ => ?_)
    · refine gf_ca (Q := (gp_Zq (S.2.2 5))) (fun _ => True) trivial (fun _ _ _ => ?_)
      refine gf_if (Q := (gp_Zq (S.2.2 5))) (fun _ => ?_) (fun _ => ?_)
      · refine gf_ca (Q := (gp_Zq (S.2.2 5))) (fun _ => True) trivial (fun _ _ _ => ?_)
        exact h
      · refine gf_if (Q := (gp_Zq (S.2.2 5))) (fun _ => ?_) (fun _ => ?_)
        · refine gf_ca (Q := (gp_Zq (S.2.2 5))) (fun _ => True) trivial (fun _ _ _ => ?_)
          exact h
        · refine gf_ca (Q := (gp_Zq (S.2.2 5))) (gp_Zq (S.2.2 5)) (gp_Z_create' _ _ _ _ rfl h) (fun _ _ hq1 => ?_)
          refine gf_ca (Q := (gp_Zq (S.2.2 5))) (gp_Zq (S.2.2 5)) (gp_Z_primary' _ _ rfl hq1) (fun _ _ hq2 => ?_)
          exact hq2
    · refine gf_ca (Q := (gp_Zq (S.2.2 5))) (fun _ => True) trivial (fun _ _ _ => ?_)
      refine gf_if (Q := (gp_Zq (S.2.2 5))) (fun _ => ?_) (fun _ => ?_)
      · refine gf_ca (Q := (gp_Zq (S.2.2 5))) (fun _ => True) trivial (fun _ _ _ => ?_)
        refine gf_if (Q := (gp_Zq (S.2.2 5))) (fun _ => ?_) (fun _ => ?_)
        · refine gf_ca (Q := (gp_Zq (S.2.2 5))) (fun _ => True) trivial (fun _ _ _ => ?_)
          exact h
        · refine gf_if (Q := (gp_Zq (S.2.2 5))) (fun _ => ?_) (fun _ => ?_)
          · refine gf_ca (Q := (gp_Zq (S.2.2 5))) (fun _ => True) trivial (fun _ _ _ => ?_)
            exact h
          · refine gf_ca (Q := (gp_Zq (S.2.2 5))) (gp_Zq (S.2.2 5)) (gp_Z_create' _ _ _ _ rfl h) (fun _ _ hq3 => ?_)
            refine gf_ca (Q := (gp_Zq (S.2.2 5))) (gp_Zq (S.2.2 5)) (gp_Z_primary' _ _ rfl hq3) (fun _ _ hq4 => ?_)
            exact hq4
      · exact ih _ h
theorem gp_Z_readRow (S : gm_S) (h : gp_Z (S.2.2 5) (S.1 9) (S.1 10) (S.2.1 17) (S.2.1 18)) : gp_Zq (S.2.2 5) (gm_f_MD_readRow S) := by
  unfold gm_f_MD_readRow
  exact gp_Z_row17 _ _ _ h
theorem gp_Z_readRow' {F : Int32} (S : gm_S) (e : S.2.2 5 = F) (h : gp_Z F (S.1 9) (S.1 10) (S.2.1 17) (S.2.1 18)) : gp_Zq F (gm_f_MD_readRow S) := by
  subst e
  exact gp_Z_readRow  S h
theorem gp_Z_cls20 (S : gm_S) (r4 : Int32) (u4 : gm_S) : ∀ (n : Nat) (v : Int32) (U : gm_S), gp_Z (S.2.2 5) (U.1 9) (U.1 10) (U.2.1 17) (U.2.1 18) → U.1 10 (Int32.toNatClampNeg r4) = 2 → gp_Zq (S.2.2 5) (gm_f_MD_readClass_20 S r4 u4 n v U) := by
  intro n
  induction n with
  | zero => intro v U h _; exact h
  | succ n ih =>
    intro v U h hk
    rw [gm_f_MD_readClass_20]
    refine gf_ca (Q := (gp_Zq (S.2.2 5))) (fun _ => True) trivial (fun _ _ _ => ?_)
    refine gf_if (Q := (gp_Zq (S.2.2 5))) (fun _ => ?_) (fun _ => ?_)
    · refine gf_if (Q := (gp_Zq (S.2.2 5))) (fun _ => ?_) (fun _ => ?_)
      · refine gf_ca (Q := (gp_Zq (S.2.2 5))) (fun _ => True) trivial (fun _ _ _ => ?_)
        exact h
      · refine gf_ca (Q := (gp_Zq (S.2.2 5))) (fun _ => True) trivial (fun _ _ _ => ?_)
        refine gf_if (Q := (gp_Zq (S.2.2 5))) (fun _ => ?_) (fun _ => ?_)
        · refine gf_ca (Q := (gp_Zq (S.2.2 5))) (fun _ => True) trivial (fun _ _ _ => ?_)
          exact h
        · refine gf_ca (Q := (gp_Zq (S.2.2 5))) (gp_Zq (S.2.2 5)) (gp_Z_primary' _ _ rfl h) (fun _ _ hq1 => ?_)
          exact hq1
    · refine gf_ca (Q := (gp_Zq (S.2.2 5))) (fun _ => True) trivial (fun _ _ _ => ?_)
      refine gf_if (Q := (gp_Zq (S.2.2 5))) (fun _ => ?_) (fun _ => ?_)
      · refine gf_if (Q := (gp_Zq (S.2.2 5))) (fun _ => ?_) (fun _ => ?_)
        · refine gf_ca (Q := (gp_Zq (S.2.2 5))) (fun _ => True) trivial (fun _ _ _ => ?_)
          exact h
        · refine gf_ca (Q := (gp_Zq (S.2.2 5))) (fun _ => True) trivial (fun _ _ _ => ?_)
          refine gf_if (Q := (gp_Zq (S.2.2 5))) (fun _ => ?_) (fun _ => ?_)
          · refine gf_ca (Q := (gp_Zq (S.2.2 5))) (fun _ => True) trivial (fun _ _ _ => ?_)
            exact h
          · refine gf_ca (Q := (gp_Zq (S.2.2 5))) (gp_Zq (S.2.2 5)) (gp_Z_primary' _ _ rfl h) (fun _ _ hq2 => ?_)
            exact hq2
      · refine gf_ca (Q := (gp_Zq (S.2.2 5))) (fun _ => True) trivial (fun _ _ _ => ?_)
        refine gf_ca (Q := (gp_Zq (S.2.2 5))) (fun _ => True) trivial (fun _ _ _ => ?_)
        refine gf_if (Q := (gp_Zq (S.2.2 5))) (fun _ => ?_) (fun _ => ?_)
        · refine gf_if (Q := (gp_Zq (S.2.2 5))) (fun _ => ?_) (fun _ => ?_)
          · refine gf_ca (Q := (gp_Zq (S.2.2 5))) (fun z : Int32 × gm_S => ∀ k, k ≠ Int32.toNatClampNeg r4 → z.2.2.1 17 k = U.2.1 17 k ∧ z.2.2.1 18 k = U.2.1 18 k) (gz_include r4 _ _ _) (fun _ _ hq3 => ?_)
            exact ih _ _ (gp_Z_inc h hk hq3) hk
          · refine gf_if (Q := (gp_Zq (S.2.2 5))) (fun _ => ?_) (fun _ => ?_)
            · refine gf_ca (Q := (gp_Zq (S.2.2 5))) (fun z : Int32 × gm_S => ∀ k, k ≠ Int32.toNatClampNeg r4 → z.2.2.1 17 k = U.2.1 17 k ∧ z.2.2.1 18 k = U.2.1 18 k) (gz_include r4 _ _ _) (fun _ _ hq4 => ?_)
              exact ih _ _ (gp_Z_inc h hk hq4) hk
            · refine gf_if (Q := (gp_Zq (S.2.2 5))) (fun _ => ?_) (fun _ => ?_)
              · refine gf_ca (Q := (gp_Zq (S.2.2 5))) (fun z : Int32 × gm_S => ∀ k, k ≠ Int32.toNatClampNeg r4 → z.2.2.1 17 k = U.2.1 17 k ∧ z.2.2.1 18 k = U.2.1 18 k) (gz_include r4 _ _ _) (fun _ _ hq5 => ?_)
                exact ih _ _ (gp_Z_inc h hk hq5) hk
              · refine gf_ca (Q := (gp_Zq (S.2.2 5))) (fun z : Int32 × gm_S => ∀ k, k ≠ Int32.toNatClampNeg r4 → z.2.2.1 17 k = U.2.1 17 k ∧ z.2.2.1 18 k = U.2.1 18 k) (gz_include r4 _ _ _) (fun _ _ hq6 => ?_)
                exact ih _ _ (gp_Z_inc h hk hq6) hk
        · refine gf_ca (Q := (gp_Zq (S.2.2 5))) (fun z : Int32 × gm_S => ∀ k, k ≠ Int32.toNatClampNeg r4 → z.2.2.1 17 k = U.2.1 17 k ∧ z.2.2.1 18 k = U.2.1 18 k) (gz_include r4 _ _ _) (fun _ _ hq7 => ?_)
          exact ih _ _ (gp_Z_inc h hk hq7) hk
theorem gp_Z_readClass (S : gm_S) (h : gp_Z (S.2.2 5) (S.1 9) (S.1 10) (S.2.1 17) (S.2.1 18)) : gp_Zq (S.2.2 5) (gm_f_MD_readClass S) := by
  unfold gm_f_MD_readClass
  refine gf_ca (Q := gp_Zq (S.2.2 5)) (gp_Zk (S.2.2 5) 2) (gp_Z_createB' _ _ _ _ rfl h) (fun r u hu => ?_)
  exact gp_Z_cls20 _ _ _ _ _ _ hu.1 hu.2
theorem gp_Z_readClass' {F : Int32} (S : gm_S) (e : S.2.2 5 = F) (h : gp_Z F (S.1 9) (S.1 10) (S.2.1 17) (S.2.1 18)) : gp_Zq F (gm_f_MD_readClass S) := by
  subst e
  exact gp_Z_readClass  S h
theorem gp_Z_sign39 (x : Int32) (S U : gm_S) (h : gp_Z (S.2.2 5) (U.1 9) (U.1 10) (U.2.1 17) (U.2.1 18)) : gp_Zq (S.2.2 5) (gm_f_MD_readSign_j39 x S U) := by
  unfold gm_f_MD_readSign_j39
  refine gf_if (Q := gp_Zq (S.2.2 5)) (fun _ => h) (fun _ => ?_)
  refine gf_if (Q := gp_Zq (S.2.2 5)) (fun _ => h) (fun _ => ?_)
  refine gf_if (Q := gp_Zq (S.2.2 5)) (fun _ => ?_) (fun _ => ?_)
  · exact gf_ca (Q := gp_Zq (S.2.2 5)) (gp_Zq (S.2.2 5)) (gp_Z_endSequence' _ rfl h) (fun _ _ hu => hu)
  · exact gf_ca (Q := gp_Zq (S.2.2 5)) (gp_Zq (S.2.2 5)) (gp_Z_close' _ rfl h) (fun _ _ hu => hu)
theorem gp_Z_readSign (x : Int32) (S : gm_S) (h : gp_Z (S.2.2 5) (S.1 9) (S.1 10) (S.2.1 17) (S.2.1 18)) : gp_Zq (S.2.2 5) (gm_f_MD_readSign x S) := by
  unfold gm_f_MD_readSign
  refine gf_if (Q := gp_Zq (S.2.2 5)) (fun _ => gp_Z_sign39 _ _ _ h) (fun _ => ?_)
  refine gf_if (Q := gp_Zq (S.2.2 5)) (fun _ => gp_Z_sign39 _ _ _ h) (fun _ => ?_)
  refine gf_if (Q := gp_Zq (S.2.2 5)) (fun _ => gp_Z_sign39 _ _ _ h) (fun _ => ?_)
  refine gf_ca (Q := gp_Zq (S.2.2 5)) (fun _ => True) trivial (fun _ _ _ => ?_)
  refine gf_if (Q := gp_Zq (S.2.2 5)) (fun _ => gp_Z_sign39 _ _ _ h) (fun _ => ?_)
  exact gf_ca (Q := gp_Zq (S.2.2 5)) (fun _ => True) trivial (fun _ _ _ => h)
theorem gp_Z_readSign' {F : Int32} (x : Int32) (S : gm_S) (e : S.2.2 5 = F) (h : gp_Z F (S.1 9) (S.1 10) (S.2.1 17) (S.2.1 18)) : gp_Zq F (gm_f_MD_readSign x S) := by
  subst e
  exact gp_Z_readSign x S h
theorem gp_Z_part206 (S : gm_S) (r1 : Int32) (u1 W U : gm_S) (h : gp_Z (S.2.2 5) (U.1 9) (U.1 10) (U.2.1 17) (U.2.1 18)) : gp_Zq (S.2.2 5) (gm_f_MD_readPart_j206 S r1 u1 W U) := by
  unfold gm_f_MD_readPart_j206
  refine gf_if (Q := gp_Zq (S.2.2 5)) (fun _ => ?_) (fun _ => ?_)
  · exact gf_ca (Q := gp_Zq (S.2.2 5)) (gp_Zq (S.2.2 5)) (gp_Z_readSign' _ _ rfl h) (fun _ _ hu => hu)
  · exact gf_ca (Q := gp_Zq (S.2.2 5)) (fun _ => True) trivial (fun _ _ _ => h)
theorem gp_Z_part120 (S : gm_S) (r1 : Int32) (u1 W U : gm_S) (h : gp_Z (S.2.2 5) (U.1 9) (U.1 10) (U.2.1 17) (U.2.1 18)) : gp_Zq (S.2.2 5) (gm_f_MD_readPart_j120 S r1 u1 W U) := by
  unfold gm_f_MD_readPart_j120
  refine gf_if (Q := gp_Zq (S.2.2 5)) (fun _ => ?_) (fun _ => ?_)
  · exact gp_Z_part206 _ _ _ _ _ h
  · exact h
theorem gp_Z_part41 (S : gm_S) (r1 : Int32) (u1 U : gm_S) (h : gp_Z (S.2.2 5) (U.1 9) (U.1 10) (U.2.1 17) (U.2.1 18)) : gp_Zq (S.2.2 5) (gm_f_MD_readPart_j41 S r1 u1 U) := by
  unfold gm_f_MD_readPart_j41
  refine gf_if (Q := (gp_Zq (S.2.2 5))) (fun _ => ?_) (fun _ => ?_)
  · refine gf_ca (Q := gp_Zq (S.2.2 5)) (gp_Zk (S.2.2 5) 2) ?_ ?_
    · exact gp_Z_createB' _ _ _ _ rfl (by exact h)
    intro r u hu
    refine gf_ca (Q := gp_Zq (S.2.2 5)) (fun z : Int32 × gm_S => ∀ k, k ≠ Int32.toNatClampNeg r → z.2.2.1 17 k = u.2.1 17 k ∧ z.2.2.1 18 k = u.2.1 18 k) ?_ ?_
    · exact gz_include r _ _ _
    intro r5 u5 h5
    refine gf_ca (Q := gp_Zq (S.2.2 5)) (gp_Zq (S.2.2 5)) ?_ (fun _ _ hu => hu)
    exact gp_Z_primary' _ _ rfl (by exact gp_Z_inc hu.1 hu.2 h5)
  · refine gf_if (Q := (gp_Zq (S.2.2 5))) (fun _ => ?_) (fun _ => ?_)
    · refine gf_ca (Q := (gp_Zq (S.2.2 5))) (gp_Zq (S.2.2 5)) ?_ (fun _ _ hq3 => hq3)
      exact gp_Z_readRow' _ rfl (by exact h)
    · refine gf_if (Q := (gp_Zq (S.2.2 5))) (fun _ => ?_) (fun _ => ?_)
      · refine gf_ca (Q := (gp_Zq (S.2.2 5))) (gp_Zq (S.2.2 5)) ?_ (fun _ _ hq4 => hq4)
        exact gp_Z_readClass' _ rfl (by exact h)
      · refine gf_if (Q := (gp_Zq (S.2.2 5))) (fun _ => ?_) (fun _ => ?_)
        · exact gp_Z_part120 _ _ _ _ _ (by exact h)
        · refine gf_if (Q := (gp_Zq (S.2.2 5))) (fun _ => ?_) (fun _ => ?_)
          · exact gp_Z_part120 _ _ _ _ _ (by exact h)
          · exact gp_Z_part206 _ _ _ _ _ (by exact h)
theorem gp_Z_readPart (S : gm_S) (h : gp_Z (S.2.2 5) (S.1 9) (S.1 10) (S.2.1 17) (S.2.1 18)) : gp_Zq (S.2.2 5) (gm_f_MD_readPart S) := by
  unfold gm_f_MD_readPart
  refine gf_ca (Q := gp_Zq (S.2.2 5)) (fun _ => True) trivial (fun _ _ _ => ?_)
  refine gf_if (Q := gp_Zq (S.2.2 5)) (fun _ => gp_Z_part41 _ _ _ _ h) (fun _ => ?_)
  refine gf_if (Q := gp_Zq (S.2.2 5)) (fun _ => gp_Z_part41 _ _ _ _ h) (fun _ => ?_)
  refine gf_ca (Q := gp_Zq (S.2.2 5)) (gp_Zq (S.2.2 5)) (gp_Z_create' _ _ _ _ rfl h) (fun _ _ hu => ?_)
  exact gf_ca (Q := gp_Zq (S.2.2 5)) (gp_Zq (S.2.2 5)) (gp_Z_primary' _ _ rfl hu) (fun _ _ hu => hu)
theorem gp_Z_readPart' {F : Int32} (S : gm_S) (e : S.2.2 5 = F) (h : gp_Z F (S.1 9) (S.1 10) (S.2.1 17) (S.2.1 18)) : gp_Zq F (gm_f_MD_readPart S) := by
  subst e
  exact gp_Z_readPart  S h
theorem gp_Z_rule130 (S : gm_S) (r1 : Int32) (u1 : gm_S) (r37 : Int32) (u37 : gm_S) (r60 : Int32) (u60 : gm_S) : ∀ (n : Nat) (U : gm_S), gp_Z (S.2.2 5) (U.1 9) (U.1 10) (U.2.1 17) (U.2.1 18) → gp_Zq (S.2.2 5) (gm_f_MD_readRule_130 S r1 u1 r37 u37 r60 u60 n U) := by
  intro n
  induction n with
  | zero => intro U h; exact h
  | succ n ih =>
    intro U h
    rw [gm_f_MD_readRule_130]
    refine gf_if (Q := (gp_Zq (S.2.2 5))) (fun _ => ?_) (fun _ => ?_)
    · refine gf_if (Q := (gp_Zq (S.2.2 5))) (fun _ => ?_) (fun _ => ?_)
      · refine gf_if (Q := (gp_Zq (S.2.2 5))) (fun _ => ?_) (fun _ => ?_)
        · exact h
        · exact h
      · refine gf_ca (Q := (gp_Zq (S.2.2 5))) (gp_Zq (S.2.2 5)) (gp_Z_readPart' _ rfl h) (fun _ _ hq1 => ?_)
        exact ih _ hq1
    · refine gf_if (Q := (gp_Zq (S.2.2 5))) (fun _ => ?_) (fun _ => ?_)
      · exact h
      · exact h
theorem gp_Z_readRule (S : gm_S) (h : gp_Z (S.2.2 5) (S.1 9) (S.1 10) (S.2.1 17) (S.2.1 18)) : gp_Zq (S.2.2 5) (gm_f_MD_readRule S) := by
  have j44 : ∀ r1 u1, gp_Zq (S.2.2 5) (gm_f_MD_readRule_j44 S r1 u1 S) := by
    intro r1 u1
    unfold gm_f_MD_readRule_j44
    exact gf_ca (Q := gp_Zq (S.2.2 5)) (fun _ => True) trivial (fun _ _ _ => h)
  unfold gm_f_MD_readRule
  refine gf_ca (Q := gp_Zq (S.2.2 5)) (fun _ => True) trivial (fun _ _ _ => ?_)
  refine gf_if (Q := gp_Zq (S.2.2 5)) (fun _ => j44 _ _) (fun _ => ?_)
  refine gf_if (Q := gp_Zq (S.2.2 5)) (fun _ => j44 _ _) (fun _ => ?_)
  refine gf_if (Q := gp_Zq (S.2.2 5)) (fun _ => j44 _ _) (fun _ => ?_)
  refine gf_ca (Q := gp_Zq (S.2.2 5)) (fun _ => True) trivial (fun _ _ _ => ?_)
  refine gf_if (Q := gp_Zq (S.2.2 5)) (fun _ => ?_) (fun _ => j44 _ _)
  refine gf_ca (Q := gp_Zq (S.2.2 5)) (fun _ => True) trivial (fun _ _ _ => ?_)
  refine gf_if (Q := gp_Zq (S.2.2 5)) (fun _ => ?_) (fun _ => ?_)
  · exact gp_Z_rule130 _ _ _ _ _ _ _ _ _ h
  · exact gf_ca (Q := gp_Zq (S.2.2 5)) (fun _ => True) trivial (fun _ _ _ => h)
theorem gp_Z_readRule' {F : Int32} (S : gm_S) (e : S.2.2 5 = F) (h : gp_Z F (S.1 9) (S.1 10) (S.2.1 17) (S.2.1 18)) : gp_Zq F (gm_f_MD_readRule S) := by
  subst e
  exact gp_Z_readRule  S h
/-- and the half stays the same -/
def gp_Zf (F : Int32) (z : Int32 × gm_S) : Prop := gp_Zq F z
theorem gp_Z_read46 (S : gm_S) (F : Int32) : ∀ (n : Nat) (U : gm_S), U.2.2 5 = F → gp_Z F (U.1 9) (U.1 10) (U.2.1 17) (U.2.1 18) → gp_Zq F (gm_f_MD_read_46 S n U) := by
  intro n
  induction n with
  | zero => intro U _ h; exact h
  | succ n ih =>
    intro U e h
    subst e
    rw [gm_f_MD_read_46]
    refine gf_if (Q := (gp_Zq (U.2.2 5))) (fun _ => ?_) (fun _ => ?_)
    · refine gf_if (Q := (gp_Zq (U.2.2 5))) (fun _ => ?_) (fun _ => ?_)
      · refine gf_ca (Q := (gp_Zq (U.2.2 5))) (gp_Zq (U.2.2 5)) (gp_Z_readRule' _ rfl h) (fun _ _ hq1 => ?_)
        exact ih _ rfl hq1
      · refine gf_if (Q := (gp_Zq (U.2.2 5))) (fun _ => ?_) (fun _ => ?_)
        · refine gf_ca (Q := (gp_Zq (U.2.2 5))) (gp_Zq (U.2.2 5)) (gp_Z_readRule' _ rfl h) (fun _ _ hq2 => ?_)
          exact ih _ rfl hq2
        · refine gf_if (Q := (gp_Zq (U.2.2 5))) (fun _ => ?_) (fun _ => ?_)
          · exact h
          · exact h
    · refine gf_if (Q := (gp_Zq (U.2.2 5))) (fun _ => ?_) (fun _ => ?_)
      · exact h
      · exact h
theorem gp_Z_read46a (S : gm_S) (F : Int32) : ∀ (n : Nat) (U : gm_S), U.2.2 5 = F → gp_Z F (U.1 9) (U.1 10) (U.2.1 17) (U.2.1 18) → gp_Zq F (gm_f_MD_read_46_a S n U) := by
  intro n
  induction n with
  | zero => intro U _ h; exact h
  | succ n ih =>
    intro U e h
    subst e
    rw [gm_f_MD_read_46_a]
    refine gf_if (Q := (gp_Zq (U.2.2 5))) (fun _ => ?_) (fun _ => ?_)
    · refine gf_if (Q := (gp_Zq (U.2.2 5))) (fun _ => ?_) (fun _ => ?_)
      · refine gf_ca (Q := (gp_Zq (U.2.2 5))) (gp_Zq (U.2.2 5)) (gp_Z_readRule' _ rfl h) (fun _ _ hq1 => ?_)
        exact ih _ rfl hq1
      · refine gf_if (Q := (gp_Zq (U.2.2 5))) (fun _ => ?_) (fun _ => ?_)
        · refine gf_ca (Q := (gp_Zq (U.2.2 5))) (gp_Zq (U.2.2 5)) (gp_Z_readRule' _ rfl h) (fun _ _ hq2 => ?_)
          exact ih _ rfl hq2
        · refine gf_if (Q := (gp_Zq (U.2.2 5))) (fun _ => ?_) (fun _ => ?_)
          · exact h
          · exact h
    · refine gf_if (Q := (gp_Zq (U.2.2 5))) (fun _ => ?_) (fun _ => ?_)
      · exact h
      · exact h
theorem gp_Z_0 (fr : Int32) (pa kd : Nat → Int32) (lw hg : Nat → Int64) : gp_Z fr (upd pa (Int32.toNatClampNeg fr) 0) kd lw hg := ⟨0, by rw [gx_us]; rfl, fun j hj => absurd hj (by omega)⟩
theorem gp_Z_read (S : gm_S) : gp_Zq (if S.2.2 4 = 0 then 1 else 0) (gm_f_MD_read S) := by
  unfold gm_f_MD_read
  by_cases q : S.2.2 4 = 0
  · rw [if_pos q, if_pos q]
    exact gp_Z_read46a _ _ _ _ rfl (gp_Z_0 _ _ _ _ _)
  · rw [if_neg q, if_neg q]
    exact gp_Z_read46 _ _ _ _ rfl (gp_Z_0 _ _ _ _ _)
/-- a part that is no set has no bits -/
def gr_zz (B M : Nat) (kd : Nat → Int32) (lw hg : Nat → Int64) : Prop := ∀ n, B ≤ n → n < M → (kd n).toInt ≠ 2 → lw n = 0 ∧ hg n = 0
theorem gr_zz_of {fr : Int32} {pa kd : Nat → Int32} {lw hg : Nat → Int64} (h : gp_Z fr pa kd lw hg) (hf : 0 ≤ fr.toInt) (hf2 : fr.toInt ≤ 1) (hp : 0 ≤ (pa (Int32.toNatClampNeg fr)).toInt) (hp2 : (pa (Int32.toNatClampNeg fr)).toInt ≤ 150) : gr_zz (gp_B fr) (gp_M fr pa) kd lw hg := by
  obtain ⟨J, h1, h2⟩ := h
  intro n n1 n2 hk
  have cf := gx_cl fr hf
  have cp := gx_cl _ hp
  have hB : gp_B fr = 160 * Int32.toNatClampNeg fr := rfl
  have hM : gp_M fr pa = 160 * Int32.toNatClampNeg fr + Int32.toNatClampNeg (pa (Int32.toNatClampNeg fr)) := rfl
  have hJ : (pa (Int32.toNatClampNeg fr)).toInt = (J : Int).bmod (2 ^ 32) := by rw [h1]; exact Int32.toInt_ofNat'
  have hJ2 : Int32.toNatClampNeg (pa (Int32.toNatClampNeg fr)) ≤ J := by
    have : (J : Int).bmod (2 ^ 32) ≤ J := by
      rw [Int.bmod_def]
      split <;> omega
    omega
  have m := gx_mk 160 fr 160 (gx_lit 160 (by decide))
  have e : (Int32.ofNat (n - 160 * Int32.toNatClampNeg fr)).toInt = ((n - 160 * Int32.toNatClampNeg fr : Nat) : Int) := by
    rw [Int32.toInt_ofNat_of_lt]
    omega
  have a := gx_ad (160 * fr) (Int32.ofNat (n - 160 * Int32.toNatClampNeg fr))
  have v : (160 * fr + Int32.ofNat (n - 160 * Int32.toNatClampNeg fr)).toInt = (n : Int) := by omega
  have c := gx_cl (160 * fr + Int32.ofNat (n - 160 * Int32.toNatClampNeg fr)) (by omega)
  have en : Int32.toNatClampNeg (160 * fr + Int32.ofNat (n - 160 * Int32.toNatClampNeg fr)) = n := by omega
  have w := h2 (n - 160 * Int32.toNatClampNeg fr) (by omega)
  rw [en] at w
  exact w (fun t => hk (by rw [t]; exact gx_lit 2 (by decide)))
