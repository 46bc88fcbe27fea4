/-! A full table: what a cell is made of. -/
/-- all that is known of a full table -/
def gp_FT (S : gm_S) (P fed : Nat) (rk : Nat → Nat) (t : Nat) : Prop := gp_FI (S.1 10) (S.1 11) (S.1 12) (gp_Mz S) (gp_So S fed) (gp_Sr S fed) (gp_Bs S) P fed (S.1 34) (S.1 35) rk t ∧ ∀ k q, k < P → q ≤ fed → ¬ gp_Tb (gp_Bs S) (S.1 34) (gp_Bs S + k) q = -3
/-- a cell where something is taken -/
def gp_vc (S : gm_S) (P fed : Nat) (m q : Nat) : Prop := gp_Bs S ≤ m ∧ m < gp_Bs S + P ∧ q ≤ fed ∧ 0 ≤ gp_Tb (gp_Bs S) (S.1 34) m q
theorem gp_vc_sd {S : gm_S} {P fed : Nat} (hC : gp_WC S P fed) {rk : Nat → Nat} {t : Nat} (h : gp_FT S P fed rk t) {m q : Nat} (hm : gp_Bs S ≤ m) (hm2 : m < gp_Bs S + P) (hq : q ≤ fed) : gp_sd (S.1 15) (S.1 33) (S.2.1 17) (S.2.1 18) fed (gp_Tb (gp_Bs S) (S.1 34) m q) m q := by
  have e : gp_Bs S + (m - gp_Bs S) = m := by omega
  have k := h.2 (m - gp_Bs S) q (by omega) hq
  have a := h.1 (m - gp_Bs S) q (by omega) hq k
  have := gp_FI_sd hC.2.2.2.2 h.1 t (m - gp_Bs S) q (by omega) hq a.1 k
  rw [e] at this
  exact this
theorem gp_vc_eq {S : gm_S} {P fed : Nat} {rk : Nat → Nat} {t : Nat} (h : gp_FT S P fed rk t) {m q : Nat} (hm : gp_Bs S ≤ m) (hm2 : m < gp_Bs S + P) (hq : q ≤ fed) : ∃ w : Int, gp_cell (S.1 10) (S.1 11) (S.1 12) (gp_Mz S) (gp_So S fed) (gp_Sr S fed) (gp_Tb (gp_Bs S) (S.1 34)) (gp_Tb (gp_Bs S) (S.1 35)) (gp_okc (gp_Bs S) P fed (S.1 34) rk (rk (11 * (m - gp_Bs S) + q))) m q (gp_Tb (gp_Bs S) (S.1 34) m q) w := by
  have e : gp_Bs S + (m - gp_Bs S) = m := by omega
  have k := h.2 (m - gp_Bs S) q (by omega) hq
  obtain ⟨-, w, -, -, a⟩ := h.1 (m - gp_Bs S) q (by omega) hq k
  rw [e] at a
  exact ⟨w, a⟩
/-- a part that can't begin takes nothing -/
theorem gp_out_f {S : gm_S} {P fed : Nat} (hC : gp_WC S P fed) {rk : Nat → Nat} {t : Nat} (h : gp_FT S P fed rk t) {m q : Nat} (hm : gp_Bs S ≤ m) (hm2 : m < gp_Bs S + P) (hq : q ≤ fed) (ho : gp_So S fed m q) : gp_Tb (gp_Bs S) (S.1 34) m q = -1 := by
  rcases gp_vc_sd hC h hm hm2 hq with s | ⟨s1, s2, s3, s4⟩
  · exact s
  · exfalso
    obtain ⟨o1, o2⟩ := ho
    by_cases z : gp_Tb (gp_Bs S) (S.1 34) m q = 0
    · have := s3 z
      rw [o1] at this
      exact absurd this (by decide)
    · have hd := s4 (by omega)
      rcases o2 with o2 | o2
      · omega
      · exact o2 hd
/-- the cells below a cell, as captures are gathered: c1 at the same place, c2 behind it; none is (0, 0) -/
def gp_kid (S : gm_S) (P fed : Nat) (rk : Nat → Nat) (m q m' q' : Nat) : Prop := gp_vc S P fed m' q' ∧ rk (11 * (m' - gp_Bs S) + q') < rk (11 * (m - gp_Bs S) + q) ∧ q ≤ q'
theorem gp_kid_of {S : gm_S} {P fed : Nat} {rk : Nat → Nat} {m q m' q' : Nat} (h : gp_okc (gp_Bs S) P fed (S.1 34) rk (rk (11 * (m - gp_Bs S) + q)) m' q') (h0 : 0 ≤ gp_Tb (gp_Bs S) (S.1 34) m' q') (hq : q ≤ q') : gp_kid S P fed rk m q m' q' := ⟨⟨h.1, h.2.1, h.2.2.1, h0⟩, h.2.2.2.2, hq⟩
/-- what gather goes down to, by kinds -/
theorem gp_down {S : gm_S} {P fed : Nat} (hC : gp_WC S P fed) {rank : Nat → Nat} (RK : gp_RK (S.1 10) (S.1 11) (S.1 12) (gp_Mz S) (S.1 15) (gp_Bs S) P rank) {rk : Nat → Nat} {t : Nat} (h : gp_FT S P fed rk t) {m q : Nat} (hv : gp_vc S P fed m q) :
    ((S.1 10 m).toInt = 3 → gp_kid S P fed rk m q (Int32.toNatClampNeg (gp_Mz S m)) q ∧ gp_Tb (gp_Bs S) (S.1 34) m q = gp_Tb (gp_Bs S) (S.1 34) (Int32.toNatClampNeg (gp_Mz S m)) q) ∧
    ((S.1 10 m).toInt = 4 → gp_kid S P fed rk m q (Int32.toNatClampNeg (S.1 11 m)) q ∧ gp_kid S P fed rk m q (Int32.toNatClampNeg (S.1 12 m)) (q + (gp_Tb (gp_Bs S) (S.1 34) (Int32.toNatClampNeg (S.1 11 m)) q).toNat) ∧ gp_Tb (gp_Bs S) (S.1 34) m q = gp_Tb (gp_Bs S) (S.1 34) (Int32.toNatClampNeg (S.1 11 m)) q + gp_Tb (gp_Bs S) (S.1 34) (Int32.toNatClampNeg (S.1 12 m)) (q + (gp_Tb (gp_Bs S) (S.1 34) (Int32.toNatClampNeg (S.1 11 m)) q).toNat)) ∧
    ((S.1 10 m).toInt = 5 → (gp_Tb (gp_Bs S) (S.1 34) (Int32.toNatClampNeg (S.1 11 m)) q = -1 ∧ gp_kid S P fed rk m q (Int32.toNatClampNeg (S.1 12 m)) q ∧ gp_Tb (gp_Bs S) (S.1 34) m q = gp_Tb (gp_Bs S) (S.1 34) (Int32.toNatClampNeg (S.1 12 m)) q) ∨ (¬ gp_Tb (gp_Bs S) (S.1 34) (Int32.toNatClampNeg (S.1 11 m)) q = -1 ∧ gp_kid S P fed rk m q (Int32.toNatClampNeg (S.1 11 m)) q ∧ gp_Tb (gp_Bs S) (S.1 34) m q = gp_Tb (gp_Bs S) (S.1 34) (Int32.toNatClampNeg (S.1 11 m)) q)) ∧
    ((S.1 10 m).toInt = 6 → 0 ≤ gp_Tb (gp_Bs S) (S.1 34) (Int32.toNatClampNeg (S.1 11 m)) q → gp_kid S P fed rk m q (Int32.toNatClampNeg (S.1 11 m)) q ∧ gp_Tb (gp_Bs S) (S.1 34) m q = gp_Tb (gp_Bs S) (S.1 34) (Int32.toNatClampNeg (S.1 11 m)) q) ∧
    ((S.1 10 m).toInt = 7 → 0 < gp_Tb (gp_Bs S) (S.1 34) (Int32.toNatClampNeg (S.1 11 m)) q → gp_kid S P fed rk m q (Int32.toNatClampNeg (S.1 11 m)) q ∧ gp_kid S P fed rk m q m (q + (gp_Tb (gp_Bs S) (S.1 34) (Int32.toNatClampNeg (S.1 11 m)) q).toNat) ∧ gp_Tb (gp_Bs S) (S.1 34) m q = gp_Tb (gp_Bs S) (S.1 34) (Int32.toNatClampNeg (S.1 11 m)) q + gp_Tb (gp_Bs S) (S.1 34) m (q + (gp_Tb (gp_Bs S) (S.1 34) (Int32.toNatClampNeg (S.1 11 m)) q).toNat)) ∧
    ((S.1 10 m).toInt = 10 → gp_kid S P fed rk m q (Int32.toNatClampNeg (S.1 11 m)) q ∧ gp_Tb (gp_Bs S) (S.1 34) m q = gp_Tb (gp_Bs S) (S.1 34) (Int32.toNatClampNeg (S.1 11 m)) q ∧ 0 < gp_Tb (gp_Bs S) (S.1 34) m q) := by
  obtain ⟨v1, v2, v3, v4⟩ := hv
  obtain ⟨w, -, -, -, c3, c4, c5, c6, c7, -, -, c10⟩ := gp_vc_eq h v1 v2 v3
  obtain ⟨-, n4, n45, -, n3⟩ := hC.2.2.2.2.1 m v1 v2
  obtain ⟨-, -, -, -, r7⟩ := RK m v1 v2
  have star : (S.1 10 m).toInt = 7 → ∀ q', gp_Bs S ≤ m → q' ≤ fed → ¬ gp_Tb (gp_Bs S) (S.1 34) m q' = -1 := by
    intro k7 q' _ hq'
    obtain ⟨w', -, -, -, -, -, -, -, d7, -, -, -⟩ := gp_vc_eq h v1 v2 hq'
    rcases d7 k7 with d | ⟨-, o, d | ⟨d1, d2, d3, -⟩⟩
    · omega
    · omega
    · have a := gp_vc_sd hC h o.1 o.2.1 o.2.2.1
      intro e
      generalize gp_Tb (gp_Bs S) (S.1 34) (Int32.toNatClampNeg (S.1 11 m)) q' = va at *
      have s := gp_vc_sd hC h d2.1 d2.2.1 d2.2.2.1
      rcases s with s | ⟨s, -⟩
      · have z : ¬ va = 0 := by
          intro z
          rcases a with a | ⟨-, -, a, -⟩
          · omega
          · have := r7 (Or.inl k7)
            rw [a z] at this
            exact absurd this (by decide)
        omega
      · omega
  refine ⟨fun k => ?_, fun k => ?_, fun k => ?_, fun k => ?_, fun k => ?_, fun k => ?_⟩
  · obtain ⟨a, b, -⟩ := c3 k
    exact ⟨gp_kid_of a (by omega) (Nat.le_refl q), b⟩
  · obtain ⟨a, b⟩ := c4 k
    rcases b with b | ⟨b1, b2, -, b3⟩
    · omega
    · rcases b3 with b3 | ⟨b3, b4⟩
      · omega
      · have s := gp_vc_sd hC h b2.1 b2.2.1 b2.2.2.1
        have p : 0 ≤ gp_Tb (gp_Bs S) (S.1 34) (Int32.toNatClampNeg (S.1 12 m)) (q + (gp_Tb (gp_Bs S) (S.1 34) (Int32.toNatClampNeg (S.1 11 m)) q).toNat) := by
          rcases s with s | ⟨s, -⟩
          · exact absurd s b3
          · exact s
        exact ⟨gp_kid_of a b1 (Nat.le_refl q), gp_kid_of b2 p (by omega), b4⟩
  · rcases c5 k with ⟨-, a, b, c, -⟩ | ⟨-, a, b, d, c, -⟩ | ⟨o, d, c, -⟩
    · exact Or.inr ⟨b, gp_kid_of a (by omega) (Nat.le_refl q), c⟩
    · exact Or.inl ⟨b, gp_kid_of d (by omega) (Nat.le_refl q), c⟩
    · have x := n4 (by omega)
      exact Or.inl ⟨gp_out_f hC h x.1 (by omega) v3 o, gp_kid_of d (by omega) (Nat.le_refl q), c⟩
  · intro p
    rcases c6 k with ⟨o, -⟩ | ⟨-, a, -, b⟩
    · have x := n4 (by omega)
      have := gp_out_f hC h x.1 (by omega) v3 o
      omega
    · rcases b with b | b
      · omega
      · exact ⟨gp_kid_of a p (Nat.le_refl q), b.2⟩
  · intro p
    rcases c7 k with ⟨o, -⟩ | ⟨-, a, b⟩
    · have x := n4 (by omega)
      have := gp_out_f hC h x.1 (by omega) v3 o
      omega
    · rcases b with b | ⟨b1, b2, b3, -⟩
      · omega
      · have s := gp_vc_sd hC h b2.1 b2.2.1 b2.2.2.1
        have p' : 0 ≤ gp_Tb (gp_Bs S) (S.1 34) m (q + (gp_Tb (gp_Bs S) (S.1 34) (Int32.toNatClampNeg (S.1 11 m)) q).toNat) := by
          rcases s with s | ⟨s, -⟩
          · exact absurd s (star k _ v1 b2.2.2.1)
          · exact s
        exact ⟨gp_kid_of a (by omega) (Nat.le_refl q), gp_kid_of b2 p' (by omega), b3⟩
  · obtain ⟨a, b, -⟩ := c10 k
    have x := n4 (by omega)
    refine ⟨gp_kid_of a (by omega) (Nat.le_refl q), b, ?_⟩
    rcases gp_vc_sd hC h x.1 (by omega) v3 with s | ⟨-, -, s, -⟩
    · omega
    · have z : ¬ gp_Tb (gp_Bs S) (S.1 34) (Int32.toNatClampNeg (S.1 11 m)) q = 0 := fun z => by
        have := r7 (Or.inr k)
        rw [s z] at this
        exact absurd this (by decide)
      omega
