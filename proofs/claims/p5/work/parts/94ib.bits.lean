/-! What include puts into a set of the reference. -/
theorem gr_nI {v : Int32} {k : Nat} (h : v.toInt = k) (hk : k < 2147483648) : v = nI k := Int32.toInt_inj.mp (h.trans (nI_toInt hk).symm)
def gr_I (U : gm_S) (n k W : Nat) (z : Int32 × gm_S) : Prop := ∀ c : Int, 32 ≤ c → c ≤ 126 → (gp_ih (z.2.2.1 17) (z.2.2.1 18) n c ↔ (gp_ih (U.2.1 17) (U.2.1 18) n c ∨ ((k : Int) ≤ c ∧ c ≤ W)))
theorem gr_inc3 (x y w : Int32) (S : gm_S) {n W : Nat} (hx : Int32.toNatClampNeg x = n) (hw : w.toInt = W) (hW : W ≤ 126) : ∀ (f k : Nat) (v : Int32) (U : gm_S), v.toInt = k → 32 ≤ k → k ≤ W + 1 → W + 1 < f + k → gr_I U n k W (gm_f_MD_include_3 x y w S f v U) := by
  intro f
  induction f with
  | zero => intro k v U _ _ h1 h2; exact absurd h2 (by omega)
  | succ f ih =>
    intro k v U hv h0 h1 h2
    rw [gm_f_MD_include_3]
    have av := gx_ak v 1 1 (by decide)
    by_cases q : k = W + 1
    · have l : w < v := by rw [Int32.lt_iff_toInt_lt]; omega
      rw [if_pos l]
      refine fun c c1 c2 => ⟨fun h => Or.inl h, fun h => ?_⟩
      rcases h with h | h
      · exact h
      · omega
    · have l : ¬ w < v := by rw [Int32.lt_iff_toInt_lt]; omega
      rw [if_neg l, hx]
      have ev := gr_nI hv (by omega)
      by_cases h64 : 96 ≤ k
      · have l2 : (96 : Int32) ≤ v := by rw [Int32.le_iff_toInt_le, gx_lit 96 (by decide)]; omega
        rw [if_pos l2]
        have i4 := ih (k + 1) (v + 1) (S.1, (va_up (va_up S.2.1 17 (U.2.1 17)) 18 (vp_updL (U.2.1 18) n (((U.2.1 18) n) ||| (1 <<< ((v - 96).toInt64 &&& 63))))), S.2.2) (by omega) (by omega) (by omega) (by omega)
        intro c c1 c2
        refine (i4 c c1 c2).trans ?_
        have b : gp_ih (U.2.1 17) (vp_updL (U.2.1 18) n (((U.2.1 18) n) ||| (1 <<< ((v - 96).toInt64 &&& 63)))) n c ↔ (gp_ih (U.2.1 17) (U.2.1 18) n c ∨ c = (k : Int)) := by
          unfold gp_ih
          rw [gx_lus, gp_bl_or, ev, show k = (k - 96) + 96 by omega]
          constructor
          · rintro (h | ⟨h1, h2, h3⟩)
            · exact Or.inl (Or.inl h)
            · rw [gp_sh_hi (k - 96) (by omega) _ (by omega), Bool.or_eq_true] at h3
              rcases h3 with h3 | h3
              · exact Or.inl (Or.inr ⟨h1, h2, h3⟩)
              · have := of_decide_eq_true h3
                exact Or.inr (by omega)
          · rintro ((h | ⟨h1, h2, h3⟩) | h)
            · exact Or.inl h
            · exact Or.inr ⟨h1, h2, by rw [h3]; rfl⟩
            · refine Or.inr ⟨by omega, by omega, ?_⟩
              rw [gp_sh_hi (k - 96) (by omega) _ (by omega), Bool.or_eq_true]
              exact Or.inr (decide_eq_true (by omega))
        show (gp_ih (U.2.1 17) (vp_updL (U.2.1 18) n (((U.2.1 18) n) ||| (1 <<< ((v - 96).toInt64 &&& 63)))) n c ∨ _) ↔ _
        rw [b]
        constructor
        · rintro ((h | h) | h)
          · exact Or.inl h
          · exact Or.inr (by omega)
          · exact Or.inr (by omega)
        · rintro (h | h)
          · exact Or.inl (Or.inl h)
          · by_cases w : c = (k : Int)
            · exact Or.inl (Or.inr w)
            · exact Or.inr (by omega)
      · have l2 : ¬ (96 : Int32) ≤ v := by rw [Int32.le_iff_toInt_le, gx_lit 96 (by decide)]; omega
        rw [if_neg l2]
        have i4 := ih (k + 1) (v + 1) (S.1, (va_up (va_up S.2.1 17 (vp_updL (U.2.1 17) n (((U.2.1 17) n) ||| (1 <<< ((v - 32).toInt64 &&& 63))))) 18 (U.2.1 18)), S.2.2) (by omega) (by omega) (by omega) (by omega)
        intro c c1 c2
        refine (i4 c c1 c2).trans ?_
        have b : gp_ih (vp_updL (U.2.1 17) n (((U.2.1 17) n) ||| (1 <<< ((v - 32).toInt64 &&& 63)))) (U.2.1 18) n c ↔ (gp_ih (U.2.1 17) (U.2.1 18) n c ∨ c = (k : Int)) := by
          unfold gp_ih
          rw [gx_lus, gp_bl_or, ev, show k = (k - 32) + 32 by omega]
          constructor
          · rintro (⟨h1, h2, h3⟩ | h)
            · rw [gp_sh_lo (k - 32) (by omega) _ (by omega), Bool.or_eq_true] at h3
              rcases h3 with h3 | h3
              · exact Or.inl (Or.inl ⟨h1, h2, h3⟩)
              · have := of_decide_eq_true h3
                exact Or.inr (by omega)
            · exact Or.inl (Or.inr h)
          · rintro ((⟨h1, h2, h3⟩ | h) | h)
            · exact Or.inl ⟨h1, h2, by rw [h3]; rfl⟩
            · exact Or.inr h
            · refine Or.inl ⟨by omega, by omega, ?_⟩
              rw [gp_sh_lo (k - 32) (by omega) _ (by omega), Bool.or_eq_true]
              exact Or.inr (decide_eq_true (by omega))
        show (gp_ih (vp_updL (U.2.1 17) n (((U.2.1 17) n) ||| (1 <<< ((v - 32).toInt64 &&& 63)))) (U.2.1 18) n c ∨ _) ↔ _
        rw [b]
        constructor
        · rintro ((h | h) | h)
          · exact Or.inl h
          · exact Or.inr (by omega)
          · exact Or.inr (by omega)
        · rintro (h | h)
          · exact Or.inl (Or.inl h)
          · by_cases w : c = (k : Int)
            · exact Or.inl (Or.inr w)
            · exact Or.inr (by omega)
/-- include: characters from y to w -/
theorem gr_incl (x y w : Int32) (S0 S : gm_S) {n k W : Nat} (e17 : S.2.1 17 = S0.2.1 17) (e18 : S.2.1 18 = S0.2.1 18) (hx : Int32.toNatClampNeg x = n) (hy : y.toInt = k) (hw : w.toInt = W) (h32 : 32 ≤ k) (hkW : k ≤ W) (hW : W ≤ 126) : gr_I S0 n k W (gm_f_MD_include x y w S) := by
  unfold gm_f_MD_include
  have h := gr_inc3 x y w S hx hw hW 200 k y S hy h32 (by omega) (by omega)
  unfold gr_I at h ⊢
  rw [e17, e18] at h
  exact h
