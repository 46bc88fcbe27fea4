/-! The class's reader: it looks at the text, and makes sets. -/
/-- the character at a place, as the class sees it -/
def gq_pk (tx : Nat → Int) (ty i : Nat) : Int := if i < ty then tx i else -1
theorem gq_pk_eq {tx : Nat → Int} {ty i : Nat} (c : Int) (hc : 0 < c) : gq_pk tx ty i = c ↔ gp_pk tx ty i = c := by
  unfold gq_pk gp_pk
  split
  · exact Iff.rfl
  · exact ⟨fun h => by omega, fun h => by omega⟩
theorem gq_pk_lt {tx : Nat → Int} {ty i : Nat} (h : 0 < gq_pk tx ty i) : i < ty ∧ gq_pk tx ty i = tx i ∧ gp_pk tx ty i = tx i := by
  unfold gq_pk gp_pk at *
  split at h
  · rename_i q
    exact ⟨q, if_pos q, if_pos q⟩
  · omega
theorem gq_pk_in {tx : Nat → Int} {ty i : Nat} (h : i < ty) : gq_pk tx ty i = tx i := if_pos h
theorem gq_pk_no {tx : Nat → Int} {ty i : Nat} (h : ¬ i < ty) : gq_pk tx ty i = -1 := if_neg h
theorem gq_at {tx : Nat → Int} {ty : Nat} (x : Int32) (T : gm_S) (ht : gp_tx (T.2.2 1) (T.1 0) tx ty) {a : Nat} (hx : x.toInt = a) : (gm_f_Row_at 50 x T).1.toInt = gq_pk tx ty a ∧ (gm_f_Row_at 50 x T).2 = T := by
  obtain ⟨t1, t2, t3⟩ := ht
  have z : (0 : Int32).toInt = 0 := by decide
  have c : Int32.toNatClampNeg x = a := gp_cl_n hx
  have l1 : ¬ x < 0 := by rw [Int32.lt_iff_toInt_lt]; omega
  unfold gm_f_Row_at
  rw [if_neg l1]
  by_cases q : a < ty
  · have l2 : ¬ T.2.2 1 ≤ x := by rw [Int32.le_iff_toInt_le]; omega
    rw [if_neg l2, c, gq_pk_in q]
    exact ⟨(t3 a q).1, rfl⟩
  · have l2 : T.2.2 1 ≤ x := by rw [Int32.le_iff_toInt_le]; omega
    rw [if_pos l2, gq_pk_no q]
    exact ⟨show (-1 : Int32).toInt = -1 by decide, rfl⟩
/-- take, of a reader that isn't wrong -/
theorem gq_take {tx : Nat → Int} {ty : Nat} (x : Int32) (S : gq_St) (ht : gp_tx (S.2.1.2.2 1) (S.2.1.1 0) tx ty) {a : Nat} (hw : S.1.2.2 5 = 0) (hx : (S.1.2.2 4).toInt = a) (ha : a ≤ 50) :
    (gq_pk tx ty a = x.toInt ∧ gm_f_Reader_take x S = (1, ((S.1.1, S.1.2.1, (va_up S.1.2.2 4 ((S.1.2.2 4) + 1))), S.2.1, S.2.2)) ∧ ((S.1.2.2 4) + 1).toInt = ((a + 1 : Nat) : Int)) ∨ (¬ gq_pk tx ty a = x.toInt ∧ gm_f_Reader_take x S = (0, (S.1, S.2.1, S.2.2))) := by
  have r := gq_at (S.1.2.2 4) S.2.1 ht hx
  have p := gx_ak (S.1.2.2 4) 1 1 (by decide)
  unfold gm_f_Reader_take gm_bd
  rw [if_pos hw]
  dsimp only
  by_cases q : (gm_f_Row_at 50 (S.1.2.2 4) S.2.1).1 = x
  · rw [if_pos q]
    exact Or.inl ⟨by rw [← r.1, q], rfl, by omega⟩
  · rw [if_neg q]
    exact Or.inr ⟨fun e => q (Int32.toInt_inj.mp (r.1.trans e)), rfl⟩
theorem gq_take_w (x : Int32) (S : gq_St) (hw : S.1.2.2 5 = 1) : gm_f_Reader_take x S = (0, (S.1, S.2.1, S.2.2)) := by
  unfold gm_f_Reader_take
  rw [hw]
  exact if_neg (show ¬ (1 : Int32) = 0 by decide)
/-- need: the character is there, or it is wrong from now on -/
theorem gq_need {tx : Nat → Int} {ty : Nat} (x : Int32) (S : gq_St) (ht : gp_tx (S.2.1.2.2 1) (S.2.1.1 0) tx ty) {a : Nat} (hw : S.1.2.2 5 = 0) (hx : (S.1.2.2 4).toInt = a) (ha : a ≤ 50) :
    (gq_pk tx ty a = x.toInt ∧ ((gm_f_Reader_need x S).2.1.2.2 4).toInt = ((a + 1 : Nat) : Int) ∧ (gm_f_Reader_need x S).2.1.2.2 5 = 0) ∨ (¬ gq_pk tx ty a = x.toInt ∧ ((gm_f_Reader_need x S).2.1.2.2 4).toInt = a ∧ (gm_f_Reader_need x S).2.1.2.2 5 = 1) := by
  unfold gm_f_Reader_need gm_bd
  rcases gq_take x (S.1, S.2.1, S.2.2) ht hw hx ha with ⟨q, e, v⟩ | ⟨q, e⟩
  · rw [e]
    dsimp only
    rw [if_neg (show ¬ (1 : Int32) = 0 by decide)]
    exact Or.inl ⟨q, v, hw⟩
  · rw [e]
    dsimp only
    rw [if_pos rfl]
    exact Or.inr ⟨q, hx, rfl⟩
theorem gq_need_w (x : Int32) (S : gq_St) (hw : S.1.2.2 5 = 1) : (gm_f_Reader_need x S).2.1.2.2 4 = S.1.2.2 4 ∧ (gm_f_Reader_need x S).2.1.2.2 5 = 1 := by
  unfold gm_f_Reader_need gm_bd
  rw [gq_take_w x (S.1, S.2.1, S.2.2) hw]
  dsimp only
  rw [if_pos rfl]
  exact ⟨rfl, rfl⟩
theorem gq_sh_lo : ∀ j : Nat, j < 64 → ∀ q : Nat, q < 64 → gp_bl (1 <<< ((nI j).toInt64 &&& 63)) q = decide (q = j) := by decide +kernel
theorem gq_sh_hi : ∀ j : Nat, j < 31 → ∀ q : Nat, q < 64 → gp_bl (1 <<< ((nI (j + 64) - 64).toInt64 &&& 63)) q = decide (q = j) := by decide +kernel
theorem gq_nI {v : Int32} {k : Nat} (h : v.toInt = k) (hk : k < 2147483648) : v = nI k := Int32.toInt_inj.mp (h.trans (nI_toInt hk).symm)
/-- what an include leaves -/
def gq_I (U : gm_S) (n k W : Nat) (T : gm_S) (z : Int32 × gm_S) : Prop := z.2.1 = T.1 ∧ z.2.2.2 = T.2.2 ∧ (∀ j, j ≠ n → z.2.2.1 7 j = U.2.1 7 j ∧ z.2.2.1 8 j = U.2.1 8 j) ∧ ∀ c : Int, 32 ≤ c → c ≤ 126 → (gp_ih (z.2.2.1 7) (z.2.2.1 8) n c ↔ (gp_ih (U.2.1 7) (U.2.1 8) n c ∨ ((k : Int) + 32 ≤ c ∧ c ≤ (W : Int) + 32)))
theorem gq_incl19 (x y w : Int32) (T : gm_S) {n W : Nat} (hx : Int32.toNatClampNeg x = n) (hw : (w - 32).toInt = W) (hW : W ≤ 94) : ∀ (f k : Nat) (v : Int32) (U : gm_S), v.toInt = k → k ≤ W + 1 → W + 1 < f + k → gq_I U n k W T (gm_f_Tree_include_19 x y w T f v U) := by
  intro f
  induction f with
  | zero => intro k v U _ h1 h2; exact absurd h2 (by omega)
  | succ f ih =>
    intro k v U hv h1 h2
    rw [gm_f_Tree_include_19]
    have av := gx_ak v 1 1 (by decide)
    by_cases q : k = W + 1
    · have l : w - 32 < v := by rw [Int32.lt_iff_toInt_lt]; omega
      rw [if_pos l]
      refine ⟨rfl, rfl, fun j _ => ⟨rfl, rfl⟩, fun c c1 c2 => ⟨fun h => Or.inl h, fun h => ?_⟩⟩
      rcases h with h | h
      · exact h
      · omega
    · have l : ¬ w - 32 < v := by rw [Int32.lt_iff_toInt_lt]; omega
      rw [if_neg l, hx]
      have ev := gq_nI hv (by omega)
      by_cases h64 : 64 ≤ k
      · have l2 : (64 : Int32) ≤ v := by rw [Int32.le_iff_toInt_le, gx_lit 64 (by decide)]; omega
        rw [if_pos l2]
        obtain ⟨i1, i2, i3, i4⟩ := ih (k + 1) (v + 1) (T.1, (va_up (va_up T.2.1 7 (U.2.1 7)) 8 (vp_updL (U.2.1 8) n (((U.2.1 8) n) ||| (1 <<< ((v - 64).toInt64 &&& 63))))), T.2.2) (by omega) (by omega) (by omega)
        refine ⟨i1, i2, fun j hj => ⟨(i3 j hj).1, (i3 j hj).2.trans (gx_lun _ _ _ hj)⟩, fun c c1 c2 => (i4 c c1 c2).trans ?_⟩
        have b : gp_ih (U.2.1 7) (vp_updL (U.2.1 8) n (((U.2.1 8) n) ||| (1 <<< ((v - 64).toInt64 &&& 63)))) n c ↔ (gp_ih (U.2.1 7) (U.2.1 8) n c ∨ c = (k : Int) + 32) := by
          unfold gp_ih
          rw [gx_lus, gp_bl_or, ev, show k = (k - 64) + 64 by omega]
          constructor
          · rintro (h | ⟨h1, h2, h3⟩)
            · exact Or.inl (Or.inl h)
            · rw [gq_sh_hi (k - 64) (by omega) _ (by omega), Bool.or_eq_true] at h3
              rcases h3 with h3 | h3
              · exact Or.inl (Or.inr ⟨h1, h2, h3⟩)
              · have := of_decide_eq_true h3
                exact Or.inr (by omega)
          · rintro ((h | ⟨h1, h2, h3⟩) | h)
            · exact Or.inl h
            · exact Or.inr ⟨h1, h2, by rw [h3]; rfl⟩
            · refine Or.inr ⟨by omega, by omega, ?_⟩
              rw [gq_sh_hi (k - 64) (by omega) _ (by omega), Bool.or_eq_true]
              exact Or.inr (decide_eq_true (by omega))
        show (gp_ih (U.2.1 7) (vp_updL (U.2.1 8) n (((U.2.1 8) n) ||| (1 <<< ((v - 64).toInt64 &&& 63)))) n c ∨ _) ↔ _
        rw [b]
        constructor
        · rintro ((h | h) | h)
          · exact Or.inl h
          · exact Or.inr (by omega)
          · exact Or.inr (by omega)
        · rintro (h | h)
          · exact Or.inl (Or.inl h)
          · by_cases w : c = (k : Int) + 32
            · exact Or.inl (Or.inr w)
            · exact Or.inr (by omega)
      · have l2 : ¬ (64 : Int32) ≤ v := by rw [Int32.le_iff_toInt_le, gx_lit 64 (by decide)]; omega
        rw [if_neg l2]
        obtain ⟨i1, i2, i3, i4⟩ := ih (k + 1) (v + 1) (T.1, (va_up (va_up T.2.1 7 (vp_updL (U.2.1 7) n (((U.2.1 7) n) ||| (1 <<< (v.toInt64 &&& 63))))) 8 (U.2.1 8)), T.2.2) (by omega) (by omega) (by omega)
        refine ⟨i1, i2, fun j hj => ⟨(i3 j hj).1.trans (gx_lun _ _ _ hj), (i3 j hj).2⟩, fun c c1 c2 => (i4 c c1 c2).trans ?_⟩
        have b : gp_ih (vp_updL (U.2.1 7) n (((U.2.1 7) n) ||| (1 <<< (v.toInt64 &&& 63)))) (U.2.1 8) n c ↔ (gp_ih (U.2.1 7) (U.2.1 8) n c ∨ c = (k : Int) + 32) := by
          unfold gp_ih
          rw [gx_lus, gp_bl_or, ev]
          constructor
          · rintro (⟨h1, h2, h3⟩ | h)
            · rw [gq_sh_lo k (by omega) _ (by omega), Bool.or_eq_true] at h3
              rcases h3 with h3 | h3
              · exact Or.inl (Or.inl ⟨h1, h2, h3⟩)
              · have := of_decide_eq_true h3
                exact Or.inr (by omega)
            · exact Or.inl (Or.inr h)
          · rintro ((⟨h1, h2, h3⟩ | h) | h)
            · exact Or.inl ⟨h1, h2, by rw [h3]; rfl⟩
            · exact Or.inr h
            · refine Or.inl ⟨by omega, by omega, ?_⟩
              rw [gq_sh_lo k (by omega) _ (by omega), Bool.or_eq_true]
              exact Or.inr (decide_eq_true (by omega))
        show (gp_ih (vp_updL (U.2.1 7) n (((U.2.1 7) n) ||| (1 <<< (v.toInt64 &&& 63)))) (U.2.1 8) n c ∨ _) ↔ _
        rw [b]
        constructor
        · rintro ((h | h) | h)
          · exact Or.inl h
          · exact Or.inr (by omega)
          · exact Or.inr (by omega)
        · rintro (h | h)
          · exact Or.inl (Or.inl h)
          · by_cases w : c = (k : Int) + 32
            · exact Or.inl (Or.inr w)
            · exact Or.inr (by omega)
/-- include: characters from y to w -/
theorem gq_incl (x y w : Int32) (T : gm_S) {n : Nat} (hx : x.toInt = n) (hn : (n : Int) < (T.2.2 11).toInt) (hy : 32 ≤ y.toInt) (hw : w.toInt ≤ 126) (hyw : y.toInt ≤ w.toInt) : (gm_f_Tree_include x y w T).2.1 = T.1 ∧ (gm_f_Tree_include x y w T).2.2.2 = T.2.2 ∧ (∀ j, j ≠ n → (gm_f_Tree_include x y w T).2.2.1 7 j = T.2.1 7 j ∧ (gm_f_Tree_include x y w T).2.2.1 8 j = T.2.1 8 j) ∧ ∀ c : Int, 32 ≤ c → c ≤ 126 → (gp_ih ((gm_f_Tree_include x y w T).2.2.1 7) ((gm_f_Tree_include x y w T).2.2.1 8) n c ↔ (gp_ih (T.2.1 7) (T.2.1 8) n c ∨ (y.toInt ≤ c ∧ c ≤ w.toInt))) := by
  have z : (0 : Int32).toInt = 0 := by decide
  have l1 : ¬ x < 0 := by rw [Int32.lt_iff_toInt_lt]; omega
  have l2 : x < T.2.2 11 := by rw [Int32.lt_iff_toInt_lt]; omega
  have s1 := gx_sk y 32 32 (gx_lit 32 (by decide))
  have s2 := gx_sk w 32 32 (gx_lit 32 (by decide))
  unfold gm_f_Tree_include
  rw [if_neg l1, if_pos l2]
  obtain ⟨i1, i2, i3, i4⟩ := gq_incl19 x y w T (n := n) (W := (w.toInt - 32).toNat) (gp_cl_n hx) (by omega) (by omega) 100 (y.toInt - 32).toNat (y - 32) T (by omega) (by omega) (by omega)
  refine ⟨i1, i2, i3, fun c c1 c2 => (i4 c c1 c2).trans ?_⟩
  rw [show ((y.toInt - 32).toNat : Int) + 32 = y.toInt by omega, show ((w.toInt - 32).toNat : Int) + 32 = w.toInt by omega]
theorem gq_cb {R S A : Type} {x : R × S} {f : R → S → A} {Q : A → Prop} (T : R × S → Prop) (hc : T x) (h : ∀ r u, T (r, u) → Q (f r u)) : Q (gm_bd x f) := h x.1 x.2 hc
theorem gq_if {A : Type} {c : Prop} [Decidable c] {f1 f2 : A} {Q : A → Prop} (h1 : c → Q f1) (h2 : ¬ c → Q f2) : Q (if c then f1 else f2) := by
  by_cases h : c
  · rw [if_pos h]; exact h1 h
  · rw [if_neg h]; exact h2 h
def gq_puQ (S : gq_St) (x : Int32) (o : Nat) (z : Int32 × gq_St) : Prop := z.2.1.1 2 = upd (S.1.1 2) o x ∧ (z.2.1.2.2 3).toInt = ((o + 1 : Nat) : Int)
theorem gq_push' (x : Int32) (S0 S : gq_St) {o : Nat} (h2 : S.1.1 2 = S0.1.1 2) (ho : (S.1.2.2 3).toInt = o) (h75 : o < 75) : gq_puQ S0 x o (gm_f_Reader_push x S) := by
  have p := gq_push x S ho h75
  unfold gq_puQ
  rw [p.1, ← h2]
  exact ⟨rfl, p.2⟩
def gq_inQ (T : gm_S) (n : Nat) (y w : Int) (z : Int32 × gm_S) : Prop := (∀ j, j ≠ n → z.2.2.1 7 j = T.2.1 7 j ∧ z.2.2.1 8 j = T.2.1 8 j) ∧ ∀ c : Int, 32 ≤ c → c ≤ 126 → (gp_ih (z.2.2.1 7) (z.2.2.1 8) n c ↔ (gp_ih (T.2.1 7) (T.2.1 8) n c ∨ (y ≤ c ∧ c ≤ w)))
theorem gq_incl' (x y w : Int32) (T0 T : gm_S) {n : Nat} (h7 : T.2.1 7 = T0.2.1 7) (h8 : T.2.1 8 = T0.2.1 8) (hx : x.toInt = n) (hn : (n : Int) < (T.2.2 11).toInt) (hy : 32 ≤ y.toInt) (hw : w.toInt ≤ 126) (hyw : y.toInt ≤ w.toInt) : gq_inQ T0 n y.toInt w.toInt (gm_f_Tree_include x y w T) := by
  have := (gq_incl x y w T hx hn hy hw hyw).2.2
  rw [h7, h8] at this
  exact this
def gq_adQ (x y : Int32) (T : gm_S) (n : Nat) (z : Int32 × gm_S) : Prop := z.1.toInt = n ∧ z.2.1 0 = upd (T.1 0) n x ∧ z.2.1 1 = upd (T.1 1) n y ∧ z.2.1 2 = upd (T.1 2) n (T.2.2 12) ∧ z.2.1 3 = upd (T.1 3) n (T.2.2 12) ∧ z.2.2.1 7 = vp_updL (T.2.1 7) n 0 ∧ z.2.2.1 8 = vp_updL (T.2.1 8) n 0 ∧ (z.2.2.2 11).toInt = ((n + 1 : Nat) : Int) ∧ z.2.1 5 = upd (T.1 5) n (vp_nar .boolean 0) ∧ z.2.1 6 = upd (T.1 6) n 0
theorem gq_add' (x y : Int32) (T : gm_S) {n : Nat} (hn : (T.2.2 11).toInt = n) (h75 : n < 75) : gq_adQ x y T n (gm_f_Tree_add x y T) := by
  obtain ⟨d1, d2, d3⟩ := gq_add x y T hn h75
  unfold gq_adQ
  rw [d2]
  exact ⟨d1, rfl, rfl, rfl, rfl, rfl, rfl, d3, rfl, rfl⟩
def gq_psQ (S : gq_St) (x y : Int32) (a o n m : Nat) (z : Int32 × gq_St) : Prop := (z.2.2.2.1 4 = S.2.2.1 4 ∧ z.2.2.2.2.2 12 = S.2.2.2.2 12) ∧ gq_N z.2 a (o + 1) (n + 1) m ∧ gq_X S z.2 o n m ∧ (z.2.1.1 2 o).toInt = n ∧ (z.2.2.2.1 0 n).toInt = 0 ∧ ∀ c : Int, 32 ≤ c → c ≤ 126 → (gp_ih (z.2.2.2.2.1 7) (z.2.2.2.2.1 8) n c ↔ (x.toInt ≤ c ∧ c ≤ y.toInt))
theorem gq_pset0 (x y : Int32) (S : gq_St) {a o n m : Nat} (hN : gq_N S a o n m) (hn : n < 75) (hx : 32 ≤ x.toInt) (hy : y.toInt ≤ 126) (hxy : x.toInt ≤ y.toInt) : gq_psQ S x y a o n m (gm_f_Reader_pushSet x y S) := by
  obtain ⟨Q, hQ⟩ : ∃ Q, Q = gq_psQ S x y a o n m := ⟨_, rfl⟩
  rw [← hQ]
  obtain ⟨w0, pl, ho, h11, h12, hmo, hto⟩ := hN
  unfold gm_f_Reader_pushSet
  refine gq_cb (Q := Q) (gq_adQ 0 (-1) S.2.2 n) (gq_add' 0 (-1) S.2.2 h11 hn) (fun r6 u6 h6 => ?_)
  obtain ⟨d1, d2, d3, d4, d5, d6, d7, d8, d9, d10⟩ := h6
  have d1 : r6.toInt = n := d1
  have d2 : u6.1 0 = upd (S.2.2.1 0) n 0 := d2
  have d3 : u6.1 1 = upd (S.2.2.1 1) n (-1) := d3
  have d4 : u6.1 2 = upd (S.2.2.1 2) n (S.2.2.2.2 12) := d4
  have d5 : u6.1 3 = upd (S.2.2.1 3) n (S.2.2.2.2 12) := d5
  have d6 : u6.2.1 7 = vp_updL (S.2.2.2.1 7) n 0 := d6
  have d7 : u6.2.1 8 = vp_updL (S.2.2.2.1 8) n 0 := d7
  have d8 : (u6.2.2 11).toInt = ((n + 1 : Nat) : Int) := d8
  have d9 : u6.1 5 = upd (S.2.2.1 5) n (vp_nar .boolean 0) := d9
  have d10 : u6.1 6 = upd (S.2.2.1 6) n 0 := d10
  refine gq_cb (Q := Q) (gq_inQ u6 n x.toInt y.toInt) (gq_incl' r6 x y _ _ rfl rfl d1 (show (n : Int) < (u6.2.2 11).toInt by omega) hx hy hxy) (fun r17 u17 h17 => ?_)
  obtain ⟨i3, i4⟩ := h17
  have i3 : ∀ j, j ≠ n → u17.2.1 7 j = u6.2.1 7 j ∧ u17.2.1 8 j = u6.2.1 8 j := i3
  refine gq_cb (Q := Q) (gq_puQ S r6 o) (gq_push' r6 _ _ rfl ho (by omega)) (fun r22 u22 h22 => ?_)
  obtain ⟨g1, g2⟩ := h22
  have g1 : u22.1.1 2 = upd (S.1.1 2) o r6 := g1
  have XX : gq_X S ((va_up S.1.1 2 (u22.1.1 2), S.1.2.1, va_up S.1.2.2 3 (u22.1.2.2 3)), S.2.1, ((va_up (va_up (va_up (va_up (va_up (va_up S.2.2.1 0 (u6.1 0)) 1 (u6.1 1)) 2 (u6.1 2)) 3 (u6.1 3)) 5 (u6.1 5)) 6 (u6.1 6)), (va_up (va_up S.2.2.2.1 7 (u17.2.1 7)) 8 (u17.2.1 8)), (va_up S.2.2.2.2 11 (u6.2.2 11)))) o n m := by
    refine ⟨fun d hd => ⟨?_, ?_, ?_, ?_, ?_, ?_, ?_, ?_⟩, fun i hi => rfl, fun i hi => ?_, rfl, rfl, rfl, rfl⟩
    · show u6.1 0 d = _
      rw [d2]; exact gx_un _ _ _ (by omega)
    · show u6.1 1 d = _
      rw [d3]; exact gx_un _ _ _ (by omega)
    · show u6.1 2 d = _
      rw [d4]; exact gx_un _ _ _ (by omega)
    · show u6.1 3 d = _
      rw [d5]; exact gx_un _ _ _ (by omega)
    · show u17.2.1 7 d = _
      rw [(i3 d (by omega)).1, d6]; exact gx_lun _ _ _ (by omega)
    · show u17.2.1 8 d = _
      rw [(i3 d (by omega)).2, d7]; exact gx_lun _ _ _ (by omega)
    · show u6.1 5 d = _
      rw [d9]; exact gx_un _ _ _ (by omega)
    · show u6.1 6 d = _
      rw [d10]; exact gx_un _ _ _ (by omega)
    · show u22.1.1 2 i = _
      rw [g1]; exact gx_un _ _ _ (by omega)
  rw [hQ]
  refine ⟨⟨rfl, rfl⟩, ⟨w0, pl, g2, d8, h12, by omega, fun d hd => ?_⟩, XX, ?_, ?_, fun c c1 c2 => ?_⟩
  · by_cases q : d = n
    · rw [q]
      refine ⟨?_, ?_, ?_, fun h => absurd ?_ h, fun _ => ?_⟩
      · show (u6.1 3 n).toInt ≤ m
        rw [d5, gx_us]; omega
      · show u6.1 5 n = 0
        rw [d9, gx_us]; decide
      · show u6.1 6 n = 0
        rw [d10, gx_us]
      · show (u6.1 0 n).toInt = 0
        rw [d2, gx_us]; decide
      · show u6.1 3 n = u6.1 2 n
        rw [d5, d4, gx_us, gx_us]
    · exact gq_nf_X (hto d (by omega)) XX (by omega) (Nat.le_refl m)
  · show (u22.1.1 2 o).toInt = n
    rw [g1, gx_us]; exact d1
  · show (u6.1 0 n).toInt = 0
    rw [d2, gx_us]; decide
  · have := i4 c c1 c2
    rw [d6, d7] at this
    refine Iff.trans this ⟨fun h => ?_, fun h => Or.inr h⟩
    rcases h with h | h
    · exact absurd h (gq_ih0 _ _ n c)
    · exact h
def gq_atQ (tx : Nat → Int) (ty a : Nat) (z : Int32 × gm_S) : Prop := z.1.toInt = gq_pk tx ty a
theorem gq_at' {tx : Nat → Int} {ty : Nat} (x : Int32) (T : gm_S) {a : Nat} (ht : gp_tx (T.2.2 1) (T.1 0) tx ty) (hx : x.toInt = a) : gq_atQ tx ty a (gm_f_Row_at 50 x T) := (gq_at x T ht hx).1
def gq_neQ (tx : Nat → Int) (ty : Nat) (x : Int32) (a : Nat) (z : Int32 × gq_St) : Prop := (gq_pk tx ty a = x.toInt ∧ (z.2.1.2.2 4).toInt = ((a + 1 : Nat) : Int) ∧ z.2.1.2.2 5 = 0) ∨ (¬ gq_pk tx ty a = x.toInt ∧ (z.2.1.2.2 4).toInt = a ∧ z.2.1.2.2 5 = 1)
theorem gq_need' {tx : Nat → Int} {ty : Nat} (x : Int32) (S : gq_St) {a : Nat} (ht : gp_tx (S.2.1.2.2 1) (S.2.1.1 0) tx ty) (hw : S.1.2.2 5 = 0) (hx : (S.1.2.2 4).toInt = a) (ha : a ≤ 50) : gq_neQ tx ty x a (gm_f_Reader_need x S) := gq_need x S ht hw hx ha
def gq_nwQ (S : gq_St) (z : Int32 × gq_St) : Prop := z.2.1.2.2 4 = S.1.2.2 4 ∧ z.2.1.2.2 5 = 1
theorem gq_need_w' (x : Int32) (S0 S : gq_St) (hw : S.1.2.2 5 = 1) (h4 : S.1.2.2 4 = S0.1.2.2 4) : gq_nwQ S0 (gm_f_Reader_need x S) := ⟨(gq_need_w x S hw).1.trans h4, (gq_need_w x S hw).2⟩
theorem gq_pset' (x y : Int32) (S0 S : gq_St) {a o n m : Nat} (hX : gq_X S0 S o n m) (h4 : S.2.2.1 4 = S0.2.2.1 4) (h12 : S.2.2.2.2 12 = S0.2.2.2.2 12) (hN : gq_N S a o n m) (hn : n < 75) (hx : 32 ≤ x.toInt) (hy : y.toInt ≤ 126) (hxy : x.toInt ≤ y.toInt) : gq_psQ S0 x y a o n m (gm_f_Reader_pushSet x y S) := by
  obtain ⟨⟨p1, p2⟩, p3, p4, p5⟩ := gq_pset0 x y S hN hn hx hy hxy
  exact ⟨⟨p1.trans h4, p2.trans h12⟩, p3, gq_X_t hX p4 (Nat.le_refl o) (Nat.le_refl n) (Nat.le_refl m), p5⟩
theorem gq_X_m {S : gq_St} {o n m : Nat} {A : Nat → Nat → Int32} {B : Nat → Nat → Int64} {C : Nat → Int32} {T : gm_S} (h2 : A 2 = S.1.1 2) (h : T = S.2.1) : gq_X S ((A, B, C), T, S.2.2) o n m := ⟨fun _ _ => ⟨rfl, rfl, rfl, rfl, rfl, rfl, rfl, rfl⟩, fun _ _ => rfl, fun i _ => congrFun h2 i, h, rfl, rfl, rfl⟩
def gq_jnQ (S : gq_St) (x : Int32) (mark o n m : Nat) (z : Int32 × gq_St) : Prop := gq_J S x mark o n m z.2
/-- an expression has been read, and its node pushed -/
def gq_P (tx : Nat → Int) (ty K : Nat) (S : gq_St) (a o n m : Nat) (k : Int) (e : Lean.ParserDescr) (a' : Nat) (S' : gq_St) : Prop := ∃ n' m' : Nat, gq_N S' a' (o + 1) n' m' ∧ gq_X S S' o n m ∧ n < n' ∧ m ≤ m' ∧ a ≤ a' ∧ a' ≤ ty ∧ 2 * (n' : Int) + 3 * a ≤ 3 * a' + 2 * n + k ∧ (S'.1.1 2 o).toInt + 1 = n' ∧ gq_Rk tx ty K S' (n' - 1) e ∧ gq_cv tx ty S' n n' [e]
/-- the reader is wrong, at a place -/
def gq_W (S' : gq_St) (a : Nat) : Prop := S'.1.2.2 5 = 1 ∧ (S'.1.2.2 4).toInt = a
