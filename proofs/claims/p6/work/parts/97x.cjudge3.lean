/-! The class's judge: what it answers, said of the rules. -/
theorem gq_kn_of {tx : Nat → Int} {ty : Nat} {T : gm_S} {n R : Nat} {f : Nat → Int × Lean.ParserDescr} (h : gq_RT tx ty T n R f) (hu : ∀ r, r < R → ¬ gq_un f R r) : gq_kn T n R := by
  intro d hd k1
  rcases gq_ix_s (T.1 9) (T.1 1 d) R with ⟨a, -⟩ | ⟨a, -⟩
  · exact a
  · exfalso
    obtain ⟨r, r1, r2, r3⟩ := gq_fn_le h.2.2.1 d (by rw [← h.2.2.2.1]; exact hd)
    exact hu r r1 ((gq_un_of h).1 r r1 ⟨d, r2, r3, k1, a⟩)
theorem gq_undefC (S : gm_S × gm_S) {tx : Nat → Int} {ty n R : Nat} {f : Nat → Int × Lean.ParserDescr} (h : gq_RT tx ty S.2 n R f) : gq_fuQ S.2 R (gq_un f R) (gm_f_Judge_firstUndefined S) := gq_fu_tr (gq_un_of h).1 (gq_un_of h).2 (gq_firstUn S h.1 h.2.2.1)
/-- what is known behind firstRunaway -/
def gq_rwQ (tx : Nat → Int) (ty : Nat) (T : gm_S) (n R : Nat) (f : Nat → Int × Lean.ParserDescr) (z : Int32 × (gm_S × gm_S)) : Prop := (∀ j, z.2.2.1 5 j = 0 ∨ z.2.2.1 5 j = 1) ∧ (∀ r, r < R → (z.2.2.1 5 (Int32.toNatClampNeg (T.1 10 r)) = 1 ↔ gq_lE f R r)) ∧ (∀ d e, d < n → gq_Tr tx ty T d e → (z.2.2.1 5 d = 1 ↔ gq_em (gq_EL f R) e)) ∧ (∀ d, d < n → (T.1 0 d).toInt = 0 → ¬ z.2.2.1 5 d = 1) ∧ gq_fuQ T R (gq_wd f R) z
theorem gq_runC (S0 S : gm_S × gm_S) {tx : Nat → Int} {ty n R : Nat} {f : Nat → Int × Lean.ParserDescr} (e0 : S0.2 = S.2) (h : gq_RT tx ty S.2 n R f) (hk : gq_kn S.2 n R) (hb : ∀ j, S.2.1 5 j = 0 ∨ S.2.1 5 j = 1) (h5 : ∀ d, d < n → S.2.1 5 d = 0) (h6 : ∀ d, d < n → S.2.1 6 d = 0) : gq_rwQ tx ty S0.2 n R f (gm_f_Judge_firstRunaway S) := by
  rw [e0]
  have h8 := h.1.2.2.2.1
  obtain ⟨se, sb, fu⟩ := gq_firstRun S h.1 h.2.1 hk hb h.2.2.1
  generalize gm_f_Judge_firstRunaway S = z at se sb fu
  obtain ⟨r1, r2⟩ := gq_seQ_rest h.1 hk h5 se
  obtain ⟨E1, E2⟩ := gq_emC h hk (em := fun d => z.2.2.1 5 d = 1) r1 r2
  have hes : ∀ d, d < n → (S.2.1 0 d).toInt = 0 → ¬ z.2.2.1 5 d = 1 := fun d hd k q => by
    rw [r1 d hd] at q
    rcases q with q | q | q | q | q <;> omega
  have BG : ∀ q, q < R → ∀ r, r < R → (gp_bt (z.2.2.1 6 (Int32.toNatClampNeg (S.2.1 10 r))) q = true ↔ gq_lB f R q r) := by
    intro q hq
    obtain ⟨b1, b2⟩ := gq_it_rest h.1 hk (x := gq_vb (z.2.2.1 6) q) (x0 := gq_vb (S.2.1 6) q) (fun d hd w => by
      unfold gq_vb at w
      rw [h6 d hd, gp_bt_0] at w
      exact absurd w (by decide)) (sb q (by omega))
    exact (gq_fbC h hk (em := fun d => z.2.2.1 5 d = 1) (base := gq_bq S.2 R q) (bg := fun d => gp_bt (z.2.2.1 6 d) q = true) (lf := gq_lfB f R q) (sp := fun _ => False) (sx := fun _ => False) E2 hes b1 b2 (fun d _ k w => by have := w.1; omega) (fun d e hd k he => ⟨fun w => by have := w.1; omega, fun ⟨c, w, _⟩ => by
        exfalso
        unfold gq_Tr at he
        rw [gq_R] at he
        rcases he with ⟨-, a, b, he, -⟩ | ⟨k1, -⟩ | ⟨lo, hi, -, -, he⟩
        · rw [he] at w; injection w with _ w; exact absurd w (by decide)
        · omega
        · rcases he with ⟨he, -⟩ | ⟨he, -⟩ | ⟨he, -⟩ | ⟨x, -, he⟩
          · omega
          · omega
          · omega
          · rcases he with ⟨r, -⟩ | ⟨r, -⟩ | ⟨r, -⟩ | ⟨r, -⟩ | ⟨r, -⟩ | ⟨r, -⟩ <;> omega⟩) (fun p a m _ k _ _ => ⟨fun w => by have := w.1; omega, fun ⟨c, w, _⟩ => by injection w with _ w; exact absurd w (by decide)⟩) (fun ⟨c, w, _⟩ => by injection w with _ w; exact absurd w (by decide)) (fun d c hd k1 kc => by
        unfold gq_bq gq_lfB
        rw [gq_RT_nm h kc]
        exact ⟨fun w => ⟨c, rfl, w.2⟩, fun ⟨c', w1, w2⟩ => ⟨k1, by
          injection w1 with w1 _
          injection w1 with w1 _
          injection w1 with _ w1
          rw [w1]; exact w2⟩⟩) ⟨id, id, id, Iff.rfl, Iff.rfl, Iff.rfl, Iff.rfl, Iff.rfl, id⟩).1
  refine ⟨se.1, E1, E2, hes, ?_⟩
  have en := gq_en_of h (em := z.2.2.1 5) E2
  refine gq_fu_tr (fun r hr q => ?_) (fun r hr q => ?_) fu
  · rcases q with q | q
    · exact Or.inl ((BG r hr r hr).mp q)
    · exact Or.inr (en.1 r hr q)
  · rcases q with q | q
    · exact ⟨r, Nat.le_refl r, Or.inl ((BG r hr r hr).mpr q)⟩
    · obtain ⟨r', q1, q2⟩ := en.2 r hr q
      exact ⟨r', q1, Or.inr q2⟩
/-- what is known behind settleHeads -/
def gq_hdQ (tx : Nat → Int) (ty : Nat) (T : gm_S) (n R : Nat) (f : Nat → Int × Lean.ParserDescr) (z : Int32 × (gm_S × gm_S)) : Prop := ∀ c : Int, 32 ≤ c → c ≤ 126 → (∀ r, r < R → (gp_ih (z.2.2.2.1 7) (z.2.2.2.1 8) (Int32.toNatClampNeg (T.1 10 r)) c ↔ gq_lH tx ty f R c r)) ∧ (∀ d e, d < n → gq_Tr tx ty T d e → (gp_ih (z.2.2.2.1 7) (z.2.2.2.1 8) d c ↔ gq_fb (gq_EL f R) (gq_lfH tx ty c) gq_sx (fun k => gq_lH tx ty f R c (gq_fx f (k : Int) R)) e)) ∧ ∀ d, d < n → (T.1 0 d).toInt = 0 → (gp_ih (z.2.2.2.1 7) (z.2.2.2.1 8) d c ↔ gp_ih (T.2.1 7) (T.2.1 8) d c)
theorem gq_headsC (S : gm_S × gm_S) {tx : Nat → Int} {ty n R : Nat} {f : Nat → Int × Lean.ParserDescr} (h : gq_RT tx ty S.2 n R f) (hk : gq_kn S.2 n R) (hb : ∀ j, S.2.1 5 j = 0 ∨ S.2.1 5 j = 1) (E2 : ∀ d e, d < n → gq_Tr tx ty S.2 d e → (S.2.1 5 d = 1 ↔ gq_em (gq_EL f R) e)) (hes : ∀ d, d < n → (S.2.1 0 d).toInt = 0 → ¬ S.2.1 5 d = 1) (fr : ∀ d, d < n → ¬ (S.2.1 0 d).toInt = 0 → ∀ c, ¬ gp_ih (S.2.2.1 7) (S.2.2.1 8) d c) : gq_hdQ tx ty S.2 n R f (gm_f_Judge_settleHeads S) := by
  have sd := gq_settleH S h.1 hk hb
  generalize gm_f_Judge_settleHeads S = z at sd
  intro c c1 c2
  obtain ⟨b1, b2⟩ := gq_it_rest2 h.1 hk (x := gq_vh (z.2.2.2.1 7) (z.2.2.2.1 8) c) (x0 := gq_vh (S.2.2.1 7) (S.2.2.1 8) c) (base := fun d => gq_vh (S.2.2.1 7) (S.2.2.1 8) c d = true) (fun d _ w => w) (sd c)
  have iv : ∀ d, gq_vh (z.2.2.2.1 7) (z.2.2.2.1 8) c d = true ↔ gp_ih (z.2.2.2.1 7) (z.2.2.2.1 8) d c := fun d => gq_vh_iff _ _ c d
  have i0 : ∀ d, gq_vh (S.2.2.1 7) (S.2.2.1 8) c d = true ↔ gp_ih (S.2.2.1 7) (S.2.2.1 8) d c := fun d => gq_vh_iff _ _ c d
  have leaf : ∀ a b, gq_lfH tx ty c (gp_e0 2 a b) ↔ gq_st tx ty a b c := by
    intro a b
    constructor
    · rintro (⟨a', b', w, q⟩ | ⟨a', m, w, q⟩)
      · injection w with w _
        injection w with w w2
        injection w with _ w1
        rw [w1, w2]; exact q
      · injection w with _ w; exact absurd w (by decide)
    · intro q; exact Or.inl ⟨a, b, rfl, q⟩
  have row : ∀ a m, gq_lfH tx ty c (gp_e0 1 a m) ↔ c = tx a := by
    intro a m
    constructor
    · rintro (⟨a', b', w, q⟩ | ⟨a', m', w, q⟩)
      · injection w with _ w; exact absurd w (by decide)
      · injection w with w _
        injection w with w w2
        injection w with _ w1
        rw [w1]; exact q
    · intro q; exact Or.inr ⟨a, m, rfl, q⟩
  have no : ∀ k a b, ¬ k = 1 → ¬ k = 2 → ¬ gq_lfH tx ty c (gp_e0 k a b) := by
    intro k a b n1 n2
    rintro (⟨a', b', w, q⟩ | ⟨a', m', w, q⟩)
    · injection w with _ w; exact n2 w
    · injection w with _ w; exact n1 w
  obtain ⟨F1, F2⟩ := gq_fbC h hk (em := fun d => S.2.1 5 d = 1) (base := fun d => gq_vh (S.2.2.1 7) (S.2.2.1 8) c d = true) (bg := fun d => gq_vh (z.2.2.2.1 7) (z.2.2.2.1 8) c d = true) (lf := gq_lfH tx ty c) (sp := gq_sp) (sx := gq_sx) E2 hes b1 b2 (fun d hd k w => fr d hd (by omega) c ((i0 d).mp w)) (fun d e hd k he => by
      unfold gq_Tr at he
      rw [gq_R] at he
      rw [i0]
      rcases he with ⟨-, a, b, he, q⟩ | ⟨k1, -⟩ | ⟨lo, hi, -, -, he⟩
      · rw [he, leaf]; exact q c c1 c2
      · omega
      · exfalso
        rcases he with ⟨he, -⟩ | ⟨he, -⟩ | ⟨he, -⟩ | ⟨x, -, he⟩
        · omega
        · omega
        · omega
        · rcases he with ⟨r, -⟩ | ⟨r, -⟩ | ⟨r, -⟩ | ⟨r, -⟩ | ⟨r, -⟩ | ⟨r, -⟩ <;> omega) (fun p a m hp k q ha => by rw [i0, row]; exact q c c1 c2) (no 0 0 0 (by decide) (by decide)) (fun d c' hd k1 kc => ⟨fun w => absurd ((i0 d).mp w) (fr d hd (by omega) c), fun w => absurd w (no 3 c' 0 (by decide) (by decide))⟩) (by
      unfold gq_sp gq_sx
      exact ⟨by omega, by omega, by omega, by omega, by omega, by omega, by omega, by omega, by omega⟩)
  refine ⟨fun r hr => ?_, fun d e hd he => ?_, fun d hd k => ?_⟩
  · rw [← iv]; exact F1 r hr
  · rw [← iv]; exact F2 d e hd he
  · rw [← iv, b1 d hd, ← i0]
    refine ⟨fun w => ?_, Or.inl⟩
    rcases w with w | w | w
    · exact w
    · omega
    · omega
