/-! The class compiles, said of the text. -/
/-- the same tree -/
def gs_TT (T T' : gm_S) : Prop := T'.1 0 = T.1 0 ∧ T'.1 1 = T.1 1 ∧ T'.1 2 = T.1 2 ∧ T'.1 3 = T.1 3 ∧ T'.1 4 = T.1 4 ∧ T'.1 9 = T.1 9 ∧ T'.1 10 = T.1 10 ∧ T'.2.1 7 = T.2.1 7 ∧ T'.2.1 8 = T.2.1 8 ∧ T'.2.2 11 = T.2.2 11 ∧ T'.2.2 13 = T.2.2 13
theorem gs_TT_RT {T T' : gm_S} {tx : Nat → Int} {ty n R : Nat} {f : Nat → Int × Lean.ParserDescr} (e : gs_TT T T') (h : gq_RT tx ty T n R f) : gq_RT tx ty T' n R f := by
  obtain ⟨e0, e1, e2, e3, e4, e9, e10, e7, e8, e11, e13⟩ := e
  unfold gq_RT gq_T gq_T0 gq_Tr at h ⊢
  rw [e0, e1, e2, e3, e4, e9, e10, e7, e8, e11, e13]
  exact h
theorem gs_TT_Tr {T T' : gm_S} {tx : Nat → Int} {ty d : Nat} {x : Lean.ParserDescr} (e : gs_TT T T') : gq_Tr tx ty T' d x ↔ gq_Tr tx ty T d x := by
  obtain ⟨e0, e1, e2, e3, e4, e9, e10, e7, e8, e11, e13⟩ := e
  unfold gq_Tr
  rw [e0, e1, e2, e3, e4, e7, e8]
theorem gs_undefC {T : gm_S} (S : gm_S × gm_S) {tx : Nat → Int} {ty n R : Nat} {f : Nat → Int × Lean.ParserDescr} (e : gs_TT T S.2) (h : gq_RT tx ty T n R f) : gq_fuQ T R (gq_un f R) (gm_f_Judge_firstUndefined S) := by
  have w := gq_undefC S (gs_TT_RT e h)
  unfold gq_fuQ at w ⊢
  rw [e.2.2.2.2.2.1] at w
  exact w
theorem gs_runC {T : gm_S} (S : gm_S × gm_S) {tx : Nat → Int} {ty n R : Nat} {f : Nat → Int × Lean.ParserDescr} (e : gs_TT T S.2) (e5 : S.2.1 5 = T.1 5) (e6 : S.2.1 6 = T.1 6) (h : gq_RT tx ty T n R f) (hu : gs_no R (gq_un f R)) (hb : ∀ j, T.1 5 j = 0 ∨ T.1 5 j = 1) (h5 : ∀ d, d < n → T.1 5 d = 0) (h6 : ∀ d, d < n → T.1 6 d = 0) : gq_rwQ tx ty T n R f (gm_f_Judge_firstRunaway S) := by
  have h' := gs_TT_RT e h
  have w := gq_runC S S rfl h' (gq_kn_of h' hu) (by rw [e5]; exact hb) (by rw [e5]; exact h5) (by rw [e6]; exact h6)
  obtain ⟨w1, w2, w3, w4, w5⟩ := w
  unfold gq_fuQ at w5
  obtain ⟨e0, -, -, -, -, e9, e10, -⟩ := id e
  rw [e9] at w5
  rw [e10] at w2
  rw [e0] at w4
  exact ⟨w1, w2, fun d x hd hx => w3 d x hd ((gs_TT_Tr e).mpr hx), w4, w5⟩
theorem gs_headsC {T : gm_S} (S : gm_S × gm_S) {tx : Nat → Int} {ty n R : Nat} {f : Nat → Int × Lean.ParserDescr} {em : Nat → Int32} (e : gs_TT T S.2) (e5 : S.2.1 5 = em) (h : gq_RT tx ty T n R f) (hu : gs_no R (gq_un f R)) (hb : ∀ j, em j = 0 ∨ em j = 1) (E2 : ∀ d x, d < n → gq_Tr tx ty T d x → (em d = 1 ↔ gq_em (gq_EL f R) x)) (hes : ∀ d, d < n → (T.1 0 d).toInt = 0 → ¬ em d = 1) (fr : ∀ d, d < n → ¬ (T.1 0 d).toInt = 0 → ∀ c, ¬ gp_ih (T.2.1 7) (T.2.1 8) d c) : gq_hdQ tx ty T n R f (gm_f_Judge_settleHeads S) := by
  have h' := gs_TT_RT e h
  obtain ⟨e0, -, -, -, -, e9, e10, e7, e8, -⟩ := id e
  have w := gq_headsC S h' (gq_kn_of h' hu) (by rw [e5]; exact hb) (fun d x hd hx => by rw [e5]; exact E2 d x hd ((gs_TT_Tr e).mp hx)) (by rw [e5, e0]; exact hes) (by rw [e0, e7, e8]; exact fr)
  intro c c1 c2
  obtain ⟨w1, w2, w3⟩ := w c c1 c2
  rw [e10] at w1
  rw [e0, e7, e8] at w3
  exact ⟨w1, fun d x hd hx => w2 d x hd ((gs_TT_Tr e).mpr hx), w3⟩
/-- names of rules are letters -/
theorem gs_nm (tx : Nat → Int) (ty : Nat) : ∀ (n R : Nat) (f : Nat → Int × Lean.ParserDescr) (a nA nC : Nat) (t : Nat × (Nat → Int × Lean.ParserDescr) × Nat × Nat), (∀ r, r < R → 65 ≤ (f r).1 ∧ (f r).1 ≤ 90) → gp_rd tx ty n R f a nA nC = .inr t → ∀ r, r < t.1 → 65 ≤ (t.2.1 r).1 ∧ (t.2.1 r).1 ≤ 90 := by
  intro n
  induction n with
  | zero => intro R f a nA nC t _ e; cases e
  | succ n ih =>
    intro R f a nA nC t hf e
    unfold gp_rd at e
    split at e
    · generalize hr : gp_rl tx ty R f a nA nC = rl at e
      match rl, hr, e with
      | .inl j, hr, e => cases e
      | .inr s, hr, e =>
        refine ih _ _ _ _ _ t (fun r hrr => ?_) e
        by_cases q : r = R
        · rw [show gp_ad f R s.2.1 r = s.2.1 from if_pos q]
          unfold gp_rl at hr
          split at hr
          · cases hr
          · rename_i c
            split at hr
            · generalize gp_mr tx ty (ty + 3) (a + 2, 0, [(59, 0, [], [])], nA, nC) = mr at hr
              match mr, hr with
              | .inl j, hr => cases hr
              | .inr u, hr =>
                cases hr
                show 65 ≤ gp_pk tx ty a ∧ gp_pk tx ty a ≤ 90
                have : ¬ ¬ (65 ≤ gp_pk tx ty a ∧ gp_pk tx ty a ≤ 90) := fun w => c (Or.inl w)
                omega
            · cases hr
        · rw [show gp_ad f R s.2.1 r = f r from if_neg q]
          exact hf r (by omega)
    · cases e
      exact hf
/-- the tree T holds the rules f of the text tx, and what the judge found -/
def gs_cls (tx : Nat → Int) (ty R : Nat) (f : Nat → Int × Lean.ParserDescr) (T : gm_S) : Prop := ∃ (T0 : gm_S) (n : Nat), gq_RT tx ty T0 n R f ∧ gq_TE T0 T ∧ (∀ j, T.1 5 j = 0 ∨ T.1 5 j = 1) ∧ (∀ r, r < R → (T.1 5 (Int32.toNatClampNeg (T0.1 10 r)) = 1 ↔ gq_lE f R r)) ∧ (∀ d e, d < n → gq_Tr tx ty T0 d e → (T.1 5 d = 1 ↔ gq_em (gq_EL f R) e)) ∧ (∀ d, d < n → (T0.1 0 d).toInt = 0 → ¬ T.1 5 d = 1) ∧ ∀ c : Int, 32 ≤ c → c ≤ 126 → (∀ r, r < R → (gp_ih (T.2.1 7) (T.2.1 8) (Int32.toNatClampNeg (T0.1 10 r)) c ↔ gq_lH tx ty f R c r)) ∧ (∀ d e, d < n → gq_Tr tx ty T0 d e → (gp_ih (T.2.1 7) (T.2.1 8) d c ↔ gq_fb (gq_EL f R) (gq_lfH tx ty c) gq_sx (fun k => gq_lH tx ty f R c (gq_fx f (k : Int) R)) e)) ∧ ∀ d, d < n → (T0.1 0 d).toInt = 0 → (gp_ih (T.2.1 7) (T.2.1 8) d c ↔ gp_ih (T0.2.1 7) (T0.2.1 8) d c)
/-- the code C of the rules f over the tree T -/
def gs_cod (tx : Nat → Int) (ty R : Nat) (f : Nat → Int × Lean.ParserDescr) (T C : gm_S) : Prop := ∃ n : Nat, (C.2.2 5).toInt = (n : Nat) ∧ n ≤ 200 ∧ gt_code (gt_ctx tx ty R f T) f R (C.1 1) (C.1 2) (C.1 3) (C.1 4) n ∧ gt_cov (gt_ctx tx ty R f T) f R (C.1 1) (C.1 2) (C.1 3) n
/-- what compile leaves: kind, answer; the object, the tree -/
def gs_cQ (tx : Nat → Int) (ty : Nat) (S : gm_S × gm_S × gm_S × gm_S × gm_S × gm_S × gm_S) (z : Int32 × Int32 × (gm_S × gm_S × gm_S × gm_S × gm_S × gm_S × gm_S)) : Prop := gs_C tx ty z.1.toInt (z.2.2.1.2.2 7).toInt z.2.1.toInt ∧ (z.1 = 0 → z.2.2.1.2.2 5 = 1 ∧ z.2.2.1.2.2 6 = 0 ∧ ∃ R f nA nC, gs_rd tx ty = .inr (R, f, nA, nC) ∧ gs_cls tx ty R f z.2.2.2.2.2.1 ∧ gs_cod tx ty R f z.2.2.2.2.2.1 z.2.2.2.2.2.2.2.1) ∧ (¬ z.1 = 0 → z.2.2.1.2.2 5 = S.1.2.2 5 ∧ z.2.2.1.2.2 6 = S.1.2.2 6)
def gs_rdC (tx : Nat → Int) (ty : Nat) (z : Int32 × gq_St) : Prop := gq_rdQ tx ty (gs_rd tx ty) z ∧ ∀ j, z.2.2.2.1 5 j = 0 ∨ z.2.2.2.1 5 j = 1
def gs_exQ (z : Int32 × gm_S) : Prop := z.2.2.2 5 = 1 ∧ z.2.2.2 6 = 0
theorem gs_compileC (S : gm_S × gm_S × gm_S × gm_S × gm_S × gm_S × gm_S) {tx : Nat → Int} {ty : Nat} (htx : gp_tx (S.2.1.2.2 1) (S.2.1.1 0) tx ty) (h1 : gm_iW 50 (S.2.1.2.2 1) (S.2.1.1 0)) (h2 : gm_iT (S.2.2.2.1.2.2 11) (S.2.2.2.1.2.2 12) (S.2.2.2.1.2.2 13) (S.2.2.2.1.1 2) (S.2.2.2.1.1 3) (S.2.2.2.1.1 4) (S.2.2.2.1.1 5) (S.2.2.2.1.1 10)) (h4 : gm_iN 75 (S.2.2.2.2.2.2.2.2 3)) : gs_cQ tx ty S (gm_f_GM_compile S) := by
  have t2 := htx.2.1
  have d1 : (-1 : Int32).toInt = -1 := by decide
  unfold gm_f_GM_compile
  refine gf_ca (Q := gs_cQ tx ty S) (gs_rdC tx ty) ?_ ?_
  · have X := (gx_s_Reader_read (S.2.2.2.2.2.2, S.2.1, S.2.2.2.1) h4 h1 h2).2
    have Y := gq_read (tx := tx) (ty := ty) (S.2.2.2.2.2.2, S.2.1, S.2.2.2.1) htx gs_0
    generalize gm_f_Reader_read (S.2.2.2.2.2.2, S.2.1, S.2.2.2.1) = z at X Y ⊢
    exact ⟨Y, X.2.2.2.2.2.2.2.1⟩
  intro r8 u8 hu8
  obtain ⟨hrd, hb⟩ := hu8
  unfold gq_rdQ at hrd
  have hnm := gs_nm tx ty (ty + 1) 0 gs_0 0 0 0
  generalize hres : gs_rd tx ty = res at hrd
  match res, hres, hrd with
  | .inl j, hres, hrd =>
    have hrd : r8.toInt = (j : Nat) := hrd
    refine gf_if (Q := gs_cQ tx ty S) (fun q => ?_) (fun q => ?_)
    · exfalso
      rw [q, d1] at hrd
      omega
    · refine ⟨?_, fun q => absurd (show (1 : Int32) = 0 from q) (by decide), fun _ => ⟨rfl, rfl⟩⟩
      unfold gs_C
      rw [hres]
      exact ⟨show (1 : Int32).toInt = 1 by decide, hrd⟩
  | .inr t, hres, hrd =>
    obtain ⟨R, f, nA, nC⟩ := t
    obtain ⟨hr8, a, n, m, hN, hG, hn1, hn2⟩ := hrd
    have hr8 : r8 = -1 := hr8
    have hRT : gq_RT tx ty u8.2.2 n R f := gq_RT_of hN hG (by omega)
    have hnm := hnm _ (fun r hr => absurd hr (by omega)) hres
    have hnm : ∀ r, r < R → 65 ≤ (f r).1 ∧ (f r).1 ≤ 90 := hnm
    have nmr : ∀ r, r < R → (u8.2.2.1 9 r).toInt = (f r).1 := fun r hr => (hRT.2.2.2.2.1 r hr).1
    refine gf_if (Q := gs_cQ tx ty S) (fun q => ?_) (fun q => absurd hr8 q)
    refine gf_ca (Q := gs_cQ tx ty S) (gq_fuQ u8.2.2 R (gq_un f R)) ?_ ?_
    · exact gs_undefC (T := u8.2.2) _ ⟨rfl, rfl, rfl, rfl, rfl, rfl, rfl, rfl, rfl, rfl, rfl⟩ hRT
    intro r40 u40 hu40
    refine gf_if (Q := gs_cQ tx ty S) (fun q40 => ?_) (fun q40 => ?_)
    · have hu : gs_no R (gq_un f R) := by
        rcases hu40 with ⟨-, w⟩ | ⟨r, hr, w, -⟩
        · exact w
        · exfalso
          have w : r40 = u8.2.2.1 9 r := w
          have := nmr r hr
          have := hnm r hr
          rw [← w, q40, d1] at *
          omega
      refine gf_ca (Q := gs_cQ tx ty S) (gq_rwQ tx ty u8.2.2 n R f) ?_ ?_
      · exact gs_runC (T := u8.2.2) _ ⟨rfl, rfl, rfl, rfl, rfl, rfl, rfl, rfl, rfl, rfl, rfl⟩ rfl rfl hRT hu hb (fun d hd => (hN.2.2.2.2.2.2 d hd).2.1) (fun d hd => (hN.2.2.2.2.2.2 d hd).2.2.1)
      intro r72 u72 hu72
      obtain ⟨k1, k2, k3, k4, k5⟩ := hu72
      refine gf_if (Q := gs_cQ tx ty S) (fun q72 => ?_) (fun q72 => ?_)
      · have hw : gs_no R (gq_wd f R) := by
          rcases k5 with ⟨-, w⟩ | ⟨r, hr, w, -⟩
          · exact w
          · exfalso
            have w : r72 = u8.2.2.1 9 r := w
            have := nmr r hr
            have := hnm r hr
            rw [← w, q72, d1] at *
            omega
        refine gf_ca (Q := gs_cQ tx ty S) (gq_hdQ tx ty u8.2.2 n R f) ?_ ?_
        · exact gs_headsC (T := u8.2.2) _ (em := u72.2.1 5) ⟨rfl, rfl, rfl, rfl, rfl, rfl, rfl, rfl, rfl, rfl, rfl⟩ rfl hRT hu k1 k3 k4 (fun d hd => (hN.2.2.2.2.2.2 d hd).2.2.2.1)
        intro r103 u103 hu103
        have hW : gt_ws (fun r => gt_w (f r).2) R ≤ 3 * ty := gt_rd_kp tx ty (ty + 1) 0 gs_0 0 0 0 (Nat.zero_le _) (Nat.zero_le _) (R, f, nA, nC) hres
        refine gf_ca (Q := gs_cQ tx ty S) (gt_wQ (gt_ctx tx ty R f _) f R) (gt_write (T0 := u8.2.2) (K := 35) (W := fun r => gt_w (f r).2) (by exact ⟨hRT, ⟨rfl, rfl, rfl, rfl, rfl, rfl, rfl, rfl, rfl⟩, k1, k3, fun c c1 c2 => (hu103 c c1 c2).2⟩) (gq_kn_of hRT hu) (by decide) (fun r hr => (hG.2.2.2 r hr).2.2.2.2.1.2) (by omega) _ rfl) (fun _ u113 h113 => ?_)
        refine gf_ca (Q := gs_cQ tx ty S) gs_exQ ⟨rfl, rfl⟩ (fun _ u117 hx => ?_)
        refine ⟨?_, fun _ => ⟨hx.1, hx.2, R, f, nA, nC, hres, ⟨u8.2.2, n, hRT, ⟨rfl, rfl, rfl, rfl, rfl, rfl, rfl, rfl, rfl⟩, k1, k2, k3, k4, hu103⟩, h113⟩, fun q => absurd rfl q⟩
        unfold gs_C
        rw [hres]
        refine Or.inr (Or.inr ⟨hu, hw, show (0 : Int32).toInt = 0 by decide, ?_, hG.1⟩)
        show r72.toInt = -1
        rw [q72]
        exact d1
      · have hk5 := k5.resolve_left (fun w => q72 w.1)
        obtain ⟨r, hr, w, w2, w3⟩ := hk5
        have w : r72 = u8.2.2.1 9 r := w
        refine ⟨?_, fun q => absurd (show (3 : Int32) = 0 from q) (by decide), fun _ => ⟨rfl, rfl⟩⟩
        unfold gs_C
        rw [hres]
        refine Or.inr (Or.inl ⟨hu, gx_lit 3 (by decide), r, ⟨hr, w2, w3⟩, ?_⟩)
        show r72.toInt = (f r).1
        rw [w]
        exact nmr r hr
    · have hk5 := hu40.resolve_left (fun w => q40 w.1)
      obtain ⟨r, hr, w, w2, w3⟩ := hk5
      have w : r40 = u8.2.2.1 9 r := w
      refine ⟨?_, fun q => absurd (show (2 : Int32) = 0 from q) (by decide), fun _ => ⟨rfl, rfl⟩⟩
      unfold gs_C
      rw [hres]
      refine Or.inl ⟨gx_lit 2 (by decide), r, ⟨hr, w2, w3⟩, ?_⟩
      show r40.toInt = (f r).1
      rw [w]
      exact nmr r hr
