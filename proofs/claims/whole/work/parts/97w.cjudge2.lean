/-! The class's judge, said of the rules. -/
theorem gq_fbC {tx : Nat → Int} {ty : Nat} {T : gm_S} {n R : Nat} {f : Nat → Int × Lean.ParserDescr} (h : gq_RT tx ty T n R f) (hk : gq_kn T n R) {em base bg : Nat → Prop} {lf : Lean.ParserDescr → Prop} {sp : Int → Prop} {sx : Nat → Prop} (hem : ∀ d e, d < n → gq_Tr tx ty T d e → (em d ↔ gq_em (gq_EL f R) e)) (hes : ∀ d, d < n → (T.1 0 d).toInt = 0 → ¬ em d) (rest : ∀ d, d < n → (bg d ↔ gq_nB (T.1 0) (T.1 2) (T.1 3) (T.1 4) (gq_rb T R) em base sp bg d)) (least : ∀ Y : Nat → Prop, (∀ d, d < n → gq_nB (T.1 0) (T.1 2) (T.1 3) (T.1 4) (gq_rb T R) em base sp Y d → Y d) → ∀ d, d < n → bg d → Y d) (hbase2 : ∀ d, d < n → 2 ≤ (T.1 0 d).toInt → ¬ base d) (hset : ∀ d e, d < n → (T.1 0 d).toInt = 0 → gq_Tr tx ty T d e → (base d ↔ lf e)) (hrow : ∀ p a m, p < n → (T.1 0 p).toInt = 0 → (∀ c : Int, 32 ≤ c → c ≤ 126 → (gp_ih (T.2.1 7) (T.2.1 8) p c ↔ c = tx a)) → a < ty → (base p ↔ lf (gp_e0 1 a m))) (hnil : ¬ lf (gp_e0 0 0 0)) (hnm : ∀ d c, d < n → (T.1 0 d).toInt = 1 → (T.1 1 d).toInt = ((c : Nat) : Int) → (base d ↔ lf (gp_e0 3 c 0))) (hsp : ¬ sp 2 ∧ ¬ sp 3 ∧ ¬ sp 6 ∧ (sp 4 ↔ sx 6) ∧ (sp 5 ↔ sx 7) ∧ (sp 7 ↔ sx 8) ∧ (sp 8 ↔ sx 9) ∧ (sp 9 ↔ sx 10) ∧ ¬ sx 7) :
    (∀ r, r < R → (bg (Int32.toNatClampNeg (T.1 10 r)) ↔ gq_lX f R lf sx r)) ∧ ∀ d e, d < n → gq_Tr tx ty T d e → (bg d ↔ gq_fb (gq_EL f R) lf sx (fun c => gq_lX f R lf sx (gq_fx f (c : Int) R)) e) := by
  have h' := h
  obtain ⟨hT, hT0, hfn, hn, hr, hcv⟩ := h'
  have rtn := hT.2.2.2.2.1
  have rbe : ∀ (d c : Nat), (T.1 1 d).toInt = (c : Nat) → gq_rb T R d = Int32.toNatClampNeg (T.1 10 (gq_fx f (c : Int) R)) := fun d c hc => by
    unfold gq_rb
    rw [gq_RT_nm h hc]
  have b0 : ∀ d, d < n → (T.1 0 d).toInt = 0 → (bg d ↔ base d) := fun d hd z => by
    rw [rest d hd]
    refine ⟨fun w => ?_, Or.inl⟩
    rcases w with w | w | w
    · exact w
    · omega
    · omega
  have nd : ∀ (X : Nat → Prop), (∀ d c, d < n → (T.1 0 d).toInt = 1 → (T.1 1 d).toInt = ((c : Nat) : Int) → (bg (gq_rb T R d) ↔ X c)) → ∀ d e, d < n → gq_Tr tx ty T d e → (bg d ↔ gq_fb (gq_EL f R) lf sx X e) := by
    intro X hX d e hd he
    refine gq_fb_nd (tx := tx) (ty := ty) (lt := T.1 1) (lw := T.2.1 7) (hg := T.2.1 8) (N := n) (em := em) (base := base) (sp := sp) (rb := gq_rb T R) (fun d hd _ => rest d hd) hbase2 hem hes (fun d e hd z q => (b0 d hd z).trans (hset d e hd z q)) (fun p a m hp z q ha => (b0 p hp z).trans (hrow p a m hp z q ha)) hnil (fun d c hd k1 hc => ?_) hsp (d + 1) d e (Nat.lt_succ_self _) hd he
    rw [rest d hd]
    refine ⟨fun w => ?_, fun w => ?_⟩
    · rcases w with w | w | w
      · exact Or.inl ((hnm d c hd k1 hc).mp w)
      · exact Or.inr ((hX d c hd k1 hc).mp w.2)
      · omega
    · rcases w with w | w
      · exact Or.inl ((hnm d c hd k1 hc).mpr w)
      · exact Or.inr (Or.inl ⟨k1, (hX d c hd k1 hc).mpr w⟩)
  have A := nd (fun c => bg (Int32.toNatClampNeg (T.1 10 (gq_fx f (c : Int) R)))) (fun d c _ _ hc => by rw [rbe d c hc])
  have B : ∀ r, r < R → (bg (Int32.toNatClampNeg (T.1 10 r)) ↔ gq_lX f R lf sx r) := by
    intro r hr1
    constructor
    · intro q X hX
      have Y := least (fun d => ((T.1 0 d).toInt = 0 → base d) ∧ ∀ e, gq_Tr tx ty T d e → gq_fb (gq_EL f R) lf sx (fun c => X (gq_fx f (c : Int) R)) e) (fun d hd w => ?_) _ (rtn r hr1).2 q
      · exact hX r hr1 (Y.2 _ (hr r hr1).2)
      · refine ⟨fun z => ?_, fun e he => ?_⟩
        · rcases w with w | w | w
          · exact w
          · omega
          · omega
        · refine gq_fb_up (N := n) (Y := fun d => ((T.1 0 d).toInt = 0 → base d) ∧ ∀ e, gq_Tr tx ty T d e → gq_fb (gq_EL f R) lf sx (fun c => X (gq_fx f (c : Int) R)) e) hd (fun d e y q => y.2 e q) hem hes (hbase2 d hd) (fun z b => (hset d e hd z he).mp b) (fun c k1 kc => ⟨fun b => (hnm d c hd k1 kc).mp b, fun y => ?_⟩) (fun p a m hp z q ha y => (hrow p a m hp z q ha).mp (y.1 z)) ⟨hsp.2.2.2.1.mpr, hsp.2.2.2.2.1.mpr, hsp.2.2.2.2.2.1.mpr, hsp.2.2.2.2.2.2.1.mpr, hsp.2.2.2.2.2.2.2.1.mpr⟩ he w
          have lt := hk d hd k1
          rw [gq_RT_nm h kc] at lt
          have y : ((T.1 0 (gq_rb T R d)).toInt = 0 → base (gq_rb T R d)) ∧ ∀ e, gq_Tr tx ty T (gq_rb T R d) e → gq_fb (gq_EL f R) lf sx (fun c => X (gq_fx f (c : Int) R)) e := y
          rw [rbe d c kc] at y
          exact hX _ lt (y.2 _ (hr _ lt).2)
    · intro q
      refine q (fun s => bg (Int32.toNatClampNeg (T.1 10 s))) (fun s hs w => ?_)
      exact (A _ _ (rtn s hs).2 (hr s hs).2).mpr w
  refine ⟨B, nd _ (fun d c hd k1 hc => ?_)⟩
  have lt := hk d hd k1
  rw [gq_RT_nm h hc] at lt
  rw [rbe d c hc]
  exact B _ lt
/-- a name of the rule q -/
def gq_lfB (f : Nat → Int × Lean.ParserDescr) (R q : Nat) (e : Lean.ParserDescr) : Prop := ∃ c : Nat, e = gp_e0 3 c 0 ∧ gq_fx f (c : Int) R = q
/-- the rule r begins with the rule q -/
def gq_lB (f : Nat → Int × Lean.ParserDescr) (R q r : Nat) : Prop := gq_lX f R (gq_lfB f R q) (fun _ => False) r
/-- the characters with which a leaf begins -/
def gq_lfH (tx : Nat → Int) (ty : Nat) (c : Int) (e : Lean.ParserDescr) : Prop := (∃ a b, e = gp_e0 2 a b ∧ gq_st tx ty a b c) ∨ ∃ a m, e = gp_e0 1 a m ∧ c = tx a
def gq_sx (k : Nat) : Prop := k = 8 ∨ k = 9
/-- the rule r has c in its head -/
def gq_lH (tx : Nat → Int) (ty : Nat) (f : Nat → Int × Lean.ParserDescr) (R : Nat) (c : Int) (r : Nat) : Prop := gq_lX f R (gq_lfH tx ty c) gq_sx r
/-- a star or a capture in the rule r of what can be empty -/
def gq_en (f : Nat → Int × Lean.ParserDescr) (R r : Nat) : Prop := ∃ x, (gp_e1 7 x ∈ gp_sb (f r).2 ∨ gp_e1 10 x ∈ gp_sb (f r).2) ∧ gq_em (gq_EL f R) x
/-- a rule to be refused -/
def gq_wd (f : Nat → Int × Lean.ParserDescr) (R r : Nat) : Prop := gq_lB f R r r ∨ gq_en f R r
theorem gq_fu_tr {T : gm_S} {R : Nat} {P P' : Nat → Prop} {z : Int32 × (gm_S × gm_S)} (h1 : ∀ r, r < R → P r → P' r) (h2 : ∀ r, r < R → P' r → ∃ r', r' ≤ r ∧ P r') (h : gq_fuQ T R P z) : gq_fuQ T R P' z := by
  rcases h with ⟨a, b⟩ | ⟨r, a, b, c, d⟩
  · refine Or.inl ⟨a, fun r hr q => ?_⟩
    obtain ⟨r', q1, q2⟩ := h2 r hr q
    exact b r' (by omega) q2
  · refine Or.inr ⟨r, a, b, h1 r a c, fun r' hr' q => ?_⟩
    obtain ⟨r2, q1, q2⟩ := h2 r' (by omega) q
    exact d r2 (by omega) q2
theorem gp_sb_tr {a b : Lean.ParserDescr} : ∀ c : Lean.ParserDescr, a ∈ gp_sb b → b ∈ gp_sb c → a ∈ gp_sb c := by
  intro c
  induction c with
  | node nm k e ih =>
    intro h1 h2
    have h2 : b ∈ Lean.ParserDescr.node nm k e :: gp_sb e := h2
    rcases List.mem_cons.mp h2 with h2 | h2
    · rw [h2] at h1; exact h1
    · exact List.mem_cons_of_mem _ (ih h1 h2)
  | binary nm e f ih1 ih2 =>
    intro h1 h2
    have h2 : b ∈ Lean.ParserDescr.binary nm e f :: (gp_sb e ++ gp_sb f) := h2
    rcases List.mem_cons.mp h2 with h2 | h2
    · rw [h2] at h1; exact h1
    · rcases List.mem_append.mp h2 with h2 | h2
      · exact List.mem_cons_of_mem _ (List.mem_append.mpr (Or.inl (ih1 h1 h2)))
      · exact List.mem_cons_of_mem _ (List.mem_append.mpr (Or.inr (ih2 h1 h2)))
  | _ =>
    intro h1 h2
    unfold gp_sb at h2
    rw [List.mem_singleton.mp h2] at h1
    exact h1
/-- endless, in the class's nodes and in the rules: the first is the same -/
theorem gq_en_of {tx : Nat → Int} {ty : Nat} {T : gm_S} {n R : Nat} {f : Nat → Int × Lean.ParserDescr} (h : gq_RT tx ty T n R f) {em : Nat → Int32} (hem : ∀ d e, d < n → gq_Tr tx ty T d e → (em d = 1 ↔ gq_em (gq_EL f R) e)) : (∀ r, r < R → gq_in (T.1 10) (gq_eN T em) r → gq_en f R r) ∧ ∀ r, r < R → gq_en f R r → ∃ r', r' ≤ r ∧ gq_in (T.1 10) (gq_eN T em) r' := by
  have h' := h
  obtain ⟨hT, hT0, hfn, hn, hr, hcv⟩ := h'
  have rtn := hT.2.2.2.2.1
  have un : ∀ d e, d < n → gq_Tr tx ty T d e → 4 ≤ (T.1 0 d).toInt → ∃ x, (em (Int32.toNatClampNeg (T.1 4 (Int32.toNatClampNeg (T.1 2 d)))) = 1 ↔ gq_em (gq_EL f R) x) ∧ (((T.1 0 d).toInt = 4 ∧ e = gp_e1 6 x) ∨ ((T.1 0 d).toInt = 5 ∧ e = gp_e1 7 x) ∨ ((T.1 0 d).toInt = 6 ∧ e = gp_ep x) ∨ ((T.1 0 d).toInt = 7 ∧ e = gp_e1 8 x) ∨ ((T.1 0 d).toInt = 8 ∧ e = gp_e1 9 x) ∨ ((T.1 0 d).toInt = 9 ∧ e = gp_e1 10 x)) := by
    intro d e hd he k4
    unfold gq_Tr at he
    rw [gq_R] at he
    rcases he with ⟨q, -⟩ | ⟨q, -⟩ | ⟨lo, hi, f1, f2, q⟩
    · omega
    · omega
    · rcases q with ⟨q, -⟩ | ⟨q, -⟩ | ⟨q, -⟩ | ⟨x, sg, q⟩
      · omega
      · omega
      · omega
      · obtain ⟨m, m1, mp, ⟨mr, mr2⟩, m4⟩ := sg
        have m4 : m = lo := m4
        rw [m4] at mr mr2
        rw [gp_cl_n f1]
        exact ⟨x, hem _ _ (by omega) mr2, q⟩
  constructor
  · rintro r r1 ⟨d, d1, d2, d3, d4⟩
    have dn : d < n := by have := (rtn r r1).2; omega
    obtain ⟨e', e1, e2⟩ := hcv r d r1 d1 d2 (by omega)
    obtain ⟨x, x1, x2⟩ := un d e' dn e2 (by omega)
    refine ⟨x, ?_, x1.mp d4⟩
    rcases x2 with ⟨q, -⟩ | ⟨q, re⟩ | ⟨q, re⟩ | ⟨q, -⟩ | ⟨q, -⟩ | ⟨q, re⟩
    · omega
    · rw [re] at e1; exact Or.inl e1
    · rw [re] at e1
      exact Or.inl (gp_sb_tr _ (gp_sb_2n _ x (gp_e1 7 x) _ (gp_sb_me _)) e1)
    · omega
    · omega
    · rw [re] at e1; exact Or.inr e1
  · rintro r r1 ⟨x, x1, x2⟩
    have fin : ∀ e', ((∃ c, e' = gp_e0 3 c 0) ∨ (∃ y, e' = gp_e1 7 y) ∨ ∃ y, e' = gp_e1 10 y) → (e' = gp_e1 7 x ∨ e' = gp_e1 10 x) → e' ∈ gp_sb (f r).2 → ∃ r', r' ≤ r ∧ gq_in (T.1 10) (gq_eN T em) r' := by
      intro e' he hx hm
      obtain ⟨d', d1, d2⟩ := gq_R_sub he (Int32.toNatClampNeg (T.1 10 r) + 1) _ _ (by omega) (hr r r1).2 hm
      have dn : d' < n := by have := (rtn r r1).2; omega
      obtain ⟨r', q1, q2, q3⟩ := gq_fn_le hfn d' (by omega)
      refine ⟨r', ?_, d', q2, q3, ?_⟩
      · rcases Nat.lt_or_ge r r' with w | w
        · have := gq_fn_mono hfn r' r w (by omega)
          omega
        · exact w
      · rcases d2 with ⟨d2, k⟩ | ⟨y, d2, k6, d3⟩
        · have k4 : 4 ≤ (T.1 0 d').toInt := by
            rcases k with k | k
            · exfalso
              rw [gq_R] at d2
              rcases d2 with ⟨q, -⟩ | ⟨-, c, q, -⟩ | ⟨lo, hi, -, -, q⟩
              · omega
              · rcases hx with hx | hx
                · rw [hx] at q; cases q
                · rw [hx] at q; cases q
              · rcases q with ⟨q, -⟩ | ⟨q, -⟩ | ⟨q, -⟩ | ⟨y, -, q⟩
                · omega
                · omega
                · omega
                · rcases q with ⟨r, -⟩ | ⟨r, -⟩ | ⟨r, -⟩ | ⟨r, -⟩ | ⟨r, -⟩ | ⟨r, -⟩ <;> omega
            · omega
          obtain ⟨y, y1, y2⟩ := un d' e' dn d2 k4
          have xy : x = y := by
            rcases y2 with ⟨q, re⟩ | ⟨q, re⟩ | ⟨q, re⟩ | ⟨q, re⟩ | ⟨q, re⟩ | ⟨q, re⟩
            · omega
            · rcases hx with hx | hx
              · rw [hx] at re; injection re
              · rw [hx] at re; injection re
            · omega
            · omega
            · omega
            · rcases hx with hx | hx
              · rw [hx] at re; injection re
              · rw [hx] at re; injection re
          rw [← xy] at y1
          exact ⟨by omega, y1.mpr x2⟩
        · obtain ⟨y', y1, y2⟩ := un d' _ dn d3 (by omega)
          have xy : x = y' := by
            have x0 : x = y := by
              rcases hx with hx | hx
              · rw [hx] at d2; injection d2
              · rw [hx] at d2; injection d2
            rcases y2 with ⟨q, -⟩ | ⟨q, -⟩ | ⟨q, re⟩ | ⟨q, -⟩ | ⟨q, -⟩ | ⟨q, -⟩
            · omega
            · omega
            · injection re with _ w _; rw [x0]; exact w
            · omega
            · omega
            · omega
          rw [← xy] at y1
          exact ⟨by omega, y1.mpr x2⟩
    rcases x1 with x1 | x1
    · exact fin _ (Or.inr (Or.inl ⟨x, rfl⟩)) (Or.inl rfl) x1
    · exact fin _ (Or.inr (Or.inr ⟨x, rfl⟩)) (Or.inr rfl) x1
