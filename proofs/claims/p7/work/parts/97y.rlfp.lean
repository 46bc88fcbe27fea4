/-! The reference's tables, said of the rules: what can be empty, with which rules a part begins. -/
/-- rules in the parts of a half: names by their numbers -/
def gr_R (Pg : Nat → Nat → Nat → Prop) (B M R : Nat) (kd on tw Mz : Nat → Int32) (rt : Nat → Nat) (f : Nat → Int × Lean.ParserDescr) : Prop := (∀ r, r < R → B ≤ rt r ∧ rt r < M ∧ gp_rep Pg B kd on tw (f r).2 (rt r)) ∧ ∀ n c : Nat, B ≤ n → n < M → (kd n).toInt = 3 → (on n).toInt = c → gq_fx f (c : Int) R < R ∧ Int32.toNatClampNeg (Mz n) = rt (gq_fx f (c : Int) R)
theorem gr_em_nd {Pg : Nat → Nat → Nat → Prop} {B M : Nat} {kd on tw Mz : Nat → Int32} {em E : Nat → Prop} (rest : ∀ n, B ≤ n → n < M → (em n ↔ gp_eF kd on tw Mz em n)) (hn : ∀ n c : Nat, B ≤ n → n < M → (kd n).toInt = 3 → (on n).toInt = c → (em (Int32.toNatClampNeg (Mz n)) ↔ E c)) : ∀ (e : Lean.ParserDescr) (n : Nat), B ≤ n → n < M → gp_rep Pg B kd on tw e n → (em n ↔ gq_em E e) := by
  intro e
  induction e with
  | cat nm k =>
    intro n h1 h2 r
    unfold gp_rep at r
    obtain ⟨r0, r1, r2, r3, rg⟩ := r
    rw [rest n h1 h2]
    show gp_eF kd on tw Mz em n ↔ (k = 0 ∨ (k = 3 ∧ E (gp_n1 nm)))
    by_cases k3 : k = 3
    · rw [gp_eF_3 (by omega), hn n (gp_n1 nm) h1 h2 (by omega) (r3 k3)]
      exact ⟨fun h => Or.inr ⟨k3, h⟩, fun h => h.elim (fun h => by omega) (fun h => h.2)⟩
    · by_cases k0 : k = 0
      · exact ⟨fun _ => Or.inl k0, fun _ => gp_eF_t (Or.inl (by omega))⟩
      · exact ⟨fun h => absurd h.1 (by have := h.2.1; omega), fun h => by omega⟩
  | node nm k e ih =>
    intro n h1 h2 r
    unfold gp_rep at r
    obtain ⟨r0, r1, r2, r3⟩ := r
    have c := gp_ch_cl r2
    have i := ih _ c.1 (by omega) r3
    rw [rest n h1 h2]
    show gp_eF kd on tw Mz em n ↔ (k = 10 → gq_em E e)
    by_cases k10 : k = 10
    · rw [gp_eF_10 (by omega), i]
      exact ⟨fun h _ => h, fun h => h k10⟩
    · exact ⟨fun _ h => absurd h k10, fun _ => gp_eF_t (by omega)⟩
  | binary nm e g ih1 ih2 =>
    intro n h1 h2 r
    unfold gp_rep at r
    obtain ⟨r0, r1, r2, r3, r4, r5⟩ := r
    have c := gp_ch_cl r2
    have c2 := gp_ch_cl r3
    have i1 := ih1 _ c.1 (by omega) r4
    have i2 := ih2 _ c2.1 (by omega) r5
    rw [rest n h1 h2]
    show gp_eF kd on tw Mz em n ↔ ((gp_n2 nm = 4 ∧ gq_em E e ∧ gq_em E g) ∨ (¬ gp_n2 nm = 4 ∧ (gq_em E e ∨ gq_em E g)))
    by_cases k4 : gp_n2 nm = 4
    · rw [gp_eF_4 (by omega), i1, i2]
      exact ⟨fun h => Or.inl ⟨k4, h⟩, fun h => h.elim (fun h => h.2) (fun h => absurd k4 h.1)⟩
    · rw [gp_eF_5 (by omega), i1, i2]
      exact ⟨fun h => Or.inr ⟨k4, h⟩, fun h => h.elim (fun h => absurd h.1 k4) (fun h => h.2)⟩
  | _ =>
    intro n _ _ r
    unfold gp_rep at r
    exact r.elim
theorem gr_em_up {Pg : Nat → Nat → Nat → Prop} {B M : Nat} {kd on tw Mz : Nat → Int32} {Y E : Nat → Prop} {n : Nat} (h1 : B ≤ n) (h2 : n < M) (hY : ∀ n e, Y n → gp_rep Pg B kd on tw e n → gq_em E e) (hn : ∀ c : Nat, (kd n).toInt = 3 → (on n).toInt = c → Y (Int32.toNatClampNeg (Mz n)) → E c) {e : Lean.ParserDescr} (r : gp_rep Pg B kd on tw e n) (h : gp_eF kd on tw Mz Y n) : gq_em E e := by
  cases e with
  | cat nm k =>
    unfold gp_rep at r
    obtain ⟨r0, r1, r2, r3, rg⟩ := r
    by_cases k3 : k = 3
    · exact Or.inr ⟨k3, hn _ (by omega) (r3 k3) (h.2.2.1 (by omega))⟩
    · by_cases k0 : k = 0
      · exact Or.inl k0
      · exfalso
        have := h.1
        have := h.2.1
        omega
  | node nm k e =>
    unfold gp_rep at r
    obtain ⟨r0, r1, r2, r3⟩ := r
    exact fun k10 => hY _ _ (h.2.2.2.2.2 (by omega)) r3
  | binary nm e g =>
    unfold gp_rep at r
    obtain ⟨r0, r1, r2, r3, r4, r5⟩ := r
    by_cases k4 : gp_n2 nm = 4
    · have := h.2.2.2.1 (by omega)
      exact Or.inl ⟨k4, hY _ _ this.1 r4, hY _ _ this.2 r5⟩
    · rcases h.2.2.2.2.1 (by omega) with w | w
      · exact Or.inr ⟨k4, Or.inl (hY _ _ w r4)⟩
      · exact Or.inr ⟨k4, Or.inr (hY _ _ w r5)⟩
  | _ =>
    unfold gp_rep at r
    exact r.elim
theorem gr_emC {Pg : Nat → Nat → Nat → Prop} {B M R : Nat} {kd on tw Mz : Nat → Int32} {rt : Nat → Nat} {f : Nat → Int × Lean.ParserDescr} (h : gr_R Pg B M R kd on tw Mz rt f) {em : Nat → Prop} (rest : ∀ n, B ≤ n → n < M → (em n ↔ gp_eF kd on tw Mz em n)) (least : ∀ Y : Nat → Prop, (∀ n, B ≤ n → n < M → gp_eF kd on tw Mz Y n → Y n) → ∀ n, B ≤ n → n < M → em n → Y n) : (∀ r, r < R → (em (rt r) ↔ gq_lE f R r)) ∧ ∀ e n, B ≤ n → n < M → gp_rep Pg B kd on tw e n → (em n ↔ gq_em (gq_EL f R) e) := by
  obtain ⟨hr, hn⟩ := h
  have A := gr_em_nd (Pg := Pg) (E := fun c => em (rt (gq_fx f (c : Int) R))) rest (fun n c h1 h2 k3 kc => by rw [(hn n c h1 h2 k3 kc).2])
  have Bb : ∀ r, r < R → (em (rt r) ↔ gq_lE f R r) := by
    intro r hr1
    constructor
    · intro q E hE
      have Y := least (fun n => ∀ e, gp_rep Pg B kd on tw e n → gq_em (fun c => E (gq_fx f (c : Int) R)) e) (fun n h1 h2 w e he => ?_) _ (hr r hr1).1 (hr r hr1).2.1 q
      · exact hE r hr1 (Y _ (hr r hr1).2.2)
      · refine gr_em_up (Y := fun n => ∀ e, gp_rep Pg B kd on tw e n → gq_em (fun c => E (gq_fx f (c : Int) R)) e) h1 h2 (fun n e y q => y e q) (fun c k3 kc y => ?_) he w
        obtain ⟨lt, eq⟩ := hn n c h1 h2 k3 kc
        have y : ∀ e, gp_rep Pg B kd on tw e (Int32.toNatClampNeg (Mz n)) → gq_em (fun c => E (gq_fx f (c : Int) R)) e := y
        rw [eq] at y
        exact hE _ lt (y _ (hr _ lt).2.2)
    · intro q
      refine q (fun s => em (rt s)) (fun s hs w => ?_)
      exact (A _ _ (hr s hs).1 (hr s hs).2.1 (hr s hs).2.2).mpr w
  refine ⟨Bb, fun e n h1 h2 he => gr_em_nd (E := gq_EL f R) rest (fun n c h1 h2 k3 kc => ?_) e n h1 h2 he⟩
  obtain ⟨lt, eq⟩ := hn n c h1 h2 k3 kc
  rw [eq]
  exact Bb _ lt
/-- a part by the others: with what it begins (rules and characters alike) -/
def gr_nB (kd on tw Mz : Nat → Int32) (em base : Nat → Prop) (sx : Nat → Prop) (bg : Nat → Prop) (n : Nat) : Prop := base n ∨ ((kd n).toInt = 3 ∧ bg (Int32.toNatClampNeg (Mz n))) ∨ ((kd n).toInt = 4 ∧ (bg (Int32.toNatClampNeg (on n)) ∨ (em (Int32.toNatClampNeg (on n)) ∧ bg (Int32.toNatClampNeg (tw n))))) ∨ ((kd n).toInt = 5 ∧ (bg (Int32.toNatClampNeg (on n)) ∨ bg (Int32.toNatClampNeg (tw n)))) ∨ (6 ≤ (kd n).toInt ∧ ¬ sx (kd n).toInt.toNat ∧ bg (Int32.toNatClampNeg (on n)))
theorem gr_fbC {Pg : Nat → Nat → Nat → Prop} {B M R : Nat} {kd on tw Mz : Nat → Int32} {rt : Nat → Nat} {f : Nat → Int × Lean.ParserDescr} (h : gr_R Pg B M R kd on tw Mz rt f) {em base bg : Nat → Prop} {lf : Lean.ParserDescr → Prop} {sx : Nat → Prop} (hem : ∀ e n, B ≤ n → n < M → gp_rep Pg B kd on tw e n → (em n ↔ gq_em (gq_EL f R) e)) (rest : ∀ n, B ≤ n → n < M → (bg n ↔ gr_nB kd on tw Mz em base sx bg n)) (least : ∀ Y : Nat → Prop, (∀ n, B ≤ n → n < M → gr_nB kd on tw Mz em base sx Y n → Y n) → ∀ n, B ≤ n → n < M → bg n → Y n) (hleaf : ∀ nm k n, B ≤ n → n < M → gp_rep Pg B kd on tw (.cat nm k) n → (base n ↔ lf (.cat nm k))) (hbase : ∀ n, B ≤ n → n < M → 4 ≤ (kd n).toInt → ¬ base n) : (∀ r, r < R → (bg (rt r) ↔ gq_lX f R lf sx r)) ∧ ∀ e n, B ≤ n → n < M → gp_rep Pg B kd on tw e n → (bg n ↔ gq_fb (gq_EL f R) lf sx (fun c => gq_lX f R lf sx (gq_fx f (c : Int) R)) e) := by
  obtain ⟨hr, hn⟩ := h
  have up : ∀ (Y X : Nat → Prop) (n : Nat) (e : Lean.ParserDescr), B ≤ n → n < M → (∀ n e, Y n → gp_rep Pg B kd on tw e n → gq_fb (gq_EL f R) lf sx X e) → (∀ c : Nat, (kd n).toInt = 3 → (on n).toInt = c → Y (Int32.toNatClampNeg (Mz n)) → X c) → gp_rep Pg B kd on tw e n → gr_nB kd on tw Mz em base sx Y n → gq_fb (gq_EL f R) lf sx X e := by
    intro Y X n e h1 h2 hY hX r w
    cases e with
    | cat nm k =>
      have r' := r
      unfold gp_rep at r
      obtain ⟨r0, r1, r2, r3, rg⟩ := r
      rcases w with w | w | w | w | w
      · exact Or.inl ((hleaf nm k n h1 h2 r').mp w)
      · exact Or.inr ⟨by omega, hX _ w.1 (r3 (by omega)) w.2⟩
      all_goals omega
    | node nm k e =>
      unfold gp_rep at r
      obtain ⟨r0, r1, r2, r3⟩ := r
      rcases w with w | w | w | w | ⟨w1, w2, w3⟩
      · exact absurd w (hbase n h1 h2 (by omega))
      · omega
      · omega
      · omega
      · rw [show (kd n).toInt.toNat = k by omega] at w2
        exact ⟨w2, hY _ _ w3 r3⟩
    | binary nm e g =>
      unfold gp_rep at r
      obtain ⟨r0, r1, r2, r3, r4, r5⟩ := r
      have c := gp_ch_cl r2
      rcases w with w | w | ⟨w1, w⟩ | ⟨w1, w⟩ | w
      · exact absurd w (hbase n h1 h2 (by omega))
      · omega
      · rcases w with w | w
        · exact Or.inl (hY _ _ w r4)
        · exact Or.inr ⟨fun _ => (hem _ _ c.1 (by omega) r4).mp w.1, hY _ _ w.2 r5⟩
      · rcases w with w | w
        · exact Or.inl (hY _ _ w r4)
        · exact Or.inr ⟨fun q => by omega, hY _ _ w r5⟩
      · omega
    | _ =>
      unfold gp_rep at r
      exact r.elim
  have nd : ∀ (X : Nat → Prop), (∀ n c : Nat, B ≤ n → n < M → (kd n).toInt = 3 → (on n).toInt = c → (bg (Int32.toNatClampNeg (Mz n)) ↔ X c)) → ∀ e n, B ≤ n → n < M → gp_rep Pg B kd on tw e n → (bg n ↔ gq_fb (gq_EL f R) lf sx X e) := by
    intro X hX e
    induction e with
    | cat nm k =>
      intro n h1 h2 r
      have r' := r
      unfold gp_rep at r
      obtain ⟨r0, r1, r2, r3, rg⟩ := r
      rw [rest n h1 h2]
      constructor
      · rintro (w | w | w | w | w)
        · exact Or.inl ((hleaf nm k n h1 h2 r').mp w)
        · exact Or.inr ⟨by omega, (hX n _ h1 h2 w.1 (r3 (by omega))).mp w.2⟩
        all_goals omega
      · rintro (w | w)
        · exact Or.inl ((hleaf nm k n h1 h2 r').mpr w)
        · exact Or.inr (Or.inl ⟨by omega, (hX n _ h1 h2 (by omega) (r3 w.1)).mpr w.2⟩)
    | node nm k e ih =>
      intro n h1 h2 r
      unfold gp_rep at r
      obtain ⟨r0, r1, r2, r3⟩ := r
      have c := gp_ch_cl r2
      have i := ih _ c.1 (by omega) r3
      rw [rest n h1 h2]
      have kk : (kd n).toInt.toNat = k := by omega
      constructor
      · rintro (w | w | w | w | ⟨w1, w2, w3⟩)
        · exact absurd w (hbase n h1 h2 (by omega))
        · omega
        · omega
        · omega
        · rw [kk] at w2; exact ⟨w2, i.mp w3⟩
      · rintro ⟨w1, w2⟩
        exact Or.inr (Or.inr (Or.inr (Or.inr ⟨by omega, by rw [kk]; exact w1, i.mpr w2⟩)))
    | binary nm e g ih1 ih2 =>
      intro n h1 h2 r
      unfold gp_rep at r
      obtain ⟨r0, r1, r2, r3, r4, r5⟩ := r
      have c := gp_ch_cl r2
      have c2 := gp_ch_cl r3
      have i1 := ih1 _ c.1 (by omega) r4
      have i2 := ih2 _ c2.1 (by omega) r5
      have m1 := hem _ _ c.1 (by omega) r4
      rw [rest n h1 h2]
      constructor
      · rintro (w | w | ⟨w1, w⟩ | ⟨w1, w⟩ | w)
        · exact absurd w (hbase n h1 h2 (by omega))
        · omega
        · rcases w with w | w
          · exact Or.inl (i1.mp w)
          · exact Or.inr ⟨fun _ => m1.mp w.1, i2.mp w.2⟩
        · rcases w with w | w
          · exact Or.inl (i1.mp w)
          · exact Or.inr ⟨fun q => by omega, i2.mp w⟩
        · omega
      · intro w
        by_cases k4 : gp_n2 nm = 4
        · refine Or.inr (Or.inr (Or.inl ⟨by omega, ?_⟩))
          rcases w with w | w
          · exact Or.inl (i1.mpr w)
          · exact Or.inr ⟨m1.mpr (w.1 k4), i2.mpr w.2⟩
        · refine Or.inr (Or.inr (Or.inr (Or.inl ⟨by omega, ?_⟩)))
          rcases w with w | w
          · exact Or.inl (i1.mpr w)
          · exact Or.inr (i2.mpr w.2)
    | _ =>
      intro n _ _ r
      unfold gp_rep at r
      exact r.elim
  have A := nd (fun c => bg (rt (gq_fx f (c : Int) R))) (fun n c h1 h2 k3 kc => by rw [(hn n c h1 h2 k3 kc).2])
  have Bb : ∀ r, r < R → (bg (rt r) ↔ gq_lX f R lf sx r) := by
    intro r hr1
    constructor
    · intro q X hX
      have Y := least (fun n => ∀ e, gp_rep Pg B kd on tw e n → gq_fb (gq_EL f R) lf sx (fun c => X (gq_fx f (c : Int) R)) e) (fun n h1 h2 w e he => ?_) _ (hr r hr1).1 (hr r hr1).2.1 q
      · exact hX r hr1 (Y _ (hr r hr1).2.2)
      · refine up (fun n => ∀ e, gp_rep Pg B kd on tw e n → gq_fb (gq_EL f R) lf sx (fun c => X (gq_fx f (c : Int) R)) e) _ n e h1 h2 (fun n e y q => y e q) (fun c k3 kc y => ?_) he w
        obtain ⟨lt, eq⟩ := hn n c h1 h2 k3 kc
        have y : ∀ e, gp_rep Pg B kd on tw e (Int32.toNatClampNeg (Mz n)) → gq_fb (gq_EL f R) lf sx (fun c => X (gq_fx f (c : Int) R)) e := y
        rw [eq] at y
        exact hX _ lt (y _ (hr _ lt).2.2)
    · intro q
      refine q (fun s => bg (rt s)) (fun s hs w => ?_)
      exact (A _ _ (hr s hs).1 (hr s hs).2.1 (hr s hs).2.2).mpr w
  refine ⟨Bb, nd _ (fun n c h1 h2 k3 kc => ?_)⟩
  obtain ⟨lt, eq⟩ := hn n c h1 h2 k3 kc
  rw [eq]
  exact Bb _ lt
