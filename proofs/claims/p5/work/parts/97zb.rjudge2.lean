/-! What the reference's study found, said of the rules. -/
abbrev gr_rt (fr : Int32) (wh : Nat → Int32) (r : Nat) : Nat := Int32.toNatClampNeg (wh (8 * Int32.toNatClampNeg fr + r))
noncomputable abbrev gr_Mz (fr : Int32) (rc nm wh on : Nat → Int32) (n : Nat) : Int32 := gp_mz rc nm wh fr (on n)
noncomputable abbrev gr_Rz (fr : Int32) (rc nm on : Nat → Int32) (n : Nat) : Int32 := gp_rz rc nm fr (on n)
theorem gr_in_of {ty fr : Int32} {rc nm wh pa kd on tw ow : Nat → Int32} (ht : ty.toInt ≤ 50) (hU : gm_iU ty fr rc nm wh pa kd on tw ow) {Pn : Nat} (hPn : gp_B fr + Pn = gp_M fr pa) : (∀ n, gp_B fr ≤ n → n < gp_B fr + Pn → gr_in (gp_B fr) (gp_B fr + Pn) kd on tw (gr_Mz fr rc nm wh on) n) ∧ ∀ n, gp_B fr ≤ n → n < gp_B fr + Pn → (kd n).toInt ≤ 10 := by
  have k := gp_kd_of ht hU
  rw [hPn]
  constructor
  · intro n h1 h2
    obtain ⟨a, b, c, -, -, -⟩ := k n h1 h2
    exact ⟨fun q => ⟨(a q).1, (a q).2.1⟩, fun q => ⟨(b q).1, by have := (b q).2.1; omega⟩, fun q => ⟨(c q).1, by have := (c q).2.1; omega⟩⟩
  · intro n h1 h2
    exact (k n h1 h2).2.2.2.2.2
theorem gr_emS {Pg : Nat → Nat → Nat → Prop} {ty fr : Int32} {rc nm wh pa kd on tw ow : Nat → Int32} {R nA nC : Nat} {f : Nat → Int × Lean.ParserDescr} (ht : ty.toInt ≤ 50) (hU : gm_iU ty fr rc nm wh pa kd on tw ow) (hG : gp_G Pg fr rc nm wh pa kd on tw ow R f nA nC) {Pn : Nat} (hPn : gp_B fr + Pn = gp_M fr pa) {em : Nat → Int32} {x0 : Nat → Bool} (hx : ∀ k, k < Pn → x0 k = false) (h : gp_v em (gp_B fr) = gp_it (gp_FE kd on tw (gr_Mz fr rc nm wh on) (gp_B fr)) Pn Pn x0) : (∀ r, r < R → (em (gr_rt fr wh r) = 1 ↔ gq_lE f R r)) ∧ ∀ e n, gp_B fr ≤ n → n < gp_M fr pa → gp_rep Pg (gp_B fr) kd on tw e n → (em n = 1 ↔ gq_em (gq_EL f R) e) := by
  have hR := (gr_R_of hU hG).1
  obtain ⟨hin, -⟩ := gr_in_of ht hU hPn
  obtain ⟨a, b⟩ := gr_emC hR (em := fun j => gp_B fr ≤ j ∧ em j = 1) (fun n h1 h2 => by
    have w := gp_em_rest' hx h (n - gp_B fr) (by omega)
    rw [show gp_B fr + (n - gp_B fr) = n by omega] at w
    exact ⟨fun q => w.mp q.2, fun q => ⟨h1, w.mpr q⟩⟩) (fun Y hY n h1 h2 q => gr_em_least hx hin h Y (fun n a b => hY n a (by omega)) n h1 (by omega) q.2)
  refine ⟨fun r hr => ?_, fun e n h1 h2 he => ?_⟩
  · exact ⟨fun q => (a r hr).mp ⟨(hR.1 r hr).1, q⟩, fun q => ((a r hr).mpr q).2⟩
  · exact ⟨fun q => (b e n h1 h2 he).mp ⟨h1, q⟩, fun q => ((b e n h1 h2 he).mpr q).2⟩
/-- the leaf with which a part begins, by its number -/
def gr_lfB (f : Nat → Int × Lean.ParserDescr) (R q : Nat) : Lean.ParserDescr → Prop
  | .cat nm k => k = 3 ∧ gq_fx f ((gp_n1 nm : Nat) : Int) R = q
  | _ => False
theorem gr_lfB_iff {f : Nat → Int × Lean.ParserDescr} {R q : Nat} (nm : Lean.Name) (k : Nat) (c : gr_cn (.cat nm k)) : gr_lfB f R q (.cat nm k) ↔ gq_lfB f R q (.cat nm k) := by
  constructor
  · rintro ⟨k3, h⟩
    subst k3
    refine ⟨gp_n1 nm, ?_, h⟩
    have e := c.1
    rw [c.2 rfl] at e
    exact congrArg (fun x => Lean.ParserDescr.cat x 3) e
  · rintro ⟨d, e, h⟩
    injection e with e1 e2
    refine ⟨e2, ?_⟩
    rw [e1]
    exact h
theorem gr_bgS {Pg : Nat → Nat → Nat → Prop} {ty fr : Int32} {rc nm wh pa kd on tw ow : Nat → Int32} {R nA nC : Nat} {f : Nat → Int × Lean.ParserDescr} (ht : ty.toInt ≤ 50) (hU : gm_iU ty fr rc nm wh pa kd on tw ow) (hG : gp_G Pg fr rc nm wh pa kd on tw ow R f nA nC) (hc : ∀ r, r < R → gr_cn (f r).2) {Pn : Nat} (hPn : gp_B fr + Pn = gp_M fr pa) {em bg : Nat → Int32} (hem : ∀ e n, gp_B fr ≤ n → n < gp_M fr pa → gp_rep Pg (gp_B fr) kd on tw e n → (em n = 1 ↔ gq_em (gq_EL f R) e)) {q : Nat} {x0 : Nat → Bool} (hx : ∀ k, k < Pn → x0 k = false) (h : gp_vb bg q (gp_B fr) = gp_it (gp_FB kd on tw (gr_Mz fr rc nm wh on) (gr_Rz fr rc nm on) (fun j => em j = 1) q (gp_B fr)) Pn Pn x0) : ∀ r, r < R → (gp_bt (bg (gr_rt fr wh r)) q = true ↔ gq_lB f R q r) := by
  obtain ⟨hR, hRz⟩ := gr_R_of hU hG
  obtain ⟨hin, -⟩ := gr_in_of ht hU hPn
  have w := (gr_fbC hR (em := fun j => em j = 1) (base := gr_b3 kd (gr_Rz fr rc nm on) q) (bg := fun j => gp_B fr ≤ j ∧ gp_bt (bg j) q = true) (lf := gr_lfB f R q) (sx := fun _ => False) hem (fun n h1 h2 => by
    have w := gp_bg_rest hx h (n - gp_B fr) (by omega)
    rw [show gp_B fr + (n - gp_B fr) = n by omega] at w
    exact ⟨fun t => gr_bF_iff.mp (w.mp t.2), fun t => ⟨h1, w.mpr (gr_bF_iff.mpr t)⟩⟩) (fun Y hY n h1 h2 t => gr_bg_least hx hin h Y (fun n a b => hY n a (by omega)) n h1 (by omega) t.2) (fun nm' k n h1 h2 r => ?_) (fun n h1 h2 k4 t => by have := t.1; omega)).1
  · intro r hr
    rw [show gq_lB f R q r ↔ gq_lX f R (gr_lfB f R q) (fun _ => False) r from (gr_lX_lf hc gr_lfB_iff r).symm, ← w r hr]
    exact ⟨fun t => ⟨(hR.1 r hr).1, t⟩, fun t => t.2⟩
  · unfold gp_rep at r
    obtain ⟨-, r1, -, r3⟩ := r
    constructor
    · intro t
      have k3 : k = 3 := by have := t.1; omega
      have e : (gr_Rz fr rc nm on n).toInt = _ := hRz n _ h1 h2 t.1 (r3.1 k3)
      have t2 := t.2
      refine ⟨k3, ?_⟩
      omega
    · rintro ⟨k3, t⟩
      have e : (gr_Rz fr rc nm on n).toInt = _ := hRz n _ h1 h2 (by omega) (r3.1 k3)
      refine ⟨by omega, ?_⟩
      omega
/-- a rule that could run for ever, as the reference finds it -/
def gr_Wd (B M : Nat) (kd on ow em bg : Nat → Int32) (rt : Nat → Nat) (r : Nat) : Prop := gp_bt (bg (rt r)) r = true ∨ ∃ n : Nat, B ≤ n ∧ n < M ∧ (ow n).toInt = r ∧ ((kd n).toInt = 7 ∨ (kd n).toInt = 10) ∧ em (Int32.toNatClampNeg (on n)) = 1
theorem gr_wdS {Pg : Nat → Nat → Nat → Prop} {fr : Int32} {rc nm wh pa kd on tw ow : Nat → Int32} {R nA nC : Nat} {f : Nat → Int × Lean.ParserDescr} (hG : gp_G Pg fr rc nm wh pa kd on tw ow R f nA nC) (hc : ∀ r, r < R → gr_cn (f r).2) (ho : gr_ow (gp_B fr) R ow (gr_rt fr wh)) {em bg : Nat → Int32} (hem : ∀ e n, gp_B fr ≤ n → n < gp_M fr pa → gp_rep Pg (gp_B fr) kd on tw e n → (em n = 1 ↔ gq_em (gq_EL f R) e)) (hbg : ∀ r, r < R → (gp_bt (bg (gr_rt fr wh r)) r = true ↔ gq_lB f R r r)) : (∀ r, r < R → gr_Wd (gp_B fr) (gp_M fr pa) kd on ow em bg (gr_rt fr wh) r → gq_wd f R r) ∧ ∀ r, r < R → gq_wd f R r → ∃ r', r' ≤ r ∧ gr_Wd (gp_B fr) (gp_M fr pa) kd on ow em bg (gr_rt fr wh) r' := by
  obtain ⟨g1, g2, g3, -⟩ := hG
  constructor
  · rintro r hr (h | ⟨n, h1, h2, h3, h4, h5⟩)
    · exact Or.inl ((hbg r hr).mp h)
    · obtain ⟨r', q1, q2, e', q3, q4⟩ := g3 n h1 h2
      have er : r' = r := by omega
      subst er
      have cn := gr_cn_sb _ e' (hc r' q1) q3
      cases e' with
      | cat nm' k => unfold gp_rep at q4; omega
      | node nm' k e =>
        unfold gp_rep at q4
        obtain ⟨-, w1, w2, w3⟩ := q4
        have c := gp_ch_cl w2
        refine Or.inr ⟨e, ?_, (hem e _ c.1 (by omega) w3).mp h5⟩
        rw [cn.1] at q3
        rcases h4 with h4 | h4
        · rw [show k = 7 by omega] at q3; exact Or.inl q3
        · rw [show k = 10 by omega] at q3; exact Or.inr q3
      | binary nm' e g => unfold gp_rep at q4; omega
      | _ => unfold gp_rep at q4; exact q4.elim
  · rintro r hr (h | ⟨x, hx, h⟩)
    · exact ⟨r, Nat.le_refl _, Or.inl ((hbg r hr).mpr h)⟩
    · have g := (g2 r hr).2
      have cc := gp_ch_cl g.1
      have main : ∀ k, k = 7 ∨ k = 10 → gp_e1 k x ∈ gp_sb (f r).2 → ∃ r', r' ≤ r ∧ gr_Wd (gp_B fr) (gp_M fr pa) kd on ow em bg (gr_rt fr wh) r' := by
        intro k hk m
        obtain ⟨n', a, b, d⟩ := gr_sub _ _ cc.1 g.2 m
        obtain ⟨r', q1, q2, -⟩ := g3 n' a (by omega)
        have o := ho r n' hr a b
        unfold gp_rep at d
        obtain ⟨-, w1, w2, w3⟩ := d
        have c := gp_ch_cl w2
        exact ⟨r', by omega, Or.inr ⟨n', a, by omega, q2, by omega, (hem x _ c.1 (by omega) w3).mpr h⟩⟩
      rcases hx with hx | hx
      · exact main 7 (Or.inl rfl) hx
      · exact main 10 (Or.inr rfl) hx
