/-! The heads of the reference, said of the rules. -/
def gr_lfH (tx : Nat → Int) (ty : Nat) (c : Int) : Lean.ParserDescr → Prop
  | .cat nm k => (k = 2 ∧ gq_st tx ty (gp_n1 nm) (gp_n2 nm) c) ∨ (k = 1 ∧ c = tx (gp_n1 nm))
  | _ => False
theorem gr_lfH_iff {tx : Nat → Int} {ty : Nat} {c : Int} (nm : Lean.Name) (k : Nat) (cn : gr_cn (.cat nm k)) : gr_lfH tx ty c (.cat nm k) ↔ gq_lfH tx ty c (.cat nm k) := by
  constructor
  · rintro (⟨k2, h⟩ | ⟨k1, h⟩)
    · subst k2
      exact Or.inl ⟨gp_n1 nm, gp_n2 nm, by rw [cn.1]; rfl, h⟩
    · subst k1
      exact Or.inr ⟨gp_n1 nm, gp_n2 nm, by rw [cn.1]; rfl, h⟩
  · rintro (⟨a, b, e, h⟩ | ⟨a, b, e, h⟩)
    · cases e
      exact Or.inl ⟨rfl, h⟩
    · cases e
      exact Or.inr ⟨rfl, h⟩
theorem gr_hd1 {Pg : Nat → Nat → Nat → Prop} {ty fr : Int32} {rc nm wh pa kd on tw ow : Nat → Int32} {R nA nC : Nat} {f : Nat → Int × Lean.ParserDescr} (ht : ty.toInt ≤ 50) (hU : gm_iU ty fr rc nm wh pa kd on tw ow) (hG : gp_G Pg fr rc nm wh pa kd on tw ow R f nA nC) (hc : ∀ r, r < R → gr_cn (f r).2) {Pn : Nat} (hPn : gp_B fr + Pn = gp_M fr pa) {em : Nat → Int32} (hem : ∀ e n, gp_B fr ≤ n → n < gp_M fr pa → gp_rep Pg (gp_B fr) kd on tw e n → (em n = 1 ↔ gq_em (gq_EL f R) e)) {tx : Nat → Int} {tn q : Nat} {c : Int} {lo0 lo : Nat → Int64} {rw' : Nat → Prop} {x0 : Nat → Bool} (h : gp_vl lo q (gp_B fr) = gp_it (gp_FH kd on tw (gr_Mz fr rc nm wh on) (fun j => em j = 1) rw' (gp_B fr)) Pn Pn x0) (hx : ∀ k, x0 k = gp_bl (lo0 (gp_B fr + k)) q) (hb : ∀ n a b, Pg n a b → (gp_bl (lo0 n) q = true ↔ gq_st tx tn a b c)) (hz : ∀ n, gp_B fr ≤ n → n < gp_M fr pa → (kd n).toInt ≠ 2 → lo0 n = 0) (hrw : ∀ n a : Nat, gp_B fr ≤ n → n < gp_M fr pa → (kd n).toInt = 1 → (on n).toInt = a → (rw' n ↔ c = tx a)) : (∀ r, r < R → (gp_bl (lo (gr_rt fr wh r)) q = true ↔ gq_lH tx tn f R c r)) ∧ ∀ e n, gp_B fr ≤ n → n < gp_M fr pa → gr_cn e → gp_rep Pg (gp_B fr) kd on tw e n → (gp_bl (lo n) q = true ↔ gq_fb (gq_EL f R) (gq_lfH tx tn c) gq_sx (fun k => gq_lH tx tn f R c (gq_fx f (k : Int) R)) e) := by
  obtain ⟨hR, -⟩ := gr_R_of hU hG
  obtain ⟨hin, hk⟩ := gr_in_of ht hU hPn
  have z : ∀ v : Int64, v = 0 → gp_bl v q = false := fun v hv => by rw [hv]; unfold gp_bl; rw [Int64.toBitVec_zero]; exact BitVec.getLsbD_zero
  have b0 : ∀ n, gp_B fr ≤ n → n < gp_M fr pa → (x0 (n - gp_B fr) = true ↔ gp_bl (lo0 n) q = true) := fun n h1 h2 => by
    rw [hx, show gp_B fr + (n - gp_B fr) = n by omega]
  have lx : ∀ r, gq_lH tx tn f R c r ↔ gq_lX f R (gr_lfH tx tn c) gq_sx r := fun r => (gr_lX_lf hc gr_lfH_iff r).symm
  have w := gr_fbC hR (em := fun j => em j = 1) (base := gr_b1 kd rw' (gp_B fr) x0) (bg := fun j => gp_B fr ≤ j ∧ gp_bl (lo j) q = true) (lf := gr_lfH tx tn c) (sx := gq_sx) hem (fun n h1 h2 => gr_hd_rest hk hin h n h1 (by omega)) (fun Y hY n h1 h2 t => gr_hd_least hk hin h Y (fun n a b => hY n a (by omega)) n h1 (by omega) t.2) (fun nm' k n h1 h2 r => ?_) (fun n h1 h2 k4 t => ?_)
  · refine ⟨fun r hr => ?_, fun e n h1 h2 ce r => ?_⟩
    · rw [lx, ← w.1 r hr]
      exact ⟨fun t => ⟨(hR.1 r hr).1, t⟩, fun t => t.2⟩
    · have w2 := w.2 e n h1 h2 r
      have e1 : gp_bl (lo n) q = true ↔ gp_B fr ≤ n ∧ gp_bl (lo n) q = true := ⟨fun t => ⟨h1, t⟩, fun t => t.2⟩
      rw [e1, w2]
      have eX : (fun k : Nat => gq_lH tx tn f R c (gq_fx f (k : Int) R)) = (fun k : Nat => gq_lX f R (gr_lfH tx tn c) gq_sx (gq_fx f (k : Int) R)) := funext fun k => propext (lx _)
      rw [eX]
      exact ⟨gr_fb_lf gr_lfH_iff e ce, gr_fb_lf (fun nm k cn => (gr_lfH_iff nm k cn).symm) e ce⟩
  · unfold gp_rep at r
    obtain ⟨-, r1, r2, r3⟩ := r
    constructor
    · rintro (t | t)
      · have t1 := (b0 n h1 h2).mp t.2
        by_cases k2 : k = 2
        · exact Or.inl ⟨k2, (hb n _ _ (r3.2 k2)).mp t1⟩
        · rw [z _ (hz n h1 h2 (by omega))] at t1
          exact absurd t1 (by decide)
      · have k1 : k = 1 := by have := t.1; omega
        exact Or.inr ⟨k1, (hrw n _ h1 h2 t.1 (r2 k1).1).mp t.2⟩
    · rintro (⟨k2, t⟩ | ⟨k1, t⟩)
      · exact Or.inl ⟨h1, (b0 n h1 h2).mpr ((hb n _ _ (r3.2 k2)).mpr t)⟩
      · exact Or.inr ⟨by omega, (hrw n _ h1 h2 (by omega) (r2 k1).1).mpr t⟩
  · rcases t with t | t
    · have t1 := (b0 n h1 h2).mp t.2
      rw [z _ (hz n h1 h2 (by omega))] at t1
      exact absurd t1 (by decide)
    · have := t.1
      omega
theorem gr_hdS {Pg : Nat → Nat → Nat → Prop} {ty fr : Int32} {rc nm wh pa kd on tw ow : Nat → Int32} {R nA nC : Nat} {f : Nat → Int × Lean.ParserDescr} (ht : ty.toInt ≤ 50) (hU : gm_iU ty fr rc nm wh pa kd on tw ow) (hG : gp_G Pg fr rc nm wh pa kd on tw ow R f nA nC) (hc : ∀ r, r < R → gr_cn (f r).2) {Pn : Nat} (hPn : gp_B fr + Pn = gp_M fr pa) {em : Nat → Int32} (hem : ∀ e n, gp_B fr ≤ n → n < gp_M fr pa → gp_rep Pg (gp_B fr) kd on tw e n → (em n = 1 ↔ gq_em (gq_EL f R) e)) {tx : Nat → Int} {tn : Nat} {lw hg lo hi : Nat → Int64} (hLB : gp_LB Pg tx tn (gp_M fr pa) lw hg) (hz : gr_zz (gp_B fr) (gp_M fr pa) kd lw hg) {C : Nat → Int} (hC : ∀ n a : Nat, gp_B fr ≤ n → n < gp_M fr pa → (kd n).toInt = 1 → (on n).toInt = a → C n = tx a) {xl xh : Nat → Nat → Bool} (hl : ∀ q : Nat, q < 64 → gp_vl lo q (gp_B fr) = gp_it (gp_FH kd on tw (gr_Mz fr rc nm wh on) (fun j => em j = 1) (fun n => C n < 96 ∧ (q : Int) = C n - 32) (gp_B fr)) Pn Pn (xl q)) (hh : ∀ q : Nat, q < 64 → gp_vl hi q (gp_B fr) = gp_it (gp_FH kd on tw (gr_Mz fr rc nm wh on) (fun j => em j = 1) (fun n => 96 ≤ C n ∧ (q : Int) = C n - 96) (gp_B fr)) Pn Pn (xh q)) (hxl : ∀ q k, xl q k = gp_bl (lw (gp_B fr + k)) q) (hxh : ∀ q k, xh q k = gp_bl (hg (gp_B fr + k)) q) {c : Int} (c1 : 32 ≤ c) (c2 : c ≤ 126) : (∀ r, r < R → (gp_ih lo hi (gr_rt fr wh r) c ↔ gq_lH tx tn f R c r)) ∧ ∀ e n, gp_B fr ≤ n → n < gp_M fr pa → gr_cn e → gp_rep Pg (gp_B fr) kd on tw e n → (gp_ih lo hi n c ↔ gq_fb (gq_EL f R) (gq_lfH tx tn c) gq_sx (fun k => gq_lH tx tn f R c (gq_fx f (k : Int) R)) e) := by
  by_cases q : c < 96
  · have e : ∀ (lo hi : Nat → Int64) n, gp_ih lo hi n c ↔ gp_bl (lo n) (c - 32).toNat = true := fun lo hi n => ⟨fun t => t.elim (fun t => t.2.2) (fun t => absurd t.1 (by omega)), fun t => Or.inl ⟨c1, q, t⟩⟩
    have w := gr_hd1 ht hU hG hc hPn hem (c := c) (tx := tx) (tn := tn) (hl (c - 32).toNat (by omega)) (hxl _) (fun n a b t => (e lw hg n).symm.trans ((hLB n a b t).2 c c1 c2)) (fun n h1 h2 k => (hz n h1 h2 k).1) (fun n a h1 h2 k1 ka => by rw [hC n a h1 h2 k1 ka]; omega)
    exact ⟨fun r hr => (e lo hi _).trans (w.1 r hr), fun e' n h1 h2 ce r => (e lo hi n).trans (w.2 e' n h1 h2 ce r)⟩
  · have e : ∀ (lo hi : Nat → Int64) n, gp_ih lo hi n c ↔ gp_bl (hi n) (c - 96).toNat = true := fun lo hi n => ⟨fun t => t.elim (fun t => absurd t.2.1 (by omega)) (fun t => t.2.2), fun t => Or.inr ⟨by omega, c2, t⟩⟩
    have w := gr_hd1 ht hU hG hc hPn hem (c := c) (tx := tx) (tn := tn) (hh (c - 96).toNat (by omega)) (hxh _) (fun n a b t => (e lw hg n).symm.trans ((hLB n a b t).2 c c1 c2)) (fun n h1 h2 k => (hz n h1 h2 k).2) (fun n a h1 h2 k1 ka => by rw [hC n a h1 h2 k1 ka]; omega)
    exact ⟨fun r hr => (e lo hi _).trans (w.1 r hr), fun e' n h1 h2 ce r => (e lo hi n).trans (w.2 e' n h1 h2 ce r)⟩
