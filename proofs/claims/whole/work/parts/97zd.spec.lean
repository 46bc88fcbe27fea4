/-! What compile does, said of the text. -/
abbrev gs_0 : Nat → Int × Lean.ParserDescr := fun _ => (0, gp_e0 0 0 0)
abbrev gs_rd (tx : Nat → Int) (ty : Nat) : Nat ⊕ (Nat × (Nat → Int × Lean.ParserDescr) × Nat × Nat) := gp_rd tx ty (ty + 1) 0 gs_0 0 0 0
def gs_first (R : Nat) (P : Nat → Prop) (r : Nat) : Prop := r < R ∧ P r ∧ ∀ r', r' < r → ¬ P r'
theorem gs_first_tr {R : Nat} {P P' : Nat → Prop} {r : Nat} (h1 : ∀ r, r < R → P r → P' r) (h2 : ∀ r, r < R → P' r → ∃ r', r' ≤ r ∧ P r') (h : gs_first R P r) : gs_first R P' r := by
  obtain ⟨a, b, c⟩ := h
  refine ⟨a, h1 r a b, fun r' hr q => ?_⟩
  obtain ⟨r2, q1, q2⟩ := h2 r' (by omega) q
  exact c r2 (by omega) q2
theorem gs_first_u {R : Nat} {P : Nat → Prop} {r r' : Nat} (h : gs_first R P r) (h' : gs_first R P r') : r = r' := by
  rcases Nat.lt_trichotomy r r' with q | q | q
  · exact absurd h.2.1 (h'.2.2 r q)
  · exact q
  · exact absurd h'.2.1 (h.2.2 r' q)
def gs_no (R : Nat) (P : Nat → Prop) : Prop := ∀ r, r < R → ¬ P r
theorem gs_no_first {R : Nat} {P : Nat → Prop} {r : Nat} (h : gs_no R P) (q : gs_first R P r) : False := h r q.1 q.2.1
/-- how it ends: k the kind of end, ft the fault, b the answer -/
def gs_C (tx : Nat → Int) (ty : Nat) (k ft b : Int) : Prop := match gs_rd tx ty with
  | .inl j => k = 1 ∧ ft = j
  | .inr t => (k = 2 ∧ ∃ r, gs_first t.1 (gq_un t.2.1 t.1) r ∧ ft = (t.2.1 r).1) ∨ (gs_no t.1 (gq_un t.2.1 t.1) ∧ k = 3 ∧ ∃ r, gs_first t.1 (gq_wd t.2.1 t.1) r ∧ ft = (t.2.1 r).1) ∨ (gs_no t.1 (gq_un t.2.1 t.1) ∧ gs_no t.1 (gq_wd t.2.1 t.1) ∧ k = 0 ∧ ft = -1 ∧ b = t.1)
theorem gs_C_u {tx : Nat → Int} {ty : Nat} {k ft b k' ft' b' : Int} (h : gs_C tx ty k ft b) (h' : gs_C tx ty k' ft' b') : k = k' ∧ ft = ft' ∧ (k = 0 → b = b') := by
  unfold gs_C at h h'
  generalize gs_rd tx ty = res at h h'
  match res, h, h' with
  | .inl j, h, h' =>
    obtain ⟨h1, h2⟩ := h
    obtain ⟨h3, h4⟩ := h'
    exact ⟨by omega, by omega, fun q => absurd q (by omega)⟩
  | .inr t, h, h' =>
    rcases h with ⟨k1, r, f1, e1⟩ | ⟨n1, k1, r, f1, e1⟩ | ⟨n1, m1, k1, e1, b1⟩
    · rcases h' with ⟨k2, r2, f2, e2⟩ | ⟨n2, -⟩ | ⟨n2, -⟩
      · rw [gs_first_u f1 f2] at e1
        exact ⟨by omega, by rw [e1, e2], fun q => absurd q (by omega)⟩
      · exact (gs_no_first n2 f1).elim
      · exact (gs_no_first n2 f1).elim
    · rcases h' with ⟨k2, r2, f2, e2⟩ | ⟨n2, k2, r2, f2, e2⟩ | ⟨-, n2, -⟩
      · exact (gs_no_first n1 f2).elim
      · rw [gs_first_u f1 f2] at e1
        exact ⟨by omega, by rw [e1, e2], fun q => absurd q (by omega)⟩
      · exact (gs_no_first n2 f1).elim
    · rcases h' with ⟨k2, r2, f2, e2⟩ | ⟨n2, k2, r2, f2, e2⟩ | ⟨-, n2, k2, e2, b2⟩
      · exact (gs_no_first n1 f2).elim
      · exact (gs_no_first m1 f2).elim
      · exact ⟨by omega, by omega, fun _ => by omega⟩
/-- what is read are expressions as they are read -/
theorem gs_cn {a : Int32} {b : Nat → Int32} {tx : Nat → Int} {ty : Nat} (h : gp_tx a b tx ty) {t : Nat × (Nat → Int × Lean.ParserDescr) × Nat × Nat} (e : gs_rd tx ty = .inr t) : ∀ r, r < t.1 → gr_cn (t.2.1 r).2 := by
  have w := gq_read (tx := tx) (ty := ty) ((fun _ _ => 0, fun _ _ => 0, fun _ => 0), (fun _ => b, fun _ _ => 0, fun _ => a), (fun _ _ => 0, fun _ _ => 0, fun _ => 0)) h gs_0
  rw [show gp_rd tx ty (ty + 1) 0 gs_0 0 0 0 = .inr t from e] at w
  obtain ⟨-, a', n, m, -, hG, -⟩ := w
  intro r hr
  exact gr_cn_of _ _ _ (Nat.lt_succ_self _) (hG.2.2.2 r hr).2.2.2.2.1.1
/-- the half fr is the same -/
def gs_same (fr : Int32) (S U : gm_S) : Prop := gp_hs fr (S.1 6) (S.1 7) (S.1 8) (S.1 9) (S.1 10) (S.1 11) (S.1 12) (S.1 13) (U.1 6) (U.1 7) (U.1 8) (U.1 9) (U.1 10) (U.1 11) (U.1 12) (U.1 13) ∧ (∀ n, 160 * Int32.toNatClampNeg fr ≤ n → n < 160 * Int32.toNatClampNeg fr + 160 → U.1 15 n = S.1 15 n ∧ U.1 16 n = S.1 16 n ∧ U.2.1 17 n = S.2.1 17 n ∧ U.2.1 18 n = S.2.1 18 n) ∧ ∀ n, 50 * Int32.toNatClampNeg fr ≤ n → n < 50 * Int32.toNatClampNeg fr + 50 → U.1 14 n = S.1 14 n
theorem gs_same_t {fr : Int32} {S U V : gm_S} (h : gs_same fr S U) (h' : gs_same fr U V) : gs_same fr S V := by
  obtain ⟨⟨a1, a2, a3, a4⟩, a5, a6⟩ := h
  obtain ⟨⟨b1, b2, b3, b4⟩, b5, b6⟩ := h'
  refine ⟨⟨b1.trans a1, b2.trans a2, fun n x y => ⟨(b3 n x y).1.trans (a3 n x y).1, (b3 n x y).2.trans (a3 n x y).2⟩, fun n x y => ?_⟩, fun n x y => ?_, fun n x y => (b6 n x y).trans (a6 n x y)⟩
  · obtain ⟨p1, p2, p3, p4⟩ := a4 n x y
    obtain ⟨q1, q2, q3, q4⟩ := b4 n x y
    exact ⟨q1.trans p1, q2.trans p2, q3.trans p3, q4.trans p4⟩
  · obtain ⟨p1, p2, p3, p4⟩ := a5 n x y
    obtain ⟨q1, q2, q3, q4⟩ := b5 n x y
    exact ⟨q1.trans p1, q2.trans p2, q3.trans p3, q4.trans p4⟩
/-- the half fr holds the rules f of the text tx -/
def gs_half (tx : Nat → Int) (ty R : Nat) (f : Nat → Int × Lean.ParserDescr) (fr : Int32) (U : gm_S) : Prop := ∃ (Pg : Nat → Nat → Nat → Prop) (nA nC : Nat), (∃ t : Int32, t.toInt = ty ∧ ty ≤ 50 ∧ gm_iU t fr (U.1 6) (U.1 7) (U.1 8) (U.1 9) (U.1 10) (U.1 11) (U.1 12) (U.1 13)) ∧ gp_G Pg fr (U.1 6) (U.1 7) (U.1 8) (U.1 9) (U.1 10) (U.1 11) (U.1 12) (U.1 13) R f nA nC ∧ (∀ r, r < R → (U.1 15 (gr_rt fr (U.1 8) r) = 1 ↔ gq_lE f R r)) ∧ (∀ e n, gp_B fr ≤ n → n < gp_M fr (U.1 9) → gp_rep Pg (gp_B fr) (U.1 10) (U.1 11) (U.1 12) e n → (U.1 15 n = 1 ↔ gq_em (gq_EL f R) e)) ∧ (∀ c : Int, 32 ≤ c → c ≤ 126 → (∀ r, r < R → (gp_ih (U.2.1 17) (U.2.1 18) (gr_rt fr (U.1 8) r) c ↔ gq_lH tx ty f R c r)) ∧ ∀ e n, gp_B fr ≤ n → n < gp_M fr (U.1 9) → gr_cn e → gp_rep Pg (gp_B fr) (U.1 10) (U.1 11) (U.1 12) e n → (gp_ih (U.2.1 17) (U.2.1 18) n c ↔ gq_fb (gq_EL f R) (gq_lfH tx ty c) gq_sx (fun k => gq_lH tx ty f R c (gq_fx f (k : Int) R)) e)) ∧ (∀ k, k < ty → (U.1 14 (50 * Int32.toNatClampNeg fr + k)).toInt = tx k) ∧ ∀ r, r < R → gr_rt fr (U.1 8) r = gr_rt fr (U.1 8) 0 → r = 0
theorem gp_hs_s {fr : Int32} {rc nm wh pa kd on tw ow rc' nm' wh' pa' kd' on' tw' ow' : Nat → Int32} (h : gp_hs fr rc nm wh pa kd on tw ow rc' nm' wh' pa' kd' on' tw' ow') : gp_hs fr rc' nm' wh' pa' kd' on' tw' ow' rc nm wh pa kd on tw ow := ⟨h.1.symm, h.2.1.symm, fun n a b => ⟨(h.2.2.1 n a b).1.symm, (h.2.2.1 n a b).2.symm⟩, fun n a b => ⟨(h.2.2.2 n a b).1.symm, (h.2.2.2 n a b).2.1.symm, (h.2.2.2 n a b).2.2.1.symm, (h.2.2.2 n a b).2.2.2.symm⟩⟩
theorem gs_half_same {tx : Nat → Int} {ty R : Nat} {f : Nat → Int × Lean.ParserDescr} {fr : Int32} {S U : gm_S} (h : gs_same fr S U) (q : gs_half tx ty R f fr S) : gs_half tx ty R f fr U := by
  obtain ⟨Pg, nA, nC, ⟨t, t1, t2, hU⟩, hG, e1, e2, e3, e4, e5⟩ := q
  obtain ⟨hh, he, hk⟩ := h
  have hU' := hU
  obtain ⟨⟨f0, f1⟩, ⟨p0, p1⟩, ⟨r0, r1⟩, hS, hN⟩ := hU'
  have cp := gx_cl _ p0
  have cf := gx_cl fr f0
  have hR8 : R ≤ 8 := by have := hG.1; omega
  have hM : gp_M fr (S.1 9) = 160 * Int32.toNatClampNeg fr + Int32.toNatClampNeg ((S.1 9) (Int32.toNatClampNeg fr)) := rfl
  have hB : gp_B fr = 160 * Int32.toNatClampNeg fr := rfl
  have hM' : gp_M fr (U.1 9) = gp_M fr (S.1 9) := by unfold gp_M; rw [hh.2.1]
  have rt : ∀ r, r < R → gr_rt fr (U.1 8) r = gr_rt fr (S.1 8) r := fun r hr => by
    unfold gr_rt
    rw [(hh.2.2.1 (8 * Int32.toNatClampNeg fr + r) (by omega) (by omega)).2]
  have rin : ∀ r, r < R → gp_B fr ≤ gr_rt fr (S.1 8) r ∧ gr_rt fr (S.1 8) r < gp_M fr (S.1 9) := fun r hr => by
    have c := gp_ch_cl (hG.2.1 r hr).2.1
    exact ⟨c.1, c.2.1⟩
  have rep : ∀ e n, gp_B fr ≤ n → n < gp_M fr (S.1 9) → gp_rep Pg (gp_B fr) (U.1 10) (U.1 11) (U.1 12) e n → gp_rep Pg (gp_B fr) (S.1 10) (S.1 11) (S.1 12) e n := fun e n a b w => gp_rep_hs (N := gp_M fr (S.1 9)) (fun m x y => by
    obtain ⟨z1, z2, z3, z4⟩ := hh.2.2.2 m (by omega) (by omega)
    exact ⟨z1.symm, z2.symm, z3.symm⟩) e n a b w
  have ihe : ∀ n c, gp_B fr ≤ n → n < gp_M fr (S.1 9) → (gp_ih (U.2.1 17) (U.2.1 18) n c ↔ gp_ih (S.2.1 17) (S.2.1 18) n c) := fun n c a b => by
    have x := he n (by omega) (by omega)
    unfold gp_ih
    rw [x.2.2.1, x.2.2.2]
  refine ⟨Pg, nA, nC, ⟨t, t1, t2, gp_iU_hs hh hU⟩, gp_G_hs hh p0 p1 hR8 hG, fun r hr => ?_, fun e n a b w => ?_, fun c c1 c2 => ⟨fun r hr => ?_, fun e n a b ce w => ?_⟩, fun k hk' => ?_, fun r hr w => e5 r hr (by rw [← rt r hr, ← rt 0 (by omega)]; exact w)⟩
  · rw [rt r hr, (he _ (by have := (rin r hr).1; omega) (by have := (rin r hr).2; omega)).1]
    exact e1 r hr
  · rw [hM'] at b
    rw [(he n (by omega) (by omega)).1]
    exact e2 e n a b (rep e n a b w)
  · rw [rt r hr, ihe _ c (rin r hr).1 (rin r hr).2]
    exact (e3 c c1 c2).1 r hr
  · rw [hM'] at b
    rw [ihe n c a b]
    exact (e3 c c1 c2).2 e n a b ce (rep e n a b w)
  · rw [hk _ (by omega) (by omega)]
    exact e4 k hk'
/-- the other half is written -/
theorem gs_same_of {bs F : Int32} {S U : gm_S} {lx hx lx' hx' : Nat → Int64} (hb : 0 ≤ bs.toInt) (hb2 : bs.toInt ≤ 1) (hF : F = (if bs = 0 then 1 else 0)) (hO : gp_O F (gp_B F) (S.1 9) (S.1 10) (S.1 11) (S.1 12) (S.1 13) lx hx (U.1 9) (U.1 10) (U.1 11) (U.1 12) (U.1 13) lx' hx') (hO2 : gp_O2 F (S.1 6) (S.1 7) (S.1 8) (U.1 6) (U.1 7) (U.1 8)) (he : ∀ n, (n < 160 * Int32.toNatClampNeg F ∨ 160 * Int32.toNatClampNeg F + 160 ≤ n) → U.1 15 n = S.1 15 n ∧ U.1 16 n = S.1 16 n ∧ U.2.1 17 n = S.2.1 17 n ∧ U.2.1 18 n = S.2.1 18 n) (hk : ∀ n, (n < 50 * Int32.toNatClampNeg F ∨ 50 * Int32.toNatClampNeg F + 50 ≤ n) → U.1 14 n = S.1 14 n) : gs_same bs S U := by
  have z0 : (0 : Int32).toInt = 0 := by decide
  have cb := gx_cl bs hb
  have cF : Int32.toNatClampNeg F = 1 - Int32.toNatClampNeg bs := by
    by_cases q : bs = 0
    · rw [hF, if_pos q, q]; decide
    · have q1 := gx_eqnr (k := 0) z0 q
      rw [hF, if_neg q]
      have : Int32.toNatClampNeg 0 = 0 := by decide
      omega
  obtain ⟨o1, o2⟩ := hO
  obtain ⟨p1, p2⟩ := hO2
  have hB : gp_B F = 160 * Int32.toNatClampNeg F := rfl
  refine ⟨⟨p1 _ (by omega), o1 _ (by omega), fun n a b => p2 n (by omega), fun n a b => ?_⟩, fun n a b => he n (by omega), fun n a b => hk n (by omega)⟩
  obtain ⟨e1, e2, e3, e4, -⟩ := o2 n (by omega)
  exact ⟨e1, e2, e3, e4⟩
