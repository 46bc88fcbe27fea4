/-! Expressions as they are read; the reference's judge, said of the rules. -/
/-- names that hold just what they say -/
def gr_cn : Lean.ParserDescr → Prop
  | .cat nm k => nm = .num (.num .anonymous (gp_n1 nm)) (gp_n2 nm) ∧ (k = 3 → gp_n2 nm = 0)
  | .node nm _ e => nm = .anonymous ∧ gr_cn e
  | .binary _ e g => gr_cn e ∧ gr_cn g
  | _ => False
theorem gr_cn_sb : ∀ (e e' : Lean.ParserDescr), gr_cn e → e' ∈ gp_sb e → gr_cn e' := by
  intro e
  induction e with
  | cat nm k => intro e' h m; rw [List.mem_singleton.mp m]; exact h
  | node nm k e ih =>
    intro e' h m
    have m : e' ∈ Lean.ParserDescr.node nm k e :: gp_sb e := m
    rcases List.mem_cons.mp m with m | m
    · rw [m]; exact h
    · exact ih e' h.2 m
  | binary nm e g ih1 ih2 =>
    intro e' h m
    have m : e' ∈ Lean.ParserDescr.binary nm e g :: (gp_sb e ++ gp_sb g) := m
    rcases List.mem_cons.mp m with m | m
    · rw [m]; exact h
    · rcases List.mem_append.mp m with m | m
      · exact ih1 e' h.1 m
      · exact ih2 e' h.2 m
  | _ => intro e' h; exact h.elim
theorem gr_cn_jn {k : Nat} (es : List Lean.ParserDescr) (h : ∀ x, x ∈ es → gr_cn x) : gr_cn (gp_jn k es) := by
  have fo : ∀ (r : List Lean.ParserDescr) (x : Lean.ParserDescr), gr_cn x → (∀ y, y ∈ r → gr_cn y) → gr_cn (r.foldl (fun acc y => gp_e2 k y acc) x) := by
    intro r
    induction r with
    | nil => intro x hx _; exact hx
    | cons y r ih =>
      intro x hx hr
      rw [List.foldl_cons]
      exact ih _ ⟨hr y (List.mem_cons_self ..), hx⟩ (fun z hz => hr z (List.mem_cons_of_mem _ hz))
  cases es with
  | nil => exact ⟨rfl, fun h => by cases h⟩
  | cons x r => exact fo r x (h x (List.mem_cons_self ..)) (fun y hy => h y (List.mem_cons_of_mem _ hy))
/-- what the class read is such an expression -/
theorem gr_cn_of {tx : Nat → Int} {ty : Nat} {kd lt fr to pt : Nat → Int32} {lw hg : Nat → Int64} : ∀ (k d : Nat) (e : Lean.ParserDescr), d < k → gq_R tx ty kd lt fr to pt lw hg d e → gr_cn e := by
  intro k
  induction k with
  | zero => intro d e h; exact absurd h (by omega)
  | succ k ih =>
    intro d e hk r
    rw [gq_R] at r
    have list : ∀ (es : List Lean.ParserDescr) (lo hi : Nat), gq_sg (fun d' e' => ∃ _h : d' < d, gq_R tx ty kd lt fr to pt lw hg d' e') pt es lo hi → ∀ x, x ∈ es → gr_cn x := by
      intro es lo hi sg x hx
      obtain ⟨i, -, -, i3, i4⟩ := gq_sg_mem es lo hi sg x hx
      exact ih _ x (by omega) i4
    rcases r with ⟨-, a, b, r1, -⟩ | ⟨r0, c, r1, -⟩ | ⟨lo, hi, f1, f2, r⟩
    · rw [r1]; exact ⟨rfl, fun h => by cases h⟩
    · rw [r1]; exact ⟨rfl, fun _ => rfl⟩
    · rcases r with ⟨-, es, re, sg⟩ | ⟨-, a, n, re, -⟩ | ⟨-, es, -, re, sg⟩ | ⟨x, sg, ks⟩
      · rw [re]; exact gr_cn_jn es (list es lo hi sg)
      · rw [re]; exact ⟨rfl, fun h => by cases h⟩
      · rw [re]; exact gr_cn_jn es (list es lo hi sg)
      · have hx := list [x] lo hi sg x (List.mem_singleton.mpr rfl)
        rcases ks with ⟨q, re⟩ | ⟨q, re⟩ | ⟨q, re⟩ | ⟨q, re⟩ | ⟨q, re⟩ | ⟨q, re⟩
        · rw [re]; exact ⟨rfl, hx⟩
        · rw [re]; exact ⟨rfl, hx⟩
        · rw [re]; exact ⟨hx, rfl, hx⟩
        · rw [re]; exact ⟨rfl, hx⟩
        · rw [re]; exact ⟨rfl, hx⟩
        · rw [re]; exact ⟨rfl, hx⟩
theorem gr_fb_lf {E : Nat → Prop} {lf lf' : Lean.ParserDescr → Prop} {sp X : Nat → Prop} (h : ∀ nm k, gr_cn (.cat nm k) → (lf (.cat nm k) ↔ lf' (.cat nm k))) : ∀ e, gr_cn e → gq_fb E lf sp X e → gq_fb E lf' sp X e := by
  intro e
  induction e with
  | cat nm k => intro c w; exact w.elim (fun w => Or.inl ((h nm k c).mp w)) (fun w => Or.inr w)
  | node nm k e ih => intro c w; exact ⟨w.1, ih c.2 w.2⟩
  | binary nm e g ih1 ih2 => intro c w; exact w.elim (fun w => Or.inl (ih1 c.1 w)) (fun w => Or.inr ⟨w.1, ih2 c.2 w.2⟩)
  | _ => intro c; exact c.elim
theorem gr_lX_lf {f : Nat → Int × Lean.ParserDescr} {R : Nat} {lf lf' : Lean.ParserDescr → Prop} {sx : Nat → Prop} (hc : ∀ r, r < R → gr_cn (f r).2) (h : ∀ nm k, gr_cn (.cat nm k) → (lf (.cat nm k) ↔ lf' (.cat nm k))) (r : Nat) : gq_lX f R lf sx r ↔ gq_lX f R lf' sx r := by
  constructor
  · intro q X hX
    exact q X (fun s hs w => hX s hs (gr_fb_lf h _ (hc s hs) w))
  · intro q X hX
    exact q X (fun s hs w => hX s hs (gr_fb_lf (fun nm k c => (h nm k c).symm) _ (hc s hs) w))
/-- a part of what a node stands for has a node -/
theorem gr_sub {Pg : Nat → Nat → Nat → Prop} {B : Nat} {kd on tw : Nat → Int32} {e' : Lean.ParserDescr} : ∀ (e : Lean.ParserDescr) (n : Nat), B ≤ n → gp_rep Pg B kd on tw e n → e' ∈ gp_sb e → ∃ n', B ≤ n' ∧ n' ≤ n ∧ gp_rep Pg B kd on tw e' n' := by
  intro e
  induction e with
  | cat nm k => intro n h1 r m; rw [List.mem_singleton.mp m]; exact ⟨n, h1, Nat.le_refl _, r⟩
  | node nm k e ih =>
    intro n h1 r m
    have m : e' ∈ Lean.ParserDescr.node nm k e :: gp_sb e := m
    rcases List.mem_cons.mp m with m | m
    · rw [m]; exact ⟨n, h1, Nat.le_refl _, r⟩
    · unfold gp_rep at r
      have c := gp_ch_cl r.2.2.1
      obtain ⟨n', a, b, d⟩ := ih _ c.1 r.2.2.2 m
      exact ⟨n', a, by omega, d⟩
  | binary nm e g ih1 ih2 =>
    intro n h1 r m
    have m : e' ∈ Lean.ParserDescr.binary nm e g :: (gp_sb e ++ gp_sb g) := m
    rcases List.mem_cons.mp m with m | m
    · rw [m]; exact ⟨n, h1, Nat.le_refl _, r⟩
    · unfold gp_rep at r
      obtain ⟨-, -, r3, r4, r5, r6⟩ := r
      rcases List.mem_append.mp m with m | m
      · have c := gp_ch_cl r3
        obtain ⟨n', a, b, d⟩ := ih1 _ c.1 r5 m
        exact ⟨n', a, by omega, d⟩
      · have c := gp_ch_cl r4
        obtain ⟨n', a, b, d⟩ := ih2 _ c.1 r6 m
        exact ⟨n', a, by omega, d⟩
  | _ =>
    intro n _ r
    unfold gp_rep at r
    exact r.elim
theorem gq_fx_lt {f : Nat → Int × Lean.ParserDescr} {c : Int} {k : Nat} (h : (f k).1 = c) : ∀ R, k < R → gq_fx f c R < R := by
  intro R
  induction R with
  | zero => intro hk; omega
  | succ R ih =>
    intro hk
    unfold gq_fx
    by_cases q : gq_fx f c R < R
    · rw [if_pos q]; omega
    · have e : k = R := by
        by_cases e : k < R
        · exact absurd (ih e) q
        · omega
      subst e
      rw [if_neg q, if_pos h]; omega
theorem gr_nd {Pg : Nat → Nat → Nat → Prop} {fr : Int32} {rc nm wh pa kd on tw ow : Nat → Int32} {R nA nC : Nat} {f : Nat → Int × Lean.ParserDescr} (hf : 0 ≤ fr.toInt) (hG : gp_G Pg fr rc nm wh pa kd on tw ow R f nA nC) {y : Int32} {c : Nat} (hy : y.toInt = c) : gp_nd rc nm fr y ↔ gq_fx f (c : Int) R = R := by
  have cf := gx_cl fr hf
  obtain ⟨g1, g2, -⟩ := hG
  constructor
  · intro h
    refine gq_fx_no R (fun k hk e => ?_)
    refine h k (by omega) (8 * Int32.toNatClampNeg fr + k) (by omega) (Int32.toInt_inj.mp ?_)
    rw [(g2 k hk).1, e, hy]
  · intro h k hk j hj e
    have ej : j = 8 * Int32.toNatClampNeg fr + k := by omega
    have := gq_fx_lt (f := f) (c := (c : Int)) (k := k) (by rw [← (g2 k (by omega)).1, ← ej, e, hy]) R (by omega)
    omega
/-- a rule that uses a name of no rule, as the reference finds it -/
def gr_Un (B M : Nat) (rc nm kd on ow : Nat → Int32) (fr : Int32) (r : Nat) : Prop := ∃ n : Nat, B ≤ n ∧ n < M ∧ (ow n).toInt = r ∧ (kd n).toInt = 3 ∧ gp_nd rc nm fr (on n)
/-- the parts up to a rule's own are of that rule or of rules before -/
def gr_ow (B R : Nat) (ow : Nat → Int32) (rt : Nat → Nat) : Prop := ∀ r n, r < R → B ≤ n → n ≤ rt r → (ow n).toInt ≤ r
theorem gr_unS {Pg : Nat → Nat → Nat → Prop} {fr : Int32} {rc nm wh pa kd on tw ow : Nat → Int32} {R nA nC : Nat} {f : Nat → Int × Lean.ParserDescr} (hf : 0 ≤ fr.toInt) (hG : gp_G Pg fr rc nm wh pa kd on tw ow R f nA nC) (hc : ∀ r, r < R → gr_cn (f r).2) (ho : gr_ow (gp_B fr) R ow (fun r => Int32.toNatClampNeg (wh (8 * Int32.toNatClampNeg fr + r)))) : (∀ r, r < R → gr_Un (gp_B fr) (gp_M fr pa) rc nm kd on ow fr r → gq_un f R r) ∧ ∀ r, r < R → gq_un f R r → ∃ r', r' ≤ r ∧ gr_Un (gp_B fr) (gp_M fr pa) rc nm kd on ow fr r' := by
  have nd := fun (y : Int32) (c : Nat) (hy : y.toInt = c) => gr_nd hf hG hy
  obtain ⟨g1, g2, g3, -⟩ := hG
  constructor
  · rintro r hr ⟨n, h1, h2, h3, h4, h5⟩
    obtain ⟨r', q1, q2, e', q3, q4⟩ := g3 n h1 h2
    have er : r' = r := by omega
    subst er
    have cn := gr_cn_sb _ e' (hc r' q1) q3
    cases e' with
    | cat nm' k =>
      unfold gp_rep at q4
      obtain ⟨-, w1, -, w2⟩ := q4
      have k3 : k = 3 := by omega
      subst k3
      refine ⟨gp_n1 nm', ?_, (nd _ _ (w2.1 rfl)).mp h5⟩
      rw [cn.1, cn.2 rfl] at q3
      exact q3
    | node nm' k e => unfold gp_rep at q4; omega
    | binary nm' e g => unfold gp_rep at q4; omega
    | _ => unfold gp_rep at q4; exact q4.elim
  · rintro r hr ⟨c, h1, h2⟩
    have g := (g2 r hr).2
    have cc := gp_ch_cl g.1
    obtain ⟨n', a, b, d⟩ := gr_sub _ _ cc.1 g.2 h1
    obtain ⟨r', q1, q2, -⟩ := g3 n' a (by omega)
    have := ho r n' hr a b
    unfold gp_rep at d
    obtain ⟨-, w1, -, w2⟩ := d
    exact ⟨r', by omega, n', a, by omega, q2, by omega, (nd _ _ (w2.1 rfl)).mpr h2⟩
