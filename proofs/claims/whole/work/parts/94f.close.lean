/-! The reference's reader against the machine: a bracket is closed. -/
def gp_Qc (Pg : Nat → Nat → Nat → Prop) (S : gm_S) (bk bf ib ab : Nat → Int32) (lo : Nat × Nat) (z : Int32 × gm_S) : gp_Rs → Prop
  | .inl _ => False
  | .inr (.inl s) => gp_I Pg (S.2.2 5) (S.1 6) (z.2.1 9) (z.2.1 10) (z.2.1 11) (z.2.1 12) (z.2.1 13) bk bf ib ab (z.2.1 30) (z.2.1 31) (z.2.2.2 20) (z.2.2.2 21) (z.2.2.2 22) (z.2.2.2 23) (z.2.2.2 19) lo s ∧ z.2.1 8 = S.1 8 ∧ z.2.2.2 25 = S.2.2 25
  | .inr (.inr t) => gp_K Pg (S.2.2 5) (S.1 6) (z.2.1 9) (z.2.1 10) (z.2.1 11) (z.2.1 12) (z.2.1 13) lo t.2.2.1 t.2.2.2 [t.2.1] ∧ (z.2.2.2 19).toInt = t.1 ∧ z.2.2.2 25 = 0 ∧ ∃ v : Int32, z.2.1 8 = upd (S.1 8) (Int32.toNatClampNeg ((8 * (S.2.2 5)) + (S.1 6) (Int32.toNatClampNeg (S.2.2 5)))) v ∧ gp_ch lo.2 v (gp_M (S.2.2 5) (z.2.1 9)) ∧ gp_rep Pg lo.2 (z.2.1 10) (z.2.1 11) (z.2.1 12) t.2.1 (Int32.toNatClampNeg v)
def gp_Qk (Pg : Nat → Nat → Nat → Prop) (S : gm_S) (lo : Nat × Nat) (R : gp_Rs) (z : Int32 × gm_S) : Prop := gp_Qc Pg S (S.1 26) (S.1 27) (S.1 28) (S.1 29) lo z R ∧ gp_O (S.2.2 5) lo.1 (S.1 9) (S.1 10) (S.1 11) (S.1 12) (S.1 13) (S.2.1 17) (S.2.1 18) (z.2.1 9) (z.2.1 10) (z.2.1 11) (z.2.1 12) (z.2.1 13) (z.2.2.1 17) (z.2.2.1 18)
/-- what the close of a bracket comes to: E its expression -/
def gp_cR (tx : Nat → Int) (ty : Nat) (a : Nat) (g : gp_Fm) (fs : List gp_Fm) (nA nC : Nat) (E : Lean.ParserDescr) : gp_Rs :=
  if g.1 = 59 then .inr (.inr (a, E, nA, nC)) else if g.1 = 123 then .inr (.inl (gp_pm tx ty (gp_e1 10 E) (a, g.2.1, fs, nA, nC + 1))) else .inr (.inl (gp_pm tx ty E (a, g.2.1, fs, nA, nC)))
theorem gz_cl23 {Pg : Nat → Nat → Nat → Prop} (S u1 : gm_S) (A31 : Nat → Int32) {tx : Nat → Int} {lo : Nat × Nat} {ty nA a : Nat} {g : gp_Fm} {fs : List gp_Fm} {l' : Nat} (ht : gp_tx (S.2.2 2) (S.1 3) tx ty) (hf : 0 ≤ (S.2.2 5).toInt) (hf2 : (S.2.2 5).toInt ≤ 1) (hd : 0 ≤ (S.2.2 20).toInt) (hd2 : (S.2.2 20).toInt ≤ 6) (ha : (S.2.2 19).toInt = a) (ha2 : a ≤ 100) (hl : ((S.1 29) (Int32.toNatClampNeg (S.2.2 20))).toInt = l') (hg : fs = [] ↔ g.1 = 59) : ∀ (r : List Lean.ParserDescr) (n : Nat) (v2 v1 : Int32) (U : gm_S) (nC : Nat) (e : Lean.ParserDescr),
    gp_P Pg (S.2.2 5) (S.1 6) (U.1 9) (U.1 10) (U.1 11) (U.1 12) (U.1 13) (S.1 26) (S.1 27) (S.1 28) (S.1 29) (S.1 30) A31 (Int32.toNatClampNeg (S.2.2 20)) (Int32.toNatClampNeg (U.2.2 21)) (Int32.toNatClampNeg (U.2.2 22)) (g :: fs) lo nA nC [e] →
    gp_ch lo.2 v1 (gp_M (S.2.2 5) (U.1 9)) → gp_rep Pg lo.2 (U.1 10) (U.1 11) (U.1 12) e (Int32.toNatClampNeg v1) →
    gp_O (S.2.2 5) lo.1 (S.1 9) (S.1 10) (S.1 11) (S.1 12) (S.1 13) (S.2.1 17) (S.2.1 18) (U.1 9) (U.1 10) (U.1 11) (U.1 12) (U.1 13) (U.2.1 17) (U.2.1 18) →
    U.1 8 = S.1 8 → U.1 30 = S.1 30 → U.1 31 = A31 → U.2.2 19 = S.2.2 19 → U.2.2 20 = S.2.2 20 → U.2.2 25 = S.2.2 25 → 0 ≤ (U.2.2 21).toInt → (U.2.2 21).toInt ≤ 60 → U.2.2 21 = (S.1 28) (Int32.toNatClampNeg (S.2.2 20)) →
    0 ≤ ((U.1 9) (Int32.toNatClampNeg (S.2.2 5))).toInt → ((U.1 9) (Int32.toNatClampNeg (S.2.2 5))).toInt + r.length ≤ 140 → g.2.2.1 = [] →
    (∃ h : Nat, (h : Int) = v2.toInt + 1 ∧ gp_seg Pg lo.2 (gp_M (S.2.2 5) (U.1 9)) (U.1 10) (U.1 11) (U.1 12) A31 r l' h) → v2.toInt ≤ 100 → r.length < n →
    (∀ x, x ∈ g.2.2.2 → ∀ e', e' ∈ gp_sb x → e' ∈ gp_sb (r.foldl (fun acc y => gp_e2 5 y acc) e)) →
    gp_Qk Pg S lo (gp_cR tx ty a g fs nA nC (r.foldl (fun acc y => gp_e2 5 y acc) e)) (gm_f_MD_close_23 S u1 n v2 v1 U) := by
  intro r
  induction r with
  | nil =>
    intro n v2 v1 U nC e hP hv1 hr hO e8 e30 e31 e19 e20 e25 i0 i1 e21 hp hp2 g0 hs hv2 hn hx
    cases n with
    | zero => exact absurd hn (by omega)
    | succ n =>
      obtain ⟨h', hh', q⟩ := hs
      have q : h' = l' := q
      have hp2 : ((U.1 9) (Int32.toNatClampNeg (S.2.2 5))).toInt ≤ 140 := by
        have : ((U.1 9) (Int32.toNatClampNeg (S.2.2 5))).toInt + (([] : List Lean.ParserDescr).length : Nat) ≤ 140 := hp2
        simp only [List.length_nil] at this
        omega
      have c : v2 < (S.1 29) (Int32.toNatClampNeg (S.2.2 20)) := by rw [Int32.lt_iff_toInt_lt]; omega
      rw [gm_f_MD_close_23, e20, if_pos c]
      show gp_Qk Pg S lo (gp_cR tx ty a g fs nA nC e) _
      have hP' := hP
      obtain ⟨⟨i', l2, s1, s2, s3, s4, s5, s6⟩, hK⟩ := hP'
      have hx : ∀ x, x ∈ g.2.2.2 → ∀ e', e' ∈ gp_sb x → e' ∈ gp_sb e := hx
      have l59 : (59 : Int32).toInt = 59 := gx_lit 59 (by decide)
      have l123 : (123 : Int32).toInt = 123 := gx_lit 123 (by decide)
      by_cases b1 : (S.1 26) (Int32.toNatClampNeg (S.2.2 20)) = 59
      · rw [if_pos b1]
        have g1 : g.1 = 59 := by rw [← s1, b1]; exact l59
        have eR : gp_cR tx ty a g fs nA nC e = .inr (.inr (a, e, nA, nC)) := if_pos g1
        rw [eR]
        have fsn : fs = [] := hg.mpr g1
        refine ⟨⟨gp_K_w hK (fun x hx2 => ?_), by rw [e19]; exact ha, rfl, v1, by rw [e8]; rfl, hv1, hr⟩, hO⟩
        have hx2 : x ∈ [e] ++ (g.2.2.1 ++ g.2.2.2 ++ gp_lv fs) := hx2
        rw [g0, fsn] at hx2
        simp only [List.mem_append, List.mem_cons, List.not_mem_nil, or_false, false_or, gp_lv] at hx2
        rcases hx2 with t | t
        · exact ⟨x, by simp [t], fun _ t => t⟩
        · exact ⟨e, by simp, hx x t⟩
      · rw [if_neg b1]
        have g1 : ¬ g.1 = 59 := fun t => b1 (Int32.toInt_inj.mp (by rw [l59, s1, t]))
        have md := gx_sk (S.2.2 20) 1 1 (by decide)
        have cd := gx_cl (S.2.2 20) hd
        rcases s6 with ⟨t, -⟩ | ⟨d', t1, t2, t3⟩
        · exact absurd (hg.mp t) g1
        have md2 : ((S.2.2 20) - 1).toInt = (S.2.2 20).toInt - 1 := by omega
        have cd2 := gx_cl ((S.2.2 20) - 1) (by omega)
        have ed : Int32.toNatClampNeg ((S.2.2 20) - 1) = d' := by omega
        have c21 := gx_cl (U.2.2 21) i0
        have ei : Int32.toNatClampNeg (U.2.2 21) = i' := by rw [e21] at c21 ⊢; omega
        have cl2 := gx_cl ((S.1 29) (Int32.toNatClampNeg (S.2.2 20))) (by omega)
        have el : Int32.toNatClampNeg ((S.1 29) (Int32.toNatClampNeg (S.2.2 20))) = l2 := by omega
        have cov : ∀ (E : Lean.ParserDescr), (∀ e', e' ∈ gp_sb e → e' ∈ gp_sb E) → ∀ x, x ∈ [e] ++ gp_lv (g :: fs) → ∃ y, y ∈ [E] ++ gp_lv fs ∧ ∀ e', e' ∈ gp_sb x → e' ∈ gp_sb y := by
          intro E hE x hx2
          have hx2 : x ∈ [e] ++ (g.2.2.1 ++ g.2.2.2 ++ gp_lv fs) := hx2
          rw [g0] at hx2
          simp only [List.mem_append, List.mem_cons, List.not_mem_nil, or_false, false_or] at hx2
          rcases hx2 with t | t | t
          · exact ⟨E, by simp, fun e' q => hE e' (by rw [← t]; exact q)⟩
          · exact ⟨E, by simp, fun e' q => hE e' (hx x t e' q)⟩
          · exact ⟨x, by simp [t], fun _ q => q⟩
        dsimp only
        by_cases b2 : (S.1 26) (Int32.toNatClampNeg (S.2.2 20)) = 123
        · rw [if_pos b2]
          have g2 : g.1 = 123 := by rw [← s1, b2]; exact l123
          have eR : gp_cR tx ty a g fs nA nC e = .inr (.inl (gp_pm tx ty (gp_e1 10 e) (a, g.2.1, fs, nA, nC + 1))) := (if_neg g1).trans (if_pos g2)
          rw [eR]
          refine gf_ca (Q := gp_Qk Pg S lo (.inr (.inl (gp_pm tx ty (gp_e1 10 e) (a, g.2.1, fs, nA, nC + 1))))) (gp_cQ 10 v1 (-1) _) (gz_create 10 v1 (-1) _ hf hf2 hp (show ((U.1 9) (Int32.toNatClampNeg (S.2.2 5))).toInt ≤ 150 by omega)) ?_
          intro k0 u hu
          obtain ⟨⟨w1, w2, w3, w4⟩, w9, w10, w11, w12, w13, wO⟩ := hu
          have w2 : Int32.toNatClampNeg k0 = gp_M (S.2.2 5) (U.1 9) := w2
          have w3 : gp_M (S.2.2 5) (u.1 9) = gp_M (S.2.2 5) (U.1 9) + 1 := w3
          have w9 : u.1 9 = upd (U.1 9) (Int32.toNatClampNeg (S.2.2 5)) ((U.1 9) (Int32.toNatClampNeg (S.2.2 5)) + 1) := w9
          have w10 : u.1 10 = upd (U.1 10) (gp_M (S.2.2 5) (U.1 9)) 10 := w10
          have w11 : u.1 11 = upd (U.1 11) (gp_M (S.2.2 5) (U.1 9)) v1 := w11
          have w12 : u.1 12 = upd (U.1 12) (gp_M (S.2.2 5) (U.1 9)) (-1) := w12
          have w13 : u.1 13 = upd (U.1 13) (gp_M (S.2.2 5) (U.1 9)) ((S.1 6) (Int32.toNatClampNeg (S.2.2 5))) := w13
          have wO : gp_O (S.2.2 5) (gp_M (S.2.2 5) (U.1 9)) (U.1 9) (U.1 10) (U.1 11) (U.1 12) (U.1 13) (U.2.1 17) (U.2.1 18) (u.1 9) (u.1 10) (u.1 11) (u.1 12) (u.1 13) (u.2.1 17) (u.2.1 18) := wO
          have l10 : (10 : Int32).toInt = 10 := gx_lit 10 (by decide)
          have rep := gp_rep_1 (k := 10) (w := -1) (by omega) (by omega) l10 hv1 hr
          have bb := gx_ak ((U.1 9) (Int32.toNatClampNeg (S.2.2 5))) 1 1 (by decide)
          have P1 : ((u.1 9) (Int32.toNatClampNeg (S.2.2 5))).toInt = ((U.1 9) (Int32.toNatClampNeg (S.2.2 5))).toInt + 1 := by rw [w9, gx_us]; omega
          have hPc := gp_P_c (F' := [gp_e1 10 e]) hP w4 rep (List.mem_singleton.mpr rfl) (fun x hx2 => Or.inr (fun e' t => by rw [List.mem_singleton.mp hx2] at t; exact gp_sb_1 10 e e' t)) (a := 0) (c := 1) (if_neg (by omega)) (if_pos l10)
          rw [← w9, ← w10, ← w11, ← w12, ← w13] at hPc
          have cov2 : ∀ x, x ∈ [gp_e1 10 e] ++ gp_lv (g :: fs) → ∃ y, y ∈ [gp_e1 10 e] ++ gp_lv fs ∧ ∀ e', e' ∈ gp_sb x → e' ∈ gp_sb y := by
            intro x hx2
            rcases List.mem_append.mp hx2 with t | t
            · exact ⟨x, List.mem_append.mpr (Or.inl t), fun _ q => q⟩
            · exact cov (gp_e1 10 e) (fun e' q => gp_sb_1 10 e e' q) x (List.mem_append.mpr (Or.inr t))
          have hPc' := hPc
          obtain ⟨⟨i'', l3, p1, p2, p3, p4, p5, p6⟩, hK2⟩ := hPc'
          rcases p6 with ⟨t, -⟩ | ⟨d2, y1, y2, y3⟩
          · exact absurd (hg.mp t) g1
          have ed2 : Int32.toNatClampNeg ((S.2.2 20) - 1) = d2 := by omega
          have ei2 : Int32.toNatClampNeg (U.2.2 21) = i'' := by rw [e21] at c21 ⊢; omega
          have el2 : Int32.toNatClampNeg ((S.1 29) (Int32.toNatClampNeg (S.2.2 20))) = l3 := by omega
          rw [← ed2, ← ei2, ← el2, ← e31] at y3
          have y4 : gp_stk Pg lo.2 (gp_M (S.2.2 5) (u.1 9)) (u.1 10) (u.1 11) (u.1 12) (S.1 26) (S.1 27) (S.1 28) (S.1 29) (U.1 30) (U.1 31) fs (Int32.toNatClampNeg ((S.2.2 20) - 1)) (Int32.toNatClampNeg (U.2.2 21)) (Int32.toNatClampNeg ((S.1 29) (Int32.toNatClampNeg (S.2.2 20)))) := by rw [e30]; exact y3
          refine gf_ca (Q := gp_Qk Pg S lo (.inr (.inl (gp_pm tx ty (gp_e1 10 e) (a, g.2.1, fs, nA, nC + 1))))) (gp_Qp Pg _ lo (gp_pm tx ty (gp_e1 10 e) (a, g.2.1, fs, nA, nC + 1))) (gz_primary k0 _ ht ⟨⟨y4, gp_K_w hK2 cov2⟩, (show gp_ch lo.2 k0 (gp_M (S.2.2 5) (u.1 9)) by rw [w3]; exact gp_ch_lo w1 w2 hP.2.2.2.2.2), (show gp_rep Pg lo.2 (u.1 10) (u.1 11) (u.1 12) (gp_e1 10 e) (Int32.toNatClampNeg k0) by rw [w2, w10, w11, w12]; exact rep), gp_O_r _ _ _ _ _ _ _ _ _⟩ hf hf2 (show 0 ≤ ((u.1 9) (Int32.toNatClampNeg (S.2.2 5))).toInt by omega) (show ((u.1 9) (Int32.toNatClampNeg (S.2.2 5))).toInt ≤ 145 by omega) i0 i1 (show (U.2.2 19).toInt = a by rw [e19]; exact ha) ha2 y2) ?_
          intro r2 u2 hu2
          exact ⟨⟨hu2.1, e8, e25⟩, gp_O_t (gp_O_t hO (gp_O_w wO hP.2.2.2.2.1)) hu2.2⟩
        · rw [if_neg b2]
          have g2 : ¬ g.1 = 123 := fun t => b2 (Int32.toInt_inj.mp (by rw [l123, s1, t]))
          have eR : gp_cR tx ty a g fs nA nC e = .inr (.inl (gp_pm tx ty e (a, g.2.1, fs, nA, nC))) := (if_neg g1).trans (if_neg g2)
          rw [eR]
          rw [← ed, ← ei, ← el, ← e31] at t3
          have y4 : gp_stk Pg lo.2 (gp_M (S.2.2 5) (U.1 9)) (U.1 10) (U.1 11) (U.1 12) (S.1 26) (S.1 27) (S.1 28) (S.1 29) (U.1 30) (U.1 31) fs (Int32.toNatClampNeg ((S.2.2 20) - 1)) (Int32.toNatClampNeg (U.2.2 21)) (Int32.toNatClampNeg ((S.1 29) (Int32.toNatClampNeg (S.2.2 20)))) := by rw [e30]; exact t3
          refine gf_ca (Q := gp_Qk Pg S lo (.inr (.inl (gp_pm tx ty e (a, g.2.1, fs, nA, nC))))) (gp_Qp Pg _ lo (gp_pm tx ty e (a, g.2.1, fs, nA, nC))) (gz_primary v1 _ ht ⟨⟨y4, gp_K_w hK (cov e (fun _ q => q))⟩, hv1, hr, gp_O_r _ _ _ _ _ _ _ _ _⟩ hf hf2 hp (show ((U.1 9) (Int32.toNatClampNeg (S.2.2 5))).toInt ≤ 145 by omega) i0 i1 (show (U.2.2 19).toInt = a by rw [e19]; exact ha) ha2 t2) ?_
          intro r2 u2 hu2
          exact ⟨⟨hu2.1, e8, e25⟩, gp_O_t hO hu2.2⟩
  | cons y r ih =>
    intro n v2 v1 U nC e hP hv1 hr hO e8 e30 e31 e19 e20 e25 i0 i1 e21 hp hp2 g0 hs hv2 hn hx
    cases n with
    | zero => exact absurd hn (by omega)
    | succ n =>
      rw [List.length_cons] at hn hp2
      obtain ⟨h', hh', k, k1, k2, k3, k4⟩ := hs
      have le := gp_seg_le _ _ _ k4
      have c : ¬ v2 < (S.1 29) (Int32.toNatClampNeg (S.2.2 20)) := by rw [Int32.lt_iff_toInt_lt]; omega
      have cv := gx_cl v2 (by omega)
      have ek : k = Int32.toNatClampNeg v2 := by omega
      rw [ek] at k2 k3
      rw [gm_f_MD_close_23, e20, if_neg c]
      refine gf_ca (Q := gp_Qk Pg S lo (gp_cR tx ty a g fs nA nC ((y :: r).foldl (fun acc y => gp_e2 5 y acc) e))) (gp_cQ 5 ((U.1 31) (Int32.toNatClampNeg v2)) v1 _) (gz_create 5 _ v1 _ hf hf2 hp (show ((U.1 9) (Int32.toNatClampNeg (S.2.2 5))).toInt ≤ 150 by omega)) ?_
      intro r2 u hu
      have l5 : (5 : Int32).toInt = 5 := gx_lit 5 (by decide)
      obtain ⟨⟨w1, w2, w3, w4⟩, w9, w10, w11, w12, w13, wO⟩ := hu
      have w2 : Int32.toNatClampNeg r2 = gp_M (S.2.2 5) (U.1 9) := w2
      have w3 : gp_M (S.2.2 5) (u.1 9) = gp_M (S.2.2 5) (U.1 9) + 1 := w3
      have w9 : u.1 9 = upd (U.1 9) (Int32.toNatClampNeg (S.2.2 5)) ((U.1 9) (Int32.toNatClampNeg (S.2.2 5)) + 1) := w9
      have w10 : u.1 10 = upd (U.1 10) (gp_M (S.2.2 5) (U.1 9)) 5 := w10
      have w11 : u.1 11 = upd (U.1 11) (gp_M (S.2.2 5) (U.1 9)) ((U.1 31) (Int32.toNatClampNeg v2)) := w11
      have w12 : u.1 12 = upd (U.1 12) (gp_M (S.2.2 5) (U.1 9)) v1 := w12
      have w13 : u.1 13 = upd (U.1 13) (gp_M (S.2.2 5) (U.1 9)) ((S.1 6) (Int32.toNatClampNeg (S.2.2 5))) := w13
      have wO : gp_O (S.2.2 5) (gp_M (S.2.2 5) (U.1 9)) (U.1 9) (U.1 10) (U.1 11) (U.1 12) (U.1 13) (U.2.1 17) (U.2.1 18) (u.1 9) (u.1 10) (u.1 11) (u.1 12) (u.1 13) (u.2.1 17) (u.2.1 18) := wO
      rw [← e31] at k2 k3
      have rep := gp_rep_2 (k := 5) (Or.inr rfl) l5 k2 hv1 k3 hr
      have bb := gx_ak ((U.1 9) (Int32.toNatClampNeg (S.2.2 5))) 1 1 (by decide)
      have P1 : ((u.1 9) (Int32.toNatClampNeg (S.2.2 5))).toInt = ((U.1 9) (Int32.toNatClampNeg (S.2.2 5))).toInt + 1 := by rw [w9, gx_us]; omega
      have v4 := gx_m1 v2 (by omega) (by omega)
      generalize v2 + (-1) = vv at v4 ⊢
      refine ih n vv r2 _ nC (gp_e2 5 y e) ?_ ?_ ?_ (gp_O_t hO (gp_O_w wO hP.2.2.2.2.1)) e8 e30 e31 e19 rfl e25 i0 i1 e21 (show 0 ≤ ((u.1 9) (Int32.toNatClampNeg (S.2.2 5))).toInt by omega) (show ((u.1 9) (Int32.toNatClampNeg (S.2.2 5))).toInt + (r.length : Nat) ≤ 140 by omega) g0 ⟨k, by omega, ?_⟩ (by omega) (by omega) hx
      · show gp_P Pg (S.2.2 5) (S.1 6) (u.1 9) (u.1 10) (u.1 11) (u.1 12) (u.1 13) (S.1 26) (S.1 27) (S.1 28) (S.1 29) (S.1 30) A31 (Int32.toNatClampNeg (S.2.2 20)) (Int32.toNatClampNeg (U.2.2 21)) (Int32.toNatClampNeg (U.2.2 22)) (g :: fs) lo nA nC [gp_e2 5 y e]
        rw [w9, w10, w11, w12, w13]
        exact gp_P_c hP w4 rep (List.mem_singleton.mpr rfl) (fun x hx2 => Or.inr (fun e' t => by rw [List.mem_singleton.mp hx2] at t; exact gp_sb_2b 5 y e e' t)) (a := 0) (c := 0) (if_neg (by omega)) (if_neg (by omega))
      · show gp_ch lo.2 r2 (gp_M (S.2.2 5) (u.1 9))
        rw [w3]
        exact gp_ch_lo w1 w2 hP.2.2.2.2.2
      · show gp_rep Pg lo.2 (u.1 10) (u.1 11) (u.1 12) (gp_e2 5 y e) (Int32.toNatClampNeg r2)
        rw [w2, w10, w11, w12]
        exact rep
      · show gp_seg Pg lo.2 (gp_M (S.2.2 5) (u.1 9)) (u.1 10) (u.1 11) (u.1 12) A31 r l' k
        rw [w3, w10, w11, w12]
        exact gp_seg_tr (Nat.le_succ _) (gp_sm_up _ _ _ _ _ _ _) r l' k (fun _ _ => rfl) k4
theorem gz_close {Pg : Nat → Nat → Nat → Prop} (S : gm_S) {tx : Nat → Int} {lo : Nat × Nat} {ty nA nC a : Nat} {p : Int} {f : gp_Fm} {fs : List gp_Fm} (ht : gp_tx (S.2.2 2) (S.1 3) tx ty) (h : gp_P Pg (S.2.2 5) (S.1 6) (S.1 9) (S.1 10) (S.1 11) (S.1 12) (S.1 13) (S.1 26) (S.1 27) (S.1 28) (S.1 29) (S.1 30) (S.1 31) (Int32.toNatClampNeg (S.2.2 20)) (Int32.toNatClampNeg (S.2.2 21)) (Int32.toNatClampNeg (S.2.2 22)) (f :: fs) lo nA nC []) (hf : 0 ≤ (S.2.2 5).toInt) (hf2 : (S.2.2 5).toInt ≤ 1) (hp : 0 ≤ ((S.1 9) (Int32.toNatClampNeg (S.2.2 5))).toInt) (hp2 : ((S.1 9) (Int32.toNatClampNeg (S.2.2 5))).toInt + (S.2.2 21).toInt + (S.2.2 22).toInt ≤ 110) (hi : 0 ≤ (S.2.2 21).toInt) (hi2 : (S.2.2 21).toInt ≤ 60) (hl : 0 ≤ (S.2.2 22).toInt) (hl2 : (S.2.2 22).toInt ≤ 60) (hd : 0 ≤ (S.2.2 20).toInt) (hd2 : (S.2.2 20).toInt ≤ 6) (ha : (S.2.2 19).toInt = a) (ha2 : a ≤ 100) (hg : fs = [] ↔ f.1 = 59) : gp_Qk Pg S lo (gp_cw tx ty (a, p, f :: fs, nA, nC)) (gm_f_MD_close S) := by
  have eR : gp_cw tx ty (a, p, f :: fs, nA, nC) = gp_cR tx ty a (f.1, f.2.1, [], gp_jn 4 f.2.2.1 :: f.2.2.2) fs (nA + (f.2.2.1.length - 1)) nC (gp_jn 5 (gp_jn 4 f.2.2.1 :: f.2.2.2)) := rfl
  rw [eR]
  unfold gm_f_MD_close
  refine gf_ca (Q := gp_Qk Pg S lo (gp_cR tx ty a (f.1, f.2.1, [], gp_jn 4 f.2.2.1 :: f.2.2.2) fs (nA + (f.2.2.1.length - 1)) nC (gp_jn 5 (gp_jn 4 f.2.2.1 :: f.2.2.2)))) (gp_Qe Pg S lo (gp_es (f :: fs)) (nA + (f.2.2.1.length - 1)) nC) (gz_endSequence S h hf hf2 hp (by omega) hi hi2 hl hl2) ?_
  intro r0 u hu
  obtain ⟨hP, hO, e21, e22, hp3, hp4⟩ := hu
  have hP : gp_P Pg (S.2.2 5) (S.1 6) (u.1 9) (u.1 10) (u.1 11) (u.1 12) (u.1 13) (S.1 26) (S.1 27) (S.1 28) (S.1 29) (S.1 30) (u.1 31) (Int32.toNatClampNeg (S.2.2 20)) (Int32.toNatClampNeg (u.2.2 21)) (Int32.toNatClampNeg (u.2.2 22)) ((f.1, f.2.1, [], gp_jn 4 f.2.2.1 :: f.2.2.2) :: fs) lo (nA + (f.2.2.1.length - 1)) nC [] := hP
  have e21 : u.2.2 21 = (S.1 28) (Int32.toNatClampNeg (S.2.2 20)) := e21
  have e22 : (u.2.2 22).toInt = (S.2.2 22).toInt + 1 := e22
  have hp3 : 0 ≤ ((u.1 9) (Int32.toNatClampNeg (S.2.2 5))).toInt := hp3
  have hp4 : ((u.1 9) (Int32.toNatClampNeg (S.2.2 5))).toInt ≤ ((S.1 9) (Int32.toNatClampNeg (S.2.2 5))).toInt + (S.2.2 21).toInt + 1 := hp4
  have hP' := hP
  obtain ⟨⟨i', l', s1, s2, s3, s4, s5, s6⟩, hK⟩ := hP'
  obtain ⟨k, k1, k2, k3, k4⟩ := s5
  have h' := h
  obtain ⟨⟨i2, l2, q1, q2, q3, q4, q5, q6⟩, -⟩ := h'
  have le2 := gp_seg_le _ _ _ q5
  have le3 := gp_seg_le _ _ _ q4
  have le4 := gp_seg_le _ _ _ k4
  have cl := gx_cl (S.2.2 22) hl
  have ci := gx_cl (S.2.2 21) hi
  have cu := gx_cl (u.2.2 22) (by omega)
  have m1 := gx_sk (u.2.2 22) 1 1 (by decide)
  have m2 := gx_sk (u.2.2 22) 2 2 (gx_lit 2 (by decide))
  have m3 : ((u.2.2 22) - 1).toInt = (u.2.2 22).toInt - 1 := by omega
  have m4 : ((u.2.2 22) - 2).toInt = (u.2.2 22).toInt - 2 := by omega
  have c1 := gx_cl ((u.2.2 22) - 1) (by omega)
  have ek : k = Int32.toNatClampNeg ((u.2.2 22) - 1) := by omega
  rw [ek] at k2 k3
  have i21 : (u.2.2 21).toInt = i2 := by rw [e21]; exact q2
  refine gz_cl23 S u (u.1 31) (g := (f.1, f.2.1, [], gp_jn 4 f.2.2.1 :: f.2.2.2)) ht hf hf2 hd hd2 ha ha2 s3 hg f.2.2.2 200 ((u.2.2 22) - 2) ((u.1 31) (Int32.toNatClampNeg ((u.2.2 22) - 1))) _ nC (gp_jn 4 f.2.2.1) ?_ k2 k3 hO rfl rfl rfl rfl rfl rfl (show 0 ≤ (u.2.2 21).toInt by omega) (show (u.2.2 21).toInt ≤ 60 by omega) e21 hp3 (show ((u.1 9) (Int32.toNatClampNeg (S.2.2 5))).toInt + (f.2.2.2.length : Nat) ≤ 140 by omega) rfl ⟨k, by omega, k4⟩ (by omega) (by omega) ?_
  · exact ⟨hP.1, gp_K_w hK (fun x hx => ⟨x, List.mem_append.mpr (Or.inr hx), fun _ t => t⟩)⟩
  · intro x hx e' he'
    exact gp_sb_jn 5 (gp_jn 4 f.2.2.1 :: f.2.2.2) x hx e' he'
