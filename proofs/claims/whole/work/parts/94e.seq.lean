/-! The reference's reader against the machine: the end of a sequence, and of a bracket. -/
theorem gx_m1 (v : Int32) (h : 0 ≤ v.toInt) (h2 : v.toInt ≤ 100000) : (v + (-1)).toInt = v.toInt - 1 := by
  have a := gx_ak v (-1) (-1) (by decide)
  generalize (v + (-1)).toInt = t at a ⊢
  omega
theorem gp_sb_fo (k : Nat) : ∀ (r : List Lean.ParserDescr) (x : Lean.ParserDescr), (∀ e', e' ∈ gp_sb x → e' ∈ gp_sb (r.foldl (fun acc y => gp_e2 k y acc) x)) ∧ ∀ y, y ∈ r → ∀ e', e' ∈ gp_sb y → e' ∈ gp_sb (r.foldl (fun acc y => gp_e2 k y acc) x) := by
  intro r
  induction r with
  | nil => intro x; exact ⟨fun e' h => h, fun y hy => by cases hy⟩
  | cons y r ih =>
    intro x
    have q := ih (gp_e2 k y x)
    rw [List.foldl_cons]
    refine ⟨fun e' h => q.1 e' (gp_sb_2b k y x e' h), fun w hw e' h => ?_⟩
    rcases List.mem_cons.mp hw with t | t
    · rw [t] at h
      exact q.1 e' (gp_sb_2a k y x e' h)
    · exact q.2 w t e' h
theorem gp_sb_jn (k : Nat) (l : List Lean.ParserDescr) : ∀ y, y ∈ l → ∀ e', e' ∈ gp_sb y → e' ∈ gp_sb (gp_jn k l) := by
  cases l with
  | nil => intro y hy; cases hy
  | cons x r =>
    intro y hy e' h
    rcases List.mem_cons.mp hy with t | t
    · rw [t] at h
      exact (gp_sb_fo k r x).1 e' h
    · exact (gp_sb_fo k r x).2 y t e' h
theorem gp_stk_es {Pg : Nat → Nat → Nat → Prop} {B M : Nat} {kd on tw bk bf ib ab it al : Nat → Int32} {f : gp_Fm} {fs : List gp_Fm} {d i l : Nat} (h : gp_stk Pg B M kd on tw bk bf ib ab it al (f :: fs) d i l) {e : Lean.ParserDescr} {x : Int32} (hx : gp_ch B x M) (hr : gp_rep Pg B kd on tw e (Int32.toNatClampNeg x)) : ∃ i' : Nat, (ib d).toInt = i' ∧ gp_stk Pg B M kd on tw bk bf ib ab it (upd al l x) ((f.1, f.2.1, [], e :: f.2.2.2) :: fs) d i' (l + 1) := by
  have h' := gp_stk_tr (it' := it) (bk' := bk) (bf' := bf) (ib' := ib) (ab' := ab) (al' := upd al l x) (Nat.le_refl M) (kd' := kd) (on' := on) (tw' := tw) (fun m _ => ⟨rfl, rfl, rfl⟩) (f :: fs) d i l (fun k _ => ⟨rfl, rfl, rfl, rfl⟩) (fun k _ => rfl) (fun k hk => gx_un _ _ _ (by omega)) h
  obtain ⟨i', l', h1, h2, h3, h4, h5, h6⟩ := h'
  refine ⟨i', h2, i', l', h1, h2, h3, rfl, ⟨l, rfl, ?_, ?_, h5⟩, h6⟩
  · rw [gx_us]; exact hx
  · rw [gx_us]; exact hr
/-- what the end of a sequence leaves -/
def gp_Qe (Pg : Nat → Nat → Nat → Prop) (S : gm_S) (lo : Nat × Nat) (fs : List gp_Fm) (nA nC : Nat) (z : Int32 × gm_S) : Prop :=
  gp_P Pg (S.2.2 5) (S.1 6) (z.2.1 9) (z.2.1 10) (z.2.1 11) (z.2.1 12) (z.2.1 13) (S.1 26) (S.1 27) (S.1 28) (S.1 29) (S.1 30) (z.2.1 31) (Int32.toNatClampNeg (S.2.2 20)) (Int32.toNatClampNeg (z.2.2.2 21)) (Int32.toNatClampNeg (z.2.2.2 22)) fs lo nA nC [] ∧
  gp_O (S.2.2 5) lo.1 (S.1 9) (S.1 10) (S.1 11) (S.1 12) (S.1 13) (S.2.1 17) (S.2.1 18) (z.2.1 9) (z.2.1 10) (z.2.1 11) (z.2.1 12) (z.2.1 13) (z.2.2.1 17) (z.2.2.1 18) ∧
  z.2.2.2 21 = (S.1 28) (Int32.toNatClampNeg (S.2.2 20)) ∧ (z.2.2.2 22).toInt = (S.2.2 22).toInt + 1 ∧ 0 ≤ ((z.2.1 9) (Int32.toNatClampNeg (S.2.2 5))).toInt ∧ ((z.2.1 9) (Int32.toNatClampNeg (S.2.2 5))).toInt ≤ ((S.1 9) (Int32.toNatClampNeg (S.2.2 5))).toInt + (S.2.2 21).toInt + 1
/-- a sequence in hand: U the state so far, e what stands for its end -/
def gp_Hs (Pg : Nat → Nat → Nat → Prop) (S U : gm_S) (lo : Nat × Nat) (fs : List gp_Fm) (nA nC : Nat) (e : Lean.ParserDescr) (v : Int32) : Prop :=
  gp_P Pg (S.2.2 5) (S.1 6) (U.1 9) (U.1 10) (U.1 11) (U.1 12) (U.1 13) (S.1 26) (S.1 27) (S.1 28) (S.1 29) (S.1 30) (U.1 31) (Int32.toNatClampNeg (S.2.2 20)) (Int32.toNatClampNeg (S.2.2 21)) (Int32.toNatClampNeg (U.2.2 22)) fs lo nA nC [e] ∧
  gp_ch lo.2 v (gp_M (S.2.2 5) (U.1 9)) ∧ gp_rep Pg lo.2 (U.1 10) (U.1 11) (U.1 12) e (Int32.toNatClampNeg v) ∧
  gp_O (S.2.2 5) lo.1 (S.1 9) (S.1 10) (S.1 11) (S.1 12) (S.1 13) (S.2.1 17) (S.2.1 18) (U.1 9) (U.1 10) (U.1 11) (U.1 12) (U.1 13) (U.2.1 17) (U.2.1 18)
theorem gz_es45 {Pg : Nat → Nat → Nat → Prop} (S : gm_S) (k0 : Int32) (W : gm_S) {lo : Nat × Nat} {nC : Nat} {f : gp_Fm} {fs : List gp_Fm} {ib : Nat} (hf : 0 ≤ (S.2.2 5).toInt) (hf2 : (S.2.2 5).toInt ≤ 1) (hib : ((S.1 28) (Int32.toNatClampNeg (S.2.2 20))).toInt = ib) (hPi : ((S.1 9) (Int32.toNatClampNeg (S.2.2 5))).toInt + (S.2.2 21).toInt ≤ 120) : ∀ (r : List Lean.ParserDescr) (n : Nat) (v2 v1 : Int32) (U : gm_S) (nA : Nat) (e : Lean.ParserDescr), gp_Hs Pg S U lo (f :: fs) nA nC e v1 → U.2.2 22 = S.2.2 22 → 0 ≤ (S.2.2 22).toInt → (S.2.2 22).toInt ≤ 100 → 0 ≤ ((U.1 9) (Int32.toNatClampNeg (S.2.2 5))).toInt → ((U.1 9) (Int32.toNatClampNeg (S.2.2 5))).toInt + r.length ≤ ((S.1 9) (Int32.toNatClampNeg (S.2.2 5))).toInt + (S.2.2 21).toInt + 1 → ((r = [] ∧ v2.toInt < ib) ∨ ∃ h : Nat, (h : Int) = v2.toInt + 1 ∧ gp_seg Pg lo.2 (gp_M (S.2.2 5) (U.1 9)) (U.1 10) (U.1 11) (U.1 12) (S.1 30) r ib h) → v2.toInt ≤ 100 → r.length < n → (∀ x, x ∈ f.2.2.1 → ∀ e', e' ∈ gp_sb x → e' ∈ gp_sb (r.foldl (fun acc y => gp_e2 4 y acc) e)) →
    gp_Qe Pg S lo ((f.1, f.2.1, [], r.foldl (fun acc y => gp_e2 4 y acc) e :: f.2.2.2) :: fs) (nA + r.length) nC (gm_f_MD_endSequence_45 S k0 W n v2 v1 U) := by
  intro r
  induction r with
  | nil =>
    intro n v2 v1 U nA e h e22 l0 l1 hp hp2 hs hv2 hn hx
    cases n with
    | zero => exact absurd hn (by omega)
    | succ n =>
      have t : v2.toInt < ib := by
        rcases hs with ⟨-, q⟩ | ⟨h', hh', q⟩
        · exact q
        · have q : h' = ib := q
          omega
      have c : v2 < (S.1 28) (Int32.toNatClampNeg (S.2.2 20)) := by rw [Int32.lt_iff_toInt_lt]; omega
      rw [gm_f_MD_endSequence_45, if_pos c]
      obtain ⟨⟨h1, h2⟩, hv1, hr, hO⟩ := h
      obtain ⟨i', q1, q2⟩ := gp_stk_es h1 hv1 hr
      have b := gx_ak (U.2.2 22) 1 1 (by decide)
      rw [e22] at b
      have c1 := gx_cl (S.2.2 22) l0
      have c2 := gx_cl ((S.2.2 22) + 1) (by omega)
      have c3 := gx_cl ((S.1 28) (Int32.toNatClampNeg (S.2.2 20))) (by omega)
      have el : Int32.toNatClampNeg ((U.2.2 22) + 1) = Int32.toNatClampNeg (U.2.2 22) + 1 := by rw [e22]; omega
      have ei : i' = Int32.toNatClampNeg ((S.1 28) (Int32.toNatClampNeg (S.2.2 20))) := by omega
      rw [← el, ei] at q2
      refine ⟨⟨q2, gp_K_w h2 (fun g hg => ?_)⟩, hO, rfl, ?_, hp, ?_⟩
      · have hg : g ∈ [e] ++ (f.2.2.1 ++ f.2.2.2 ++ gp_lv fs) := hg
        simp only [List.mem_append, List.mem_cons, List.not_mem_nil, or_false] at hg
        rcases hg with q | (q | q) | q
        · exact ⟨g, by show g ∈ [] ++ ([] ++ (e :: f.2.2.2) ++ gp_lv fs); simp [q], fun _ t => t⟩
        · exact ⟨e, by show e ∈ [] ++ ([] ++ (e :: f.2.2.2) ++ gp_lv fs); simp, hx g q⟩
        · exact ⟨g, by show g ∈ [] ++ ([] ++ (e :: f.2.2.2) ++ gp_lv fs); simp [q], fun _ t => t⟩
        · exact ⟨g, by show g ∈ [] ++ ([] ++ (e :: f.2.2.2) ++ gp_lv fs); simp [q], fun _ t => t⟩
      · show ((U.2.2 22) + 1).toInt = (S.2.2 22).toInt + 1
        rw [e22]; omega
      · show ((U.1 9) (Int32.toNatClampNeg (S.2.2 5))).toInt ≤ ((S.1 9) (Int32.toNatClampNeg (S.2.2 5))).toInt + (S.2.2 21).toInt + 1
        have : ((U.1 9) (Int32.toNatClampNeg (S.2.2 5))).toInt + (([] : List Lean.ParserDescr).length : Nat) ≤ ((S.1 9) (Int32.toNatClampNeg (S.2.2 5))).toInt + (S.2.2 21).toInt + 1 := hp2
        simp only [List.length_nil] at this
        omega
  | cons y r ih =>
    intro n v2 v1 U nA e h e22 l0 l1 hp hp2 hs hv2 hn hx
    cases n with
    | zero => exact absurd hn (by omega)
    | succ n =>
      rw [List.length_cons] at hn hp2
      obtain ⟨h', hh', k, k1, k2, k3, k4⟩ : ∃ h : Nat, (h : Int) = v2.toInt + 1 ∧ gp_seg Pg lo.2 (gp_M (S.2.2 5) (U.1 9)) (U.1 10) (U.1 11) (U.1 12) (S.1 30) (y :: r) ib h := by
        rcases hs with ⟨q, -⟩ | q
        · cases q
        · exact q
      have le := gp_seg_le _ _ _ k4
      have c : ¬ v2 < (S.1 28) (Int32.toNatClampNeg (S.2.2 20)) := by rw [Int32.lt_iff_toInt_lt]; omega
      have cv := gx_cl v2 (by omega)
      have ek : k = Int32.toNatClampNeg v2 := by omega
      rw [ek] at k2 k3
      rw [gm_f_MD_endSequence_45, if_neg c]
      refine gf_ca (Q := gp_Qe Pg S lo ((f.1, f.2.1, [], (y :: r).foldl (fun acc y => gp_e2 4 y acc) e :: f.2.2.2) :: fs) (nA + (y :: r).length) nC) (gp_cQ 4 ((S.1 30) (Int32.toNatClampNeg v2)) v1 ((va_up (va_up (va_up (va_up (va_up (va_up S.1 9 (U.1 9)) 10 (U.1 10)) 11 (U.1 11)) 12 (U.1 12)) 13 (U.1 13)) 31 (U.1 31)), (va_up (va_up S.2.1 17 (U.2.1 17)) 18 (U.2.1 18)), (va_up (va_up S.2.2 21 (U.2.2 21)) 22 (U.2.2 22)))) (gz_create 4 _ v1 _ hf hf2 hp (show ((U.1 9) (Int32.toNatClampNeg (S.2.2 5))).toInt ≤ 150 by omega)) ?_
      intro r2 u hu
      have l4 : (4 : Int32).toInt = 4 := gx_lit 4 (by decide)
      obtain ⟨⟨g1, g2, g3, g4⟩, g9, g10, g11, g12, g13, gO⟩ := hu
      have g3 : gp_M (S.2.2 5) (u.1 9) = gp_M (S.2.2 5) (U.1 9) + 1 := g3
      have g2 : Int32.toNatClampNeg r2 = gp_M (S.2.2 5) (U.1 9) := g2
      have g9 : u.1 9 = upd (U.1 9) (Int32.toNatClampNeg (S.2.2 5)) ((U.1 9) (Int32.toNatClampNeg (S.2.2 5)) + 1) := g9
      have g10 : u.1 10 = upd (U.1 10) (gp_M (S.2.2 5) (U.1 9)) 4 := g10
      have g11 : u.1 11 = upd (U.1 11) (gp_M (S.2.2 5) (U.1 9)) ((S.1 30) (Int32.toNatClampNeg v2)) := g11
      have g12 : u.1 12 = upd (U.1 12) (gp_M (S.2.2 5) (U.1 9)) v1 := g12
      have g13 : u.1 13 = upd (U.1 13) (gp_M (S.2.2 5) (U.1 9)) ((S.1 6) (Int32.toNatClampNeg (S.2.2 5))) := g13
      obtain ⟨hP, hv1, hr, hO⟩ := h
      have rep := gp_rep_2 (k := 4) (Or.inl rfl) l4 k2 hv1 k3 hr
      have b := gx_ak ((U.1 9) (Int32.toNatClampNeg (S.2.2 5))) 1 1 (by decide)
      have P1 : ((u.1 9) (Int32.toNatClampNeg (S.2.2 5))).toInt = ((U.1 9) (Int32.toNatClampNeg (S.2.2 5))).toInt + 1 := by rw [g9, gx_us]; omega
      have v4 := gx_m1 v2 (by omega) (by omega)
      generalize v2 + (-1) = w2 at v4 ⊢
      have res := ih n w2 r2 ((va_up (va_up (va_up (va_up (va_up (va_up S.1 9 (u.1 9)) 10 (u.1 10)) 11 (u.1 11)) 12 (u.1 12)) 13 (u.1 13)) 31 (U.1 31)), (va_up (va_up S.2.1 17 (u.2.1 17)) 18 (u.2.1 18)), (va_up (va_up S.2.2 21 (U.2.2 21)) 22 (U.2.2 22))) (nA + 1) (gp_e2 4 y e) ⟨?_, ?_, ?_, gp_O_t hO (gp_O_w gO hP.2.2.2.2.1)⟩ e22 l0 l1 (show 0 ≤ ((u.1 9) (Int32.toNatClampNeg (S.2.2 5))).toInt by omega) (show ((u.1 9) (Int32.toNatClampNeg (S.2.2 5))).toInt + (r.length : Nat) ≤ ((S.1 9) (Int32.toNatClampNeg (S.2.2 5))).toInt + (S.2.2 21).toInt + 1 by omega) (Or.inr ⟨k, by omega, ?_⟩) (by omega) (by omega) hx
      · have e1 : nA + (y :: r).length = nA + 1 + r.length := by rw [List.length_cons]; omega
        rw [e1]
        exact res
      · show gp_P Pg (S.2.2 5) (S.1 6) (u.1 9) (u.1 10) (u.1 11) (u.1 12) (u.1 13) (S.1 26) (S.1 27) (S.1 28) (S.1 29) (S.1 30) (U.1 31) (Int32.toNatClampNeg (S.2.2 20)) (Int32.toNatClampNeg (S.2.2 21)) (Int32.toNatClampNeg (U.2.2 22)) (f :: fs) lo (nA + 1) nC [gp_e2 4 y e]
        rw [g9, g10, g11, g12, g13]
        exact gp_P_c hP g4 rep (List.mem_singleton.mpr rfl) (fun g hg => Or.inr (fun e' t => by rw [List.mem_singleton.mp hg] at t; exact gp_sb_2b 4 y e e' t)) (a := 1) (c := 0) (if_pos (Or.inl l4)) (if_neg (by omega))
      · show gp_ch lo.2 r2 (gp_M (S.2.2 5) (u.1 9))
        rw [g3]
        exact gp_ch_lo g1 g2 hP.2.2.2.2.2
      · show gp_rep Pg lo.2 (u.1 10) (u.1 11) (u.1 12) (gp_e2 4 y e) (Int32.toNatClampNeg r2)
        rw [g2, g10, g11, g12]
        exact rep
      · show gp_seg Pg lo.2 (gp_M (S.2.2 5) (u.1 9)) (u.1 10) (u.1 11) (u.1 12) (S.1 30) r ib k
        rw [g3, g10, g11, g12]
        exact gp_seg_tr (Nat.le_succ _) (gp_sm_up _ _ _ _ _ _ _) r ib k (fun _ _ => rfl) k4
theorem gz_endSequence {Pg : Nat → Nat → Nat → Prop} (S : gm_S) {lo : Nat × Nat} {nA nC : Nat} {f : gp_Fm} {fs : List gp_Fm} (h : gp_P Pg (S.2.2 5) (S.1 6) (S.1 9) (S.1 10) (S.1 11) (S.1 12) (S.1 13) (S.1 26) (S.1 27) (S.1 28) (S.1 29) (S.1 30) (S.1 31) (Int32.toNatClampNeg (S.2.2 20)) (Int32.toNatClampNeg (S.2.2 21)) (Int32.toNatClampNeg (S.2.2 22)) (f :: fs) lo nA nC []) (hf : 0 ≤ (S.2.2 5).toInt) (hf2 : (S.2.2 5).toInt ≤ 1) (hp : 0 ≤ ((S.1 9) (Int32.toNatClampNeg (S.2.2 5))).toInt) (hp2 : ((S.1 9) (Int32.toNatClampNeg (S.2.2 5))).toInt + (S.2.2 21).toInt ≤ 120) (hi : 0 ≤ (S.2.2 21).toInt) (hi2 : (S.2.2 21).toInt ≤ 60) (hl : 0 ≤ (S.2.2 22).toInt) (hl2 : (S.2.2 22).toInt ≤ 60) : gp_Qe Pg S lo (gp_es (f :: fs)) (nA + (f.2.2.1.length - 1)) nC (gm_f_MD_endSequence S) := by
  have h' := h
  obtain ⟨⟨i', l', s1, s2, s3, s4, s5, s6⟩, hK⟩ := h'
  have ci := gx_cl (S.2.2 21) hi
  have le := gp_seg_le _ _ _ s4
  have ms := gx_sk (S.2.2 21) 2 2 (gx_lit 2 (by decide))
  have m2 : ((S.2.2 21) - 2).toInt = (S.2.2 21).toInt - 2 := by omega
  unfold gm_f_MD_endSequence
  by_cases q : (S.2.2 21) = (S.1 28) (Int32.toNatClampNeg (S.2.2 20))
  · rw [if_pos q]
    have q1 := gx_eq q
    have n0 : f.2.2.1.length = 0 := by omega
    have nil : f.2.2.1 = [] := List.eq_nil_of_length_eq_zero n0
    refine gf_ca (Q := gp_Qe Pg S lo (gp_es (f :: fs)) (nA + (f.2.2.1.length - 1)) nC) (gp_cQ 0 (-1) (-1) S) (gz_create 0 (-1) (-1) S hf hf2 hp (by omega)) ?_
    intro r u hu
    obtain ⟨⟨g1, g2, g3, g4⟩, g9, g10, g11, g12, g13, gO⟩ := hu
    have g2 : Int32.toNatClampNeg r = gp_M (S.2.2 5) (S.1 9) := g2
    have g9 : u.1 9 = upd (S.1 9) (Int32.toNatClampNeg (S.2.2 5)) ((S.1 9) (Int32.toNatClampNeg (S.2.2 5)) + 1) := g9
    have g10 : u.1 10 = upd (S.1 10) (gp_M (S.2.2 5) (S.1 9)) 0 := g10
    have g11 : u.1 11 = upd (S.1 11) (gp_M (S.2.2 5) (S.1 9)) (-1) := g11
    have g12 : u.1 12 = upd (S.1 12) (gp_M (S.2.2 5) (S.1 9)) (-1) := g12
    have g13 : u.1 13 = upd (S.1 13) (gp_M (S.2.2 5) (S.1 9)) ((S.1 6) (Int32.toNatClampNeg (S.2.2 5))) := g13
    have g3 : gp_M (S.2.2 5) (u.1 9) = gp_M (S.2.2 5) (S.1 9) + 1 := g3
    have l0 : (0 : Int32).toInt = 0 := by decide
    have rep : gp_rep Pg lo.2 (upd (S.1 10) (gp_M (S.2.2 5) (S.1 9)) 0) (upd (S.1 11) (gp_M (S.2.2 5) (S.1 9)) (-1)) (upd (S.1 12) (gp_M (S.2.2 5) (S.1 9)) (-1)) (gp_e0 0 0 0) (gp_M (S.2.2 5) (S.1 9)) := gp_rep_0 _ _ _ (by omega) l0 (fun t => absurd t (by omega)) (fun t => absurd t (by omega)) (fun t => absurd t (by omega))
    have b := gx_ak ((S.1 9) (Int32.toNatClampNeg (S.2.2 5))) 1 1 (by decide)
    have P1 : ((u.1 9) (Int32.toNatClampNeg (S.2.2 5))).toInt = ((S.1 9) (Int32.toNatClampNeg (S.2.2 5))).toInt + 1 := by rw [g9, gx_us]; omega
    have res := gz_es45 (Pg := Pg) S r ((va_up (va_up (va_up (va_up (va_up S.1 9 (u.1 9)) 10 (u.1 10)) 11 (u.1 11)) 12 (u.1 12)) 13 (u.1 13)), (va_up (va_up S.2.1 17 (u.2.1 17)) 18 (u.2.1 18)), S.2.2) (lo := lo) (nC := nC) (f := f) (fs := fs) hf hf2 s2 hp2 [] 200 ((S.2.2 21) - 2) r ((va_up (va_up (va_up (va_up (va_up (va_up S.1 9 (u.1 9)) 10 (u.1 10)) 11 (u.1 11)) 12 (u.1 12)) 13 (u.1 13)) 31 (S.1 31)), (va_up (va_up S.2.1 17 (u.2.1 17)) 18 (u.2.1 18)), (va_up (va_up S.2.2 21 (S.2.2 21)) 22 (S.2.2 22))) nA (gp_e0 0 0 0) ⟨?_, ?_, ?_, gp_O_w gO h.2.2.2.2.1⟩ rfl hl (by omega) (show 0 ≤ ((u.1 9) (Int32.toNatClampNeg (S.2.2 5))).toInt by omega) (show ((u.1 9) (Int32.toNatClampNeg (S.2.2 5))).toInt + ((0 : Nat) : Int) ≤ ((S.1 9) (Int32.toNatClampNeg (S.2.2 5))).toInt + (S.2.2 21).toInt + 1 by omega) (Or.inl ⟨rfl, by omega⟩) (by omega) (by decide) (fun x hx => by rw [nil] at hx; cases hx)
    · have e1 : gp_es (f :: fs) = (f.1, f.2.1, [], gp_e0 0 0 0 :: f.2.2.2) :: fs := by
        show (f.1, f.2.1, [], gp_jn 4 f.2.2.1 :: f.2.2.2) :: fs = _
        rw [nil]
        rfl
      rw [e1, nil]
      exact res
    · show gp_P Pg (S.2.2 5) (S.1 6) (u.1 9) (u.1 10) (u.1 11) (u.1 12) (u.1 13) (S.1 26) (S.1 27) (S.1 28) (S.1 29) (S.1 30) (S.1 31) (Int32.toNatClampNeg (S.2.2 20)) (Int32.toNatClampNeg (S.2.2 21)) (Int32.toNatClampNeg (S.2.2 22)) (f :: fs) lo nA nC [gp_e0 0 0 0]
      rw [g9, g10, g11, g12, g13]
      exact gp_P_c h g4 rep (List.mem_singleton.mpr rfl) (fun g hg => by cases hg) (a := 0) (c := 0) (if_neg (by omega)) (if_neg (by omega))
    · show gp_ch lo.2 r (gp_M (S.2.2 5) (u.1 9))
      rw [g3]
      exact gp_ch_lo g1 g2 h.2.2.2.2.2
    · show gp_rep Pg lo.2 (u.1 10) (u.1 11) (u.1 12) (gp_e0 0 0 0) (Int32.toNatClampNeg r)
      rw [g2, g10, g11, g12]
      exact rep
  · rw [if_neg q]
    have q1 := gx_eqn q
    cases hf3 : f.2.2.1 with
    | nil => rw [hf3, List.length_nil] at le; exfalso; omega
    | cons y r =>
      rw [hf3] at s4
      obtain ⟨k, k1, k2, k3, k4⟩ := s4
      have le2 := gp_seg_le _ _ _ k4
      have m1 := gx_sk (S.2.2 21) 1 1 (by decide)
      have c1 := gx_cl ((S.2.2 21) - 1) (by omega)
      have ek : k = Int32.toNatClampNeg ((S.2.2 21) - 1) := by omega
      rw [ek] at k2 k3
      have e1 : gp_es (f :: fs) = (f.1, f.2.1, [], r.foldl (fun acc y => gp_e2 4 y acc) y :: f.2.2.2) :: fs := by
        show (f.1, f.2.1, [], gp_jn 4 f.2.2.1 :: f.2.2.2) :: fs = _
        rw [hf3]
        rfl
      rw [e1, List.length_cons, Nat.add_sub_cancel]
      refine gz_es45 S ((S.1 30) (Int32.toNatClampNeg ((S.2.2 21) - 1))) S (lo := lo) (nC := nC) (f := f) (fs := fs) hf hf2 s2 hp2 r 200 ((S.2.2 21) - 2) ((S.1 30) (Int32.toNatClampNeg ((S.2.2 21) - 1))) ((va_up (va_up (va_up (va_up (va_up (va_up S.1 9 (S.1 9)) 10 (S.1 10)) 11 (S.1 11)) 12 (S.1 12)) 13 (S.1 13)) 31 (S.1 31)), (va_up (va_up S.2.1 17 (S.2.1 17)) 18 (S.2.1 18)), (va_up (va_up S.2.2 21 (S.2.2 21)) 22 (S.2.2 22))) nA y ⟨?_, k2, k3, gp_O_r _ _ _ _ _ _ _ _ _⟩ rfl hl (by omega) hp (show ((S.1 9) (Int32.toNatClampNeg (S.2.2 5))).toInt + (r.length : Nat) ≤ ((S.1 9) (Int32.toNatClampNeg (S.2.2 5))).toInt + (S.2.2 21).toInt + 1 by omega) (Or.inr ⟨k, by omega, k4⟩) (by omega) (by omega) ?_
      · exact ⟨h.1, gp_K_w h.2 (fun g hg => ⟨g, List.mem_append.mpr (Or.inr hg), fun _ t => t⟩)⟩
      · intro x hx
        rw [hf3] at hx
        exact gp_sb_jn 4 (y :: r) x hx
