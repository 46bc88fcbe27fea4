/-- one part more, made of another part and the piece in hand -/
theorem gp_H_2n {nm : Lean.Name} {Pg : Nat → Nat → Nat → Prop} {S U U' : gm_S} {lo : Nat × Nat} {nA nC k : Nat} {fs : List gp_Fm} {e f : Lean.ParserDescr} {v x y r : Int32} {z : Int32 × gm_S} (h : gp_H Pg S U lo fs nA nC e v) (hy : gp_ch lo.2 y (gp_M (S.2.2 5) (U.1 9))) (hf : gp_rep Pg lo.2 (U.1 10) (U.1 11) (U.1 12) f (Int32.toNatClampNeg y)) (hc : gp_cQ x y v U' z) (e5 : U'.2.2 5 = S.2.2 5) (e6 : U'.1 6 = S.1 6) (e9 : U'.1 9 = U.1 9) (e10 : U'.1 10 = U.1 10) (e11 : U'.1 11 = U.1 11) (e12 : U'.1 12 = U.1 12) (e13 : U'.1 13 = U.1 13) (e17 : U'.2.1 17 = U.2.1 17) (e18 : U'.2.1 18 = U.2.1 18) (hnm : gp_n2 nm = k) (hk : k = 4 ∨ k = 5) (hx : x.toInt = k) {a c : Nat} (ha : (if x.toInt = 4 ∨ x.toInt = 7 then 1 else 0) = a) (hc2 : (if x.toInt = 10 then 1 else 0) = c) {V : gm_S} (f9 : V.1 9 = z.2.1 9) (f10 : V.1 10 = z.2.1 10) (f11 : V.1 11 = z.2.1 11) (f12 : V.1 12 = z.2.1 12) (f13 : V.1 13 = z.2.1 13) (f17 : V.2.1 17 = z.2.2.1 17) (f18 : V.2.1 18 = z.2.2.1 18) (f30 : V.1 30 = U.1 30) (f21 : V.2.2 21 = U.2.2 21) (hr : r = z.1) :
    gp_H Pg S V lo fs (nA + a) (nC + c) (.binary nm f e) r := by
  obtain ⟨hP, hv, hre, hO⟩ := h
  unfold gp_cQ at hc
  rw [e5, e6, e9, e10, e11, e12, e13, e17, e18] at hc
  obtain ⟨⟨g1, g2, g3, g4⟩, g9, g10, g11, g12, g13, gO⟩ := hc
  unfold gp_H
  rw [f9, f10, f11, f12, f13, f17, f18, f30, f21, hr]
  have rep := gp_rep_2n hnm hk hx hy hv hf hre
  refine ⟨?_, ?_, ?_, gp_O_t hO (gp_O_w gO hP.2.2.2.2.1)⟩
  · rw [g9, g10, g11, g12, g13]
    exact gp_P_c hP g4 rep (List.mem_singleton.mpr rfl) (fun g hg => Or.inr (fun e' t => by rw [List.mem_singleton.mp hg] at t; exact gp_sb_2n nm f e e' t)) ha hc2
  · rw [g3]; exact gp_ch_lo g1 g2 hP.2.2.2.2.2
  · rw [g2, g10, g11, g12]; exact rep
theorem gp_H_2 {Pg : Nat → Nat → Nat → Prop} {S U U' : gm_S} {lo : Nat × Nat} {nA nC k : Nat} {fs : List gp_Fm} {e f : Lean.ParserDescr} {v x y r : Int32} {z : Int32 × gm_S} (h : gp_H Pg S U lo fs nA nC e v) (hy : gp_ch lo.2 y (gp_M (S.2.2 5) (U.1 9))) (hf : gp_rep Pg lo.2 (U.1 10) (U.1 11) (U.1 12) f (Int32.toNatClampNeg y)) (hc : gp_cQ x y v U' z) (e5 : U'.2.2 5 = S.2.2 5) (e6 : U'.1 6 = S.1 6) (e9 : U'.1 9 = U.1 9) (e10 : U'.1 10 = U.1 10) (e11 : U'.1 11 = U.1 11) (e12 : U'.1 12 = U.1 12) (e13 : U'.1 13 = U.1 13) (e17 : U'.2.1 17 = U.2.1 17) (e18 : U'.2.1 18 = U.2.1 18) (hk : k = 4 ∨ k = 5) (hx : x.toInt = k) {a c : Nat} (ha : (if x.toInt = 4 ∨ x.toInt = 7 then 1 else 0) = a) (hc2 : (if x.toInt = 10 then 1 else 0) = c) {V : gm_S} (f9 : V.1 9 = z.2.1 9) (f10 : V.1 10 = z.2.1 10) (f11 : V.1 11 = z.2.1 11) (f12 : V.1 12 = z.2.1 12) (f13 : V.1 13 = z.2.1 13) (f17 : V.2.1 17 = z.2.2.1 17) (f18 : V.2.1 18 = z.2.2.1 18) (f30 : V.1 30 = U.1 30) (f21 : V.2.2 21 = U.2.2 21) (hr : r = z.1) :
    gp_H Pg S V lo fs (nA + a) (nC + c) (gp_e2 k f e) r := gp_H_2n (nm := .num .anonymous k) (k := k) h hy hf hc e5 e6 e9 e10 e11 e12 e13 e17 e18 rfl hk hx ha hc2 f9 f10 f11 f12 f13 f17 f18 f30 f21 hr
theorem gz_pr49 {Pg : Nat → Nat → Nat → Prop} (x : Int32) (S : gm_S) (r3 : Int32) (u3 : gm_S) (W : gm_S) (k0 : Int32) (U : gm_S) {lo : Nat × Nat} {nA nC a k : Nat} {p : Int} {fs : List gp_Fm} {e : Lean.ParserDescr} (h : gp_H Pg S U lo fs nA nC e x) (hf : 0 ≤ (S.2.2 5).toInt) (hf2 : (S.2.2 5).toInt ≤ 1) (hp : 0 ≤ ((U.1 9) (Int32.toNatClampNeg (S.2.2 5))).toInt) (hp2 : ((U.1 9) (Int32.toNatClampNeg (S.2.2 5))).toInt ≤ 145) (hi : 0 ≤ (U.2.2 21).toInt) (hi2 : (U.2.2 21).toInt ≤ 60) (ha : (U.2.2 19).toInt = a) (hpx : (U.2.2 23).toInt = p) (hk : k0.toInt = k) (hk2 : k = 6 ∨ k = 7) : (r3 = 43 → k = 7 → gp_Qp Pg S lo (a, 0, gp_ps (gp_sn p (gp_ep e)) fs, nA + 2, nC) (gm_f_MD_primary_j49 x S r3 u3 W k0 U)) ∧ (¬ r3 = 43 → gp_Qp Pg S lo (a, 0, gp_ps (gp_sn p (gp_e1 k e)) fs, nA + (if k = 7 then 1 else 0), nC) (gm_f_MD_primary_j49 x S r3 u3 W k0 U)) := by
  obtain ⟨n1, n2, n3⟩ := gp_N (pa := U.1 9) hf hf2 hp (by omega)
  have c9 := gx_cl _ hp
  have eA : (if k0.toInt = 4 ∨ k0.toInt = 7 then 1 else 0) = (if k = 7 then 1 else 0) := by
    rcases hk2 with q | q
    · rw [if_neg (by omega), if_neg (by omega)]
    · rw [if_pos (by omega), if_pos q]
  have x9 : ∀ u : gm_S, u.1 9 = upd (U.1 9) (Int32.toNatClampNeg (S.2.2 5)) ((U.1 9) (Int32.toNatClampNeg (S.2.2 5)) + 1) → ((u.1 9) (Int32.toNatClampNeg (S.2.2 5))).toInt = ((U.1 9) (Int32.toNatClampNeg (S.2.2 5))).toInt + 1 := by
    intro u hu
    have b := gx_ak ((U.1 9) (Int32.toNatClampNeg (S.2.2 5))) 1 1 (by decide)
    rw [hu, gx_us]
    omega
  constructor
  · intro q hk7
    unfold gm_f_MD_primary_j49
    refine gf_ca (Q := gp_Qp Pg S lo (a, 0, gp_ps (gp_sn p (gp_ep e)) fs, nA + 2, nC)) (gp_cQ k0 x (-1) ((va_up (va_up (va_up (va_up (va_up (va_up S.1 9 (U.1 9)) 10 (U.1 10)) 11 (U.1 11)) 12 (U.1 12)) 13 (U.1 13)) 30 (U.1 30)), (va_up (va_up S.2.1 17 (U.2.1 17)) 18 (U.2.1 18)), (va_up (va_up (va_up S.2.2 19 (U.2.2 19)) 21 (U.2.2 21)) 23 (U.2.2 23)))) (gz_create k0 x (-1) _ hf hf2 hp (show ((U.1 9) (Int32.toNatClampNeg (S.2.2 5))).toInt ≤ 150 by omega)) ?_
    intro r u hu
    have hu9 := hu.2.1
    have H1 := gp_H_1 (V := ((va_up (va_up (va_up (va_up (va_up (va_up S.1 9 (u.1 9)) 10 (u.1 10)) 11 (u.1 11)) 12 (u.1 12)) 13 (u.1 13)) 30 (U.1 30)), (va_up (va_up S.2.1 17 (u.2.1 17)) 18 (u.2.1 18)), (va_up (va_up (va_up S.2.2 19 (U.2.2 19)) 21 (U.2.2 21)) 23 (U.2.2 23)))) (r := r) (k := 7) h hu rfl rfl rfl rfl rfl rfl rfl rfl rfl (by omega) (by omega) (by omega) (a := 1) (c := 0) (if_pos (by omega)) (if_neg (by omega)) rfl rfl rfl rfl rfl rfl rfl rfl rfl rfl
    have P1 := x9 u hu9
    rw [if_pos q]
    obtain ⟨⟨g1, g2, g3, g4⟩, g9, g10, g11, g12, g13, gO⟩ := hu
    have hx' : gp_ch lo.2 x (gp_M (S.2.2 5) (u.1 9)) := by
      have : gp_M (S.2.2 5) (u.1 9) = gp_M (S.2.2 5) (U.1 9) + 1 := g3
      rw [this]
      exact gp_ch_w h.2.1 (Nat.le_succ _)
    have hr' : gp_rep Pg lo.2 (u.1 10) (u.1 11) (u.1 12) e (Int32.toNatClampNeg x) := by
      have e10 : u.1 10 = upd (U.1 10) (gp_M (S.2.2 5) (U.1 9)) k0 := g10
      have e11 : u.1 11 = upd (U.1 11) (gp_M (S.2.2 5) (U.1 9)) x := g11
      have e12 : u.1 12 = upd (U.1 12) (gp_M (S.2.2 5) (U.1 9)) (-1) := g12
      rw [e10, e11, e12]
      exact gp_rep_tr (gp_sm_up _ _ _ _ _ _ _) e _ (gp_ch_cl h.2.1).2.1 h.2.2.1
    refine gf_ca (Q := gp_Qp Pg S lo (a, 0, gp_ps (gp_sn p (gp_ep e)) fs, nA + 2, nC)) (gp_cQ 4 x r ((va_up (va_up (va_up (va_up (va_up (va_up S.1 9 (u.1 9)) 10 (u.1 10)) 11 (u.1 11)) 12 (u.1 12)) 13 (u.1 13)) 30 (U.1 30)), (va_up (va_up S.2.1 17 (u.2.1 17)) 18 (u.2.1 18)), (va_up (va_up (va_up S.2.2 19 (U.2.2 19)) 21 (U.2.2 21)) 23 (U.2.2 23)))) (gz_create 4 x r _ hf hf2 (show 0 ≤ ((u.1 9) (Int32.toNatClampNeg (S.2.2 5))).toInt by omega) (show ((u.1 9) (Int32.toNatClampNeg (S.2.2 5))).toInt ≤ 150 by omega)) ?_
    intro r2 u2 hu2
    have l4 : (4 : Int32).toInt = 4 := gx_lit 4 (by decide)
    have H2 := gp_H_2n (nm := .num (.num .anonymous 1) 4) (V := ((va_up (va_up (va_up (va_up (va_up (va_up S.1 9 (u2.1 9)) 10 (u2.1 10)) 11 (u2.1 11)) 12 (u2.1 12)) 13 (u2.1 13)) 30 (U.1 30)), (va_up (va_up S.2.1 17 (u2.2.1 17)) 18 (u2.2.1 18)), (va_up (va_up (va_up S.2.2 19 (U.2.2 19)) 21 (U.2.2 21)) 23 (U.2.2 23)))) (r := r2) (k := 4) H1 hx' hr' hu2 rfl rfl rfl rfl rfl rfl rfl rfl rfl rfl (Or.inl rfl) l4 (a := 1) (c := 0) (if_pos (Or.inl l4)) (if_neg (by omega)) rfl rfl rfl rfl rfl rfl rfl rfl rfl rfl
    have u29 : u2.1 9 = upd (u.1 9) (Int32.toNatClampNeg (S.2.2 5)) ((u.1 9) (Int32.toNatClampNeg (S.2.2 5)) + 1) := hu2.2.1
    have P2 : ((u2.1 9) (Int32.toNatClampNeg (S.2.2 5))).toInt = ((u.1 9) (Int32.toNatClampNeg (S.2.2 5))).toInt + 1 := by
      have b := gx_ak ((u.1 9) (Int32.toNatClampNeg (S.2.2 5))) 1 1 (by decide)
      rw [u29, gx_us]
      omega
    exact gz_pr76 x S r3 u3 r2 _ H2 hf hf2 (show 0 ≤ ((u2.1 9) (Int32.toNatClampNeg (S.2.2 5))).toInt by omega) (show ((u2.1 9) (Int32.toNatClampNeg (S.2.2 5))).toInt ≤ 150 by omega) hi hi2 ha hpx
  · intro q
    unfold gm_f_MD_primary_j49
    refine gf_ca (Q := gp_Qp Pg S lo (a, 0, gp_ps (gp_sn p (gp_e1 k e)) fs, nA + (if k = 7 then 1 else 0), nC)) (gp_cQ k0 x (-1) ((va_up (va_up (va_up (va_up (va_up (va_up S.1 9 (U.1 9)) 10 (U.1 10)) 11 (U.1 11)) 12 (U.1 12)) 13 (U.1 13)) 30 (U.1 30)), (va_up (va_up S.2.1 17 (U.2.1 17)) 18 (U.2.1 18)), (va_up (va_up (va_up S.2.2 19 (U.2.2 19)) 21 (U.2.2 21)) 23 (U.2.2 23)))) (gz_create k0 x (-1) _ hf hf2 hp (show ((U.1 9) (Int32.toNatClampNeg (S.2.2 5))).toInt ≤ 150 by omega)) ?_
    intro r u hu
    have hu9 := hu.2.1
    have H1 := gp_H_1 (V := ((va_up (va_up (va_up (va_up (va_up (va_up S.1 9 (u.1 9)) 10 (u.1 10)) 11 (u.1 11)) 12 (u.1 12)) 13 (u.1 13)) 30 (U.1 30)), (va_up (va_up S.2.1 17 (u.2.1 17)) 18 (u.2.1 18)), (va_up (va_up (va_up S.2.2 19 (U.2.2 19)) 21 (U.2.2 21)) 23 (U.2.2 23)))) (r := r) (k := k) h hu rfl rfl rfl rfl rfl rfl rfl rfl rfl (by omega) (by omega) hk (c := 0) eA (if_neg (by omega)) rfl rfl rfl rfl rfl rfl rfl rfl rfl rfl
    have P1 := x9 u hu9
    rw [if_neg q]
    exact gz_pr76 x S r3 u3 r _ H1 hf hf2 (show 0 ≤ ((u.1 9) (Int32.toNatClampNeg (S.2.2 5))).toInt by omega) (show ((u.1 9) (Int32.toNatClampNeg (S.2.2 5))).toInt ≤ 150 by omega) hi hi2 ha hpx
/-- the text -/
def gp_tx (ty : Int32) (a : Nat → Int32) (tx : Nat → Int) (n : Nat) : Prop := ty.toInt = n ∧ n ≤ 50 ∧ ∀ k, k < n → (a k).toInt = tx k ∧ 32 ≤ tx k ∧ tx k ≤ 126
theorem gz_peek (S : gm_S) {tx : Nat → Int} {ty a : Nat} (ht : gp_tx (S.2.2 2) (S.1 3) tx ty) (ha : (S.2.2 19).toInt = a) : (fun z : Int32 × gm_S => z.1.toInt = gp_pk tx ty a) (gm_f_MD_peek S) := by
  obtain ⟨h1, h2, h3⟩ := ht
  unfold gm_f_MD_peek
  refine gf_if (Q := fun z : Int32 × gm_S => z.1.toInt = gp_pk tx ty a) (fun q => ?_) (fun q => ?_)
  · have := gx_le q
    show (0 : Int32).toInt = gp_pk tx ty a
    unfold gp_pk
    rw [if_neg (by omega)]
    decide
  · have := gx_len q
    have c := gx_cl (S.2.2 19) (by omega)
    have e : Int32.toNatClampNeg (S.2.2 19) = a := by omega
    show ((S.1 3) (Int32.toNatClampNeg (S.2.2 19))).toInt = gp_pk tx ty a
    unfold gp_pk
    rw [if_pos (by omega), e]
    exact (h3 a (by omega)).1
theorem gz_primary {Pg : Nat → Nat → Nat → Prop} (x : Int32) (S : gm_S) {tx : Nat → Int} {lo : Nat × Nat} {ty nA nC a : Nat} {p : Int} {fs : List gp_Fm} {e : Lean.ParserDescr} (ht : gp_tx (S.2.2 2) (S.1 3) tx ty) (h : gp_H Pg S S lo fs nA nC e x) (hf : 0 ≤ (S.2.2 5).toInt) (hf2 : (S.2.2 5).toInt ≤ 1) (hp : 0 ≤ ((S.1 9) (Int32.toNatClampNeg (S.2.2 5))).toInt) (hp2 : ((S.1 9) (Int32.toNatClampNeg (S.2.2 5))).toInt ≤ 145) (hi : 0 ≤ (S.2.2 21).toInt) (hi2 : (S.2.2 21).toInt ≤ 60) (ha : (S.2.2 19).toInt = a) (ha2 : a ≤ 100) (hpx : (S.2.2 23).toInt = p) : gp_Qp Pg S lo (gp_pm tx ty e (a, p, fs, nA, nC)) (gm_f_MD_primary x S) := by
  have b := gx_ak (S.2.2 19) 1 1 (by decide)
  have a1 : ((S.2.2 19) + 1).toInt = ((a + 1 : Nat) : Int) := by omega
  unfold gm_f_MD_primary
  refine gf_ca (Q := gp_Qp Pg S lo (gp_pm tx ty e (a, p, fs, nA, nC))) (fun z => z.1.toInt = gp_pk tx ty a) (gz_peek S ht ha) ?_
  intro r3 u3 hr
  have hr : r3.toInt = gp_pk tx ty a := hr
  have key : ∀ c : Int, gp_pk tx ty a = c → gp_pm tx ty e (a, p, fs, nA, nC) = (gp_sa c a, 0, gp_ps (gp_sn p (gp_sx c e)) fs, nA + gp_sc c, nC) := by
    intro c hc
    rw [← hc]
    rfl
  refine gf_if (Q := gp_Qp Pg S lo (gp_pm tx ty e (a, p, fs, nA, nC))) (fun q => ?_) (fun q => ?_)
  · have q1 := gx_eqr (k := 63) (gx_lit 63 (by decide)) q
    rw [key 63 (by omega), (show gp_sa 63 a = a + 1 from if_pos (Or.inl rfl)), (show gp_sx 63 e = gp_e1 6 e from if_pos rfl), (show gp_sc 63 = 0 from (if_neg (by omega)).trans (if_neg (by omega)))]
    unfold gm_f_MD_primary_j25
    rw [if_pos q]
    exact (gz_pr49 x S r3 u3 S 6 ((va_up (va_up (va_up (va_up (va_up (va_up S.1 9 (S.1 9)) 10 (S.1 10)) 11 (S.1 11)) 12 (S.1 12)) 13 (S.1 13)) 30 (S.1 30)), (va_up (va_up S.2.1 17 (S.2.1 17)) 18 (S.2.1 18)), (va_up (va_up (va_up S.2.2 19 ((S.2.2 19) + 1)) 21 (S.2.2 21)) 23 (S.2.2 23))) (k := 6) h hf hf2 hp hp2 hi hi2 a1 hpx (gx_lit 6 (by decide)) (Or.inl rfl)).2 (fun t => by have := gx_eqr (k := 43) (gx_lit 43 (by decide)) t; omega)
  have q1 := gx_eqnr (k := 63) (gx_lit 63 (by decide)) q
  refine gf_if (Q := gp_Qp Pg S lo (gp_pm tx ty e (a, p, fs, nA, nC))) (fun t => ?_) (fun t => ?_)
  · have t1 := gx_eqr (k := 42) (gx_lit 42 (by decide)) t
    rw [key 42 (by omega), (show gp_sa 42 a = a + 1 from if_pos (Or.inr (Or.inl rfl))), (show gp_sx 42 e = gp_e1 7 e from (if_neg (by omega)).trans (if_pos rfl)), (show gp_sc 42 = 1 from if_pos rfl)]
    unfold gm_f_MD_primary_j25
    rw [if_neg q]
    exact (gz_pr49 x S r3 u3 S 7 ((va_up (va_up (va_up (va_up (va_up (va_up S.1 9 (S.1 9)) 10 (S.1 10)) 11 (S.1 11)) 12 (S.1 12)) 13 (S.1 13)) 30 (S.1 30)), (va_up (va_up S.2.1 17 (S.2.1 17)) 18 (S.2.1 18)), (va_up (va_up (va_up S.2.2 19 ((S.2.2 19) + 1)) 21 (S.2.2 21)) 23 (S.2.2 23))) (k := 7) h hf hf2 hp hp2 hi hi2 a1 hpx (gx_lit 7 (by decide)) (Or.inr rfl)).2 (fun t => by have := gx_eqr (k := 43) (gx_lit 43 (by decide)) t; omega)
  have t1 := gx_eqnr (k := 42) (gx_lit 42 (by decide)) t
  refine gf_if (Q := gp_Qp Pg S lo (gp_pm tx ty e (a, p, fs, nA, nC))) (fun v => ?_) (fun v => ?_)
  · have v1 := gx_eqr (k := 43) (gx_lit 43 (by decide)) v
    rw [key 43 (by omega), (show gp_sa 43 a = a + 1 from if_pos (Or.inr (Or.inr rfl))), (show gp_sx 43 e = gp_ep e from (if_neg (by omega)).trans ((if_neg (by omega)).trans (if_pos rfl))), (show gp_sc 43 = 2 from (if_neg (by omega)).trans (if_pos rfl))]
    unfold gm_f_MD_primary_j25
    rw [if_neg q]
    exact (gz_pr49 x S r3 u3 S 7 ((va_up (va_up (va_up (va_up (va_up (va_up S.1 9 (S.1 9)) 10 (S.1 10)) 11 (S.1 11)) 12 (S.1 12)) 13 (S.1 13)) 30 (S.1 30)), (va_up (va_up S.2.1 17 (S.2.1 17)) 18 (S.2.1 18)), (va_up (va_up (va_up S.2.2 19 ((S.2.2 19) + 1)) 21 (S.2.2 21)) 23 (S.2.2 23))) (k := 7) h hf hf2 hp hp2 hi hi2 a1 hpx (gx_lit 7 (by decide)) (Or.inr rfl)).1 v rfl
  · have v1 := gx_eqnr (k := 43) (gx_lit 43 (by decide)) v
    rw [key r3.toInt hr.symm]
    have e1 : gp_sa r3.toInt a = a := if_neg (by omega)
    have e2 : gp_sx r3.toInt e = e := (if_neg (by omega)).trans ((if_neg (by omega)).trans (if_neg (by omega)))
    have e3 : gp_sc r3.toInt = 0 := (if_neg (by omega)).trans (if_neg (by omega))
    rw [e1, e2, e3]
    exact gz_pr76 x S r3 u3 x S h hf hf2 hp (by omega) hi hi2 ha hpx
