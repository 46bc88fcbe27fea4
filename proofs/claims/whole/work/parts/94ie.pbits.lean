/-! The bits that readPart leaves at a leaf of a set. -/
theorem gr_readClassB' {S0 : gm_S} (S : gm_S) {tx : Nat → Int} {lo : Nat × Nat} {ty nA nC a : Nat} {p : Int} {fs : List gp_Fm} (e5 : S.2.2 5 = S0.2.2 5) (e9 : S.1 9 = S0.1 9) (ht : gp_tx (S.2.2 2) (S.1 3) tx ty) (h : gp_P gp_T (S.2.2 5) (S.1 6) (S.1 9) (S.1 10) (S.1 11) (S.1 12) (S.1 13) (S.1 26) (S.1 27) (S.1 28) (S.1 29) (S.1 30) (S.1 31) (Int32.toNatClampNeg (S.2.2 20)) (Int32.toNatClampNeg (S.2.2 21)) (Int32.toNatClampNeg (S.2.2 22)) fs lo nA nC []) (hf : 0 ≤ (S.2.2 5).toInt) (hf2 : (S.2.2 5).toInt ≤ 1) (hp : 0 ≤ ((S.1 9) (Int32.toNatClampNeg (S.2.2 5))).toInt) (hp2 : ((S.1 9) (Int32.toNatClampNeg (S.2.2 5))).toInt ≤ 120) (hi : 0 ≤ (S.2.2 21).toInt) (hi2 : (S.2.2 21).toInt ≤ 60) (ha : (S.2.2 19).toInt = a) (hpx : (S.2.2 23).toInt = p) (hat : a < ty) : gr_cB (S0.2.2 5) tx ty (a + 1) (gp_cl tx ty (a + 1)) (gp_M (S0.2.2 5) (S0.1 9)) (gm_f_MD_readClass S) := by
  rw [← e5, ← e9]
  exact gr_readClassB S ht h hf hf2 hp hp2 hi hi2 ha hpx hat
theorem gr_readPartB (S : gm_S) {tx : Nat → Int} {lo : Nat × Nat} {ty : Nat} {s : gp_Sg} {R0 : Nat} (ht : gp_tx (S.2.2 2) (S.1 3) tx ty) (h : gp_I gp_T (S.2.2 5) (S.1 6) (S.1 9) (S.1 10) (S.1 11) (S.1 12) (S.1 13) (S.1 26) (S.1 27) (S.1 28) (S.1 29) (S.1 30) (S.1 31) (S.2.2 20) (S.2.2 21) (S.2.2 22) (S.2.2 23) (S.2.2 19) lo s) (hn : gp_nm S) (hk : gp_kp R0 s) (hs : s.1 ≤ ty) {lb lc : Nat} (hl : gp_lf tx ty s.1 lb lc) : gr_cB (S.2.2 5) tx ty lb lc (gp_M (S.2.2 5) (S.1 9)) (gm_f_MD_readPart S) := by
  obtain ⟨a, p, fs0, nA, nC⟩ := s
  obtain ⟨hP, hpx, ha⟩ := h
  obtain ⟨⟨hf, hf2⟩, ⟨hp, hp2⟩, ⟨hi, hi2⟩, ⟨hl0, hl2⟩, ⟨hd, hd2⟩⟩ := hn
  have hpx : (S.2.2 23).toInt = p := hpx
  have ha : (S.2.2 19).toInt = a := ha
  have hs : a ≤ ty := hs
  have hl : gp_lf tx ty a lb lc := hl
  have t2 := ht.2.1
  cases fs0 with
  | nil => exact hP.1.elim
  | cons f fs =>
    have hP : gp_P gp_T (S.2.2 5) (S.1 6) (S.1 9) (S.1 10) (S.1 11) (S.1 12) (S.1 13) (S.1 26) (S.1 27) (S.1 28) (S.1 29) (S.1 30) (S.1 31) (Int32.toNatClampNeg (S.2.2 20)) (Int32.toNatClampNeg (S.2.2 21)) (Int32.toNatClampNeg (S.2.2 22)) (f :: fs) lo nA nC [] := hP
    have pk := gp_pk_t (j := a) ht
    have b := gx_ak (S.2.2 19) 1 1 (by decide)
    have b1 : ((S.2.2 19) + 1).toInt = ((a + 1 : Nat) : Int) := by omega
    unfold gm_f_MD_readPart
    refine gf_ca (Q := gr_cB (S.2.2 5) tx ty lb lc (gp_M (S.2.2 5) (S.1 9))) (fun z => z.1.toInt = gp_pk tx ty a) (gz_peek _ ht ha) ?_
    intro r1 u1 h1
    have h1 : r1.toInt = gp_pk tx ty a := h1
    have l65 := gx_lit 65 (by decide)
    have l90 := gx_lit 90 (by decide)
    rcases hl with ⟨q, e1, e2⟩ | ⟨q, e1, e2⟩
    · subst e1
      subst e2
      have q : gp_pk tx ty a = 46 := q
      have h1' : r1.toInt = 46 := h1.trans q
      rw [if_pos (show r1 < 65 by rw [Int32.lt_iff_toInt_lt, l65, h1']; decide)]
      unfold gm_f_MD_readPart_j41
      rw [if_pos (show r1 = 46 from Int32.toInt_inj.mp (by rw [h1, q]; exact (gx_lit 46 (by decide)).symm))]
      refine gf_ca (Q := gr_cB (S.2.2 5) tx ty (a + 1) (a + 1) (gp_M (S.2.2 5) (S.1 9))) (fun z => gp_cQ 2 (-1) (-1) _ z ∧ z.2.2.1 17 (Int32.toNatClampNeg z.1) = 0 ∧ z.2.2.1 18 (Int32.toNatClampNeg z.1) = 0) ⟨gz_create 2 (-1) (-1) _ hf hf2 hp (show ((S.1 9) (Int32.toNatClampNeg (S.2.2 5))).toInt ≤ 150 by omega), gr_create0 2 _ _ _⟩ ?_
      intro r u ⟨hu, z17, z18⟩
      have z17 : u.2.1 17 (Int32.toNatClampNeg r) = 0 := z17
      have z18 : u.2.1 18 (Int32.toNatClampNeg r) = 0 := z18
      have hu9 : u.1 9 = upd (S.1 9) (Int32.toNatClampNeg (S.2.2 5)) ((S.1 9) (Int32.toNatClampNeg (S.2.2 5)) + 1) := hu.2.1
      have hu2 : Int32.toNatClampNeg r = gp_M (S.2.2 5) (S.1 9) := hu.1.2.1
      have M1 : gp_M (S.2.2 5) (u.1 9) = gp_M (S.2.2 5) (S.1 9) + 1 := hu.1.2.2.1
      have bb := gx_ak ((S.1 9) (Int32.toNatClampNeg (S.2.2 5))) 1 1 (by decide)
      have P1 : ((u.1 9) (Int32.toNatClampNeg (S.2.2 5))).toInt = ((S.1 9) (Int32.toNatClampNeg (S.2.2 5))).toInt + 1 := by rw [hu9, gx_us]; omega
      have cp := gx_cl _ hp
      have l2 : (2 : Int32).toInt = 2 := gx_lit 2 (by decide)
      refine gf_ca (Q := gr_cB (S.2.2 5) tx ty (a + 1) (a + 1) (gp_M (S.2.2 5) (S.1 9))) (gr_I u (gp_M (S.2.2 5) (S.1 9)) 32 126) (gr_incl r 32 126 u _ rfl rfl hu2 (gx_lit 32 (by decide)) (gx_lit 126 (by decide)) (by omega) (by omega) (by omega)) ?_
      intro r5 u5 h5
      have H := gp_H_0 (r := r) (S2 := ((va_up (va_up (va_up (va_up (va_up (va_up (va_up (va_up (va_up (va_up (va_up (va_up S.1 8 (S.1 8)) 9 (u.1 9)) 10 (u.1 10)) 11 (u.1 11)) 12 (u.1 12)) 13 (u.1 13)) 26 (S.1 26)) 27 (S.1 27)) 28 (S.1 28)) 29 (S.1 29)) 30 (S.1 30)) 31 (S.1 31)), (va_up (va_up S.2.1 17 (u5.2.1 17)) 18 (u5.2.1 18)), (va_up (va_up (va_up (va_up (va_up (va_up (va_up S.2.2 19 ((S.2.2 19) + 1)) 20 (S.2.2 20)) 21 (S.2.2 21)) 22 (S.2.2 22)) 23 (S.2.2 23)) 24 (S.2.2 24)) 25 (S.2.2 25)))) hP hu rfl rfl rfl rfl rfl rfl rfl rfl rfl (k := 2) (b := a + 1) (c := a + 1) (by omega) l2 (fun t => absurd t (by omega)) (fun t => absurd t (by omega)) (fun _ => trivial) rfl rfl rfl rfl rfl rfl rfl rfl rfl rfl rfl rfl rfl rfl rfl rfl rfl
      refine gf_ca (Q := gr_cB (S.2.2 5) tx ty (a + 1) (a + 1) (gp_M (S.2.2 5) (S.1 9))) (gp_Qp gp_T _ (gp_M (S.2.2 5) (u.1 9), lo.2) (gp_pm tx ty (gp_e0 2 (a + 1) (a + 1)) (a + 1, p, f :: fs, nA, nC))) (gz_primary r _ ht ⟨gp_P_lo H.1.1, H.1.2.1, H.1.2.2.1, gp_O_r _ _ _ _ _ _ _ _ _⟩ hf hf2 (show 0 ≤ ((u.1 9) (Int32.toNatClampNeg (S.2.2 5))).toInt by omega) (show ((u.1 9) (Int32.toNatClampNeg (S.2.2 5))).toInt ≤ 145 by omega) hi (show (S.2.2 21).toInt ≤ 60 by omega) b1 (by omega) hpx) ?_
      intro r6 u6 h6
      intro _
      have hl6 : gp_M (S.2.2 5) (u.1 9) ≤ gp_M (S.2.2 5) (u6.1 9) := h6.1.1.2.2.2.2.1
      refine ⟨show gp_M (S.2.2 5) (S.1 9) < gp_M (S.2.2 5) (u6.1 9) from Nat.lt_of_lt_of_le (by omega) hl6, fun c c1 c2 => ?_⟩
      obtain ⟨-, -, -, -, x1, x2⟩ := h6.2.2 (gp_M (S.2.2 5) (S.1 9)) (Or.inl (by omega))
      have x1 : u6.2.1 17 (gp_M (S.2.2 5) (S.1 9)) = u5.2.1 17 (gp_M (S.2.2 5) (S.1 9)) := x1
      have x2 : u6.2.1 18 (gp_M (S.2.2 5) (S.1 9)) = u5.2.1 18 (gp_M (S.2.2 5) (S.1 9)) := x2
      show gp_ih (u6.2.1 17) (u6.2.1 18) (gp_M (S.2.2 5) (S.1 9)) c ↔ _
      have e : gp_ih (u6.2.1 17) (u6.2.1 18) (gp_M (S.2.2 5) (S.1 9)) c ↔ gp_ih (u5.2.1 17) (u5.2.1 18) (gp_M (S.2.2 5) (S.1 9)) c := by unfold gp_ih; rw [x1, x2]
      rw [e]
      exact ⟨fun _ => Or.inl ⟨rfl, c1, c2⟩, fun _ => (h5 c c1 c2).mpr (Or.inr ⟨c1, c2⟩)⟩
    · subst e1
      subst e2
      have q : gp_pk tx ty a = 91 := q
      have h1' : r1.toInt = 91 := h1.trans q
      rw [if_neg (show ¬ r1 < 65 by rw [Int32.lt_iff_toInt_lt, l65, h1']; decide), if_pos (show (90 : Int32) < r1 by rw [Int32.lt_iff_toInt_lt, l90, h1']; decide)]
      unfold gm_f_MD_readPart_j41
      have e91 : r1 = 91 := Int32.toInt_inj.mp (by rw [h1, q]; exact (gx_lit 91 (by decide)).symm)
      rw [if_neg (show ¬ r1 = 46 by rw [e91]; decide), if_neg (show ¬ r1 = 39 by rw [e91]; decide), if_pos e91]
      refine gf_ca (Q := gr_cB (S.2.2 5) tx ty (a + 1) (gp_cl tx ty (a + 1)) (gp_M (S.2.2 5) (S.1 9))) (gr_cB (S.2.2 5) tx ty (a + 1) (gp_cl tx ty (a + 1)) (gp_M (S.2.2 5) (S.1 9))) (gr_readClassB' (S0 := S) _ rfl rfl ht hP hf hf2 hp (show ((S.1 9) (Int32.toNatClampNeg (S.2.2 5))).toInt ≤ 120 by omega) hi (show (S.2.2 21).toInt ≤ 60 by omega) ha hpx (by omega)) ?_
      intro r u h
      exact h
