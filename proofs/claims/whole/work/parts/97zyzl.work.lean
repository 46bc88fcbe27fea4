/-! As many evaluations; the same captures. -/
theorem gc_work {tx : Nat → Int} {ty R P fed : Nat} {f : Nat → Int × Lean.ParserDescr} {T Cc s2 S : gm_S} (h : gy_W tx ty R P fed f T Cc s2 S) {v d : Int} {k : Nat} (hE : gy_E tx ty R f fed (fun q => (S.1 33 q).toInt) false v d k) {M : gv_Mm} (hM : ∀ r p : Nat, ¬ M.1 (r : Nat) p = -2 ↔ (r, p) ∈ gv_r (gy_C tx ty R f fed (fun q => (S.1 33 q).toInt) false) (fun c => gq_fx f (c : Int) R) k (gp_e0 3 (f 0).1.toNat 0) 0) {st : Int32} (hst : st = S.1 8 (8 * Int32.toNatClampNeg (S.2.2 4) + 0)) : (gm_f_MD_evaluations st S).1.toInt = (gv_kc R M : Nat) := by
  obtain ⟨hG, hC, hh, ⟨rank, RK⟩, ⟨rk, t, hF⟩, hN, -, -, -⟩ := h
  obtain ⟨Pg, nA, nC, hU, hGp, -, hEm, hH, hK, hD⟩ := hh
  obtain ⟨hT, -⟩ := gy_T_of hC hU hGp hEm (fun c c1 c2 => (hH c c1 c2).2) hK hF false
  have hl : ∀ x q, (gy_C tx ty R f fed (fun q => (S.1 33 q).toInt) false).2.2.2 x q = true := fun x q => gy_dc_i.mpr (fun h => absurd h (by decide))
  have hM' : gp_M (S.2.2 4) (S.1 9) = gp_Bs S + P := by
    have := hC.2.1.1
    have c := gx_cl ((S.1 9) (Int32.toNatClampNeg (S.2.2 4))) (by omega)
    show gp_Bs S + Int32.toNatClampNeg ((S.1 9) (Int32.toNatClampNeg (S.2.2 4))) = _
    omega
  have hz0 : ∀ m q, gp_Bs S ≤ m → m < gp_Bs S + P → q ≤ fed → (S.1 10 m).toInt = 7 → ¬ gp_Tb (gp_Bs S) (S.1 34) (Int32.toNatClampNeg (S.1 11 m)) q = 0 := by
    intro m q b1 b2 hq k7 e0
    obtain ⟨-, n4, -⟩ := hC.2.2.2.2.1 m b1 b2
    obtain ⟨o1, o2, -⟩ := n4 (by omega)
    rcases gp_vc_sd hC hF (m := Int32.toNatClampNeg (S.1 11 m)) o1 (by omega) hq with s | ⟨-, -, s, -⟩
    · omega
    · have s := s e0
      rw [(RK m b1 b2).2.2.2.2 (Or.inl k7)] at s
      exact absurd s (by decide)
  obtain ⟨tt, ht1, ht2, hU⟩ := hU
  have RR := gr_R_of hU hGp
  have hu : ∀ n c : Nat, gp_Bs S ≤ n → n < gp_Bs S + P → (S.1 10 n).toInt = 3 → (S.1 11 n).toInt = c → (gp_rz (S.1 6) (S.1 7) (S.2.2 4) (S.1 11 n)).toInt = ((gq_fx f (c : Int) R : Nat) : Int) := fun n c a b k3 e => RR.2 n c a (by rw [hM']; exact b) k3 e
  have hR1 := hG.1
  obtain ⟨-, g2, g3⟩ := hGp.2.1 0 (by omega)
  obtain ⟨o1, o2, o3⟩ := gp_ch_cl g2
  rw [hM'] at o2
  rw [← hst] at o1 o2 o3 g3
  have fx := gy_fx0 hG.1 hG.2.2.2.2.2.2.1
  obtain ⟨e1, e2, -⟩ := hE
  obtain ⟨k', ek⟩ : ∃ k', k = k' + 1 := by
    cases k with
    | zero => exact absurd (show (-2 : Int) = v from e1) (by omega)
    | succ k' => exact ⟨k', rfl⟩
  subst ek
  have body : (gy_C tx ty R f fed (fun q => (S.1 33 q).toInt) false).1 (f 0).1.toNat = (f 0).2 := by
    show (f (gq_fx f (((f 0).1.toNat : Nat) : Int) R)).2 = _
    rw [fx]
  have vb : gv_v (gy_C tx ty R f fed (fun q => (S.1 33 q).toInt) false) k' (f 0).2 0 = v := by
    have e1 : gv_v (gy_C tx ty R f fed (fun q => (S.1 33 q).toInt) false) k' ((gy_C tx ty R f fed (fun q => (S.1 33 q).toInt) false).1 (f 0).1.toNat) 0 = v := e1
    rw [body] at e1
    exact e1
  have er : gv_r (gy_C tx ty R f fed (fun q => (S.1 33 q).toInt) false) (fun c => gq_fx f (c : Int) R) (k' + 1) (gp_e0 3 (f 0).1.toNat 0) 0 = (0, 0) :: gv_r (gy_C tx ty R f fed (fun q => (S.1 33 q).toInt) false) (fun c => gq_fx f (c : Int) R) k' (f 0).2 0 := by
    have e : gv_r (gy_C tx ty R f fed (fun q => (S.1 33 q).toInt) false) (fun c => gq_fx f (c : Int) R) (k' + 1) (gp_e0 3 (f 0).1.toNat 0) 0 = (gq_fx f (((f 0).1.toNat : Nat) : Int) R, 0) :: gv_r (gy_C tx ty R f fed (fun q => (S.1 33 q).toInt) false) (fun c => gq_fx f (c : Int) R) k' ((gy_C tx ty R f fed (fun q => (S.1 33 q).toInt) false).1 (f 0).1.toNat) 0 := rfl
    rw [e, body, fx]
  rw [er] at hM
  generalize gy_C tx ty R f fed (fun q => (S.1 33 q).toInt) false = C at hT hl vb hM
  obtain ⟨L0, hL0⟩ : ∃ L0, L0 = (0, 0) :: gv_r C (fun c => gq_fx f (c : Int) R) k' (f 0).2 0 := ⟨_, rfl⟩
  rw [← hL0] at hM
  have ev := gc_evals st S hC hF (J := gc_J Pg (S.1 10) (S.1 11) (S.1 12) (gp_Bs S) C (fun c => gq_fx f (c : Int) R) L0) (fun m q b1 b2 hq hj => gc_J_cl hT hl _ L0 m q b1 b2 hq hj) o1 o2 (by omega) ⟨k', (f 0).2, g3, by rw [vb]; omega, fun z hz => by rw [hL0]; exact List.mem_cons_of_mem _ hz⟩
  obtain ⟨a36, a37, w, z1, z2, z3, z4⟩ := ev
  rw [z1, gc_ruled st (va_up (va_up S.1 36 a36) 37 a37, S.2.1, va_up S.2.2 38 w) (P := P) (fed := fed) (R := R) hC hGp.1]
  have key : gp_c (gc_Y st (va_up (va_up S.1 36 a36) 37 a37, S.2.1, va_up S.2.2 38 w) P fed) (11 * R) = gv_kc R M := by
    refine gp_c_ext (fun i hi => ?_)
    have mt := hM (i / 11) (i % 11)
    have Yi : gc_Y st (va_up (va_up S.1 36 a36) 37 a37, S.2.1, va_up S.2.2 38 w) P fed i = true ↔ (i / 11, i % 11) ∈ L0 := by
      refine gy_dc_i.trans ?_
      constructor
      · rintro ⟨pl, hh⟩
        rcases hh with ⟨n, n1, n2, n3, n4, n5⟩ | ⟨n1, n2⟩
        · have n3 : (S.1 10 n).toInt = 3 := n3
          have n4 : (gp_rz (S.1 6) (S.1 7) (S.2.2 4) (S.1 11 n)).toInt = ((i / 11 : Nat) : Int) := n4
          obtain ⟨kk, e, r1, r2, r3⟩ := z2 n (i % 11) n1 n2 pl n5
          cases kk with
          | zero => exact absurd rfl r2
          | succ kk =>
            cases e with
            | cat nm j =>
              obtain ⟨j3, kj, -, r4, -⟩ := r1
              have e3 : j = 3 := by omega
              subst e3
              have := hu n (gp_n1 nm) n1 n2 n3 (r4 rfl)
              have ei : gq_fx f ((gp_n1 nm : Nat) : Int) R = i / 11 := by omega
              rw [← ei]
              exact r3 _ (List.mem_cons_self ..)
            | node nm j x => exfalso; have := r1.1; have := r1.2.1; omega
            | binary nm x y => exfalso; have := r1.1; have := r1.2.1; omega
            | _ => exact r1.elim
        · have n1 : S.1 8 (8 * Int32.toNatClampNeg (S.2.2 4) + i / 11) = st := n1
          have e0 : i / 11 = 0 := hD (i / 11) (by omega) (by
            show Int32.toNatClampNeg (S.1 8 (8 * Int32.toNatClampNeg (S.2.2 4) + i / 11)) = Int32.toNatClampNeg (S.1 8 (8 * Int32.toNatClampNeg (S.2.2 4) + 0))
            rw [n1, hst])
          rw [e0, n2, hL0]
          exact List.mem_cons_self ..
      · intro hm
        rw [hL0] at hm
        rcases List.mem_cons.mp hm with q | q
        · injection q with q1 q2
          refine ⟨by omega, Or.inr ⟨?_, q2⟩⟩
          show S.1 8 (8 * Int32.toNatClampNeg (S.2.2 4) + i / 11) = st
          rw [q1, hst]
        · obtain ⟨p1, n, n1, n2, n3, n4, n5⟩ := gc_met hT hl hz0 hu z3 k' (f 0).2 _ 0 g3 o1 o2 (Nat.zero_le _) (by rw [vb]; omega) z4 _ q
          exact ⟨p1, Or.inl ⟨n, n1, n2, n3, n4, n5⟩⟩
    cases hy : gc_Y st (va_up (va_up S.1 36 a36) 37 a37, S.2.1, va_up S.2.2 38 w) P fed i with
    | true => exact (decide_eq_true (mt.mpr (Yi.mp hy))).symm
    | false => exact (decide_eq_false (fun q => by rw [Yi.mpr (mt.mp q)] at hy; cases hy)).symm
  rw [key]
