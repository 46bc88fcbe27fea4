/-! The class's reader: rows and classes. -/
def gq_rowQ (tx : Nat → Int) (ty : Nat) (S : gq_St) (a o n m : Nat) (z : Int32 × gq_St) : Prop := ((gp_pk tx ty (gp_rw tx ty a) = 0 ∨ gp_rw tx ty a = a) ∧ gq_W z.2 (gp_rw tx ty a)) ∨ (¬ (gp_pk tx ty (gp_rw tx ty a) = 0 ∨ gp_rw tx ty a = a) ∧ gq_P tx ty 1 S a o n m 0 (gp_e0 1 a (gp_rw tx ty a - a)) (gp_rw tx ty a + 1) z.2)
theorem gq_row7 {tx : Nat → Int} {ty : Nat} (S : gq_St) (ht : gp_tx (S.2.1.2.2 1) (S.2.1.1 0) tx ty) {a o n m : Nat} (hc : 2 * n + 3 ≤ 3 * a) (ha : 1 ≤ a) (ho : (S.1.2.2 3).toInt = o) : ∀ (f j : Nat) (v : Int32) (U : gq_St), v.toInt = j → a + j ≤ ty → 50 < f + j → gq_N U (a + j) (o + j) (n + j) m → gq_X S U o n m → (∀ i, i < j → (U.1.1 2 (o + i)).toInt = ((n + i : Nat) : Int) ∧ (U.2.2.1 0 (n + i)).toInt = 0 ∧ ∀ c : Int, 32 ≤ c → c ≤ 126 → (gp_ih (U.2.2.2.1 7) (U.2.2.2.1 8) (n + i) c ↔ c = tx (a + i))) → gp_rw tx ty a = gp_rw tx ty (a + j) → gq_rowQ tx ty S a o n m (gm_f_Reader_readRow_7 S f v U) := by
  have ht' := ht
  obtain ⟨t1, t2, t3⟩ := ht'
  obtain ⟨Q, hQ⟩ : ∃ Q, Q = gq_rowQ tx ty S a o n m := ⟨_, rfl⟩
  rw [← hQ]
  have n1 : (-1 : Int32).toInt = -1 := by decide
  have c39 : (39 : Int32).toInt = 39 := gx_lit 39 (by decide)
  intro f
  induction f with
  | zero => intro j v U _ h1 h2; exact absurd h2 (by omega)
  | succ f ih =>
    intro j v U hv h1 h2 hN hX hI hr
    have hN' := hN
    obtain ⟨w0, pl, op, h11, h12, hmo, hto⟩ := hN'
    have ex : ¬ (a + j < ty ∧ ¬ tx (a + j) = 39) → Q (if (U.1.2.2 3) = (S.1.2.2 3) then gm_bd (gm_f_Reader_need 39 ((va_up S.1.1 2 (U.1.1 2), S.1.2.1, va_up (va_up (va_up S.1.2.2 3 (U.1.2.2 3)) 4 (U.1.2.2 4)) 5 1), S.2.1, (va_up (va_up (va_up (va_up (va_up (va_up (va_up S.2.2.1 0 (U.2.2.1 0)) 1 (U.2.2.1 1)) 2 (U.2.2.1 2)) 3 (U.2.2.1 3)) 4 (U.2.2.1 4)) 5 (U.2.2.1 5)) 6 (U.2.2.1 6), va_up (va_up S.2.2.2.1 7 (U.2.2.2.1 7)) 8 (U.2.2.2.1 8), va_up (va_up S.2.2.2.2 11 (U.2.2.2.2 11)) 12 (U.2.2.2.2 12)))) (fun _ u102 => gm_bd (gm_f_Reader_join 2 (S.1.2.2 3) ((va_up S.1.1 2 (U.1.1 2), S.1.2.1, va_up (va_up (va_up S.1.2.2 3 (U.1.2.2 3)) 4 (u102.1.2.2 4)) 5 (u102.1.2.2 5)), S.2.1, (va_up (va_up (va_up (va_up (va_up (va_up (va_up S.2.2.1 0 (U.2.2.1 0)) 1 (U.2.2.1 1)) 2 (U.2.2.1 2)) 3 (U.2.2.1 3)) 4 (U.2.2.1 4)) 5 (U.2.2.1 5)) 6 (U.2.2.1 6), va_up (va_up S.2.2.2.1 7 (U.2.2.2.1 7)) 8 (U.2.2.2.1 8), va_up (va_up S.2.2.2.2 11 (U.2.2.2.2 11)) 12 (U.2.2.2.2 12)))) (fun _ u108 => (0, ((va_up S.1.1 2 (u108.1.1 2), S.1.2.1, va_up (va_up (va_up S.1.2.2 3 (u108.1.2.2 3)) 4 (u102.1.2.2 4)) 5 (u102.1.2.2 5)), S.2.1, (va_up (va_up (va_up (va_up (va_up (va_up (va_up S.2.2.1 0 (u108.2.2.1 0)) 1 (u108.2.2.1 1)) 2 (u108.2.2.1 2)) 3 (u108.2.2.1 3)) 4 (u108.2.2.1 4)) 5 (u108.2.2.1 5)) 6 (u108.2.2.1 6), va_up (va_up S.2.2.2.1 7 (u108.2.2.2.1 7)) 8 (u108.2.2.2.1 8), va_up (va_up S.2.2.2.2 11 (u108.2.2.2.2 11)) 12 (u108.2.2.2.2 12)))))) else gm_bd (gm_f_Reader_need 39 ((va_up S.1.1 2 (U.1.1 2), S.1.2.1, va_up (va_up (va_up S.1.2.2 3 (U.1.2.2 3)) 4 (U.1.2.2 4)) 5 (U.1.2.2 5)), S.2.1, (va_up (va_up (va_up (va_up (va_up (va_up (va_up S.2.2.1 0 (U.2.2.1 0)) 1 (U.2.2.1 1)) 2 (U.2.2.1 2)) 3 (U.2.2.1 3)) 4 (U.2.2.1 4)) 5 (U.2.2.1 5)) 6 (U.2.2.1 6), va_up (va_up S.2.2.2.1 7 (U.2.2.2.1 7)) 8 (U.2.2.2.1 8), va_up (va_up S.2.2.2.2 11 (U.2.2.2.2 11)) 12 (U.2.2.2.2 12)))) (fun _ u102 => gm_bd (gm_f_Reader_join 2 (S.1.2.2 3) ((va_up S.1.1 2 (U.1.1 2), S.1.2.1, va_up (va_up (va_up S.1.2.2 3 (U.1.2.2 3)) 4 (u102.1.2.2 4)) 5 (u102.1.2.2 5)), S.2.1, (va_up (va_up (va_up (va_up (va_up (va_up (va_up S.2.2.1 0 (U.2.2.1 0)) 1 (U.2.2.1 1)) 2 (U.2.2.1 2)) 3 (U.2.2.1 3)) 4 (U.2.2.1 4)) 5 (U.2.2.1 5)) 6 (U.2.2.1 6), va_up (va_up S.2.2.2.1 7 (U.2.2.2.1 7)) 8 (U.2.2.2.1 8), va_up (va_up S.2.2.2.2 11 (U.2.2.2.2 11)) 12 (U.2.2.2.2 12)))) (fun _ u108 => (0, ((va_up S.1.1 2 (u108.1.1 2), S.1.2.1, va_up (va_up (va_up S.1.2.2 3 (u108.1.2.2 3)) 4 (u102.1.2.2 4)) 5 (u102.1.2.2 5)), S.2.1, (va_up (va_up (va_up (va_up (va_up (va_up (va_up S.2.2.1 0 (u108.2.2.1 0)) 1 (u108.2.2.1 1)) 2 (u108.2.2.1 2)) 3 (u108.2.2.1 3)) 4 (u108.2.2.1 4)) 5 (u108.2.2.1 5)) 6 (u108.2.2.1 6), va_up (va_up S.2.2.2.1 7 (u108.2.2.2.1 7)) 8 (u108.2.2.2.1 8), va_up (va_up S.2.2.2.2 11 (u108.2.2.2.2 11)) 12 (u108.2.2.2.2 12))))))) := by
      intro hend
      have er : gp_rw tx ty a = a + j := by
        rw [hr, gp_rw, dif_neg hend]
      refine gq_if (Q := Q) (fun q => ?_) (fun q => ?_)
      · have q := congrArg Int32.toInt q
        have j0 : j = 0 := by omega
        refine gq_cb (Q := Q) (gq_nwQ U) (gq_need_w' 39 _ _ rfl rfl) (fun r u hu => ?_)
        refine gq_cb (Q := Q) (fun _ => True) trivial (fun r2 u2 _ => ?_)
        rw [hQ]
        exact Or.inl ⟨Or.inr (by omega), hu.2, by show (u.1.2.2 4).toInt = _; rw [hu.1, er]; exact pl⟩
      · have j0 : ¬ j = 0 := fun e => q (Int32.toInt_inj.mp (by omega))
        refine gq_cb (Q := Q) (gq_neQ tx ty 39 (a + j)) (gq_need' 39 _ ht w0 pl (by omega)) (fun r u hu => ?_)
        refine gq_cb (Q := Q) (gq_jnQ ((U.1.1, U.1.2.1, va_up (va_up U.1.2.2 4 (u.1.2.2 4)) 5 (u.1.2.2 5)), S.2.1, U.2.2) 2 o (o + j) (n + j) m) ?_ (fun r2 u2 hj => ?_)
        · refine gq_join0' 2 (S.1.2.2 3) _ _ (mark := o) (o := o + j) (n := n + j) (m := m) ⟨rfl, rfl, rfl, rfl, rfl, rfl, rfl, rfl, rfl, rfl, rfl, rfl, rfl, rfl⟩ ⟨rfl, hX.2.2.2.2.1.symm, hX.2.2.2.2.2.1.symm, hX.2.2.2.2.2.2.symm⟩ rfl ho (by omega) (by omega) op h11 h12 hmo (fun i i1 i2 => ?_)
          have := (hI (i - o) (by omega)).1
          rw [show o + (i - o) = i by omega] at this
          show 0 ≤ (U.1.1 2 i).toInt ∧ (U.1.1 2 i).toInt < ((n + j : Nat) : Int)
          omega
        rw [hQ]
        rcases hu with ⟨p1, p2, p3⟩ | ⟨p1, p2, p3⟩
        · rw [c39] at p1
          have lt := gq_pk_lt (tx := tx) (ty := ty) (i := a + j) (by omega)
          refine Or.inr ⟨?_, ?_⟩
          · rw [er]; omega
          obtain ⟨j1, j2, j3, j4, j5, jX, j6, j7, j8, j9, j10, j11, j12, j13⟩ := hj
          have eo : m + (o + j - o) = m + j := by omega
          rw [eo] at j5 j9
          have XX : gq_X S ((va_up S.1.1 2 (u2.1.1 2), S.1.2.1, va_up (va_up (va_up S.1.2.2 3 (u2.1.2.2 3)) 4 (u.1.2.2 4)) 5 (u.1.2.2 5)), S.2.1, u2.2.2) o n m := by
            have x2 := gq_X_t hX (S2 := ((u2.1.1, u2.1.2.1, u2.1.2.2), S.2.1, u2.2.2)) (o1 := o) (n1 := n + j) (m1 := m) ⟨jX.1, jX.2.1, jX.2.2.1, hX.2.2.2.1.symm, jX.2.2.2.2.1, jX.2.2.2.2.2.1, jX.2.2.2.2.2.2⟩ (Nat.le_refl o) (by omega) (Nat.le_refl m)
            exact x2
          have NN : gq_N ((va_up S.1.1 2 (u2.1.1 2), S.1.2.1, va_up (va_up (va_up S.1.2.2 3 (u2.1.2.2 3)) 4 (u.1.2.2 4)) 5 (u.1.2.2 5)), S.2.1, u2.2.2) (gp_rw tx ty a + 1) (o + 1) (n + j + 1) (m + j) := by
            refine ⟨p3, by rw [er]; exact p2, j3, j4, j5, by omega, fun d hd => ?_⟩
            by_cases w : d = n + j
            · rw [w]
              exact ⟨by show (u2.2.2.1 3 (n + j)).toInt ≤ _; rw [j9]; omega, j11, j12, fun _ => j13, fun h => absurd (show (u2.2.2.1 0 (n + j)).toInt = 0 from h) (by rw [j7]; decide)⟩
            · exact gq_nf_X (S := ((U.1.1, U.1.2.1, va_up (va_up U.1.2.2 4 (u.1.2.2 4)) 5 (u.1.2.2 5)), S.2.1, U.2.2)) (S' := u2) (hto d (by omega)) jX (by omega) (by omega)
          have RR : gq_R tx ty (u2.2.2.1 0) (u2.2.2.1 1) (u2.2.2.1 2) (u2.2.2.1 3) (u2.2.2.1 4) (u2.2.2.2.1 7) (u2.2.2.2.1 8) (n + j) (gp_e0 1 a (gp_rw tx ty a - a)) := by
            rw [gq_R]
            unfold gq_F
            rw [j7]
            refine Or.inr (Or.inr ⟨m, m + j, j8, j9, Or.inr (Or.inl ⟨gx_lit 2 (by decide), a, gp_rw tx ty a - a, rfl, by omega, by omega, by omega, fun i hi => ?_⟩)⟩)
            obtain ⟨g1, g2, g3⟩ := hI i (by omega)
            have e10 : u2.2.2.1 4 (m + i) = U.1.1 2 (o + i) := j10 i (by omega)
            have ci : Int32.toNatClampNeg (U.1.1 2 (o + i)) = n + i := gp_cl_n g1
            obtain ⟨x1, -, -, -, x5, x6, -, -⟩ := jX.1 (n + i) (by omega)
            rw [e10, ci]
            refine ⟨by omega, by omega, by rw [x1]; exact g2, fun c c1 c2 => ?_⟩
            rw [gp_ih_cg x5 x6]
            exact g3 c c1 c2
          have CC : gq_C (u2.2.2.1 0) (u2.2.2.1 2) (u2.2.2.1 3) (u2.2.2.1 4) 1 (n + j) (gt_w (gp_e0 1 a (gp_rw tx ty a - a))) := by
            have cm : Int32.toNatClampNeg (u2.2.2.1 2 (n + j)) = m := gp_cl_n j8
            have j8 : (u2.2.2.1 2 (n + j)).toInt = m := j8
            have j9 : (u2.2.2.1 3 (n + j)).toInt = ((m + j : Nat) : Int) := j9
            have k2 : (u2.2.2.1 0 (n + j)).toInt = 2 := by rw [j7]; exact gx_lit 2 (by decide)
            refine Or.inr ⟨by omega, by omega, List.replicate j 1, by rw [List.length_replicate]; omega, ?_, ?_⟩
            · rw [cm]
              refine gq_fww_rep j m (fun i hi => ?_)
              obtain ⟨g1, g2, -⟩ := hI i hi
              have e10 : u2.2.2.1 4 (m + i) = U.1.1 2 (o + i) := j10 i (by omega)
              have ci : Int32.toNatClampNeg (U.1.1 2 (o + i)) = n + i := gp_cl_n g1
              obtain ⟨x1, -, -, -, -, -, -, -⟩ := jX.1 (n + i) (by omega)
              have x1 : u2.2.2.1 0 (n + i) = U.2.2.1 0 (n + i) := x1
              rw [e10, ci]
              exact ⟨by omega, by rw [x1]; omega, Nat.le_refl 1⟩
            · rw [k2, gt_sum_rep, gt_w_row]
              show 0 + j ≤ _
              omega
          refine ⟨n + j + 1, m + j, NN, ⟨XX.1, XX.2.1, XX.2.2.1, rfl, rfl, rfl, rfl⟩, by omega, by omega, by omega, by omega, by omega, ?_, ?_, ?_⟩
          · show (u2.1.1 2 o).toInt + 1 = _
            rw [j6]
            omega
          · rw [show n + j + 1 - 1 = n + j by omega]
            exact ⟨RR, CC⟩
          · intro d d1 d2 d3
            by_cases w : d = n + j
            · rw [w]
              exact ⟨_, List.mem_singleton.mpr rfl, _, gp_sb_me _, RR⟩
            · exfalso
              have d3 : ¬ (u2.2.2.1 0 d).toInt = 0 := d3
              rw [(jX.1 d (by omega)).1] at d3
              have := (hI (d - n) (by omega)).2.1
              rw [show n + (d - n) = d by omega] at this
              exact d3 this
        · rw [c39] at p1
          refine Or.inl ⟨Or.inl ?_, p3, by rw [er]; exact p2⟩
          rw [er]
          have : ¬ a + j < ty := fun q => by
            rw [gq_pk_in q] at p1
            exact hend ⟨q, p1⟩
          exact if_neg this
    rw [gm_f_Reader_readRow_7]
    have l50 : ¬ (50 : Int32) ≤ v := by rw [Int32.le_iff_toInt_le, gx_lit 50 (by decide)]; omega
    rw [if_neg l50]
    refine gq_cb (Q := Q) (gq_atQ tx ty (a + j)) (gq_at' _ _ ht pl) (fun r21 u21 h21 => ?_)
    have h21 : r21.toInt = gq_pk tx ty (a + j) := h21
    refine gq_if (Q := Q) (fun q => ex (fun w => ?_)) (fun q => ?_)
    · have q := congrArg Int32.toInt q
      rw [gq_pk_in w.1] at h21
      have := (t3 _ w.1).2.1
      omega
    refine gq_cb (Q := Q) (gq_atQ tx ty (a + j)) (gq_at' _ _ ht pl) (fun r36 u36 h36 => ?_)
    have h36 : r36.toInt = gq_pk tx ty (a + j) := h36
    have lt : a + j < ty := by
      rcases Nat.lt_or_ge (a + j) ty with w | w
      · exact w
      · exfalso
        rw [gq_pk_no (by omega)] at h21
        exact q (Int32.toInt_inj.mp (by omega))
    refine gq_if (Q := Q) (fun q => ex (fun w => ?_)) (fun q2 => ?_)
    · have q := congrArg Int32.toInt q
      rw [gq_pk_in lt] at h36
      exact w.2 (by omega)
    refine gq_cb (Q := Q) (gq_atQ tx ty (a + j)) (gq_at' _ _ ht pl) (fun r53 u53 h53 => ?_)
    refine gq_cb (Q := Q) (gq_atQ tx ty (a + j)) (gq_at' _ _ ht pl) (fun r64 u64 h64 => ?_)
    have h53 : r53.toInt = gq_pk tx ty (a + j) := h53
    have h64 : r64.toInt = gq_pk tx ty (a + j) := h64
    rw [gq_pk_in lt] at h53 h64 h36
    obtain ⟨-, b1, b2⟩ := t3 _ lt
    have ne39 : ¬ tx (a + j) = 39 := fun e => q2 (Int32.toInt_inj.mp (by omega))
    refine gq_cb (Q := Q) (gq_psQ U r53 r64 (a + j) (o + j) (n + j) m) (gq_pset' r53 r64 _ _ ⟨fun _ _ => ⟨rfl, rfl, rfl, rfl, rfl, rfl, rfl, rfl⟩, fun _ _ => rfl, fun _ _ => rfl, hX.2.2.2.1.symm, hX.2.2.2.2.1.symm, hX.2.2.2.2.2.1.symm, hX.2.2.2.2.2.2.symm⟩ rfl rfl hN (by omega) (by omega) (by omega) (by omega)) (fun r67 u67 h67 => ?_)
    obtain ⟨-, ⟨p0, p1, p2, p3, p4, p5, p6⟩, pX, p7, p8, p9⟩ := h67
    have av := gx_ak v 1 1 (by decide)
    have ap := gx_ak (U.1.2.2 4) 1 1 (by decide)
    refine ih (j + 1) (v + 1) _ (by omega) (by omega) (by omega) ⟨w0, ?_, p2, p3, h12, by omega, fun d hd => p6 d hd⟩ ?_ (fun i hi => ?_) ?_
    · show (U.1.2.2 4 + 1).toInt = _
      omega
    · have := gq_X_t hX pX (Nat.le_add_right o j) (Nat.le_add_right n j) (Nat.le_refl m)
      exact ⟨this.1, hX.2.1, this.2.2.1, rfl, rfl, rfl, rfl⟩
    · by_cases w : i = j
      · rw [w]
        refine ⟨p7, p8, fun c c1 c2 => (p9 c c1 c2).trans ?_⟩
        omega
      · obtain ⟨g1, g2, g3⟩ := hI i (by omega)
        obtain ⟨x1, -, -, -, x5, x6, -, -⟩ := pX.1 (n + i) (by omega)
        refine ⟨?_, ?_, fun c c1 c2 => ?_⟩
        · show (u67.1.1 2 (o + i)).toInt = _
          rw [pX.2.2.1 (o + i) (by omega)]
          exact g1
        · show (u67.2.2.1 0 (n + i)).toInt = 0
          rw [x1]
          exact g2
        · show gp_ih (u67.2.2.2.1 7) (u67.2.2.2.1 8) (n + i) c ↔ _
          rw [gp_ih_cg x5 x6]
          exact g3 c c1 c2
    · rw [hr, gp_rw, dif_pos ⟨lt, ne39⟩]
      rfl
theorem gq_row0 {tx : Nat → Int} {ty : Nat} (S : gq_St) (ht : gp_tx (S.2.1.2.2 1) (S.2.1.1 0) tx ty) {a o n m : Nat} (hN : gq_N S a o n m) (hc : 2 * n + 3 ≤ 3 * a) (ha : 1 ≤ a) (hty : a ≤ ty) : gq_rowQ tx ty S a o n m (gm_f_Reader_readRow S) := by
  unfold gm_f_Reader_readRow
  exact gq_row7 S ht hc ha hN.2.2.1 200 0 0 _ (by decide) hty (by omega) hN (gq_X_r S o n m) (fun i hi => absurd hi (by omega)) rfl
def gq_clsQ (tx : Nat → Int) (ty : Nat) (S : gq_St) (a o n m : Nat) (z : Int32 × gq_St) : Prop := ((gp_pk tx ty (gp_cl tx ty a) = 0 ∨ gp_cl tx ty a = a) ∧ gq_W z.2 (gp_cl tx ty a)) ∨ (¬ (gp_pk tx ty (gp_cl tx ty a) = 0 ∨ gp_cl tx ty a = a) ∧ (z.2.2.2.1 4 = S.2.2.1 4 ∧ z.2.2.2.2.2 12 = S.2.2.2.2 12) ∧ gq_P tx ty 1 S a o n m 0 (gp_e0 2 a (gp_cl tx ty a)) (gp_cl tx ty a + 1) z.2)
theorem gq_cls12 {tx : Nat → Int} {ty : Nat} (S : gq_St) (ht : gp_tx (S.2.1.2.2 1) (S.2.1.1 0) tx ty) (r6 : Int32) (u6 : gm_S) {a o n m : Nat} (hr6 : r6.toInt = n) (hc : 2 * n + 3 ≤ 3 * a) (ha : 1 ≤ a) (m12 : (S.2.2.2.2 12).toInt = m) : ∀ (f j : Nat) (v : Int32) (U : gq_St), v.toInt = j → gq_ni tx ty a j ≤ ty → 50 < f + j → gq_N U (gq_ni tx ty a j) o (n + 1) m → m + o ≤ n → gq_X S U o n m → (U.2.2.1 0 n).toInt = 0 → (∀ c : Int, 32 ≤ c → c ≤ 126 → (gp_ih (U.2.2.2.1 7) (U.2.2.2.1 8) n c ↔ gq_ic tx ty a j c)) → gp_cl tx ty a = gp_cl tx ty (gq_ni tx ty a j) → gq_clsQ tx ty S a o n m (gm_f_Reader_readClass_12 S r6 u6 f v U) := by
  have ht' := ht
  obtain ⟨t1, t2, t3⟩ := ht'
  obtain ⟨Q, hQ⟩ : ∃ Q, Q = gq_clsQ tx ty S a o n m := ⟨_, rfl⟩
  rw [← hQ]
  have n1 : (-1 : Int32).toInt = -1 := by decide
  have z0 : (0 : Int32).toInt = 0 := by decide
  have c93 : (93 : Int32).toInt = 93 := gx_lit 93 (by decide)
  have c45 : (45 : Int32).toInt = 45 := gx_lit 45 (by decide)
  intro f
  induction f with
  | zero =>
    intro j v U _ h1 h2
    have := gq_ni_ge tx ty a j
    exact absurd h2 (by omega)
  | succ f ih =>
    intro j v U hv h1 h2 hN hmo1 hX hk hI hr
    have gj := gq_ni_ge tx ty a j
    have s1 : gq_ni tx ty a (j + 1) = gp_cn tx ty (gq_ni tx ty a j) := rfl
    have s2 := fun c => gq_ic_s (tx := tx) (ty := ty) (a := a) (j := j) c
    have s3 := fun (h : 1 ≤ j) c => gq_st_ic (tx := tx) (ty := ty) (a := a) (j := j) h c
    generalize hp : gq_ni tx ty a j = p at h1 hN hr gj s1 s2 s3
    have hN' := hN
    obtain ⟨w0, pl, op, h11, h12, hmo, hto⟩ := hN'
    have ex : ¬ (p < ty ∧ ¬ tx p = 93) → Q (if v = 0 then gm_bd (gm_f_Reader_need 93 ((va_up S.1.1 2 (U.1.1 2), S.1.2.1, va_up (va_up (va_up S.1.2.2 3 (U.1.2.2 3)) 4 (U.1.2.2 4)) 5 1), S.2.1, (va_up (va_up (va_up (va_up (va_up (va_up S.2.2.1 0 (U.2.2.1 0)) 1 (U.2.2.1 1)) 2 (U.2.2.1 2)) 3 (U.2.2.1 3)) 5 (U.2.2.1 5)) 6 (U.2.2.1 6), va_up (va_up S.2.2.2.1 7 (U.2.2.2.1 7)) 8 (U.2.2.2.1 8), va_up S.2.2.2.2 11 (U.2.2.2.2 11)))) (fun _ u169 => gm_bd (gm_f_Reader_push r6 ((va_up S.1.1 2 (U.1.1 2), S.1.2.1, va_up (va_up (va_up S.1.2.2 3 (U.1.2.2 3)) 4 (u169.1.2.2 4)) 5 (u169.1.2.2 5)), S.2.1, (va_up (va_up (va_up (va_up (va_up (va_up S.2.2.1 0 (U.2.2.1 0)) 1 (U.2.2.1 1)) 2 (U.2.2.1 2)) 3 (U.2.2.1 3)) 5 (U.2.2.1 5)) 6 (U.2.2.1 6), va_up (va_up S.2.2.2.1 7 (U.2.2.2.1 7)) 8 (U.2.2.2.1 8), va_up S.2.2.2.2 11 (U.2.2.2.2 11)))) (fun _ u174 => (0, ((va_up S.1.1 2 (u174.1.1 2), S.1.2.1, va_up (va_up (va_up S.1.2.2 3 (u174.1.2.2 3)) 4 (u169.1.2.2 4)) 5 (u169.1.2.2 5)), S.2.1, (va_up (va_up (va_up (va_up (va_up (va_up S.2.2.1 0 (U.2.2.1 0)) 1 (U.2.2.1 1)) 2 (U.2.2.1 2)) 3 (U.2.2.1 3)) 5 (U.2.2.1 5)) 6 (U.2.2.1 6), va_up (va_up S.2.2.2.1 7 (U.2.2.2.1 7)) 8 (U.2.2.2.1 8), va_up S.2.2.2.2 11 (U.2.2.2.2 11)))))) else gm_bd (gm_f_Reader_need 93 ((va_up S.1.1 2 (U.1.1 2), S.1.2.1, va_up (va_up (va_up S.1.2.2 3 (U.1.2.2 3)) 4 (U.1.2.2 4)) 5 (U.1.2.2 5)), S.2.1, (va_up (va_up (va_up (va_up (va_up (va_up S.2.2.1 0 (U.2.2.1 0)) 1 (U.2.2.1 1)) 2 (U.2.2.1 2)) 3 (U.2.2.1 3)) 5 (U.2.2.1 5)) 6 (U.2.2.1 6), va_up (va_up S.2.2.2.1 7 (U.2.2.2.1 7)) 8 (U.2.2.2.1 8), va_up S.2.2.2.2 11 (U.2.2.2.2 11)))) (fun _ u169 => gm_bd (gm_f_Reader_push r6 ((va_up S.1.1 2 (U.1.1 2), S.1.2.1, va_up (va_up (va_up S.1.2.2 3 (U.1.2.2 3)) 4 (u169.1.2.2 4)) 5 (u169.1.2.2 5)), S.2.1, (va_up (va_up (va_up (va_up (va_up (va_up S.2.2.1 0 (U.2.2.1 0)) 1 (U.2.2.1 1)) 2 (U.2.2.1 2)) 3 (U.2.2.1 3)) 5 (U.2.2.1 5)) 6 (U.2.2.1 6), va_up (va_up S.2.2.2.1 7 (U.2.2.2.1 7)) 8 (U.2.2.2.1 8), va_up S.2.2.2.2 11 (U.2.2.2.2 11)))) (fun _ u174 => (0, ((va_up S.1.1 2 (u174.1.1 2), S.1.2.1, va_up (va_up (va_up S.1.2.2 3 (u174.1.2.2 3)) 4 (u169.1.2.2 4)) 5 (u169.1.2.2 5)), S.2.1, (va_up (va_up (va_up (va_up (va_up (va_up S.2.2.1 0 (U.2.2.1 0)) 1 (U.2.2.1 1)) 2 (U.2.2.1 2)) 3 (U.2.2.1 3)) 5 (U.2.2.1 5)) 6 (U.2.2.1 6), va_up (va_up S.2.2.2.1 7 (U.2.2.2.1 7)) 8 (U.2.2.2.1 8), va_up S.2.2.2.2 11 (U.2.2.2.2 11))))))) := by
      intro hend
      have er : gp_cl tx ty a = p := by
        rw [hr, gp_cl, dif_neg hend]
      refine gq_if (Q := Q) (fun q => ?_) (fun q => ?_)
      · have q := congrArg Int32.toInt q
        have j0 : j = 0 := by omega
        have pa : p = a := by rw [← hp, j0]; rfl
        refine gq_cb (Q := Q) (gq_nwQ U) (gq_need_w' 93 _ _ rfl rfl) (fun r u hu => ?_)
        refine gq_cb (Q := Q) (fun _ => True) trivial (fun r2 u2 _ => ?_)
        rw [hQ]
        exact Or.inl ⟨Or.inr (by omega), hu.2, by show (u.1.2.2 4).toInt = _; rw [hu.1, er]; exact pl⟩
      · have j0 : ¬ j = 0 := fun e => q (Int32.toInt_inj.mp (by omega))
        refine gq_cb (Q := Q) (gq_neQ tx ty 93 p) (gq_need' 93 _ ht w0 pl (by omega)) (fun r u hu => ?_)
        refine gq_cb (Q := Q) (gq_puQ U r6 o) (gq_push' r6 _ _ rfl op (by omega)) (fun r2 u2 hu2 => ?_)
        rw [hQ]
        obtain ⟨g1, g2⟩ := hu2
        rcases hu with ⟨p1, p2, p3⟩ | ⟨p1, p2, p3⟩
        · rw [c93] at p1
          have lt := gq_pk_lt (tx := tx) (ty := ty) (i := p) (by omega)
          refine Or.inr ⟨?_, ?_⟩
          · rw [er]; omega
          refine ⟨⟨rfl, rfl⟩, ?_⟩
          have RR : gq_R tx ty (U.2.2.1 0) (U.2.2.1 1) (U.2.2.1 2) (U.2.2.1 3) (S.2.2.1 4) (U.2.2.2.1 7) (U.2.2.2.1 8) n (gp_e0 2 a (gp_cl tx ty a)) := by
            rw [gq_R]
            refine Or.inl ⟨hk, a, gp_cl tx ty a, rfl, fun c c1 c2 => ?_⟩
            rw [er]
            exact (hI c c1 c2).trans (s3 (by omega) c).symm
          refine ⟨n + 1, m, ⟨p3, by rw [er]; exact p2, g2, h11, ?_, by omega, hto⟩, ⟨hX.1, fun i hi => rfl, fun i hi => ?_, rfl, rfl, rfl, rfl⟩, by omega, Nat.le_refl m, by omega, by omega, by omega, ?_, ⟨RR, Or.inl ⟨by show (U.2.2.1 0 n).toInt ≤ 1; omega, Nat.le_refl 1⟩⟩, ?_⟩
          · exact m12
          · show u2.1.1 2 i = S.1.1 2 i
            rw [g1, gx_un _ _ _ (by omega)]
            exact hX.2.2.1 i hi
          · show (u2.1.1 2 o).toInt + 1 = _
            rw [g1, gx_us, hr6]
            omega
          · intro d d1 d2 d3
            have : d = n := by omega
            rw [this] at d3
            exact absurd hk d3
        · rw [c93] at p1
          refine Or.inl ⟨Or.inl ?_, p3, by rw [er]; exact p2⟩
          rw [er]
          have : ¬ p < ty := fun q => by
            rw [gq_pk_in q] at p1
            exact hend ⟨q, p1⟩
          exact if_neg this
    rw [gm_f_Reader_readClass_12]
    have l50 : ¬ (50 : Int32) ≤ v := by rw [Int32.le_iff_toInt_le, gx_lit 50 (by decide)]; omega
    rw [if_neg l50]
    refine gq_cb (Q := Q) (gq_atQ tx ty p) (gq_at' _ _ ht pl) (fun r26 u26 h26 => ?_)
    have h26 : r26.toInt = gq_pk tx ty p := h26
    refine gq_if (Q := Q) (fun q => ex (fun w => ?_)) (fun q => ?_)
    · have q := congrArg Int32.toInt q
      rw [gq_pk_in w.1] at h26
      have := (t3 _ w.1).2.1
      omega
    refine gq_cb (Q := Q) (gq_atQ tx ty p) (gq_at' _ _ ht pl) (fun r41 u41 h41 => ?_)
    have h41 : r41.toInt = gq_pk tx ty p := h41
    have lt : p < ty := by
      rcases Nat.lt_or_ge p ty with w | w
      · exact w
      · exfalso
        rw [gq_pk_no (by omega)] at h26
        exact q (Int32.toInt_inj.mp (by omega))
    refine gq_if (Q := Q) (fun q => ex (fun w => ?_)) (fun q2 => ?_)
    · have q := congrArg Int32.toInt q
      rw [gq_pk_in lt] at h41
      exact w.2 (by omega)
    have ap1 := gx_ak (U.1.2.2 4) 1 1 (by decide)
    have ap2 := gx_ak (U.1.2.2 4) 2 2 (gx_lit 2 (by decide))
    have ap3 := gx_ak (U.1.2.2 4) 3 3 (gx_lit 3 (by decide))
    have av := gx_ak v 1 1 (by decide)
    refine gq_cb (Q := Q) (gq_atQ tx ty p) (gq_at' _ _ ht pl) (fun r57 u57 h57 => ?_)
    refine gq_cb (Q := Q) (gq_atQ tx ty (p + 2)) (gq_at' _ _ ht (by omega)) (fun r71 u71 h71 => ?_)
    refine gq_cb (Q := Q) (gq_atQ tx ty (p + 1)) (gq_at' _ _ ht (by omega)) (fun r86 u86 h86 => ?_)
    have h57 : r57.toInt = gq_pk tx ty p := h57
    have h71 : r71.toInt = gq_pk tx ty (p + 2) := h71
    have h86 : r86.toInt = gq_pk tx ty (p + 1) := h86
    rw [gq_pk_in lt] at h57 h41
    obtain ⟨-, b1, b2⟩ := t3 _ lt
    have ne93 : ¬ tx p = 93 := fun e => q2 (Int32.toInt_inj.mp (by omega))
    have step : gp_cl tx ty a = gp_cl tx ty (gp_cn tx ty p) := by
      rw [hr, gp_cl, dif_pos ⟨lt, ne93⟩]
    have go : ∀ (V : gq_St) (y : Int), gp_cn tx ty p ≤ ty → (V.1.2.2 4).toInt = ((gp_cn tx ty p : Nat) : Int) → V.1.2.2 5 = 0 → (V.1.2.2 3).toInt = o → V.1.1 2 = U.1.1 2 → V.2.1 = S.2.1 → V.2.2.1 0 = U.2.2.1 0 → V.2.2.1 1 = U.2.2.1 1 → V.2.2.1 2 = U.2.2.1 2 → V.2.2.1 3 = U.2.2.1 3 → V.2.2.1 5 = U.2.2.1 5 → V.2.2.1 6 = U.2.2.1 6 → V.2.2.1 4 = S.2.2.1 4 → V.2.2.1 9 = S.2.2.1 9 → V.2.2.1 10 = S.2.2.1 10 → V.2.2.2.2 11 = U.2.2.2.2 11 → (V.2.2.2.2 12).toInt = m → V.2.2.2.2 13 = S.2.2.2.2 13 → gq_inQ U.2.2 n (tx p) y (0, V.2.2) → (∀ c : Int, 32 ≤ c → c ≤ 126 → ((tx p ≤ c ∧ c ≤ y) ↔ gq_it tx ty p c)) → Q (gm_f_Reader_readClass_12 S r6 u6 f (v + 1) V) := by
      intro V y g0 g1 g2 g3 g4 g5 g6 g7 g8 g9 gA gB g10 g11 g12 g13 g14 g15 g16 g17
      obtain ⟨k1, k2⟩ := g16
      refine ih (j + 1) (v + 1) V (by omega) (by rw [s1]; exact g0) (by omega) ⟨g2, by rw [s1]; exact g1, g3, by rw [g13]; exact h11, g14, hmo, fun d hd => ?_⟩ hmo1 ⟨fun d hd => ?_, fun i _ => by rw [g10], fun i hi => by rw [g4]; exact hX.2.2.1 i hi, g5, g11, g12, g15⟩ (by rw [g6]; exact hk) (fun c c1 c2 => ?_) (by rw [s1]; exact step)
      · obtain ⟨y1, y2, y3, y4, y5⟩ := hto d hd
        refine ⟨by rw [g9]; exact y1, by rw [gA]; exact y2, by rw [gB]; exact y3, fun h c => ?_, fun h => by rw [g9, g8]; rw [g6] at h; exact y5 h⟩
        rw [g6] at h
        by_cases w : d = n
        · rw [w] at h; exact absurd hk h
        · have kk := k1 d w
          rw [gp_ih_cg kk.1 kk.2]
          exact y4 h c
      · obtain ⟨x1, x2, x3, x4, x5, x6, x7, x8⟩ := hX.1 d hd
        have kk := k1 d (by omega)
        exact ⟨by rw [g6]; exact x1, by rw [g7]; exact x2, by rw [g8]; exact x3, by rw [g9]; exact x4, kk.1.trans x5, kk.2.trans x6, by rw [gA]; exact x7, by rw [gB]; exact x8⟩
      · rw [s2 c]
        refine (k2 c c1 c2).trans ?_
        rw [hI c c1 c2, g17 c c1 c2]
    have one : gp_cn tx ty p = p + 1 → ∀ (V : gq_St), (V.1.2.2 4).toInt = ((p + 1 : Nat) : Int) → V.1.2.2 5 = 0 → (V.1.2.2 3).toInt = o → V.1.1 2 = U.1.1 2 → V.2.1 = S.2.1 → V.2.2.1 0 = U.2.2.1 0 → V.2.2.1 1 = U.2.2.1 1 → V.2.2.1 2 = U.2.2.1 2 → V.2.2.1 3 = U.2.2.1 3 → V.2.2.1 5 = U.2.2.1 5 → V.2.2.1 6 = U.2.2.1 6 → V.2.2.1 4 = S.2.2.1 4 → V.2.2.1 9 = S.2.2.1 9 → V.2.2.1 10 = S.2.2.1 10 → V.2.2.2.2 11 = U.2.2.2.2 11 → (V.2.2.2.2 12).toInt = m → V.2.2.2.2 13 = S.2.2.2.2 13 → gq_inQ U.2.2 n r57.toInt r57.toInt (0, V.2.2) → Q (gm_f_Reader_readClass_12 S r6 u6 f (v + 1) V) := by
      intro e V g1 g2 g3 g4 g5 g6 g7 g8 g9 gA gB g10 g11 g12 g13 g14 g15 g16
      rw [h57] at g16
      refine go V (tx p) (by omega) (by rw [e]; exact g1) g2 g3 g4 g5 g6 g7 g8 g9 gA gB g10 g11 g12 g13 g14 g15 g16 (fun c c1 c2 => ?_)
      unfold gq_it
      rw [if_neg (by omega)]
      omega
    have inc : ∀ y : Int32, y.toInt ≤ 126 → r57.toInt ≤ y.toInt → gq_inQ U.2.2 n r57.toInt y.toInt (gm_f_Tree_include r6 r57 y ((va_up (va_up (va_up (va_up (va_up (va_up S.2.2.1 0 (U.2.2.1 0)) 1 (U.2.2.1 1)) 2 (U.2.2.1 2)) 3 (U.2.2.1 3)) 5 (U.2.2.1 5)) 6 (U.2.2.1 6)), (va_up (va_up S.2.2.2.1 7 (U.2.2.2.1 7)) 8 (U.2.2.2.1 8)), (va_up S.2.2.2.2 11 (U.2.2.2.2 11)))) := fun y y1 y2 => gq_incl' r6 r57 y _ _ rfl rfl hr6 (show (n : Int) < (U.2.2.2.2 11).toInt by omega) (by omega) y1 y2
    refine gq_if (Q := Q) (fun k1 => ?_) (fun k1 => ?_)
    · have k1 := congrArg Int32.toInt k1
      rw [c45] at k1
      have g45 : gp_pk tx ty (p + 1) = 45 := (gq_pk_eq 45 (by decide)).mp (by omega)
      refine gq_if (Q := Q) (fun k2 => ?_) (fun k2 => ?_)
      · have k2 := congrArg Int32.toInt k2
        refine gq_cb (Q := Q) _ (inc r57 (by omega) (by omega)) (fun r u hu => ?_)
        refine one ?_ _ (by show (U.1.2.2 4 + 1).toInt = _; omega) w0 op rfl rfl rfl rfl rfl rfl rfl rfl rfl rfl rfl rfl m12 rfl hu
        have l := gq_pk_lt (tx := tx) (ty := ty) (i := p + 2) (by omega)
        exact if_neg (fun w => w.2.2.1 (by omega))
      · have k2 : ¬ gq_pk tx ty (p + 2) = 93 := fun e => k2 (Int32.toInt_inj.mp (by omega))
        refine gq_if (Q := Q) (fun k3 => ?_) (fun k3 => ?_)
        · have k3 := Int32.lt_iff_toInt_lt.mp k3
          refine gq_cb (Q := Q) _ (inc r57 (by omega) (by omega)) (fun r u hu => ?_)
          refine one ?_ _ (by show (U.1.2.2 4 + 1).toInt = _; omega) w0 op rfl rfl rfl rfl rfl rfl rfl rfl rfl rfl rfl rfl m12 rfl hu
          refine if_neg (fun w => ?_)
          have e := gq_pk_in (tx := tx) w.2.1
          have := w.2.2.2
          omega
        · rw [Int32.lt_iff_toInt_lt] at k3
          have l := gq_pk_lt (tx := tx) (ty := ty) (i := p + 2) (by omega)
          have b3 := t3 _ l.1
          have e3 : gp_cn tx ty p = p + 3 := if_pos ⟨g45, l.1, by omega, by omega⟩
          refine gq_cb (Q := Q) _ (inc r71 (by omega) (by omega)) (fun r u hu => ?_)
          have hu : gq_inQ U.2.2 n r57.toInt r71.toInt (r, u) := hu
          rw [h57] at hu
          refine go _ r71.toInt (by omega) (by show (U.1.2.2 4 + 3).toInt = _; omega) w0 op rfl rfl rfl rfl rfl rfl rfl rfl rfl rfl rfl rfl m12 rfl hu (fun c c1 c2 => ?_)
          unfold gq_it
          rw [if_pos e3]
          omega
    · have k1 : ¬ gq_pk tx ty (p + 1) = 45 := fun e => k1 (Int32.toInt_inj.mp (by omega))
      refine gq_cb (Q := Q) _ (inc r57 (by omega) (by omega)) (fun r u hu => ?_)
      refine one ?_ _ (by show (U.1.2.2 4 + 1).toInt = _; omega) w0 op rfl rfl rfl rfl rfl rfl rfl rfl rfl rfl rfl rfl m12 rfl hu
      exact if_neg (fun w => k1 ((gq_pk_eq 45 (by decide)).mpr w.1))
theorem gq_cls0 {tx : Nat → Int} {ty : Nat} (S : gq_St) (ht : gp_tx (S.2.1.2.2 1) (S.2.1.1 0) tx ty) {a o n m : Nat} (hN : gq_N S a o n m) (hc : 2 * n + 3 ≤ 3 * a) (ha : 1 ≤ a) (hty : a ≤ ty) : gq_clsQ tx ty S a o n m (gm_f_Reader_readClass S) := by
  obtain ⟨w0, pl, ho, h11, h12, hmo, hto⟩ := hN
  have tz := ht.2.1
  obtain ⟨Q, hQ⟩ : ∃ Q, Q = gq_clsQ tx ty S a o n m := ⟨_, rfl⟩
  rw [← hQ]
  unfold gm_f_Reader_readClass
  refine gq_cb (Q := Q) (gq_adQ 0 (-1) S.2.2 n) (gq_add' 0 (-1) S.2.2 h11 (by omega)) (fun r6 u6 h6 => ?_)
  obtain ⟨d1, d2, d3, d4, d5, d6, d7, d8, d9, d10⟩ := h6
  have d1 : r6.toInt = n := d1
  have d2 : u6.1 0 = upd (S.2.2.1 0) n 0 := d2
  have d3 : u6.1 1 = upd (S.2.2.1 1) n (-1) := d3
  have d4 : u6.1 2 = upd (S.2.2.1 2) n (S.2.2.2.2 12) := d4
  have d5 : u6.1 3 = upd (S.2.2.1 3) n (S.2.2.2.2 12) := d5
  have d6 : u6.2.1 7 = vp_updL (S.2.2.2.1 7) n 0 := d6
  have d7 : u6.2.1 8 = vp_updL (S.2.2.2.1 8) n 0 := d7
  have d8 : (u6.2.2 11).toInt = ((n + 1 : Nat) : Int) := d8
  have d9 : u6.1 5 = upd (S.2.2.1 5) n (vp_nar .boolean 0) := d9
  have d10 : u6.1 6 = upd (S.2.2.1 6) n 0 := d10
  rw [hQ]
  have XX : gq_X S (S.1, S.2.1, ((va_up (va_up (va_up (va_up (va_up (va_up S.2.2.1 0 (u6.1 0)) 1 (u6.1 1)) 2 (u6.1 2)) 3 (u6.1 3)) 5 (u6.1 5)) 6 (u6.1 6)), (va_up (va_up S.2.2.2.1 7 (u6.2.1 7)) 8 (u6.2.1 8)), (va_up S.2.2.2.2 11 (u6.2.2 11)))) o n m := by
    refine ⟨fun d hd => ⟨?_, ?_, ?_, ?_, ?_, ?_, ?_, ?_⟩, fun i hi => rfl, fun i hi => rfl, rfl, rfl, rfl, rfl⟩
    · show u6.1 0 d = _
      rw [d2]; exact gx_un _ _ _ (by omega)
    · show u6.1 1 d = _
      rw [d3]; exact gx_un _ _ _ (by omega)
    · show u6.1 2 d = _
      rw [d4]; exact gx_un _ _ _ (by omega)
    · show u6.1 3 d = _
      rw [d5]; exact gx_un _ _ _ (by omega)
    · show u6.2.1 7 d = _
      rw [d6]; exact gx_lun _ _ _ (by omega)
    · show u6.2.1 8 d = _
      rw [d7]; exact gx_lun _ _ _ (by omega)
    · show u6.1 5 d = _
      rw [d9]; exact gx_un _ _ _ (by omega)
    · show u6.1 6 d = _
      rw [d10]; exact gx_un _ _ _ (by omega)
  refine gq_cls12 S ht r6 u6 d1 hc ha h12 200 0 0 _ (by decide) hty (by omega) ⟨w0, pl, ho, d8, h12, by omega, fun d hd => ?_⟩ hmo XX ?_ (fun c c1 c2 => ⟨fun h => ?_, fun h => ?_⟩) rfl
  · by_cases q : d = n
    · rw [q]
      refine ⟨?_, ?_, ?_, fun h => absurd ?_ h, fun _ => ?_⟩
      · show (u6.1 3 n).toInt ≤ m
        rw [d5, gx_us]; omega
      · show u6.1 5 n = 0
        rw [d9, gx_us]; decide
      · show u6.1 6 n = 0
        rw [d10, gx_us]
      · show (u6.1 0 n).toInt = 0
        rw [d2, gx_us]; decide
      · show u6.1 3 n = u6.1 2 n
        rw [d5, d4, gx_us, gx_us]
    · exact gq_nf_X (hto d (by omega)) XX (by omega) (Nat.le_refl m)
  · show (u6.1 0 n).toInt = 0
    rw [d2, gx_us]
    decide
  · have h : gp_ih (u6.2.1 7) (u6.2.1 8) n c := h
    rw [d6, d7] at h
    exact absurd h (gq_ih0 _ _ n c)
  · obtain ⟨i, hi, -⟩ := h
    omega
theorem gq_P_X {tx : Nat → Int} {ty K : Nat} {S S0 u : gq_St} {a o n m a' : Nat} {k : Int} {e : Lean.ParserDescr} (h : gq_P tx ty K S a o n m k e a' u) (hX : gq_X S0 S o n m) : gq_P tx ty K S0 a o n m k e a' u := by
  obtain ⟨n', m', p1, p2, p3⟩ := h
  exact ⟨n', m', p1, gq_X_t hX p2 (Nat.le_refl o) (Nat.le_refl n) (Nat.le_refl m), p3⟩
theorem gq_row {tx : Nat → Int} {ty : Nat} (S0 S : gq_St) {a o n m : Nat} (hX : gq_X S0 S o n m) (ht : gp_tx (S.2.1.2.2 1) (S.2.1.1 0) tx ty) (hN : gq_N S a o n m) (hc : 2 * n + 3 ≤ 3 * a) (ha : 1 ≤ a) (hty : a ≤ ty) : gq_rowQ tx ty S0 a o n m (gm_f_Reader_readRow S) := by
  rcases gq_row0 S ht hN hc ha hty with h | ⟨h1, h2⟩
  · exact Or.inl h
  · exact Or.inr ⟨h1, gq_P_X h2 hX⟩
theorem gq_cls {tx : Nat → Int} {ty : Nat} (S0 S : gq_St) {a o n m : Nat} (hX : gq_X S0 S o n m) (h4 : S.2.2.1 4 = S0.2.2.1 4) (h12 : S.2.2.2.2 12 = S0.2.2.2.2 12) (ht : gp_tx (S.2.1.2.2 1) (S.2.1.1 0) tx ty) (hN : gq_N S a o n m) (hc : 2 * n + 3 ≤ 3 * a) (ha : 1 ≤ a) (hty : a ≤ ty) : gq_clsQ tx ty S0 a o n m (gm_f_Reader_readClass S) := by
  rcases gq_cls0 S ht hN hc ha hty with h | ⟨h1, ⟨h2, h3⟩, h5⟩
  · exact Or.inl h
  · exact Or.inr ⟨h1, ⟨h2.trans h4, h3.trans h12⟩, gq_P_X h5 hX⟩
