/-! The class's reader against the machine over expressions: readPrimary. -/
theorem gq_inm_pk {tx : Nat → Int} {ty i : Nat} : gq_inm (gq_pk tx ty i) ↔ gq_inm (gp_pk tx ty i) := by
  unfold gq_inm gq_pk gp_pk
  split
  · exact Iff.rfl
  · omega
/-- the end of an expression, as the machine sees it -/
theorem gq_ms_cl {tx : Nat → Int} {ty a : Nat} {b p : Int} {is as : List Lean.ParserDescr} {fs : List gp_Fm} {nA nC : Nat} (h1 : ¬ gq_bp (gq_pk tx ty a)) (h2 : ¬ gq_pk tx ty a = 47) : gp_ms tx ty (a, 0, (b, p, is, as) :: fs, nA, nC) = if gp_pk tx ty a = gp_cg b then gp_cw tx ty (a + 1, 0, (b, p, is, as) :: fs, nA, nC) else .inl a := by
  have e : ∀ c : Int, 0 < c → (gp_pk tx ty a = c → gq_pk tx ty a = c) := fun c hc => (gq_pk_eq c hc).mpr
  rw [gq_ms_no (fun w => h1 (Or.inl (gq_inm_pk.mpr w))) (fun w => h1 (Or.inr (Or.inr (Or.inr (Or.inr (Or.inr (Or.inl (e 46 (by decide) w)))))))) (fun w => h1 (Or.inr (Or.inr (Or.inr (Or.inl (e 39 (by decide) w)))))) (fun w => h1 (Or.inr (Or.inr (Or.inr (Or.inr (Or.inl (e 91 (by decide) w))))))) (fun w => ?_), if_pos rfl]
  · unfold gp_sg
    rw [if_neg (fun w => ?_), if_neg (fun w => h2 (e 47 (by decide) w))]
    · rfl
    · rcases w with w | w
      · exact h1 (Or.inr (Or.inl (e 38 (by decide) w)))
      · exact h1 (Or.inr (Or.inr (Or.inl (e 33 (by decide) w))))
  · rcases w.1 with w | w
    · exact h1 (Or.inr (Or.inr (Or.inr (Or.inr (Or.inr (Or.inr (Or.inl (e 40 (by decide) w))))))))
    · exact h1 (Or.inr (Or.inr (Or.inr (Or.inr (Or.inr (Or.inr (Or.inr (e 123 (by decide) w))))))))
def gq_prR (tx : Nat → Int) (ty k : Nat) (S : gq_St) (a o n m : Nat) (p : Int) (F : gp_Fm) (fs : List gp_Fm) (nA nC : Nat) (z : Int32 × gq_St) : Prop := (∃ j, gq_bad tx ty (a, p, F :: fs, nA, nC) j ∧ gq_W z.2 j) ∨ (∃ e a' nA' nC', gq_to tx ty (a, p, F :: fs, nA, nC) (gp_pm tx ty e (a', p, F :: fs, nA', nC')) ∧ gq_P tx ty (5 * (6 - k) + 1) S a o n m 0 e a' z.2)
theorem gq_primary0 {tx : Nat → Int} {ty : Nat} (fx : Int32 → gq_St → Int32 × gq_St) (k : Nat) (hfx : k < 6 → gq_Hx tx ty fx (k + 1)) (x : Int32) (S : gq_St) (hx : x.toInt = k) (ht : gp_tx (S.2.1.2.2 1) (S.2.1.1 0) tx ty) {a o n m : Nat} (hN : gq_N S a o n m) (hc : 2 * n + 6 ≤ 3 * a) (ha : 1 ≤ a) (hty : a ≤ ty) : gq_prQ tx ty k S a o n m (gm_f_Reader_readPrimary fx x S) := by
  intro p F fs nA nC hl hp
  show gq_prR tx ty k S a o n m p F fs nA nC (gm_f_Reader_readPrimary fx x S)
  obtain ⟨Q, hQ⟩ : ∃ Q, Q = gq_prR tx ty k S a o n m p F fs nA nC := ⟨_, rfl⟩
  rw [← hQ]
  have ht' := ht
  obtain ⟨t1, t2, t3⟩ := ht'
  have hN' := hN
  obtain ⟨w0, pl, ho, h11, h12, hmo, hto⟩ := hN'
  have hn : n < 75 := by omega
  have l46 : (46 : Int32).toInt = 46 := gx_lit 46 (by decide)
  have l39 : (39 : Int32).toInt = 39 := gx_lit 39 (by decide)
  have l91 : (91 : Int32).toInt = 91 := gx_lit 91 (by decide)
  have l40 : (40 : Int32).toInt = 40 := gx_lit 40 (by decide)
  have l123 : (123 : Int32).toInt = 123 := gx_lit 123 (by decide)
  have l41 : (41 : Int32).toInt = 41 := gx_lit 41 (by decide)
  have l125 : (125 : Int32).toInt = 125 := gx_lit 125 (by decide)
  have l6 : (6 : Int32).toInt = 6 := gx_lit 6 (by decide)
  have n10 : ¬ (1 : Int32) = 0 := by decide
  unfold gm_f_Reader_readPrimary
  refine gq_cb (Q := Q) (gq_atQ tx ty a) (gq_at' _ _ ht pl) (fun r8 u8 h8 => ?_)
  have h8 : r8.toInt = gq_pk tx ty a := h8
  refine gq_cb (Q := Q) (gq_nmQ r8) (gq_isName r8) (fun r13 u13 h13 => ?_)
  have h13 : (r13 = 0 ∧ ¬ gq_inm r8.toInt) ∨ (r13 = 1 ∧ gq_inm r8.toInt) := h13
  rw [h8] at h13
  rcases h13 with ⟨e13, nm⟩ | ⟨e13, nm⟩
  · rw [e13, if_pos rfl]
    have bad : ¬ gq_pk tx ty a = 46 → ¬ gq_pk tx ty a = 39 → ¬ gq_pk tx ty a = 91 → ¬ ((gq_pk tx ty a = 40 ∨ gq_pk tx ty a = 123) ∧ k < 6) → ∀ z : gq_St, gq_W z a → Q (0, z) := by
      intro b1 b2 b3 b4 z hz
      rw [hQ]
      refine Or.inl ⟨a, gq_bad_1 ?_ hty, hz⟩
      have ee : ∀ c : Int, 0 < c → ¬ gq_pk tx ty a = c → ¬ gp_pk tx ty a = c := fun c hc w v => w ((gq_pk_eq c hc).mpr v)
      rw [gq_ms_no (fun w => nm (gq_inm_pk.mpr w)) (ee 46 (by decide) b1) (ee 39 (by decide) b2) (ee 91 (by decide) b3) (fun w => b4 ⟨w.1.elim (fun v => Or.inl ((gq_pk_eq 40 (by decide)).mpr v)) (fun v => Or.inr ((gq_pk_eq 123 (by decide)).mpr v)), by have := w.2; rw [List.length_cons] at this; omega⟩)]
      by_cases p0 : p = 0
      · rw [if_pos p0]
        rcases hp with hp | ⟨hp1, hp2, hp3⟩
        · exact absurd p0 hp
        · have cc : gq_pk tx ty a = 40 ∨ gq_pk tx ty a = 123 := by
            rcases hp1 with w | w | w | w | w | w | w | w
            · exact absurd w nm
            · exact absurd w hp2
            · exact absurd w hp3
            · exact absurd w b2
            · exact absurd w b3
            · exact absurd w b1
            · exact Or.inl w
            · exact Or.inr w
          have cg : gp_pk tx ty a = 40 ∨ gp_pk tx ty a = 123 := cc.elim (fun v => Or.inl ((gq_pk_eq 40 (by decide)).mp v)) (fun v => Or.inr ((gq_pk_eq 123 (by decide)).mp v))
          have cgb : ∀ b : Int, gp_cg b = 41 ∨ gp_cg b = 125 ∨ gp_cg b = 59 := by
            intro b
            unfold gp_cg
            split
            · exact Or.inl rfl
            · split
              · exact Or.inr (Or.inl rfl)
              · exact Or.inr (Or.inr rfl)
          unfold gp_sg
          rw [if_neg (by omega), if_neg (by omega), if_neg (by have := cgb (gp_tb (F :: fs)); show ¬ gp_pk tx ty a = gp_cg (gp_tb (F :: fs)); omega)]
      · rw [if_neg p0]
    have brk : ∀ (b : Int), (b = 40 ∨ b = 123) → gq_pk tx ty a = b → k < 6 → gp_ms tx ty (a, p, F :: fs, nA, nC) = .inr (.inl (a + 1, 0, (b, p, [], []) :: F :: fs, nA, nC)) := by
      intro b hb hb2 hk
      have e : gp_pk tx ty a = b := (gq_pk_eq b (by omega)).mp hb2
      rw [gq_ms_br (by rw [e]; exact hb) (by rw [List.length_cons]; omega), e]
    refine gq_cb (Q := Q) (gq_tkQ tx ty 46 a) (gq_take' 46 _ ht w0 pl (by omega)) (fun r48 u48 h48 => ?_)
    rcases h48 with ⟨c1, c2, c3⟩ | ⟨c1, c2, c3⟩
    · have c2 : r48 = 1 := c2
      rw [l46] at c1
      have lt := gq_pk_lt (tx := tx) (ty := ty) (i := a) (by omega)
      rw [c2, if_neg n10]
      refine gq_cb (Q := Q) (gq_psQ S 32 126 (a + 1) o n m) (gq_pset' 32 126 _ _ ⟨fun _ _ => ⟨rfl, rfl, rfl, rfl, rfl, rfl, rfl, rfl⟩, fun _ _ => rfl, fun _ _ => rfl, rfl, rfl, rfl, rfl⟩ rfl rfl (gq_N_E hN ⟨rfl, rfl, rfl, rfl, rfl, rfl, rfl, rfl, rfl, rfl, rfl, rfl, rfl, rfl⟩ c3) hn (by decide) (by decide) (by decide)) (fun r59 u59 h59 => ?_)
      obtain ⟨⟨e4, e12⟩, ⟨p0, p1, p2, p3, p4, p5, p6⟩, pX, p7, p8, p9⟩ := h59
      have p7 : (u59.1.1 2 o).toInt = n := p7
      rw [hQ]
      refine Or.inr ⟨gp_e0 2 (a + 1) (a + 1), a + 1, nA, nC, gq_to_1 (gq_ms_dot ((gq_pk_eq 46 (by decide)).mp c1)), n + 1, m, ⟨w0, c3, p2, p3, h12, by omega, p6⟩, ⟨pX.1, fun i hi => rfl, pX.2.2.1, rfl, rfl, rfl, rfl⟩, by omega, Nat.le_refl m, by omega, by omega, by omega, (show (u59.1.1 2 o).toInt + 1 = _ by omega), ?_, ?_⟩
      · refine ⟨?_, gq_C_lf (by show (u59.2.2.1 0 (n + 1 - 1)).toInt ≤ 1; rw [show n + 1 - 1 = n by omega]; exact Int.le_of_lt_add_one (by have p8 : (u59.2.2.1 0 n).toInt = 0 := p8; omega)) (Nat.le_refl 1)⟩
        show gq_R tx ty (u59.2.2.1 0) (u59.2.2.1 1) (u59.2.2.1 2) (u59.2.2.1 3) (S.2.2.1 4) (u59.2.2.2.1 7) (u59.2.2.2.1 8) (n + 1 - 1) (gp_e0 2 (a + 1) (a + 1))
        rw [show n + 1 - 1 = n by omega, gq_R]
        refine Or.inl ⟨p8, a + 1, a + 1, rfl, fun d d1 d2 => (p9 d d1 d2).trans ⟨fun h => Or.inl ⟨rfl, d1, d2⟩, fun _ => ?_⟩⟩
        have l32 : (32 : Int32).toInt = 32 := gx_lit 32 (by decide)
        have l126 : (126 : Int32).toInt = 126 := gx_lit 126 (by decide)
        omega
      · intro d d1 d2 d3
        have : d = n := by omega
        rw [this] at d3
        exact absurd p8 d3
    have c2 : r48 = 0 := c2
    rw [l46] at c1
    rw [c2, if_pos rfl]
    refine gq_cb (Q := Q) (gq_tkQ tx ty 39 a) (gq_take' 39 _ ht w0 c3 (by omega)) (fun r68 u68 h68 => ?_)
    rcases h68 with ⟨d1, d2, d3⟩ | ⟨d1, d2, d3⟩
    · have d2 : r68 = 1 := d2
      rw [l39] at d1
      have lt := gq_pk_lt (tx := tx) (ty := ty) (i := a) (by omega)
      rw [d2, if_neg n10]
      refine gq_cb (Q := Q) (gq_rowQ tx ty S (a + 1) o n m) (gq_row _ _ ⟨fun _ _ => ⟨rfl, rfl, rfl, rfl, rfl, rfl, rfl, rfl⟩, fun _ _ => rfl, fun _ _ => rfl, rfl, rfl, rfl, rfl⟩ ht (gq_N_E hN ⟨rfl, rfl, rfl, rfl, rfl, rfl, rfl, rfl, rfl, rfl, rfl, rfl, rfl, rfl⟩ d3) (by omega) (by omega) (by omega)) (fun r75 u75 h75 => ?_)
      rw [hQ]
      have mr := gq_ms_row (p := p) (fs := F :: fs) (nA := nA) (nC := nC) ((gq_pk_eq (tx := tx) (ty := ty) (i := a) 39 (by decide)).mp d1)
      rcases h75 with ⟨g1, g2⟩ | ⟨g1, g2⟩
      · rw [if_pos g1] at mr
        exact Or.inl ⟨_, gq_bad_1 mr hty, g2⟩
      · rw [if_neg g1] at mr
        refine Or.inr ⟨_, _, nA, nC, gq_to_1 mr, gq_P_E (gq_P_k (show 1 ≤ 5 * (6 - k) + 1 by omega) g2) (gq_X_r S o n m) ⟨rfl, rfl, rfl, rfl, rfl, rfl, rfl, rfl, rfl, rfl, rfl, rfl, rfl, rfl⟩ ⟨rfl, rfl, rfl, rfl⟩ ?_ (Nat.le_refl _) ?_ (by omega) (by omega)⟩
        · obtain ⟨n', m', q1, -⟩ := g2
          exact q1.2.1
        · obtain ⟨n', m', -, -, -, -, -, q6, -⟩ := g2
          exact q6
    have d2 : r68 = 0 := d2
    rw [l39] at d1
    rw [d2, if_pos rfl]
    refine gq_cb (Q := Q) (gq_tkQ tx ty 91 a) (gq_take' 91 _ ht w0 d3 (by omega)) (fun r84 u84 h84 => ?_)
    rcases h84 with ⟨f1, f2, f3⟩ | ⟨f1, f2, f3⟩
    · have f2 : r84 = 1 := f2
      rw [l91] at f1
      have lt := gq_pk_lt (tx := tx) (ty := ty) (i := a) (by omega)
      rw [f2, if_neg n10]
      refine gq_cb (Q := Q) (gq_clsQ tx ty S (a + 1) o n m) (gq_cls _ _ ⟨fun _ _ => ⟨rfl, rfl, rfl, rfl, rfl, rfl, rfl, rfl⟩, fun _ _ => rfl, fun _ _ => rfl, rfl, rfl, rfl, rfl⟩ rfl rfl ht (gq_N_E hN ⟨rfl, rfl, rfl, rfl, rfl, rfl, rfl, rfl, rfl, rfl, rfl, rfl, rfl, rfl⟩ f3) (by omega) (by omega) (by omega)) (fun r91 u91 h91 => ?_)
      rw [hQ]
      have mr := gq_ms_cls (p := p) (fs := F :: fs) (nA := nA) (nC := nC) ((gq_pk_eq (tx := tx) (ty := ty) (i := a) 91 (by decide)).mp f1)
      rcases h91 with ⟨g1, g2⟩ | ⟨g1, ⟨g4, g12⟩, g2⟩
      · rw [if_pos g1] at mr
        exact Or.inl ⟨_, gq_bad_1 mr hty, g2⟩
      · rw [if_neg g1] at mr
        have g4 : u91.2.2.1 4 = S.2.2.1 4 := g4
        have g12 : u91.2.2.2.2 12 = S.2.2.2.2 12 := g12
        refine Or.inr ⟨_, _, nA, nC, gq_to_1 mr, gq_P_E (gq_P_k (show 1 ≤ 5 * (6 - k) + 1 by omega) g2) (gq_X_r S o n m) ⟨rfl, rfl, rfl, rfl, rfl, rfl, rfl, g4.symm, rfl, rfl, rfl, g12.symm, rfl, rfl⟩ ⟨rfl, rfl, rfl, rfl⟩ ?_ (Nat.le_refl _) ?_ (by omega) (by omega)⟩
        · obtain ⟨n', m', q1, -⟩ := g2
          exact q1.2.1
        · obtain ⟨n', m', -, -, -, -, -, q6, -⟩ := g2
          exact q6
    have f2 : r84 = 0 := f2
    rw [l91] at f1
    rw [f2, if_pos rfl]
    have ax := gx_ak x 1 1 (by decide)
    refine gq_if (Q := Q) (fun k6 => ?_) (fun k6 => ?_)
    · rw [Int32.le_iff_toInt_le, l6] at k6
      refine gq_if (Q := Q) (fun _ => bad c1 d1 f1 (fun w => by omega) _ ⟨rfl, f3⟩) (fun k7 => ?_)
      rw [Int32.le_iff_toInt_le, l6] at k7
      exact absurd k6 k7
    rw [Int32.le_iff_toInt_le, l6] at k6
    have hk : k < 6 := by omega
    refine gq_cb (Q := Q) (gq_tkQ tx ty 40 a) (gq_take' 40 _ ht w0 f3 (by omega)) (fun r106 u106 h106 => ?_)
    rcases h106 with ⟨g1, g2, g3⟩ | ⟨g1, g2, g3⟩
    · have g2 : r106 = 1 := g2
      rw [l40] at g1
      have lt := gq_pk_lt (tx := tx) (ty := ty) (i := a) (by omega)
      rw [g2, if_neg n10]
      have st := gq_to_1 (brk 40 (Or.inl rfl) g1 hk)
      refine gq_cb (Q := Q) (gq_exQ tx ty (k + 1) S (a + 1) o n m) (hfx hk (x + 1) _ _ (a + 1) o n m ⟨fun _ _ => ⟨rfl, rfl, rfl, rfl, rfl, rfl, rfl, rfl⟩, fun _ _ => rfl, fun _ _ => rfl, rfl, rfl, rfl, rfl⟩ (by omega) ht (gq_N_E hN ⟨rfl, rfl, rfl, rfl, rfl, rfl, rfl, rfl, rfl, rfl, rfl, rfl, rfl, rfl⟩ g3) (by omega) (by omega) (by omega)) (fun r116 u116 h116 => ?_)
      rcases h116 40 p (F :: fs) nA nC (by rw [List.length_cons, hl]) with ⟨j, j1, j2⟩ | ⟨is, as, a2, nA2, nC2, j1, j2, j3, j4⟩
      · refine gq_cb (Q := Q) (gq_nwQ u116) (gq_need_w' 41 _ _ j2.1 rfl) (fun r122 u122 h122 => ?_)
        rw [hQ]
        exact Or.inl ⟨j, gq_to_b st j1, h122.2, by show (u122.1.2.2 4).toInt = _; rw [h122.1]; exact j2.2⟩
      · have j4' := j4
        obtain ⟨n', m', q1, q2, q3, q4, q5, q6, q7, q8, q9, q10⟩ := j4'
        have mc := gq_ms_cl (b := 40) (p := p) (is := is) (as := as) (fs := F :: fs) (nA := nA2) (nC := nC2) j2 j3
        rw [show gp_cg 40 = 41 from if_pos rfl] at mc
        refine gq_cb (Q := Q) (gq_neQ tx ty 41 a2) (gq_need' 41 _ ht q1.1 q1.2.1 (by omega)) (fun r122 u122 h122 => ?_)
        rw [hQ]
        rcases h122 with ⟨i1, i2, i3⟩ | ⟨i1, i2, i3⟩
        · rw [l41] at i1
          have lt2 := gq_pk_lt (tx := tx) (ty := ty) (i := a2) (by omega)
          rw [if_pos ((gq_pk_eq (tx := tx) (ty := ty) (i := a2) 41 (by decide)).mp i1)] at mc
          refine Or.inr ⟨_, a2 + 1, _, _, gq_to_t (gq_to_t st j1) (gq_to_1 mc), gq_P_E (gq_P_k (show 5 * (6 - (k + 1)) + 5 ≤ 5 * (6 - k) + 1 by omega) j4) (gq_X_r S o n m) ⟨i3.trans q1.1.symm, rfl, rfl, rfl, rfl, rfl, rfl, rfl, rfl, rfl, rfl, rfl, rfl, rfl⟩ ⟨rfl, rfl, rfl, rfl⟩ i2 (by omega) (by omega) (by omega) (by omega)⟩
        · rw [l41] at i1
          rw [if_neg (fun w => i1 ((gq_pk_eq (tx := tx) (ty := ty) (i := a2) 41 (by decide)).mpr w))] at mc
          exact Or.inl ⟨a2, gq_to_b st (gq_to_b j1 (gq_bad_1 mc q6)), i3, i2⟩
    have g2 : r106 = 0 := g2
    rw [l40] at g1
    rw [g2, if_pos rfl]
    refine gq_if (Q := Q) (fun k7 => ?_) (fun k7 => ?_)
    · rw [Int32.le_iff_toInt_le, l6] at k7
      exact absurd k7 k6
    refine gq_cb (Q := Q) (gq_tkQ tx ty 123 a) (gq_take' 123 _ ht w0 g3 (by omega)) (fun r137 u137 h137 => ?_)
    rcases h137 with ⟨y1, y2, y3⟩ | ⟨y1, y2, y3⟩
    · have y2 : r137 = 1 := y2
      rw [l123] at y1
      have lt := gq_pk_lt (tx := tx) (ty := ty) (i := a) (by omega)
      rw [y2, if_neg n10]
      have st := gq_to_1 (brk 123 (Or.inr rfl) y1 hk)
      refine gq_cb (Q := Q) (gq_exQ tx ty (k + 1) S (a + 1) o n m) (hfx hk (x + 1) _ _ (a + 1) o n m ⟨fun _ _ => ⟨rfl, rfl, rfl, rfl, rfl, rfl, rfl, rfl⟩, fun _ _ => rfl, fun _ _ => rfl, rfl, rfl, rfl, rfl⟩ (by omega) ht (gq_N_E hN ⟨rfl, rfl, rfl, rfl, rfl, rfl, rfl, rfl, rfl, rfl, rfl, rfl, rfl, rfl⟩ y3) (by omega) (by omega) (by omega)) (fun r152 u152 h152 => ?_)
      rcases h152 123 p (F :: fs) nA nC (by rw [List.length_cons, hl]) with ⟨j, j1, j2⟩ | ⟨is, as, a2, nA2, nC2, j1, j2, j3, j4⟩
      · refine gq_cb (Q := Q) (gq_nwQ u152) (gq_need_w' 125 _ _ j2.1 rfl) (fun r158 u158 h158 => ?_)
        refine gq_cb (Q := Q) (fun _ => True) trivial (fun r165 u165 _ => ?_)
        rw [hQ]
        exact Or.inl ⟨j, gq_to_b st j1, h158.2, by show (u158.1.2.2 4).toInt = _; rw [h158.1]; exact j2.2⟩
      · have j4' := j4
        obtain ⟨n', m', q1, q2, q3, q4, q5, q6, q7, q8, q9, q10⟩ := j4'
        have mc := gq_ms_cl (b := 123) (p := p) (is := is) (as := as) (fs := F :: fs) (nA := nA2) (nC := nC2) j2 j3
        rw [show gp_cg 123 = 125 from (if_neg (by decide)).trans (if_pos rfl)] at mc
        refine gq_cb (Q := Q) (gq_neQ tx ty 125 a2) (gq_need' 125 _ ht q1.1 q1.2.1 (by omega)) (fun r158 u158 h158 => ?_)
        rcases h158 with ⟨i1, i2, i3⟩ | ⟨i1, i2, i3⟩
        · rw [l125] at i1
          have lt2 := gq_pk_lt (tx := tx) (ty := ty) (i := a2) (by omega)
          rw [if_pos ((gq_pk_eq (tx := tx) (ty := ty) (i := a2) 125 (by decide)).mp i1)] at mc
          refine gq_cb (Q := Q) (gq_j1Q tx ty (5 * (6 - (k + 1)) + 5 + 1) S (a + 1) o n m 3 (gp_e1 10 (gp_jn 5 (gp_jn 4 is :: as))) (a2 + 1)) (gq_join1V 9 (S.1.2.2 3) _ j4 ⟨i3.trans q1.1.symm, rfl, rfl, rfl, rfl, rfl, rfl, rfl, rfl, rfl, rfl, rfl, rfl, rfl⟩ ⟨rfl, rfl, rfl, rfl⟩ i2 (by omega) (by omega) ho (Or.inr (Or.inr (Or.inr (Or.inr (Or.inr ⟨gx_lit 9 (by decide), rfl⟩))))) t2 (by omega) (by omega)) (fun r165 u165 h165 => ?_)
          have h165 : gq_P tx ty (5 * (6 - (k + 1)) + 5 + 1) S (a + 1) o n m 3 (gp_e1 10 (gp_jn 5 (gp_jn 4 is :: as))) (a2 + 1) u165 := h165
          rw [hQ]
          refine Or.inr ⟨_, a2 + 1, _, _, gq_to_t (gq_to_t st j1) (gq_to_1 mc), gq_P_E (gq_P_k (show 5 * (6 - (k + 1)) + 5 + 1 ≤ 5 * (6 - k) + 1 by omega) h165) (gq_X_r S o n m) ⟨?_, rfl, rfl, rfl, rfl, rfl, rfl, rfl, rfl, rfl, rfl, rfl, rfl, rfl⟩ ⟨rfl, rfl, rfl, rfl⟩ i2 (by omega) (by omega) (by omega) (by omega)⟩
          obtain ⟨n2, m2, q1', -⟩ := h165
          exact i3.trans q1'.1.symm
        · rw [l125] at i1
          rw [if_neg (fun w => i1 ((gq_pk_eq (tx := tx) (ty := ty) (i := a2) 125 (by decide)).mpr w))] at mc
          refine gq_cb (Q := Q) (fun _ => True) trivial (fun r165 u165 _ => ?_)
          rw [hQ]
          exact Or.inl ⟨a2, gq_to_b st (gq_to_b j1 (gq_bad_1 mc q6)), i3, i2⟩
    · have y2 : r137 = 0 := y2
      rw [l123] at y1
      rw [y2, if_pos rfl]
      exact bad c1 d1 f1 (fun w => w.1.elim g1 y1) _ ⟨rfl, y3⟩
  · rw [e13, if_neg n10]
    have lt := gq_pk_lt (tx := tx) (ty := ty) (i := a) (by have := nm.1; omega)
    have ap := gx_ak (S.1.2.2 4) 1 1 (by decide)
    refine gq_cb (Q := Q) (gq_adQ 1 r8 S.2.2 n) (gq_add' 1 r8 S.2.2 h11 hn) (fun r36 u36 h36 => ?_)
    obtain ⟨d1, d2, d3, d4, d5, d6, d7, d8, d9, d10⟩ := h36
    have d1 : r36.toInt = n := d1
    have d2 : u36.1 0 = upd (S.2.2.1 0) n 1 := d2
    have d3 : u36.1 1 = upd (S.2.2.1 1) n r8 := d3
    have d4 : u36.1 2 = upd (S.2.2.1 2) n (S.2.2.2.2 12) := d4
    have d5 : u36.1 3 = upd (S.2.2.1 3) n (S.2.2.2.2 12) := d5
    have d6 : u36.2.1 7 = vp_updL (S.2.2.2.1 7) n 0 := d6
    have d7 : u36.2.1 8 = vp_updL (S.2.2.2.1 8) n 0 := d7
    have d9 : u36.1 5 = upd (S.2.2.1 5) n (vp_nar .boolean 0) := d9
    have d10 : u36.1 6 = upd (S.2.2.1 6) n 0 := d10
    refine gq_cb (Q := Q) (gq_puQ S r36 o) (gq_push' r36 _ _ rfl ho (by omega)) (fun r39 u39 h39 => ?_)
    obtain ⟨g1, g2⟩ := h39
    have g1 : u39.1.1 2 = upd (S.1.1 2) o r36 := g1
    have l1 : (1 : Int32).toInt = 1 := by decide
    have RR : gq_R tx ty (u36.1 0) (u36.1 1) (u36.1 2) (u36.1 3) (S.2.2.1 4) (u36.2.1 7) (u36.2.1 8) n (gp_e0 3 (gp_pk tx ty a).toNat 0) := by
      rw [gq_R]
      refine Or.inr (Or.inl ⟨?_, (gp_pk tx ty a).toNat, rfl, ?_⟩)
      · rw [d2, gx_us]; exact l1
      · rw [d3, gx_us, h8]
        have := nm.1
        omega
    rw [hQ]
    have XX : gq_X S ((va_up S.1.1 2 (u39.1.1 2), S.1.2.1, va_up (va_up S.1.2.2 4 (S.1.2.2 4 + 1)) 3 (u39.1.2.2 3)), S.2.1, ((va_up (va_up (va_up (va_up (va_up (va_up S.2.2.1 0 (u36.1 0)) 1 (u36.1 1)) 2 (u36.1 2)) 3 (u36.1 3)) 5 (u36.1 5)) 6 (u36.1 6)), (va_up (va_up S.2.2.2.1 7 (u36.2.1 7)) 8 (u36.2.1 8)), (va_up S.2.2.2.2 11 (u36.2.2 11)))) o n m := by
      refine ⟨fun d hd => ⟨?_, ?_, ?_, ?_, ?_, ?_, ?_, ?_⟩, fun i hi => rfl, fun i hi => ?_, rfl, rfl, rfl, rfl⟩
      · show u36.1 0 d = _
        rw [d2]; exact gx_un _ _ _ (by omega)
      · show u36.1 1 d = _
        rw [d3]; exact gx_un _ _ _ (by omega)
      · show u36.1 2 d = _
        rw [d4]; exact gx_un _ _ _ (by omega)
      · show u36.1 3 d = _
        rw [d5]; exact gx_un _ _ _ (by omega)
      · show u36.2.1 7 d = _
        rw [d6]; exact gx_lun _ _ _ (by omega)
      · show u36.2.1 8 d = _
        rw [d7]; exact gx_lun _ _ _ (by omega)
      · show u36.1 5 d = _
        rw [d9]; exact gx_un _ _ _ (by omega)
      · show u36.1 6 d = _
        rw [d10]; exact gx_un _ _ _ (by omega)
      · show u39.1.1 2 i = _
        rw [g1]; exact gx_un _ _ _ (by omega)
    refine Or.inr ⟨gp_e0 3 (gp_pk tx ty a).toNat 0, a + 1, nA, nC, gq_to_1 (gq_ms_nm (gq_inm_pk.mp nm)), n + 1, m, ⟨w0, ?_, g2, d8, h12, by omega, fun d hd => ?_⟩, ⟨XX.1, fun i hi => rfl, XX.2.2.1, rfl, rfl, rfl, rfl⟩, by omega, Nat.le_refl m, by omega, by omega, by omega, ?_, ?_, ?_⟩
    · show (S.1.2.2 4 + 1).toInt = _
      omega
    · by_cases q : d = n
      · rw [q]
        refine ⟨?_, ?_, ?_, fun _ c => ?_, fun h => absurd (show (u36.1 0 n).toInt = 0 from h) (by rw [d2, gx_us]; decide)⟩
        · show (u36.1 3 n).toInt ≤ m
          rw [d5, gx_us]; omega
        · show u36.1 5 n = 0
          rw [d9, gx_us]; decide
        · show u36.1 6 n = 0
          rw [d10, gx_us]
        · show ¬ gp_ih (u36.2.1 7) (u36.2.1 8) n c
          rw [d6, d7]; exact gq_ih0 _ _ n c
      · have nf := gq_nf_X (hto d (by omega)) XX (by omega) (Nat.le_refl m)
        exact nf
    · show (u39.1.1 2 o).toInt + 1 = _
      rw [g1, gx_us]; omega
    · rw [show n + 1 - 1 = n by omega]
      exact ⟨RR, gq_C_lf (by show (u36.1 0 n).toInt ≤ 1; rw [d2, gx_us]; decide) (Nat.le_refl 1)⟩
    · intro d e1 e2 e3
      have : d = n := by omega
      rw [this]
      exact ⟨_, List.mem_singleton.mpr rfl, _, gp_sb_me _, RR⟩
theorem gq_primary {tx : Nat → Int} {ty : Nat} (fx : Int32 → gq_St → Int32 × gq_St) (k : Nat) (hfx : k < 6 → gq_Hx tx ty fx (k + 1)) (x : Int32) (S0 S : gq_St) {a o n m : Nat} (hX : gq_X S0 S o n m) (hx : x.toInt = k) (ht : gp_tx (S.2.1.2.2 1) (S.2.1.1 0) tx ty) (hN : gq_N S a o n m) (hc : 2 * n + 6 ≤ 3 * a) (ha : 1 ≤ a) (hty : a ≤ ty) : gq_prQ tx ty k S0 a o n m (gm_f_Reader_readPrimary fx x S) := by
  intro p F fs nA nC hl hp
  rcases gq_primary0 fx k hfx x S hx ht hN hc ha hty p F fs nA nC hl hp with h | ⟨e, a', nA', nC', h1, h2⟩
  · exact Or.inl h
  · exact Or.inr ⟨e, a', nA', nC', h1, gq_P_X h2 hX⟩
