/-! The class writes code: every node. -/
theorem gt_ch_of {X : gt_X} {T : gm_S} {fx : Int32 → Int32 → gt_St → Int32 × gt_St} {y : Int32} {Rc : Nat → Lean.ParserDescr → Prop} {Pc : Nat → Nat → Prop} (hA : ∀ (p : Int32) e w, 0 ≤ p.toInt → Rc (Int32.toNatClampNeg p) e → Pc (Int32.toNatClampNeg p) w → gt_fx X T fx p (y + 1) w e ∧ (T.1 5 (Int32.toNatClampNeg p) = 0 ↔ ¬ X.2.1 e) ∧ X.1 p (X.2.2.1 e)) : ∀ (els : List Lean.ParserDescr) (ws : List Nat) (i : Nat), els.length = ws.length → gq_fw Rc (T.1 4) els i → gq_fww Pc (T.1 4) ws i → gt_ch X T fx y (els.zip ws) i := by
  intro els
  induction els with
  | nil => intro ws i _ _ _; exact trivial
  | cons e r ih =>
    intro ws i hl h1 h2
    cases ws with
    | nil => exact absurd hl (by rw [List.length_cons]; show ¬ _ = 0; omega)
    | cons w ws =>
      have a := hA (T.1 4 i) e w h1.1 h1.2.1 h2.1
      exact ⟨a.1, a.2.1, a.2.2, ih ws (i + 1) (by rw [List.length_cons, List.length_cons] at hl; omega) h1.2.2 h2.2⟩
theorem gt_ch_cs {X : gt_X} {T : gm_S} {fx : Int32 → Int32 → gt_St → Int32 × gt_St} {y : Int32} : ∀ (L : List (Lean.ParserDescr × Nat)) (i : Nat), gt_ch X T fx y L i → gt_cs X T fx y L i := by
  intro L
  induction L with
  | nil => intro i _; exact trivial
  | cons p r ih => intro i h; exact ⟨h.1, ih (i + 1) h.2.2.2⟩
theorem gt_zip_f : ∀ (els : List Lean.ParserDescr) (ws : List Nat), els.length = ws.length → (els.zip ws).map Prod.fst = els ∧ gt_sw (els.zip ws) = ws.sum ∧ (els.zip ws).length = els.length := by
  intro els
  induction els with
  | nil =>
    intro ws h
    cases ws with
    | nil => exact ⟨rfl, rfl, rfl⟩
    | cons w ws => exact absurd h (by rw [List.length_cons]; show ¬ 0 = _; omega)
  | cons e r ih =>
    intro ws h
    cases ws with
    | nil => exact absurd h (by rw [List.length_cons]; show ¬ _ = 0; omega)
    | cons w ws =>
      obtain ⟨a, b, c⟩ := ih ws (by rw [List.length_cons, List.length_cons] at h; omega)
      refine ⟨congrArg (e :: ·) a, ?_, ?_⟩
      · rw [List.sum_cons, ← b]; rfl
      · show (r.zip ws).length + 1 = r.length + 1
        rw [c]
theorem gt_cw_e : ∀ (L : List (Lean.ParserDescr × Nat)), gt_cw L = gt_sw L + 3 * (L.length - 1) := by
  intro L
  induction L with
  | nil => rfl
  | cons p r ih =>
    cases r with
    | nil => rfl
    | cons q r =>
      show p.2 + 3 + gt_cw (q :: r) = p.2 + gt_sw (q :: r) + 3 * (r.length + 1 + 1 - 1)
      rw [ih]
      show p.2 + 3 + (gt_sw (q :: r) + 3 * (r.length + 1 - 1)) = _
      omega
theorem gt_rowc {X : gt_X} {T : gm_S} {F : Nat} {y : Int32} {tx : Nat → Int} (hX : X.2.2.2.1 = tx) (hy : y + 1 < 40) {Pc : Nat → Nat → Prop} (hP : ∀ d w, T.1 0 d = 0 → Pc d w → 1 ≤ w) : ∀ (m a i : Nat) (ws : List Nat), ws.length = m → (∀ j, j < m → T.1 0 (Int32.toNatClampNeg (T.1 4 (i + j))) = 0 ∧ X.1 (T.1 4 (i + j)) (fun c => c = tx (a + j))) → gq_fww Pc (T.1 4) ws i → gt_cs X T (gm_g_Code_writeNode (F + 1)) y ((gt_rl a m).zip ws) i := by
  intro m
  induction m with
  | zero => intro a i ws _ _ _; exact trivial
  | succ m ih =>
    intro a i ws hl hs hw
    cases ws with
    | nil => exact absurd hl (by show ¬ 0 = m + 1; omega)
    | cons w ws =>
      have h0 := hs 0 (by omega)
      refine ⟨gt_take (C := fun c => c = tx a) hy h0.1 h0.2 (hP _ _ h0.1 hw.1) (fun op od tg n o1 o2 => ?_), ih (a + 1) (i + 1) ws (by rw [List.length_cons] at hl; omega) (fun j hj => ?_) hw.2⟩
      · refine ⟨by decide, fun q => absurd q (by decide), fun _ => ⟨rfl, fun j hj => ?_⟩, fun q => absurd q (by decide), fun q => absurd q (by decide)⟩
        have hj : j < 1 := hj
        have : j = 0 := by omega
        subst this
        rw [hX]
        exact ⟨o1, o2⟩
      · have := hs (j + 1) (by omega)
        rw [show i + (j + 1) = i + 1 + j by omega, show a + (j + 1) = a + 1 + j by omega] at this
        exact this
theorem gt_rl_len (a : Nat) : ∀ m, (gt_rl a m).length = m := by
  intro m
  induction m generalizing a with
  | zero => rfl
  | succ m ih => show (gt_rl (a + 1) m).length + 1 = m + 1; rw [ih]
theorem gt_lit {v : Int32} {k : Int} {n : Int32} (h : v.toInt = k) (hn : n.toInt = k) : v = n := Int32.toInt_inj.mp (by rw [h, hn])
set_option maxHeartbeats 4000000 in
theorem gt_node {tx : Nat → Int} {ty R nn : Nat} {f : Nat → Int × Lean.ParserDescr} {T0 T : gm_S} (h : gt_tree tx ty R f T0 T nn) (hk : gq_kn T0 nn R) : ∀ (k d w : Nat) (e : Lean.ParserDescr), d < nn → gq_Tr tx ty T0 d e → gq_C (T0.1 0) (T0.1 2) (T0.1 3) (T0.1 4) k d w → ∀ (F : Nat) (x y : Int32), k < F → x.toInt = (d : Nat) → 0 ≤ y.toInt → y.toInt + k < 40 → gt_fx (gt_ctx tx ty R f T) T (gm_g_Code_writeNode F) x y w e := by
  intro k
  induction k with
  | zero =>
    intro d w e hd r hC F x y hF hx hy hy2
    cases F with
    | zero => exact absurd hF (by omega)
    | succ F =>
      have cx : Int32.toNatClampNeg x = d := by have := gx_cl x (by omega); omega
      have yl : y < 40 := by rw [Int32.lt_iff_toInt_lt, gx_lit 40 (by decide)]; omega
      obtain ⟨t0, t1, t2, t3, t4, t9, t10, t11, t13⟩ := h.2.1
      have hC : (T0.1 0 d).toInt ≤ 1 ∧ 1 ≤ w := hC
      have r' := r
      unfold gq_Tr at r'
      rw [gq_R] at r'
      rcases r' with ⟨k0, a, b, ee, hb⟩ | ⟨k1, c, ee, hc⟩ | ⟨lo, hi, -, -, r2⟩
      · subst ee
        refine gt_take (C := gq_st tx ty a b) yl (by rw [cx, t0]; exact gt_lit k0 (by decide)) ⟨by omega, ?_, fun c c1 c2 => ?_⟩ hC.2 (fun op od tg n o1 o2 => ⟨by decide, fun q => absurd q (by decide), fun q => absurd q (by decide), fun _ => ⟨rfl, o1, o2⟩, fun q => absurd q (by decide)⟩)
        · rw [t11, h.1.1.1]; omega
        · rw [cx, (h.2.2.2.2 c c1 c2).2 d hd k0]; exact hb c c1 c2
      · subst ee
        intro S n op od tg hT hn h200 e1 e2 e3
        rw [gm_g_Code_writeNode]
        unfold gm_f_Code_writeNode
        rw [if_pos yl]
        refine gf_ca (Q := gt_W (gt_ctx tx ty R f T) op od tg n w (gp_e0 3 c 0)) (fun _ => True) trivial (fun _ _ _ => ?_)
        have kk : T.1 0 (Int32.toNatClampNeg x) = 1 := by rw [cx, t0]; exact gt_lit k1 (by decide)
        rw [hT, if_neg (by rw [kk]; decide), if_pos kk, cx, t1]
        refine gf_ca (Q := gt_W (gt_ctx tx ty R f T) op od tg n w (gp_e0 3 c 0)) (gq_ruQ T (T0.1 1 d) R) (gq_ruleOf (T0.1 1 d) T T rfl (by rw [t13]; exact h.1.1.2.2.1) h.1.1.2.2.2.1) (fun r106 u106 h106 => ?_)
        have fx1 : r106.toInt = ((gq_fx f (c : Int) R : Nat) : Int) := by
          have e0 := gq_RT_nm h.1 hc
          have lt := hk d hd k1
          rcases gq_ix_s (T0.1 9) (T0.1 1 d) R with ⟨i1, i2, i3⟩ | ⟨i1, -⟩
          · rcases h106 with ⟨-, q⟩ | ⟨r', q1, q2, q3, q4⟩
            · rw [t9] at q
              exact absurd i2 (q _ i1)
            · rw [t9] at q3 q4
              have q2 : r106.toInt = (r' : Nat) := q2
              have : r' = gq_ix (T0.1 9) (T0.1 1 d) R := by
                rcases Nat.lt_trichotomy r' (gq_ix (T0.1 9) (T0.1 1 d) R) with t | t | t
                · exact absurd q3 (i3 r' t)
                · exact t
                · exact absurd i2 (q4 _ t)
              rw [q2, this, e0]
          · omega
        refine gf_ca (Q := gt_W (gt_ctx tx ty R f T) op od tg n w (gp_e0 3 c 0)) (gt_aQ op od tg 8 r106 n) (gt_add 8 r106 _ hn (by omega) e1 e2 e3) (fun r u hu => ?_)
        obtain ⟨a1, a2, a3, a4, a5⟩ := hu
        have a3 : u.1.1 1 = upd op n 8 := a3
        have a4 : u.1.1 2 = upd od n r106 := a4
        have a5 : u.1.1 3 = upd tg n (-1) := a5
        refine ⟨n + 1, a2, by omega, ?_, ?_, fun k k1 k2 k3 => ?_⟩
        · show gt_L (gt_ctx tx ty R f T) (u.1.1 1) (u.1.1 2) (u.1.1 3) (gp_e0 3 c 0) n (n + 1)
          rw [a3, a4, a5]
          exact ⟨by decide, fun q => absurd q (by decide), fun q => absurd q (by decide), fun q => absurd q (by decide), fun _ => ⟨rfl, gx_us _ _ _, by rw [gx_us]; exact fx1⟩⟩
        · show gt_sm op od tg (u.1.1 1) (u.1.1 2) (u.1.1 3) 0 n
          rw [a3, a4, a5]
          exact gt_sm_u _ _ _ _ _ _ _
        · have k3 : u.1.1 1 k = 5 := k3
          have : k = n := by omega
          rw [a3, this, gx_us] at k3
          exact absurd k3 (by decide)
      · exfalso
        rcases r2 with ⟨q, -⟩ | ⟨q, -⟩ | ⟨q, -⟩ | ⟨x', -, q⟩
        · omega
        · omega
        · omega
        · rcases q with ⟨q, -⟩ | ⟨q, -⟩ | ⟨q, -⟩ | ⟨q, -⟩ | ⟨q, -⟩ | ⟨q, -⟩ <;> omega
  | succ k ih =>
    intro d w e hd r hC F x y hF hx hy hy2
    rcases hC with hC | ⟨hk2, -, ws, hl, hws, hsum⟩
    · exact ih d w e hd r (by
        cases k with
        | zero => exact hC
        | succ k => exact Or.inl hC) F x y (by omega) hx hy (by omega)
    cases F with
    | zero => exact absurd hF (by omega)
    | succ F =>
      have cx : Int32.toNatClampNeg x = d := by have := gx_cl x (by omega); omega
      have yl : y < 40 := by rw [Int32.lt_iff_toInt_lt, gx_lit 40 (by decide)]; omega
      have ya := gx_ak y 1 1 (by decide)
      have yl1 : y + 1 < 40 := by rw [Int32.lt_iff_toInt_lt, gx_lit 40 (by decide)]; omega
      obtain ⟨t0, t1, t2, t3, t4, t9, t10, t11, t13⟩ := h.2.1
      have child : ∀ (p : Int32) e' w', 0 ≤ p.toInt → (∃ _h : Int32.toNatClampNeg p < d, gq_R tx ty (T0.1 0) (T0.1 1) (T0.1 2) (T0.1 3) (T0.1 4) (T0.2.1 7) (T0.2.1 8) (Int32.toNatClampNeg p) e') → (Int32.toNatClampNeg p < d ∧ gq_C (T0.1 0) (T0.1 2) (T0.1 3) (T0.1 4) k (Int32.toNatClampNeg p) w') → gt_fx (gt_ctx tx ty R f T) T (gm_g_Code_writeNode F) p (y + 1) w' e' ∧ (T.1 5 (Int32.toNatClampNeg p) = 0 ↔ ¬ (gt_ctx tx ty R f T).2.1 e') ∧ (gt_ctx tx ty R f T).1 p ((gt_ctx tx ty R f T).2.2.1 e') := by
        rintro p e' w' p0 ⟨hlt, hr⟩ ⟨-, hc⟩
        have cp := gx_cl p p0
        exact ⟨ih _ w' e' (by omega) hr hc F p (y + 1) (by omega) (by omega) (by omega) (by omega), gt_em h (by omega) hr, gt_hdn h p0 (by omega) hr⟩
      have r' := r
      unfold gq_Tr at r'
      rw [gq_R] at r'
      rcases r' with ⟨k0, -⟩ | ⟨k1, -⟩ | ⟨lo, hi, hlo, hhi, r2⟩
      · exfalso; omega
      · exfalso; omega
      have clo : Int32.toNatClampNeg (T0.1 2 d) = lo := by have := gx_cl (T0.1 2 d) (by omega); omega
      rw [clo] at hws
      have hl : hi = lo + ws.length := by omega
      intro S n op od tg hT hn h200 e1 e2 e3
      rw [gm_g_Code_writeNode]
      unfold gm_f_Code_writeNode
      rw [if_pos yl]
      -- what partOf answers
      refine gf_ca (Q := gt_W (gt_ctx tx ty R f T) op od tg n w e) (fun z : Int32 × gm_S => ws.length = 1 → z.1 = T.1 4 lo) ?_ (fun r12 u12 h12 => ?_)
      · intro w1
        rw [hT]
        unfold gm_f_Tree_partOf
        rw [cx, if_neg (by rw [t2, t3, Int32.le_iff_toInt_le]; omega), t2, clo]
      have h12 : ws.length = 1 → r12 = T.1 4 lo := h12
      have hh3 : (T.1 3 (Int32.toNatClampNeg x)).toInt = (hi : Nat) := by rw [cx, t3]; exact hhi
      have e2x : S.2.1 2 (Int32.toNatClampNeg x) = T0.1 2 d := by rw [hT, cx, t2]
      rcases r2 with ⟨kd, es, ee, sg⟩ | ⟨kd, a, m, ee, m1, am, hm, sets⟩ | ⟨kd, es, ne, ee, sg⟩ | ⟨x1, sg, one⟩
      · -- a sequence
        have kk : S.2.1 0 (Int32.toNatClampNeg x) = 2 := by rw [hT, cx, t0]; exact gt_lit kd (gx_lit 2 (by decide))
        rw [kk, if_neg (by decide), if_neg (by decide), if_pos rfl]
        obtain ⟨fw, len⟩ := gq_sg_fw _ _ _ sg
        have eql : es.reverse.length = ws.length := by rw [List.length_reverse]; omega
        obtain ⟨z1, z2, z3⟩ := gt_zip_f es.reverse ws eql
        have ch := gt_ch_of (X := gt_ctx tx ty R f T) (T := T) (fx := gm_g_Code_writeNode F) (y := y) child es.reverse ws lo eql (by rw [t4]; exact fw) (by rw [t4]; exact hws)
        rw [kd] at hsum
        have hsum : ws.sum ≤ w := by
          have : gq_ex 2 ws.length = 0 := rfl
          omega
        have R1 := gt_seq (X := gt_ctx tx ty R f T) x y S hT hh3 (es.reverse.zip ws) 200 (S.2.1 2 (Int32.toNatClampNeg x)) (S.1, S.2) lo n op od tg (by
          rw [z3, eql]
          have := h.1.1.2.2.2.2.2 d hd
          obtain ⟨lo', hi', l1, l2, l3, l4, -⟩ := this.2.2 hk2
          omega) (by rw [e2x]; exact hlo) (by rw [z3, eql]; exact hl) (gt_ch_cs _ _ ch) hn (by rw [z2]; omega) e1 e2 e3
        rw [z1, z2, ← gt_jn, ← ee] at R1
        refine gf_ca (Q := gt_W (gt_ctx tx ty R f T) op od tg n w e) (gt_W (gt_ctx tx ty R f T) op od tg n ws.sum e) R1 (fun r u hu => ?_)
        obtain ⟨b, y1, y2, y3⟩ := hu
        exact ⟨b, y1, by omega, y3⟩
      · -- a row
        have kk : S.2.1 0 (Int32.toNatClampNeg x) = 2 := by rw [hT, cx, t0]; exact gt_lit kd (gx_lit 2 (by decide))
        rw [kk, if_neg (by decide), if_neg (by decide), if_pos rfl]
        have eql : (gt_rl a m).length = ws.length := by rw [gt_rl_len]; omega
        obtain ⟨z1, z2, z3⟩ := gt_zip_f (gt_rl a m) ws eql
        cases F with
        | zero => exact absurd hF (by omega)
        | succ F =>
          have cs := gt_rowc (X := gt_ctx tx ty R f T) (T := T) (F := F) (y := y) (tx := tx) rfl yl1 (Pc := fun d' w' => d' < d ∧ gq_C (T0.1 0) (T0.1 2) (T0.1 3) (T0.1 4) k d' w') (fun d' w' hz hc => by
            rw [t0] at hz
            have hc := hc.2
            cases k with
            | zero => exact hc.2
            | succ k =>
              rcases hc with hc | ⟨hc, -⟩
              · exact hc.2
              · rw [hz] at hc
                exact absurd hc (by decide)) m a lo ws (by omega) (fun j hj => by
              obtain ⟨s1, s2, s3, s4⟩ := sets j hj
              rw [t4, t0]
              have cs := gx_cl _ s1
              refine ⟨gt_lit s3 (by decide), s1, ?_, fun c c1 c2 => ?_⟩
              · rw [t11, h.1.1.1]; omega
              · rw [(h.2.2.2.2 c c1 c2).2 _ (by omega) s3]; exact s4 c c1 c2) (by rw [t4]; exact hws)
          rw [kd] at hsum
          have hsum : ws.sum ≤ w := by
            have : gq_ex 2 ws.length = 0 := rfl
            omega
          have R1 := gt_seq (X := gt_ctx tx ty R f T) x y S hT hh3 ((gt_rl a m).zip ws) 200 (S.2.1 2 (Int32.toNatClampNeg x)) (S.1, S.2) lo n op od tg (by
            rw [z3, eql]
            have := h.1.1.2.2.2.2.2 d hd
            obtain ⟨lo', hi', l1, l2, l3, l4, -⟩ := this.2.2 hk2
            omega) (by rw [e2x]; exact hlo) (by rw [z3, eql]; exact hl) cs hn (by rw [z2]; omega) e1 e2 e3
          rw [z1, z2] at R1
          refine gf_ca (Q := gt_W (gt_ctx tx ty R f T) op od tg n w e) (gt_W (gt_ctx tx ty R f T) op od tg n ws.sum (gt_jf 4 (gt_rl a m))) R1 (fun r u hu => ?_)
          obtain ⟨b, y1, y2, y3, y4⟩ := hu
          rw [ee]
          exact ⟨b, y1, by omega, gt_row _ _ _ _ y3, y4⟩
      · -- a choice
        have kk : S.2.1 0 (Int32.toNatClampNeg x) = 3 := by rw [hT, cx, t0]; exact gt_lit kd (gx_lit 3 (by decide))
        rw [kk, if_neg (by decide), if_neg (by decide), if_neg (by decide), if_pos rfl]
        obtain ⟨fw, len⟩ := gq_sg_fw _ _ _ sg
        have eql : es.reverse.length = ws.length := by rw [List.length_reverse]; omega
        obtain ⟨z1, z2, z3⟩ := gt_zip_f es.reverse ws eql
        have ch := gt_ch_of (X := gt_ctx tx ty R f T) (T := T) (fx := gm_g_Code_writeNode F) (y := y) child es.reverse ws lo eql (by rw [t4]; exact fw) (by rw [t4]; exact hws)
        rw [kd] at hsum
        have wl : 1 ≤ ws.length := by
          rw [← eql, List.length_reverse]
          cases es with
          | nil => exact absurd rfl ne
          | cons x r => rw [List.length_cons]; omega
        have hsum : 3 * (ws.length - 1) + ws.sum ≤ w := hsum
        have cwe := gt_cw_e (es.reverse.zip ws)
        rw [z2, z3, eql] at cwe
        have ln := h.1.1.2.2.2.2.2 d hd
        obtain ⟨lo', hi', l1, l2, l3, l4, -⟩ := ln.2.2 hk2
        obtain ⟨p, L, hL⟩ : ∃ p L, es.reverse.zip ws = p :: L := by
          cases hL : es.reverse.zip ws with
          | nil =>
            exfalso
            rw [hL] at z3
            have : (0 : Nat) = es.reverse.length := z3
            omega
          | cons p L => exact ⟨p, L, rfl⟩
        rw [hL] at z1 z2 z3 ch cwe
        have z3' : L.length + 1 = ws.length := by rw [← eql, ← z3]; rfl
        have R1 := gt_cho (X := gt_ctx tx ty R f T) (fx := gm_g_Code_writeNode F) x y S hT hh3 hn (op0 := op) (od0 := od) (tg0 := tg) L p [] 200 (S.2.1 2 (Int32.toNatClampNeg x)) (S.1, S.2) lo n (by omega) (by rw [e2x]; exact hlo) (by omega) ch hn (by omega) rfl (by
          show gt_sm op od tg (S.1.1 1) (S.1.1 2) (S.1.1 3) 0 n
          rw [e1, e2, e3]
          exact gt_sm_r _ _ _ _ _)
        refine gf_ca (Q := gt_W (gt_ctx tx ty R f T) op od tg n w e) (gt_W (gt_ctx tx ty R f T) op od tg n (n - n + gt_cw (p :: L)) (gt_jf 5 ([] ++ gt_fs (p :: L)))) R1 (fun r u hu => ?_)
        obtain ⟨b, y1, y2, y3⟩ := hu
        rw [ee, gt_jn, ← z1]
        exact ⟨b, y1, by omega, y3⟩
      · -- one part
        obtain ⟨fw, len⟩ := gq_sg_fw _ _ _ sg
        have wl : ws.length = 1 := by
          have : hi = lo + 1 := len
          omega
        obtain ⟨w1, hw1⟩ : ∃ w1, ws = [w1] := by
          cases ws with
          | nil => exact absurd wl (by show ¬ 0 = 1; omega)
          | cons w1 r =>
            cases r with
            | nil => exact ⟨w1, rfl⟩
            | cons _ _ => exact absurd wl (by rw [List.length_cons, List.length_cons]; omega)
        subst hw1
        have hr12 := h12 rfl
        obtain ⟨c1, c2, c3⟩ := child (T0.1 4 lo) x1 w1 fw.1 fw.2.1 hws.1
        rw [← t4, ← hr12] at c1 c2 c3
        have hsum : gq_ex (T0.1 0 d).toInt 1 + w1 ≤ w := by
          have e : gq_ex (T0.1 0 d).toInt [w1].length + [w1].sum ≤ w := hsum
          have : [w1].sum = w1 := by rw [List.sum_cons]; rfl
          rw [this] at e
          exact e
        rcases one with ⟨kd, ee⟩ | ⟨kd, ee⟩ | ⟨kd, ee⟩ | ⟨kd, ee⟩ | ⟨kd, ee⟩ | ⟨kd, ee⟩
        · -- an option
          have kk : S.2.1 0 (Int32.toNatClampNeg x) = 4 := by rw [hT, cx, t0]; exact gt_lit kd (gx_lit 4 (by decide))
          rw [kk, if_neg (by decide), if_neg (by decide), if_neg (by decide), if_neg (by decide), if_pos rfl]
          rw [kd] at hsum
          have hsum : 3 + w1 ≤ w := hsum
          refine gf_ca (Q := gt_W (gt_ctx tx ty R f T) op od tg n w e) (gt_W (gt_ctx tx ty R f T) op od tg n (w1 + 3) (gp_e1 6 x1)) (gt_option r12 y _ c1 c2 c3 hT hn (by omega) e1 e2 e3) (fun r u hu => ?_)
          obtain ⟨b, y1, y2, y3⟩ := hu
          rw [ee]
          exact ⟨b, y1, by omega, y3⟩
        · -- a star
          have kk : S.2.1 0 (Int32.toNatClampNeg x) = 5 := by rw [hT, cx, t0]; exact gt_lit kd (gx_lit 5 (by decide))
          rw [kk, if_neg (by decide), if_neg (by decide), if_neg (by decide), if_neg (by decide), if_neg (by decide), if_pos rfl]
          rw [kd] at hsum
          have hsum : 3 + w1 ≤ w := hsum
          refine gf_ca (Q := gt_W (gt_ctx tx ty R f T) op od tg n w e) (gt_oQ (gt_ctx tx ty R f T) op od tg (-1) n w1 x1) (gt_loop r12 y (-1) _ c1 c2 c3 (Or.inl rfl) hT hn (by omega) e1 e2 e3) (fun r u hu => ?_)
          obtain ⟨l, m, y1, y2, y3, y4, y5, y6, y7, y8, y9, y10⟩ := hu
          rw [ee]
          have d1 : (-1 : Int32).toInt = -1 := by decide
          refine ⟨m + 1, y1, by omega, Or.inl ⟨Or.inr rfl, l, m, y3, y4, y5, y6, y7, fun q => absurd q (by decide), fun _ => y8, rfl⟩, fun k' _ k2 => ⟨(y9 k' k2).1, (y9 k' k2).2.1, (y9 k' k2).2.2.1 (by rw [d1]; omega)⟩, y10⟩
        · -- a plus
          have kk : S.2.1 0 (Int32.toNatClampNeg x) = 6 := by rw [hT, cx, t0]; exact gt_lit kd (gx_lit 6 (by decide))
          rw [kk, if_neg (by decide), if_neg (by decide), if_neg (by decide), if_neg (by decide), if_neg (by decide), if_neg (by decide), if_pos rfl]
          rw [kd] at hsum
          have hsum : 5 + w1 ≤ w := hsum
          refine gf_ca (Q := gt_W (gt_ctx tx ty R f T) op od tg n w e) (gt_aQ op od tg 3 (-1) n) (gt_add 3 (-1) _ hn (by omega) e1 e2 e3) (fun r156 u156 h156 => ?_)
          obtain ⟨a1, a2, a3, a4, a5⟩ := h156
          refine gf_ca (Q := gt_W (gt_ctx tx ty R f T) op od tg n w e) (gt_aQ (upd op n 3) (upd od n (-1)) (upd tg n (-1)) 4 (-1) (n + 1)) (gt_add 4 (-1) _ a2 (by omega) a3 a4 a5) (fun r166 u166 h166 => ?_)
          obtain ⟨b1, b2, b3, b4, b5⟩ := h166
          have b1 : r166.toInt = ((n + 1 : Nat) : Int) := b1
          refine gf_ca (Q := gt_W (gt_ctx tx ty R f T) op od tg n w e) (gt_oQ (gt_ctx tx ty R f T) (upd (upd op n 3) (n + 1) 4) (upd (upd od n (-1)) (n + 1) (-1)) (upd (upd tg n (-1)) (n + 1) (-1)) r166 (n + 2) w1 x1) (gt_loop r12 y r166 _ c1 c2 c3 (Or.inr ⟨n + 1, b1, by omega⟩) hT b2 (by omega) b3 b4 b5) (fun r u hu => ?_)
          obtain ⟨l, m, y1, y2, y3, y4, y5, y6, y7, y8, y9, y10⟩ := hu
          rw [ee]
          have g1 := gt_lk_le y3
          have g2 := gt_L_le _ _ _ y6
          have p0 := y9 n (by omega)
          have p1 := y9 (n + 1) (by omega)
          have o0 : u.1.1 1 n = 3 := by
            rw [show u.1.1 1 n = upd (upd op n 3) (n + 1) 4 n from p0.1, gx_un _ _ _ (by omega), gx_us]
          have o1 : u.1.1 1 (n + 1) = 4 := by
            rw [show u.1.1 1 (n + 1) = upd (upd op n 3) (n + 1) 4 (n + 1) from p1.1, gx_us]
          refine ⟨m + 1, y1, by omega, Or.inl ⟨rfl, rfl, l, m, o0, o1, p1.2.2.2 b1, y3, y4, y5, y6, y7, y8, rfl⟩, fun k' _ k2 => ?_, fun k' k1 k2 k3 => ?_⟩
          · obtain ⟨q1, q2, q3, -⟩ := y9 k' (by omega)
            refine ⟨q1.trans ?_, q2.trans ?_, (q3 (by omega)).trans ?_⟩
            · rw [gx_un _ _ _ (by omega), gx_un _ _ _ (by omega)]
            · rw [gx_un _ _ _ (by omega), gx_un _ _ _ (by omega)]
            · rw [gx_un _ _ _ (by omega), gx_un _ _ _ (by omega)]
          · have k3 : u.1.1 1 k' = 5 := k3
            by_cases q : k' < n + 2
            · have : k' = n ∨ k' = n + 1 := by omega
              rcases this with t | t
              · rw [t, o0] at k3; exact absurd k3 (by decide)
              · rw [t, o1] at k3; exact absurd k3 (by decide)
            · exact y10 k' (by omega) k2 k3
        · -- and
          have kk : S.2.1 0 (Int32.toNatClampNeg x) = 7 := by rw [hT, cx, t0]; exact gt_lit kd (gx_lit 7 (by decide))
          rw [kk, if_neg (by decide), if_neg (by decide), if_neg (by decide), if_neg (by decide), if_neg (by decide), if_neg (by decide), if_neg (by decide), if_pos rfl]
          rw [kd] at hsum
          have hsum : 2 + w1 ≤ w := hsum
          refine gf_ca (Q := gt_W (gt_ctx tx ty R f T) op od tg n w e) (gt_bQ (gt_ctx tx ty R f T) op od tg 2 6 n w1 x1) (gt_between 2 r12 6 y _ c1 hT hn (by omega) e1 e2 e3) (fun r u hu => ?_)
          obtain ⟨-, m, y1, y2, y3, y4, y5, y6, y7, y8, y9⟩ := hu
          rw [ee]
          refine ⟨m + 1, y1, by omega, Or.inr (Or.inl ⟨rfl, m, y3, y4, y5, y6, rfl⟩), y8, fun k' k1 k2 k3 => ?_⟩
          have k3 : u.1.1 1 k' = 5 := k3
          have y3 : u.1.1 1 n = 2 := y3
          have y6 : u.1.1 1 m = 6 := y6
          by_cases q : k' = n
          · rw [q, y3] at k3; exact absurd k3 (by decide)
          · by_cases q2 : k' = m
            · rw [q2, y6] at k3; exact absurd k3 (by decide)
            · exact y9 k' (by omega) (by omega) k3
        · -- not
          have kk : S.2.1 0 (Int32.toNatClampNeg x) = 8 := by rw [hT, cx, t0]; exact gt_lit kd (gx_lit 8 (by decide))
          rw [kk, if_neg (by decide), if_neg (by decide), if_neg (by decide), if_neg (by decide), if_neg (by decide), if_neg (by decide), if_neg (by decide), if_neg (by decide), if_pos rfl]
          rw [kd] at hsum
          have hsum : 2 + w1 ≤ w := hsum
          refine gf_ca (Q := gt_W (gt_ctx tx ty R f T) op od tg n w e) (gt_bQ (gt_ctx tx ty R f T) op od tg 2 7 n w1 x1) (gt_between 2 r12 7 y _ c1 hT hn (by omega) e1 e2 e3) (fun r u hu => ?_)
          obtain ⟨y0, m, y1, y2, y3, y4, y5, y6, y7, y8, y9⟩ := hu
          have y0 : r.toInt = (n : Nat) := y0
          have g2 := gt_L_le _ _ _ y5
          refine gf_ca (Q := gt_W (gt_ctx tx ty R f T) op od tg n w e) (gt_mQ (u.1.1 3) n (m + 1)) (gt_aim (n := m + 1) (k := n) r _ y1 y0 (by omega) rfl) (fun r212 u212 h212 => ?_)
          obtain ⟨s, s1, s2⟩ := h212
          have s2 : u212.1.1 3 = upd (u.1.1 3) n s := s2
          have keep : ∀ k', k' ≠ n → u212.1.1 3 k' = u.1.1 3 k' := fun k' hk' => by rw [s2, gx_un _ _ _ hk']
          rw [ee]
          refine ⟨m + 1, y1, by omega, Or.inr (Or.inr (Or.inl ⟨rfl, m, y3, ?_, ?_, y6, rfl⟩)), ?_, fun k' k1 k2 k3 => ?_⟩
          · show (u212.1.1 3 n).toInt = _
            rw [s2, gx_us]
            exact s1
          · exact gt_L_sm _ _ _ (fun k' k1 k2 => ⟨rfl, rfl, keep k' (by omega)⟩) y5
          · exact fun k' k1 k2 => ⟨(y8 k' k1 k2).1, (y8 k' k1 k2).2.1, (keep k' (by omega)).trans (y8 k' k1 k2).2.2⟩
          · show ¬ u212.1.1 3 k' = -1
            have k3 : u.1.1 1 k' = 5 := k3
            have y3 : u.1.1 1 n = 2 := y3
            have y6 : u.1.1 1 m = 7 := y6
            by_cases q : k' = n
            · rw [q, y3] at k3; exact absurd k3 (by decide)
            · by_cases q2 : k' = m
              · rw [q2, y6] at k3; exact absurd k3 (by decide)
              · rw [keep k' q]
                exact y9 k' (by omega) (by omega) k3
        · -- a capture
          have kk : S.2.1 0 (Int32.toNatClampNeg x) = 9 := by rw [hT, cx, t0]; exact gt_lit kd (gx_lit 9 (by decide))
          rw [kk, if_neg (by decide), if_neg (by decide), if_neg (by decide), if_neg (by decide), if_neg (by decide), if_neg (by decide), if_neg (by decide), if_neg (by decide), if_neg (by decide), if_pos rfl]
          rw [kd] at hsum
          have hsum : 2 + w1 ≤ w := hsum
          refine gf_ca (Q := gt_W (gt_ctx tx ty R f T) op od tg n w e) (gt_bQ (gt_ctx tx ty R f T) op od tg 10 11 n w1 x1) (gt_between 10 r12 11 y _ c1 hT hn (by omega) e1 e2 e3) (fun r u hu => ?_)
          obtain ⟨-, m, y1, y2, y3, y4, y5, y6, y7, y8, y9⟩ := hu
          rw [ee]
          refine ⟨m + 1, y1, by omega, Or.inr (Or.inr (Or.inr ⟨rfl, m, y3, y5, y6, rfl⟩)), y8, fun k' k1 k2 k3 => ?_⟩
          have k3 : u.1.1 1 k' = 5 := k3
          have y3 : u.1.1 1 n = 10 := y3
          have y6 : u.1.1 1 m = 11 := y6
          by_cases q : k' = n
          · rw [q, y3] at k3; exact absurd k3 (by decide)
          · by_cases q2 : k' = m
            · rw [q2, y6] at k3; exact absurd k3 (by decide)
            · exact y9 k' (by omega) (by omega) k3
