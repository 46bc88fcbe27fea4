/-! The class's runner against the machine over lists: one step. -/
theorem gw_step {A : gv_A} (S : gw_St) (hC : gw_C A S) {c : gv_Cf} (h11 : (S.1.2.2 11).toInt = 0) (h : gw_R S c) (hw : c.2.2.2.2.1 < 2000000000) : gw_Z (gm_f_Runner_step S).2 (gv_st A c) := by
  obtain ⟨a, q, fr, K, w, M⟩ := c
  have hR := h
  obtain ⟨r1, r2, r3, r4, r5, r6, r7, r8, r9⟩ := h
  have r1 : (S.1.2.2 12).toInt = a := r1
  have r2 : (S.1.2.2 13).toInt = (q : Nat) := r2
  have r3 : q ≤ 10 := r3
  have r4 : (S.1.2.2 7).toInt = (fr.length : Nat) := r4
  have r5 : fr.length ≤ 550 := r5
  have r8 : (S.1.2.2 14).toInt = (w : Nat) := r8
  have hw : w < 2000000000 := hw
  have n200 := hC.2.2.2.2.2.1
  have h8 := hC.2.2.2.2.2.2.2.2.2.2
  have inr : ¬ gv_at A A.1 12 a = 12 → 0 ≤ a ∧ a < (A.2.2.2.2.1 : Nat) := by
    intro n
    by_cases c : 0 ≤ a ∧ a < (A.2.2.2.2.1 : Nat)
    · exact c
    · exact absurd (if_neg c) n
  have op8 : gv_at A A.1 12 a = 8 → 0 ≤ (gv_at A A.2.1 (-1) a).toInt ∧ (gv_at A A.2.1 (-1) a).toInt < 8 := by
    intro e
    have i := inr (by rw [e]; decide)
    have e1 : gv_at A A.1 12 a = A.1 a.toNat := if_pos i
    have e2 : gv_at A A.2.1 (-1) a = A.2.1 a.toNat := if_pos i
    rw [e2]
    rw [e1] at e
    exact h8 a.toNat (by omega) e
  show (fun z : Int32 × gw_St => gw_Z z.2 (gv_sto A (gv_at A A.1 12 a) (gv_at A A.2.1 (-1) a) (gv_at A A.2.2.1 (-1) a).toInt a q fr K w M)) (gm_f_Runner_step S)
  unfold gm_f_Runner_step
  have opq := gw_op hC r1
  generalize ho : gv_at A A.1 12 a = o at inr op8 opq ⊢
  refine gf_ca (Q := fun z : Int32 × gw_St => gw_Z z.2 (gv_sto A o (gv_at A A.2.1 (-1) a) (gv_at A A.2.2.1 (-1) a).toInt a q fr K w M)) (gw_1Q o) opq (fun r8' u8 h8' => ?_)
  have h8' : r8' = o := h8'
  subst h8'
  have bd : ¬ r8' = 12 → 0 ≤ a ∧ a < 1000 := fun n => by
    have := inr n
    omega
  have bad : ∀ (s : gv_Sx) (S' : gw_St), s.1 = 7 → gw_Z S' s := fun s S' e n => absurd e n
  unfold gv_sto
  by_cases o0 : r8' = 0
  · rw [if_pos o0, if_pos o0]
    obtain ⟨b0, b1⟩ := bd (by rw [o0]; decide)
    exact gf_ca (Q := fun z : Int32 × gw_St => gw_Z z.2 _) (gw_flQ S _) (gw_take S hC h11 hR b0 b1) (fun _ u73 h73 => h73)
  rw [if_neg o0, if_neg o0]
  by_cases o1 : r8' = 1
  · rw [if_pos o1, if_pos o1]
    obtain ⟨b0, b1⟩ := bd (by rw [o1]; decide)
    refine gf_ca (Q := fun z : Int32 × gw_St => gw_Z z.2 _) (gw_lkQ _) (gw_look S hC r1 r2 b0 b1) (fun _ u80 h80 => ?_)
    intro _
    exact ⟨h11, r8, fun _ => ⟨h80, r2, r3, r4, r5, r6, r7, r8, r9⟩⟩
  rw [if_neg o1, if_neg o1]
  by_cases o2 : r8' = 2
  · rw [if_pos o2, if_pos o2]
    obtain ⟨b0, b1⟩ := bd (by rw [o2]; decide)
    exact gf_ca (Q := fun z : Int32 × gw_St => gw_Z z.2 _) (gw_tyQ S _) (gw_try S hC h11 hR b0 b1) (fun _ u87 h87 => h87)
  rw [if_neg o2, if_neg o2]
  by_cases o3 : r8' = 3
  · rw [if_pos o3, if_pos o3]
    obtain ⟨b0, b1⟩ := bd (by rw [o3]; decide)
    have n1 : (-1 : Int32).toInt = -1 := by decide
    refine gf_ca (Q := fun z : Int32 × gw_St => gw_Z z.2 _) (gw_puQ S (-1) (-1) q fr K.length) (gw_push (-1) (-1) S S rfl r4 r5 r6 n1 n1 r2 r3 r7.1 (Or.inl rfl)) (fun _ u96 h96 => ?_)
    exact gw_Z_e (gw_pushed (n12 := S.1.2.2 12 + 1) (n14 := S.1.2.2 14) (w' := w) h11 hR (gw_a1 (A := A) r1 b0 b1) r8 h96) rfl rfl rfl rfl rfl rfl rfl rfl rfl rfl rfl rfl rfl rfl rfl rfl rfl rfl
  rw [if_neg o3, if_neg o3]
  by_cases o4 : r8' = 4
  · rw [if_pos o4, if_pos o4]
    refine gf_ca (Q := fun z : Int32 × gw_St => gw_Z z.2 _) (gw_1Q (gv_at A A.2.2.1 (-1) a)) (gw_tg hC r1) (fun r121 u121 h121 => ?_)
    have h121 : r121 = gv_at A A.2.2.1 (-1) a := h121
    rw [h121]
    intro _
    exact ⟨h11, r8, fun _ => ⟨rfl, r2, r3, r4, r5, r6, r7, r8, r9⟩⟩
  rw [if_neg o4, if_neg o4]
  by_cases o5 : r8' = 5
  · rw [if_pos o5, if_pos o5]
    cases fr with
    | nil =>
      have z0 : (0 : Int32).toInt = 0 := by decide
      have r4 : (S.1.2.2 7).toInt = 0 := r4
      refine gf_ca (Q := fun z : Int32 × gw_St => gw_Z z.2 _) (fun z => z.2.1.2.2 7 = S.1.2.2 7) ?_ (fun r131 u131 h131 => ?_)
      · unfold gm_f_Runner_pop
        rw [if_pos (by rw [Int32.le_iff_toInt_le]; show (S.1.2.2 7).toInt ≤ (0 : Int32).toInt; omega)]
      · have h131 : u131.1.2.2 7 = S.1.2.2 7 := h131
        refine gf_ca (Q := fun z : Int32 × gw_St => gw_Z z.2 _) (gw_1Q (gv_at A A.2.2.1 (-1) a)) (gw_tg hC r1) (fun r143 u143 h143 => ?_)
        have h143 : r143 = gv_at A A.2.2.1 (-1) a := h143
        rw [h143]
        intro _
        refine ⟨h11, r8, fun _ => ⟨rfl, r2, r3, ?_, r5, trivial, r7, r8, r9⟩⟩
        show (u131.1.2.2 7).toInt = 0
        rw [h131]; exact r4
    | cons y r =>
      have r5 : r.length + 1 ≤ 550 := r5
      refine gf_ca (Q := fun z : Int32 × gw_St => gw_Z z.2 _) (gw_poQ r.length) (gw_pop _ r4 (by omega)) (fun r131 u131 h131 => ?_)
      refine gf_ca (Q := fun z : Int32 × gw_St => gw_Z z.2 _) (gw_1Q (gv_at A A.2.2.1 (-1) a)) (gw_tg hC r1) (fun r143 u143 h143 => ?_)
      have h143 : r143 = gv_at A A.2.2.1 (-1) a := h143
      rw [h143]
      intro _
      exact ⟨h11, r8, fun _ => ⟨rfl, r2, r3, h131, by show r.length ≤ 550; omega, r6.2.2.2.2.2.2, r7, r8, r9⟩⟩
  rw [if_neg o5, if_neg o5]
  by_cases o6 : r8' = 6
  · rw [if_pos o6, if_pos o6]
    obtain ⟨b0, b1⟩ := bd (by rw [o6]; decide)
    cases fr with
    | nil =>
      refine gf_ca (Q := fun z : Int32 × gw_St => gw_Z z.2 _) (fun _ => True) trivial (fun _ u153 _ => ?_)
      exact gf_ca (Q := fun z : Int32 × gw_St => gw_Z z.2 _) (fun _ => True) trivial (fun _ u157 _ => bad _ _ rfl)
    | cons y r =>
      have r5 : r.length + 1 ≤ 550 := r5
      obtain ⟨f1, f2, f3, f4, f5, f6, f7⟩ := r6
      refine gf_ca (Q := fun z : Int32 × gw_St => gw_Z z.2 _) (gw_poQ r.length) (gw_pop _ r4 (by omega)) (fun r153 u153 h153 => ?_)
      refine gf_ca (Q := fun z : Int32 × gw_St => gw_Z z.2 _) (gw_reQ (gv_cut K y.2.2.1) (S.1.1 4 r.length) S.2.2.1) (gw_restore _ (n := r.length) (m := y.2.2.1) r7 rfl h153 f3 rfl) (fun r157 u157 h157 => ?_)
      obtain ⟨g1, g2⟩ := h157
      have g1 : u157.1.2.2 13 = S.1.1 4 r.length := g1
      intro _
      refine ⟨h11, r8, fun _ => ⟨gw_a1 (A := A) r1 b0 b1, ?_, f5, h153, by show r.length ≤ 550; omega, f7, g2, r8, r9⟩⟩
      show (u157.1.2.2 13).toInt = _
      rw [g1]; exact f2
  rw [if_neg o6, if_neg o6]
  by_cases o7 : r8' = 7
  · rw [if_pos o7, if_pos o7]
    have pq : ∃ n7, (n7 : Int32).toInt = (fr.tail.length : Nat) ∧ (gm_f_Runner_pop S).2.1.2.2 7 = n7 := by
      cases fr with
      | nil =>
        have z0 : (0 : Int32).toInt = 0 := by decide
        have r4 : (S.1.2.2 7).toInt = 0 := r4
        refine ⟨S.1.2.2 7, r4, ?_⟩
        unfold gm_f_Runner_pop
        rw [if_pos (by rw [Int32.le_iff_toInt_le]; show (S.1.2.2 7).toInt ≤ (0 : Int32).toInt; omega)]
      | cons y r =>
        have r5 : r.length + 1 ≤ 550 := r5
        exact ⟨_, gw_pop S (n := r.length) r4 (by omega), rfl⟩
    obtain ⟨n7, pq1, pq2⟩ := pq
    refine gf_ca (Q := fun z : Int32 × gw_St => gw_Z z.2 _) (fun z => z.2.1.2.2 7 = n7) pq2 (fun r174 u174 h174 => ?_)
    have h174 : u174.1.2.2 7 = n7 := h174
    rw [h174]
    have fa : gw_fa (S.1.1 3) (S.1.1 4) (S.1.1 5) (S.1.1 6) fr.tail := by
      cases fr with
      | nil => exact trivial
      | cons y r => exact r6.2.2.2.2.2.2
    have tl : fr.tail.length ≤ 550 := by
      rw [List.length_tail]; omega
    refine gf_ca (Q := fun z : Int32 × gw_St => gw_Z z.2 _) (gw_flQ ((S.1.1, S.1.2.1, (va_up S.1.2.2 7 n7)), S.2.1, S.2.2.1, S.2.2.2.1, S.2.2.2.2.1, S.2.2.2.2.2.1, S.2.2.2.2.2.2) (gv_fl A.2.2.2.2.2.2.2 fr.tail K w M a q)) (gw_fail _ (by exact hC.2.2.2.2.2.2.2.1) h11 ⟨r1, r2, r3, pq1, tl, fa, r7, r8, r9⟩) (fun r178 u178 h178 => ?_)
    exact gw_Z_e h178 rfl rfl rfl rfl rfl rfl rfl rfl rfl rfl rfl rfl rfl rfl rfl rfl rfl rfl
  rw [if_neg o7, if_neg o7]
  by_cases o8 : r8' = 8
  · rw [if_pos o8, if_pos o8]
    obtain ⟨b0, b1⟩ := bd (by rw [o8]; decide)
    obtain ⟨x0, x8⟩ := op8 o8
    refine gf_ca (Q := fun z : Int32 × gw_St => gw_Z z.2 _) (gw_1Q (gv_at A A.2.1 (-1) a)) (gw_od hC r1) (fun r193 u193 h193 => ?_)
    have h193 : r193 = gv_at A A.2.1 (-1) a := h193
    rw [← h193] at x0 x8 ⊢
    exact gf_ca (Q := fun z : Int32 × gw_St => gw_Z z.2 _) (gw_crQ S _) (gw_call r193 S hC (r := r193.toInt.toNat) h11 hR b0 b1 hw (by omega) (by omega)) (fun _ u196 h196 => h196)
  rw [if_neg o8, if_neg o8]
  by_cases o9 : r8' = 9
  · rw [if_pos o9, if_pos o9]
    cases fr with
    | nil => exact gf_ca (Q := fun z : Int32 × gw_St => gw_Z z.2 _) (fun _ => True) trivial (fun _ u203 _ => bad _ _ rfl)
    | cons y r =>
      show (fun z : Int32 × gw_St => gw_Z z.2 (if y.2.2.2 = -1 then _ else _)) _
      by_cases hy : y.2.2.2 = -1
      · rw [if_pos hy]
        exact gf_ca (Q := fun z : Int32 × gw_St => gw_Z z.2 _) (fun _ => True) trivial (fun _ u203 _ => bad _ _ rfl)
      · rw [if_neg hy]
        exact gf_ca (Q := fun z : Int32 × gw_St => gw_Z z.2 _) (gw_rtQ S _) (gw_return S hC h11 hR hy) (fun _ u203 h203 => h203)
  rw [if_neg o9, if_neg o9]
  by_cases o10 : r8' = 10
  · rw [if_pos o10, if_pos o10]
    obtain ⟨b0, b1⟩ := bd (by rw [o10]; decide)
    refine gf_ca (Q := fun z : Int32 × gw_St => gw_Z z.2 _) (gw_KQ 275 (gw_ad 275 (q, -1) K)) (gw_add (by omega) r7 r2 (show (-1 : Int32).toInt = -1 by decide)) (fun r218 u218 h218 => ?_)
    obtain ⟨k1, k2, k3⟩ := h218
    intro _
    exact ⟨h11, r8, fun _ => ⟨gw_a1 (A := A) r1 b0 b1, r2, r3, r4, r5, r6, ⟨k1, k2, k3⟩, r8, r9⟩⟩
  rw [if_neg o10, if_neg o10]
  by_cases o11 : r8' = 11
  · rw [if_pos o11, if_pos o11]
    obtain ⟨b0, b1⟩ := bd (by rw [o11]; decide)
    have cl := gw_close' (x := S.1.2.2 13) (y := (q : Int)) r2 (by omega) r7
    refine gf_ca (Q := fun z : Int32 × gw_St => gw_Z z.2 _) (fun z => gw_K 275 (gv_cl K q) ((va_up S.2.2.1.1 1 (z.2.1 1)), S.2.2.1.2.1, S.2.2.1.2.2)) cl (fun r242 u242 h242 => ?_)
    intro _
    exact ⟨h11, r8, fun _ => ⟨gw_a1 (A := A) r1 b0 b1, r2, r3, r4, r5, r6, h242, r8, r9⟩⟩
  rw [if_neg o11, if_neg o11]
  intro _
  exact ⟨gx_lit 1 (by decide), r8, fun _ => ⟨r1, r2, r3, r4, r5, r6, r7, r8, r9⟩⟩
