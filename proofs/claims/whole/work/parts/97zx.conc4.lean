/-! The class's runner against the machine over lists: takes, looks, tries. -/
def gw_nQ (A : gv_A) (d : Int32) (q : Nat) (z : Int32 × gw_St) : Prop := z.1 = 0 ↔ ¬ A.2.2.2.2.2.2.1 d q = true
theorem gw_next {A : gv_A} (S : gw_St) (hC : gw_C A S) (d : Int32) {q : Nat} (hq : (S.1.2.2 13).toInt = (q : Nat)) : gw_nQ A d q (gm_f_Runner_nextIsIn d S) := by
  have h := hC.2.2.2.2.2.2.2.2.1 d (S.1.2.2 13) q hq
  unfold gm_f_Runner_nextIsIn
  refine gf_ca (Q := gw_nQ A d q) (fun z => z.1 = (gm_f_Row_at 10 (S.1.2.2 13) S.2.1).1) rfl (fun r u hu => ?_)
  have hu : r = (gm_f_Row_at 10 (S.1.2.2 13) S.2.1).1 := hu
  refine gf_ca (Q := gw_nQ A d q) (fun z => z.1 = (gm_f_Tree_holds d r S.2.2.2.2.2.2).1) rfl (fun r2 u2 hu2 => ?_)
  have hu2 : r2 = (gm_f_Tree_holds d r S.2.2.2.2.2.2).1 := hu2
  show r2 = 0 ↔ _
  rw [hu2, hu]
  exact h
theorem gw_a1 {A : gv_A} {x : Int32} {a : Int} (ha : x.toInt = a) (h0 : 0 ≤ a) (h1 : a < 1000) : (x + 1).toInt = a + 1 := by
  have := gx_ak x 1 1 (by decide)
  omega
theorem gw_take {A : gv_A} (S : gw_St) (hC : gw_C A S) {a : Int} {q w : Nat} {fr : List gv_Fr} {K : List (Nat × Int)} {M : gv_Mm} (h11 : (S.1.2.2 11).toInt = 0) (h : gw_R S (a, q, fr, K, w, M)) (h0 : 0 ≤ a) (h1 : a < 1000) : gw_flQ S (if A.2.2.2.2.2.2.1 (gv_at A A.2.1 (-1) a) q = true then (0, a + 1, q + 1, fr, K, w, M) else gv_fl A.2.2.2.2.2.2.2 fr K w M a q) (gm_f_Runner_takeCharacter S) := by
  have hR := h
  obtain ⟨r1, r2, r3, r4, r5, r6, r7, r8, r9⟩ := h
  unfold gm_f_Runner_takeCharacter
  refine gf_ca (Q := gw_flQ S _) (gw_1Q (gv_at A A.2.1 (-1) a)) (gw_od hC r1) (fun r u hu => ?_)
  have hu : r = gv_at A A.2.1 (-1) a := hu
  rw [hu]
  refine gf_ca (Q := gw_flQ S _) (gw_nQ A (gv_at A A.2.1 (-1) a) q) (gw_next _ hC _ r2) (fun r12 u12 h12 => ?_)
  have h12 : r12 = 0 ↔ ¬ A.2.2.2.2.2.2.1 (gv_at A A.2.1 (-1) a) q = true := h12
  refine gf_if (Q := gw_flQ S _) (fun p => ?_) (fun p => ?_)
  · rw [if_neg (h12.mp p)]
    exact gf_ca (Q := gw_flQ S _) (gw_flQ S (gv_fl A.2.2.2.2.2.2.2 fr K w M a q)) (gw_fail S hC.2.2.2.2.2.2.2.1 h11 hR) (fun _ u42 h42 => h42)
  · have t : A.2.2.2.2.2.2.1 (gv_at A A.2.1 (-1) a) q = true := by
      cases e : A.2.2.2.2.2.2.1 (gv_at A A.2.1 (-1) a) q with
      | true => rfl
      | false => exact absurd (h12.mpr (by rw [e]; decide)) p
    rw [if_pos t]
    have lt := hC.2.2.2.2.2.2.2.2.2.1 _ q t
    have r2 : (S.1.2.2 13).toInt = (q : Nat) := r2
    intro _
    refine ⟨h11, r8, fun _ => ⟨gw_a1 (A := A) r1 h0 h1, ?_, by show q + 1 ≤ 10; omega, r4, r5, r6, r7, r8, r9⟩⟩
    show (S.1.2.2 13 + 1).toInt = ((q + 1 : Nat) : Int)
    have := gx_ak (S.1.2.2 13) 1 1 (by decide)
    omega
def gw_lkQ (a : Int) (z : Int32 × gw_St) : Prop := (z.2.1.2.2 12).toInt = a
theorem gw_look {A : gv_A} (S : gw_St) (hC : gw_C A S) {a : Int} {q : Nat} (r1 : (S.1.2.2 12).toInt = a) (r2 : (S.1.2.2 13).toInt = (q : Nat)) (h0 : 0 ≤ a) (h1 : a < 1000) : gw_lkQ (if A.2.2.2.2.2.2.2 = true ∧ A.2.2.2.2.2.2.1 (gv_at A A.2.1 (-1) a) q = false then (gv_at A A.2.2.1 (-1) a).toInt else a + 1) (gm_f_Runner_look S) := by
  have hlo := hC.2.2.2.2.2.2.2.1
  unfold gm_f_Runner_look
  refine gf_if (Q := gw_lkQ _) (fun p => ?_) (fun p => ?_)
  · rw [hlo.mp p, if_neg (fun w => absurd w.1 (by decide))]
    exact gw_a1 (A := A) r1 h0 h1
  · have l : A.2.2.2.2.2.2.2 = true := by
      cases e : A.2.2.2.2.2.2.2 with
      | true => rfl
      | false => exact absurd (hlo.mpr e) p
    refine gf_ca (Q := gw_lkQ _) (gw_1Q (gv_at A A.2.1 (-1) a)) (gw_od hC r1) (fun r u hu => ?_)
    have hu : r = gv_at A A.2.1 (-1) a := hu
    rw [hu]
    refine gf_ca (Q := gw_lkQ _) (gw_nQ A (gv_at A A.2.1 (-1) a) q) (gw_next _ hC _ r2) (fun r12 u12 h12 => ?_)
    have h12 : r12 = 0 ↔ ¬ A.2.2.2.2.2.2.1 (gv_at A A.2.1 (-1) a) q = true := h12
    refine gf_if (Q := gw_lkQ _) (fun p => ?_) (fun p => ?_)
    · have f : A.2.2.2.2.2.2.1 (gv_at A A.2.1 (-1) a) q = false := by
        cases e : A.2.2.2.2.2.2.1 (gv_at A A.2.1 (-1) a) q with
        | true => exact absurd e (h12.mp p)
        | false => rfl
      rw [if_pos ⟨l, f⟩]
      refine gf_ca (Q := gw_lkQ _) (gw_1Q (gv_at A A.2.2.1 (-1) a)) (gw_tg hC r1) (fun r44 u44 h44 => ?_)
      have h44 : r44 = gv_at A A.2.2.1 (-1) a := h44
      show r44.toInt = _
      rw [h44]
    · rw [if_neg (fun w => p (h12.mpr (by rw [w.2]; decide)))]
      exact gw_a1 (A := A) r1 h0 h1
/-- what a try changes -/
def gw_tyQ (S : gw_St) (s : gv_Sx) (z : Int32 × gw_St) : Prop := gw_Z (((va_up (va_up (va_up (va_up S.1.1 3 (z.2.1.1 3)) 4 (z.2.1.1 4)) 5 (z.2.1.1 5)) 6 (z.2.1.1 6)), S.1.2.1, (va_up (va_up (va_up (va_up S.1.2.2 7 (z.2.1.2.2 7)) 11 (z.2.1.2.2 11)) 12 (z.2.1.2.2 12)) 14 (z.2.1.2.2 14))), S.2.1, S.2.2.1, S.2.2.2.1, S.2.2.2.2.1, S.2.2.2.2.2.1, S.2.2.2.2.2.2) s
/-- a push and the relation -/
theorem gw_pushed {S : gw_St} {n12 n14 : Int32} {a' t r : Int} {q w' : Nat} {fr : List gv_Fr} {K : List (Nat × Int)} {M : gv_Mm} {w : Nat} {a : Int} (h11 : (S.1.2.2 11).toInt = 0) (h : gw_R S (a, q, fr, K, w, M)) (h12 : n12.toInt = a') (h14 : n14.toInt = (w' : Nat)) {z : Int32 × gw_St} (hp : gw_puQ S t r q fr K.length z) : gw_Z (((va_up (va_up (va_up (va_up S.1.1 3 (z.2.1.1 3)) 4 (z.2.1.1 4)) 5 (z.2.1.1 5)) 6 (z.2.1.1 6)), S.1.2.1, (va_up (va_up (va_up (va_up S.1.2.2 7 (z.2.1.2.2 7)) 11 (z.2.1.2.2 11)) 12 n12) 14 n14)), S.2.1, S.2.2.1, S.2.2.2.1, S.2.2.2.2.1, S.2.2.2.2.2.1, S.2.2.2.2.2.2) (gv_pu t r a' q fr K w' M) := by
  obtain ⟨r1, r2, r3, r4, r5, r6, r7, r8, r9⟩ := h
  have r5 : fr.length ≤ 550 := r5
  unfold gv_pu
  by_cases c : fr.length < 550
  · obtain ⟨p1, p2, p3⟩ := hp.1 c
    rw [if_pos c]
    intro _
    refine ⟨?_, h14, fun _ => ⟨h12, r2, r3, p1, by show fr.length + 1 ≤ 550; omega, p2, r7, h14, r9⟩⟩
    show (z.2.1.2.2 11).toInt = 0
    rw [p3]; exact h11
  · have p := hp.2 c
    rw [if_neg c]
    intro _
    refine ⟨?_, h14, fun w => ?_⟩
    · show (z.2.1.2.2 11).toInt = 3
      rw [p]; exact gx_lit 3 (by decide)
    · have w : (3 : Nat) = 0 ∨ (3 : Nat) = 1 := w
      omega
theorem gw_try {A : gv_A} (S : gw_St) (hC : gw_C A S) {a : Int} {q w : Nat} {fr : List gv_Fr} {K : List (Nat × Int)} {M : gv_Mm} (h11 : (S.1.2.2 11).toInt = 0) (h : gw_R S (a, q, fr, K, w, M)) (h0 : 0 ≤ a) (h1 : a < 1000) : gw_tyQ S (if A.2.2.2.2.2.2.2 = true ∧ 1000 ≤ w then (3, a, q, fr, K, w, M) else gv_pu (gv_at A A.2.2.1 (-1) a).toInt (-1) (a + 1) q fr K (if A.2.2.2.2.2.2.2 = true then w + 1 else w) M) (gm_f_Runner_beginTry S) := by
  have hR := h
  have hlo := hC.2.2.2.2.2.2.2.1
  obtain ⟨r1, r2, r3, r4, r5, r6, r7, r8, r9⟩ := h
  have r8 : (S.1.2.2 14).toInt = (w : Nat) := r8
  have n1 : (-1 : Int32).toInt = -1 := by decide
  have a14 := gx_ak (S.1.2.2 14) 1 1 (by decide)
  unfold gm_f_Runner_beginTry
  refine gf_if (Q := gw_tyQ S _) (fun p => ?_) (fun p => ?_)
  · rw [if_pos p, hlo.mp p, if_neg (fun w => absurd w.1 (by decide)), if_neg (by decide)]
    refine gf_ca (Q := gw_tyQ S _) (gw_1Q (gv_at A A.2.2.1 (-1) a)) (gw_tg hC r1) (fun r49 u49 h49 => ?_)
    have h49 : r49 = gv_at A A.2.2.1 (-1) a := h49
    refine gf_ca (Q := gw_tyQ S _) (gw_puQ S (gv_at A A.2.2.1 (-1) a).toInt (-1) q fr K.length) (gw_push r49 (-1) S _ rfl r4 r5 r6 (by rw [h49]) n1 r2 r3 r7.1 (Or.inl rfl)) (fun r53 u53 h53 => ?_)
    exact gw_pushed (n12 := S.1.2.2 12 + 1) (n14 := S.1.2.2 14) h11 hR (gw_a1 (A := A) r1 h0 h1) r8 h53
  · have l : A.2.2.2.2.2.2.2 = true := by
      cases e : A.2.2.2.2.2.2.2 with
      | true => rfl
      | false => exact absurd (hlo.mpr e) p
    rw [l]
    refine gf_if (Q := gw_tyQ S _) (fun p2 => ?_) (fun p2 => ?_)
    · rw [Int32.lt_iff_toInt_lt, gx_lit 1000 (by decide)] at p2
      rw [if_neg p, if_neg (fun w => by omega), if_pos rfl]
      refine gf_ca (Q := gw_tyQ S _) (gw_1Q (gv_at A A.2.2.1 (-1) a)) (gw_tg hC r1) (fun r49 u49 h49 => ?_)
      have h49 : r49 = gv_at A A.2.2.1 (-1) a := h49
      refine gf_ca (Q := gw_tyQ S _) (gw_puQ S (gv_at A A.2.2.1 (-1) a).toInt (-1) q fr K.length) (gw_push r49 (-1) S _ rfl r4 r5 r6 (by rw [h49]) n1 r2 r3 r7.1 (Or.inl rfl)) (fun r53 u53 h53 => ?_)
      exact gw_pushed (n12 := S.1.2.2 12 + 1) (n14 := S.1.2.2 14 + 1) (w' := w + 1) h11 hR (gw_a1 (A := A) r1 h0 h1) (by omega) h53
    · rw [Int32.lt_iff_toInt_lt, gx_lit 1000 (by decide)] at p2
      rw [if_pos ⟨rfl, by omega⟩]
      intro _
      refine ⟨gx_lit 3 (by decide), r8, fun w => ?_⟩
      have w : (3 : Nat) = 0 ∨ (3 : Nat) = 1 := w
      omega
