/-! Both sides match alike. -/
/-- the same nodes -/
def gs_nk (K m : gm_S) : Prop := K.2.2 2 = m.2.2 41 ∧ (0 ≤ (m.2.2 41).toInt ∧ (m.2.2 41).toInt ≤ 275) ∧ ∀ i : Nat, (i : Int) < (m.2.2 41).toInt → K.1 0 i = m.1 42 i ∧ K.1 1 i = m.1 43 i ∧ ∀ x : Int32, x.toInt = (i : Nat) → (gm_f_Captures_outerOf 275 x K).1 = m.1 44 i
theorem gs_ca_at {b e : Nat → Int32} : ∀ (L : List (Nat × Int)), gw_ca b e L → ∀ i x, L.reverse[i]? = some x → (b i).toInt = x.1 ∧ (e i).toInt = x.2 := by
  intro L
  induction L with
  | nil => intro _ i x h; rw [List.reverse_nil, List.getElem?_nil] at h; cases h
  | cons y r ih =>
    intro w i x h
    obtain ⟨w1, w2, w3⟩ := w
    rw [List.reverse_cons] at h
    rcases gc_app h with h | ⟨c, ec, h⟩
    · exact ih w3 i x h
    · rw [List.length_reverse] at ec
      cases c with
      | zero =>
        rw [List.getElem?_cons_zero] at h
        injection h with h
        rw [← h, ec, Nat.add_zero]
        exact ⟨w1, w2⟩
      | succ c => rw [List.getElem?_cons_succ, List.getElem?_nil] at h; cases h
/-- the captures of the class and those that are gathered -/
theorem gs_caps {C : gv_C} {f : Nat → Int × Lean.ParserDescr} {R : Nat} (hC : ∀ c, C.1 c = (f (gq_fx f (c : Int) R)).2) (hf : ∀ r, r < R → gv_wf f R (f r).2) {k : Nat} (hv : 0 ≤ gv_v C k (f 0).2 0) (h0 : 0 < R) {K A : gm_S} {z : Int32 × gm_S} (hK : gw_K 275 (gv_rv (gv_L C k (f 0).2 0)) K) (hQ : gc_Q A 0 (gc_T C k (f 0).2 0 (-1) 0) z) : gs_nk K z.2 := by
  obtain ⟨k1, k2, k3⟩ := hK
  rw [gv_rv_l] at k1 k2
  have tl := gc_Tl C k (f 0).2 0 (-1) 0
  obtain ⟨q1, -, q3⟩ := hQ
  rw [tl, Nat.zero_add] at q1
  have at1 : ∀ (i : Nat) (t : Nat × Nat × Int), (gc_T C k (f 0).2 0 (-1) 0)[i]? = some t → (K.1 0 i).toInt = (t.1 : Nat) ∧ (K.1 1 i).toInt = (t.2.1 : Nat) := by
    intro i t ht
    have e : (gv_L C k (f 0).2 0)[i]? = some (t.1, t.2.1) := by
      rw [← gc_TL C k (f 0).2 0 (-1) 0, List.getElem?_map, ht]
      rfl
    have r := gs_ca_at _ k3 i (t.1, (t.2.1 : Int)) (by
      unfold gv_rv
      rw [List.reverse_reverse, List.getElem?_map, e]
      rfl)
    exact r
  refine ⟨Int32.toInt_inj.mp (by rw [k1, q1]), ⟨by rw [q1]; omega, by rw [q1]; omega⟩, fun i hi => ?_⟩
  rw [q1] at hi
  have il : i < (gc_T C k (f 0).2 0 (-1) 0).length := by omega
  have s := List.getElem?_eq_getElem il
  obtain ⟨a1, a2⟩ := at1 i _ s
  obtain ⟨c1, c2, c3⟩ := q3 i _ s
  rw [Nat.zero_add] at c1 c2 c3
  refine ⟨Int32.toInt_inj.mp (by rw [a1, c1]), Int32.toInt_inj.mp (by rw [a2, c2]), fun x hx => Int32.toInt_inj.mp ?_⟩
  have o := gc_outer (C := C) (f := f) (R := R) hC hf (en := fun l => (K.1 1 l).toInt) k (f 0).2 0 (-1) 0 (hf 0 h0) hv (fun a t ht => by rw [Nat.zero_add]; exact (at1 a t ht).2) ⟨Or.inl rfl, fun l _ l2 => absurd l2 (by omega)⟩ i _ s
  rw [Nat.zero_add] at o
  rw [gc_outerOf hx (by omega) o, c3]
theorem gs_mtch (x : Int32) {s0 s13 s2 s14 s15 s16 s3 s6 s4 t : gm_S} (hGK : gs_GK s0 s4 s6 t) (hSK : gs_SK s2 t) (hI : gp_RI t) (hc : ¬ s0.2.2 5 = 0) : ((gm_f_MD_match x t).2.2.2 39 = 1 ∧ (gm_f_MD_match x t).2.2.2 0 = 0) ∧ (gm_f_Runner_run x (s13, s2, s14, s15, s16, s3, s6, s4)).1 = (gm_f_MD_match x t).1 ∧ (gm_f_Runner_run x (s13, s2, s14, s15, s16, s3, s6, s4)).2.1.2.2 14 = (gm_f_MD_match x t).2.2.2 40 ∧ gs_nk (gm_f_Runner_run x (s13, s2, s14, s15, s16, s3, s6, s4)).2.2.2.1 (gm_f_MD_match x t).2 := by
  rcases hGK with ⟨h, -⟩ | ⟨-, hb, tx, ty, R, f, hp⟩
  · exact absurd h hc
  obtain ⟨tk, ck, P, fed, hC, hP, hRK, hFT, hQ⟩ := gc_md x t hI hb
  obtain ⟨hG, hN, hR, -⟩ := gy_G_of hp hI hb
  rw [← hP] at hN
  have hp' := hp
  obtain ⟨-, hh, -, -, -, -, hcod⟩ := hp'
  obtain ⟨A, hA⟩ : ∃ A, A = gc_A t tk ck := ⟨_, rfl⟩
  have hW : gy_W tx ty R P fed f s4 s6 s2 A := by rw [hA]; exact ⟨hG, hC, hh, hRK, hFT, hN, hcod, hR, hSK⟩
  rw [← hA] at hQ
  obtain ⟨hQ0, hQ1, hQ2, hQ3⟩ := hQ
  refine ⟨hQ0, ?_⟩
  have n1 : (-1 : Int32).toInt = -1 := by decide
  have z0 : (0 : Int32).toInt = 0 := by decide
  have nk0 : ∀ {K m : gm_S}, K.2.2 2 = 0 → m.2.2 41 = 0 → gs_nk K m := fun a b => ⟨by rw [a, b], ⟨by rw [b, z0]; omega, by rw [b, z0]; omega⟩, fun i hi => absurd hi (by rw [b, z0]; omega)⟩
  -- the captures, for both ways
  have caps : ∀ (lk : Bool) (k : Nat) (K : gm_S) (z : Int32 × gm_S), gy_E tx ty R f fed (fun q => (A.1 33 q).toInt) lk (gy_tv A) (gy_td A) k → 0 ≤ gy_tv A → gw_K 275 (gv_rv (gv_L (gy_C tx ty R f fed (fun q => (A.1 33 q).toInt) lk) k (gp_e0 3 (f 0).1.toNat 0) 0)) K → gc_nQ A P fed z → gs_nk K z.2 := by
    intro lk k K z hE v0 hK hn
    have hW' := hW
    obtain ⟨hG, hC, hh, ⟨rank, RK⟩, ⟨rk, tt, hF⟩, -, -, -, -⟩ := hW'
    obtain ⟨Pg, nA, nC, hU, hGp, -, hEm, hH, hKk, -⟩ := hh
    have hT := (gy_T_of hC hU hGp hEm (fun c c1 c2 => (hH c c1 c2).2) hKk hF lk).1
    have fx := gy_fx0 hG.1 hG.2.2.2.2.2.2.1
    obtain ⟨e1, e2, -⟩ := hE
    cases k with
    | zero => exact absurd (show (-2 : Int) = gy_tv A from e1) (by omega)
    | succ k =>
      have body : (gy_C tx ty R f fed (fun q => (A.1 33 q).toInt) lk).1 (f 0).1.toNat = (f 0).2 := by
        show (f (gq_fx f (((f 0).1.toNat : Nat) : Int) R)).2 = _
        rw [fx]
      have e1 : gv_v (gy_C tx ty R f fed (fun q => (A.1 33 q).toInt) lk) k ((gy_C tx ty R f fed (fun q => (A.1 33 q).toInt) lk).1 (f 0).1.toNat) 0 = gy_tv A := e1
      have hK : gw_K 275 (gv_rv (gv_L (gy_C tx ty R f fed (fun q => (A.1 33 q).toInt) lk) k ((gy_C tx ty R f fed (fun q => (A.1 33 q).toInt) lk).1 (f 0).1.toNat) 0)) K := hK
      rw [body] at e1 hK
      have rep := (hGp.2.1 0 (by have := hG.1; omega)).2.2
      refine gs_caps (C := gy_C tx ty R f fed (fun q => (A.1 33 q).toInt) lk) (f := f) (R := R) (fun _ => rfl) hG.2.2.2.2.2.1 (k := k) (by rw [e1]; exact v0) (by have := hG.1; omega) hK (hn.2 v0 Pg _ _ hT ⟨k, (f 0).2, rep, by rw [e1]; exact v0, rfl⟩)
  by_cases x0 : x = 0
  · obtain ⟨a1, a2, a3⟩ := hQ3 x0
    rw [x0] at *
    obtain ⟨k, hE, r1, r2, M, r3, r4⟩ := gy_runY hW s13 s14 s15 s16 s3
    have ew := gc_work hW hE r4 (st := A.1 8 (8 * Int32.toNatClampNeg (A.2.2 4) + 0)) rfl
    have hv := hE.2.1
    by_cases v0 : 0 ≤ gy_tv A
    · obtain ⟨b1, b2⟩ := r1 v0
      exact ⟨Int32.toInt_inj.mp (by rw [b1, a1]), Int32.toInt_inj.mp (by rw [r3, a2, ew]), caps false k _ _ hE v0 b2 a3⟩
    · obtain ⟨b1, b2⟩ := r2 (by omega)
      exact ⟨Int32.toInt_inj.mp (by rw [b1, a1, n1]; omega), Int32.toInt_inj.mp (by rw [r3, a2, ew]), nk0 b2 (a3.1 (by omega))⟩
  · obtain ⟨k, hE, r1, r2⟩ := gy_runM hW s13 s14 s15 s16 s3 x0
    have hv := hE.2.1
    by_cases d0 : gy_td A ≤ 1000
    · obtain ⟨a1, a2, a3⟩ := hQ2 x0 d0
      obtain ⟨b0, b1, b2⟩ := r1 d0
      by_cases v0 : 0 ≤ gy_tv A
      · obtain ⟨c1, c2⟩ := b1 v0
        exact ⟨Int32.toInt_inj.mp (by rw [c1, a1]), Int32.toInt_inj.mp (by rw [b0, a2]), caps true k _ _ hE v0 c2 a3⟩
      · obtain ⟨c1, c2⟩ := b2 (by omega)
        exact ⟨Int32.toInt_inj.mp (by rw [c1, a1, n1]; omega), Int32.toInt_inj.mp (by rw [b0, a2]), nk0 c2 (a3.1 (by omega))⟩
    · obtain ⟨a1, a2, a3⟩ := hQ1 x0 (by omega)
      obtain ⟨b0, b1, b2⟩ := r2 (by omega)
      exact ⟨by rw [b1, a1], Int32.toInt_inj.mp (by rw [b0, a2]; decide), nk0 b2 a3⟩
