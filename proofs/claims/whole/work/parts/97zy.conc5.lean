/-! The class's runner against the machine over lists: calls and returns. -/
/-- the relation speaks of these alone -/
theorem gw_Z_e {S S' : gw_St} {s : gv_Sx} (h : gw_Z S s) (e3 : S'.1.1 3 = S.1.1 3) (e4 : S'.1.1 4 = S.1.1 4) (e5 : S'.1.1 5 = S.1.1 5) (e6 : S'.1.1 6 = S.1.1 6) (e7 : S'.1.2.2 7 = S.1.2.2 7) (e11 : S'.1.2.2 11 = S.1.2.2 11) (e12 : S'.1.2.2 12 = S.1.2.2 12) (e13 : S'.1.2.2 13 = S.1.2.2 13) (e14 : S'.1.2.2 14 = S.1.2.2 14) (k0 : S'.2.2.1.1 0 = S.2.2.1.1 0) (k1 : S'.2.2.1.1 1 = S.2.2.1.1 1) (k2 : S'.2.2.1.2.2 2 = S.2.2.1.2.2 2) (m0 : S'.2.2.2.1.1 0 = S.2.2.2.1.1 0) (m1 : S'.2.2.2.1.1 1 = S.2.2.2.1.1 1) (m2 : S'.2.2.2.1.1 2 = S.2.2.2.1.1 2) (q0 : S'.2.2.2.2.1.1 0 = S.2.2.2.2.1.1 0) (q1 : S'.2.2.2.2.1.1 1 = S.2.2.2.2.1.1 1) (q2 : S'.2.2.2.2.1.2.2 2 = S.2.2.2.2.1.2.2 2) : gw_Z S' s := by
  unfold gw_Z gw_R gw_K gw_M gw_K at *
  rw [e3, e4, e5, e6, e7, e11, e12, e13, e14, k0, k1, k2, m0, m1, m2, q0, q1, q2]
  exact h
def gw_crQ (S : gw_St) (s : gv_Sx) (z : Int32 × gw_St) : Prop := gw_Z (((va_up (va_up (va_up (va_up S.1.1 3 (z.2.1.1 3)) 4 (z.2.1.1 4)) 5 (z.2.1.1 5)) 6 (z.2.1.1 6)), S.1.2.1, (va_up (va_up (va_up (va_up (va_up S.1.2.2 7 (z.2.1.2.2 7)) 11 (z.2.1.2.2 11)) 12 (z.2.1.2.2 12)) 13 (z.2.1.2.2 13)) 14 (z.2.1.2.2 14))), S.2.1, ((va_up (va_up S.2.2.1.1 0 (z.2.2.2.1.1 0)) 1 (z.2.2.2.1.1 1)), S.2.2.1.2.1, (va_up S.2.2.1.2.2 2 (z.2.2.2.1.2.2 2))), ((va_up S.2.2.2.1.1 0 (z.2.2.2.2.1.1 0)), S.2.2.2.1.2.1, S.2.2.2.1.2.2), S.2.2.2.2.1, S.2.2.2.2.2.1, S.2.2.2.2.2.2) s
theorem gw_result {x y : Int32} {m k : gm_S} {r p : Nat} (hx : x.toInt = (r : Nat)) (hr : r < 8) (hy : y.toInt = (p : Nat)) (hp : p < 11) : (gm_f_Memory_result x y (m, k)).1 = m.1 0 (11 * r + p) := by
  obtain ⟨z, e, hz⟩ := gw_slot hx hr hy hp
  have cz := gp_cl_n hz
  have nz : ¬ z = -1 := by
    intro w
    rw [w] at hz
    have : (-1 : Int32).toInt = -1 := by decide
    omega
  unfold gm_f_Memory_result
  rw [e]
  show (if z = -1 then _ else _ : Int32 × (gm_S × gm_S)).1 = _
  rw [if_neg nz, cz]
def gw_rcQ (K : List (Nat × Int)) (z : Int32 × (gm_S × gm_S × gm_S)) : Prop := gw_K 275 K z.2.2.2
theorem gw_recall {x y : Int32} {m k c : gm_S} {r p : Nat} {M : gv_Mm} {K : List (Nat × Int)} (hx : x.toInt = (r : Nat)) (hr : r < 8) (hy : y.toInt = (p : Nat)) (hp : p < 11) (hM : gw_M M m k) (h0 : 0 ≤ M.1 (r : Nat) p) (hK : gw_K 275 K c) : gw_rcQ ((M.2.1 (r : Nat) p).foldr gv_ad K) (gm_f_Memory_recallCaptures x y (m, k, c)) := by
  obtain ⟨z, e, hz⟩ := gw_slot hx hr hy hp
  have cz := gp_cl_n hz
  have nz : ¬ z = -1 := by
    intro w
    rw [w] at hz
    have : (-1 : Int32).toInt = -1 := by decide
    omega
  obtain ⟨KK, h1, h2, h3⟩ := hM
  obtain ⟨-, -, h4⟩ := h3 r p hr hp
  obtain ⟨A, B, g1, g2, g3⟩ := h4 h0
  rw [g1] at h1
  have le := h1.2.1
  unfold gm_f_Memory_recallCaptures
  rw [e]
  show gw_rcQ _ (if z = -1 then _ else _)
  rw [if_neg nz, cz]
  refine gf_ca (Q := gw_rcQ _) (gw_fQ 275 ((M.2.1 (r : Nat) p).foldr (gw_ad 275) K)) (gw_from (by omega) (S := (c, k)) h1 (by omega) g2 g3 hK) (fun r u hu => ?_)
  obtain ⟨k1, k2, k3⟩ := hu
  exact ⟨k1, k2, k3⟩
theorem gw_call {A : gv_A} (x : Int32) (S : gw_St) (hC : gw_C A S) {a : Int} {q w r : Nat} {fr : List gv_Fr} {K : List (Nat × Int)} {M : gv_Mm} (h11 : (S.1.2.2 11).toInt = 0) (h : gw_R S (a, q, fr, K, w, M)) (h0 : 0 ≤ a) (h1 : a < 1000) (hw : w < 2000000000) (hx : x.toInt = (r : Nat)) (hr : r < 8) : gw_crQ S (if A.2.2.2.2.2.2.2 = true ∨ M.1 x.toInt q = -2 then gv_pu (a + 1) x.toInt (gv_sta A x.toInt) q fr K (if A.2.2.2.2.2.2.2 = true then w else w + 1) M else if M.1 x.toInt q = -1 then gv_fl A.2.2.2.2.2.2.2 fr K w M a q else (0, a + 1, (M.1 x.toInt q).toNat, fr, (M.2.1 x.toInt q).foldr gv_ad K, w, M)) (gm_f_Runner_callRule x S) := by
  have hR := h
  have hlo := hC.2.2.2.2.2.2.2.1
  obtain ⟨r1, r2, r3, r4, r5, r6, r7, r8, r9⟩ := h
  have r8 : (S.1.2.2 14).toInt = (w : Nat) := r8
  have r2 : (S.1.2.2 13).toInt = (q : Nat) := r2
  have r3 : q ≤ 10 := r3
  have n1 : (-1 : Int32).toInt = -1 := by decide
  have n2 : (-2 : Int32).toInt = -2 := by decide
  have a14 := gx_ak (S.1.2.2 14) 1 1 (by decide)
  unfold gm_f_Runner_callRule
  refine gf_if (Q := gw_crQ S _) (fun p => ?_) (fun p => ?_)
  · have l := hlo.mp p
    have hM := r9
    obtain ⟨KK, m1, m2, m3⟩ := r9
    obtain ⟨g1, g2, -⟩ := m3 r q hr (by omega)
    have g1 : (S.2.2.2.1.1 0 (11 * r + q)).toInt = M.1 (r : Nat) q := g1
    have g2 : -2 ≤ M.1 (r : Nat) q ∧ M.1 (r : Nat) q ≤ 10 := g2
    clear m3
    rw [l, hx]
    refine gf_ca (Q := gw_crQ S _) (fun z => z.1 = S.2.2.2.1.1 0 (11 * r + q)) (gw_result hx hr r2 (by omega)) (fun r21 u21 h21 => ?_)
    have h21 : r21 = S.2.2.2.1.1 0 (11 * r + q) := h21
    have v21 : r21.toInt = M.1 (r : Nat) q := by rw [h21]; exact g1
    refine gf_if (Q := gw_crQ S _) (fun p1 => ?_) (fun p1 => ?_)
    · have v1 : M.1 (r : Nat) q = -1 := by rw [← v21, p1]; exact n1
      rw [if_neg (fun w => w.elim (by decide) (fun w => by omega)), if_pos v1]
      refine gf_ca (Q := gw_crQ S _) (gw_flQ S (gv_fl false fr K w M a q)) (gw_fail S ⟨fun _ => rfl, fun _ => p⟩ h11 hR) (fun _ u31 h31 => ?_)
      exact gw_Z_e h31 rfl rfl rfl rfl rfl rfl rfl rfl rfl rfl rfl rfl rfl rfl rfl rfl rfl rfl
    · have v1 : ¬ M.1 (r : Nat) q = -1 := fun w => p1 (Int32.toInt_inj.mp (by rw [v21, n1]; exact w))
      refine gf_if (Q := gw_crQ S _) (fun p2 => ?_) (fun p2 => ?_)
      · have v2 : M.1 (r : Nat) q = -2 := by rw [← v21, p2]; exact n2
        rw [if_pos p, if_pos (Or.inr v2), if_neg (by decide)]
        refine gf_ca (Q := gw_crQ S _) (gw_puQ S (a + 1) ((r : Nat) : Int) q fr K.length) (gw_push (S.1.2.2 12 + 1) x S _ rfl r4 r5 r6 (gw_a1 (A := A) r1 h0 h1) hx r2 r3 r7.1 (Or.inr ⟨by omega, by omega⟩)) (fun r68 u68 h68 => ?_)
        refine gf_ca (Q := gw_crQ S _) (fun z => z.1.toInt = gv_sta A ((r : Nat) : Int)) (gw_sta hC hx) (fun r77 u77 h77 => ?_)
        exact gw_Z_e (gw_pushed (n12 := r77) (n14 := S.1.2.2 14 + 1) (w' := w + 1) h11 hR h77 (by omega) h68) rfl rfl rfl rfl rfl rfl rfl rfl rfl rfl rfl rfl rfl rfl rfl rfl rfl rfl
      · have v2 : ¬ M.1 (r : Nat) q = -2 := fun w => p2 (Int32.toInt_inj.mp (by rw [v21, n2]; exact w))
        rw [if_neg (fun w => w.elim (by decide) v2), if_neg v1]
        refine gf_ca (Q := gw_crQ S _) (gw_rcQ ((M.2.1 (r : Nat) q).foldr gv_ad K)) (gw_recall hx hr r2 (by omega) hM (by omega) r7) (fun r99 u99 h99 => ?_)
        obtain ⟨k1, k2, k3⟩ := h99
        intro _
        refine ⟨h11, r8, fun _ => ⟨gw_a1 (A := A) r1 h0 h1, ?_, ?_, r4, r5, r6, ⟨k1, k2, k3⟩, r8, hM⟩⟩
        · show r21.toInt = (((M.1 (r : Nat) q).toNat : Nat) : Int)
          omega
        · show (M.1 (r : Nat) q).toNat ≤ 10
          omega
  · have l : A.2.2.2.2.2.2.2 = true := by
      cases e : A.2.2.2.2.2.2.2 with
      | true => rfl
      | false => exact absurd (hlo.mpr e) p
    rw [if_neg p, l, if_pos (Or.inl rfl), if_pos rfl, hx]
    refine gf_ca (Q := gw_crQ S _) (gw_puQ S (a + 1) ((r : Nat) : Int) q fr K.length) (gw_push (S.1.2.2 12 + 1) x S _ rfl r4 r5 r6 (gw_a1 (A := A) r1 h0 h1) hx r2 r3 r7.1 (Or.inr ⟨by omega, by omega⟩)) (fun r68 u68 h68 => ?_)
    refine gf_ca (Q := gw_crQ S _) (fun z => z.1.toInt = gv_sta A ((r : Nat) : Int)) (gw_sta hC hx) (fun r77 u77 h77 => ?_)
    exact gw_Z_e (gw_pushed (n12 := r77) (n14 := S.1.2.2 14) (w' := w) h11 hR h77 r8 h68) rfl rfl rfl rfl rfl rfl rfl rfl rfl rfl rfl rfl rfl rfl rfl rfl rfl rfl
