/-! The class's runner against the machine over lists: returns. -/
theorem gw_kp_f {KK : List (Nat × Int)} (hk : KK.length ≤ 5720) : ∀ l : List (Nat × Int), l.foldr (gw_ad 5720) KK = gv_kp KK.length l ++ KK := by
  intro l
  induction l with
  | nil =>
    unfold gv_kp
    rw [List.drop_nil]
    rfl
  | cons x r ih =>
    rw [List.foldr_cons, ih]
    unfold gw_ad gv_kp
    rw [List.length_append, List.length_drop, List.length_cons]
    by_cases c : r.length < 5720 - KK.length
    · rw [if_pos (by omega), show r.length - (5720 - KK.length) = 0 by omega, show r.length + 1 - (5720 - KK.length) = 0 by omega]
      rfl
    · rw [if_neg (by omega), show r.length + 1 - (5720 - KK.length) = (r.length - (5720 - KK.length)) + 1 by omega]
      rfl
/-- nothing to add -/
theorem gw_from_0 {n n1 : Nat} {K : List (Nat × Int)} {x y : Int32} {S : gm_S × gm_S} (hxy : y.toInt ≤ x.toInt) (hK : gw_K n K S.1) : ∀ F, gw_K n K (gm_f_Captures_addFrom_3 n n1 x y S (F + 1) x (S.1, S.2)).2.1 := by
  intro F
  rw [gm_f_Captures_addFrom_3, if_pos (by rw [Int32.le_iff_toInt_le]; exact hxy)]
  exact hK
def gw_kmQ (M : gv_Mm) (m k : gm_S) (z : Int32 × (gm_S × gm_S × gm_S)) : Prop := gw_M M ((va_up (va_up (va_up m.1 0 (z.2.1.1 0)) 1 (z.2.1.1 1)) 2 (z.2.1.1 2)), m.2.1, m.2.2) ((va_up (va_up k.1 0 (z.2.2.1.1 0)) 1 (z.2.2.1.1 1)), k.2.1, (va_up k.2.2 2 (z.2.2.1.2.2 2)))
theorem gw_keep {x y w v : Int32} {m k c : gm_S} {r p q mk : Nat} {M : gv_Mm} {K : List (Nat × Int)} (hx : x.toInt = (r : Nat)) (hr : r < 8) (hy : y.toInt = (p : Nat)) (hp : p < 11) (hw : w.toInt = (q : Nat)) (hq : q ≤ 10) (hv : v.toInt = (mk : Nat)) (hM : gw_M M m k) (hK : gw_K 275 K c) : gw_kmQ (gv_mk M (r : Nat) p q (K.take (K.length - mk))) m k (gm_f_Memory_keepMatch x y w v (m, k, c)) := by
  obtain ⟨z, e, hz⟩ := gw_slot hx hr hy hp
  have cz := gp_cl_n hz
  have nz : ¬ z = -1 := by
    intro w
    rw [w] at hz
    have : (-1 : Int32).toInt = -1 := by decide
    omega
  obtain ⟨KK, h1, h2, h3⟩ := hM
  have kl := hK.2.1
  have kn := hK.1
  have kk := h1.2.1
  unfold gm_f_Memory_keepMatch
  rw [e]
  show gw_kmQ _ m k (if z = -1 then _ else _)
  rw [if_neg nz, cz]
  have fr : gw_fQ 5720 ((K.take (K.length - mk)).foldr (gw_ad 5720) KK) (gm_f_Captures_addFrom 5720 275 v (c.2.2 2) (k, c)) := by
    by_cases le : mk ≤ K.length
    · have sp : [] ++ (K.take (K.length - mk) ++ K.drop (K.length - mk)) = K := by rw [List.nil_append, List.take_append_drop]
      refine gw_from (by omega) (S := (k, c)) (A := []) (B := K.drop (K.length - mk)) (by rw [sp]; exact hK) (by rw [sp]; omega) ?_ ?_ h1
      · rw [hv, List.length_drop]; omega
      · show (c.2.2 2).toInt = _
        rw [kn, List.length_drop, List.length_take]; omega
    · rw [show K.length - mk = 0 by omega, List.take_zero]
      exact gw_from_0 (by omega) h1 5999
  refine gf_ca (Q := gw_kmQ _ m k) (gw_fQ 5720 ((K.take (K.length - mk)).foldr (gw_ad 5720) KK)) fr (fun r1 u hu => ?_)
  rw [gw_kp_f kk] at hu
  obtain ⟨u1, u2, u3⟩ := hu
  have u1 : (u.1.2.2 2).toInt = ((gv_kp KK.length (K.take (K.length - mk)) ++ KK).length : Nat) := u1
  refine ⟨gv_kp KK.length (K.take (K.length - mk)) ++ KK, ⟨u1, u2, u3⟩, ?_, fun r' p' r2 p2 => ?_⟩
  · show _ = M.2.2 + (gv_kp M.2.2 (K.take (K.length - mk))).length
    rw [List.length_append, h2, Nat.add_comm]
  · obtain ⟨a1, a2, a3⟩ := h3 r' p' r2 p2
    by_cases c0 : r' = r ∧ p' = p
    · obtain ⟨c1, c2⟩ := c0
      subst c1 c2
      have e1 : (gv_mk M (r' : Nat) p' q (K.take (K.length - mk))).1 (r' : Nat) p' = (q : Int) := if_pos ⟨rfl, rfl⟩
      have e2 : (gv_mk M (r' : Nat) p' q (K.take (K.length - mk))).2.1 (r' : Nat) p' = gv_kp M.2.2 (K.take (K.length - mk)) := if_pos ⟨rfl, rfl⟩
      rw [e1, e2]
      refine ⟨?_, by omega, fun _ => ⟨[], KK, by rw [h2]; rfl, ?_, ?_⟩⟩
      · show (upd (m.1 0) (11 * r' + p') w (11 * r' + p')).toInt = _
        rw [gx_us]; exact hw
      · show (upd (m.1 1) (11 * r' + p') (k.2.2 2) (11 * r' + p')).toInt = _
        rw [gx_us]; exact h1.1
      · show (upd (m.1 2) (11 * r' + p') (u.1.2.2 2) (11 * r' + p')).toInt = _
        rw [gx_us, u1, List.length_append, h2, Nat.add_comm]
    · have e1 : (gv_mk M (r : Nat) p q (K.take (K.length - mk))).1 (r' : Nat) p' = M.1 (r' : Nat) p' := if_neg (by omega)
      have e2 : (gv_mk M (r : Nat) p q (K.take (K.length - mk))).2.1 (r' : Nat) p' = M.2.1 (r' : Nat) p' := if_neg (by omega)
      rw [e1, e2]
      refine ⟨?_, a2, fun w0 => ?_⟩
      · show (upd (m.1 0) (11 * r + p) w (11 * r' + p')).toInt = _
        rw [gx_un _ _ _ (by omega)]; exact a1
      · obtain ⟨A, B, b1, b2, b3⟩ := a3 w0
        refine ⟨gv_kp KK.length (K.take (K.length - mk)) ++ A, B, by rw [b1, List.append_assoc], ?_, ?_⟩
        · show (upd (m.1 1) (11 * r + p) (k.2.2 2) (11 * r' + p')).toInt = _
          rw [gx_un _ _ _ (by omega)]; exact b2
        · show (upd (m.1 2) (11 * r + p) (u.1.2.2 2) (11 * r' + p')).toInt = _
          rw [gx_un _ _ _ (by omega)]; exact b3
def gw_rtQ (S : gw_St) (s : gv_Sx) (z : Int32 × gw_St) : Prop := gw_Z ((S.1.1, S.1.2.1, (va_up (va_up S.1.2.2 7 (z.2.1.2.2 7)) 12 (z.2.1.2.2 12))), S.2.1, S.2.2.1, ((va_up (va_up (va_up S.2.2.2.1.1 0 (z.2.2.2.2.1.1 0)) 1 (z.2.2.2.2.1.1 1)) 2 (z.2.2.2.2.1.1 2)), S.2.2.2.1.2.1, S.2.2.2.1.2.2), ((va_up (va_up S.2.2.2.2.1.1 0 (z.2.2.2.2.2.1.1 0)) 1 (z.2.2.2.2.2.1.1 1)), S.2.2.2.2.1.2.1, (va_up S.2.2.2.2.1.2.2 2 (z.2.2.2.2.2.1.2.2 2))), S.2.2.2.2.2.1, S.2.2.2.2.2.2) s
theorem gw_return {A : gv_A} (S : gw_St) (hC : gw_C A S) {a : Int} {q w : Nat} {y : gv_Fr} {fr : List gv_Fr} {K : List (Nat × Int)} {M : gv_Mm} (h11 : (S.1.2.2 11).toInt = 0) (h : gw_R S (a, q, y :: fr, K, w, M)) (hy : ¬ y.2.2.2 = -1) : gw_rtQ S (0, y.1, q, fr, K, w, if A.2.2.2.2.2.2.2 = true then M else gv_mk M y.2.2.2 y.2.1 q (K.take (K.length - y.2.2.1))) (gm_f_Runner_returnFromRule S) := by
  have hlo := hC.2.2.2.2.2.2.2.1
  obtain ⟨r1, r2, r3, r4, r5, r6, r7, r8, r9⟩ := h
  obtain ⟨f1, f2, f3, f4, f5, f6, f7⟩ := r6
  have r5 : fr.length + 1 ≤ 550 := r5
  have f6' := f6.resolve_left hy
  have er : y.2.2.2 = ((y.2.2.2.toNat : Nat) : Int) := by omega
  unfold gm_f_Runner_returnFromRule
  refine gf_ca (Q := gw_rtQ S _) (gw_poQ fr.length) (gw_pop _ r4 (by omega)) (fun r1' u1 h1 => ?_)
  have h1 : (u1.1.2.2 7).toInt = (fr.length : Nat) := h1
  have c1 := gp_cl_n h1
  rw [c1]
  refine gf_if (Q := gw_rtQ S _) (fun p => ?_) (fun p => ?_)
  · rw [hlo.mp p, if_neg (by decide), er]
    refine gf_ca (Q := gw_rtQ S _) (gw_kmQ (gv_mk M ((y.2.2.2.toNat : Nat) : Int) y.2.1 q (K.take (K.length - y.2.2.1))) S.2.2.2.1 S.2.2.2.2.1) (gw_keep (by rw [← er]; exact f4) (by omega) f2 (by omega) r2 r3 f3 r9 r7) (fun r50 u50 h50 => ?_)
    intro _
    exact ⟨h11, r8, fun _ => ⟨f1, r2, r3, h1, by show fr.length ≤ 550; omega, f7, r7, r8, h50⟩⟩
  · have l : A.2.2.2.2.2.2.2 = true := by
      cases e : A.2.2.2.2.2.2.2 with
      | true => rfl
      | false => exact absurd (hlo.mpr e) p
    rw [if_pos l]
    intro _
    exact ⟨h11, r8, fun _ => ⟨f1, r2, r3, h1, by show fr.length ≤ 550; omega, f7, r7, r8, r9⟩⟩
