/-! The class's runner against the machine over lists: frames, memory, failing. -/
abbrev gw_St : Type := gm_S × gm_S × gm_S × gm_S × gm_S × gm_S × gm_S
/-- frames in arrays: the latest first -/
def gw_fa (T P C U : Nat → Int32) : List gv_Fr → Prop
  | [] => True
  | x :: r => (T r.length).toInt = x.1 ∧ (P r.length).toInt = x.2.1 ∧ (C r.length).toInt = x.2.2.1 ∧ (U r.length).toInt = x.2.2.2 ∧ x.2.1 ≤ 10 ∧ (x.2.2.2 = -1 ∨ (0 ≤ x.2.2.2 ∧ x.2.2.2 < 8)) ∧ gw_fa T P C U r
theorem gw_fa_cg {T P C U T' P' C' U' : Nat → Int32} : ∀ l : List gv_Fr, (∀ i, i < l.length → T' i = T i ∧ P' i = P i ∧ C' i = C i ∧ U' i = U i) → gw_fa T P C U l → gw_fa T' P' C' U' l := by
  intro l
  induction l with
  | nil => intro _ _; exact trivial
  | cons x r ih =>
    intro h q
    obtain ⟨h1, h2, h3, h4⟩ := h r.length (by rw [List.length_cons]; omega)
    obtain ⟨q1, q2, q3, q4, q5, q6, q7⟩ := q
    exact ⟨by rw [h1]; exact q1, by rw [h2]; exact q2, by rw [h3]; exact q3, by rw [h4]; exact q4, q5, q6, ih (fun i hi => h i (by rw [List.length_cons]; omega)) q7⟩
/-- the memory: results, kept captures -/
def gw_M (M : gv_Mm) (m k : gm_S) : Prop := ∃ KK, gw_K 5720 KK k ∧ KK.length = M.2.2 ∧ ∀ r p : Nat, r < 8 → p < 11 → (m.1 0 (11 * r + p)).toInt = M.1 (r : Nat) p ∧ (-2 ≤ M.1 (r : Nat) p ∧ M.1 (r : Nat) p ≤ 10) ∧ (0 ≤ M.1 (r : Nat) p → ∃ A B, KK = A ++ (M.2.1 (r : Nat) p ++ B) ∧ (m.1 1 (11 * r + p)).toInt = (B.length : Nat) ∧ (m.1 2 (11 * r + p)).toInt = ((B.length + (M.2.1 (r : Nat) p).length : Nat) : Int))
def gw_R (S : gw_St) (c : gv_Cf) : Prop := (S.1.2.2 12).toInt = c.1 ∧ (S.1.2.2 13).toInt = (c.2.1 : Nat) ∧ c.2.1 ≤ 10 ∧ (S.1.2.2 7).toInt = (c.2.2.1.length : Nat) ∧ c.2.2.1.length ≤ 550 ∧ gw_fa (S.1.1 3) (S.1.1 4) (S.1.1 5) (S.1.1 6) c.2.2.1 ∧ gw_K 275 c.2.2.2.1 S.2.2.1 ∧ (S.1.2.2 14).toInt = (c.2.2.2.2.1 : Nat) ∧ gw_M c.2.2.2.2.2 S.2.2.2.1 S.2.2.2.2.1
def gw_Z (S : gw_St) (s : gv_Sx) : Prop := ¬ s.1 = 7 → (S.1.2.2 11).toInt = (s.1 : Nat) ∧ (S.1.2.2 14).toInt = (s.2.2.2.2.2.1 : Nat) ∧ (s.1 = 0 ∨ s.1 = 1 → gw_R S s.2)
theorem gw_slot {x y : Int32} {r p : Nat} (hx : x.toInt = (r : Nat)) (hr : r < 8) (hy : y.toInt = (p : Nat)) (hp : p < 11) : ∃ z : Int32, gm_f_Memory_slotOf x y = (z, ()) ∧ z.toInt = ((11 * r + p : Nat) : Int) := by
  have z0 : (0 : Int32).toInt = 0 := by decide
  have l8 : (8 : Int32).toInt = 8 := gx_lit 8 (by decide)
  have l11 : (11 : Int32).toInt = 11 := gx_lit 11 (by decide)
  unfold gm_f_Memory_slotOf
  rw [if_neg (by rw [Int32.lt_iff_toInt_lt]; omega), if_neg (by rw [Int32.le_iff_toInt_le]; omega), if_neg (by rw [Int32.lt_iff_toInt_lt]; omega), if_neg (by rw [Int32.le_iff_toInt_le]; omega)]
  refine ⟨x * 11 + y, rfl, ?_⟩
  have m := gx_mu x 11
  rw [l11] at m
  have a := gx_ad (x * 11) y
  generalize (x * 11 + y).toInt = t0 at a ⊢
  generalize (x * 11).toInt = t1 at a m
  omega
def gw_poQ (n : Nat) (z : Int32 × gw_St) : Prop := (z.2.1.2.2 7).toInt = (n : Nat)
theorem gw_pop (S : gw_St) {n : Nat} (h : (S.1.2.2 7).toInt = ((n + 1 : Nat) : Int)) (hn : n ≤ 600) : gw_poQ n (gm_f_Runner_pop S) := by
  have z0 : (0 : Int32).toInt = 0 := by decide
  have s := gx_sk (S.1.2.2 7) 1 1 (by decide)
  unfold gm_f_Runner_pop
  rw [if_neg (by rw [Int32.le_iff_toInt_le]; omega)]
  show (S.1.2.2 7 - 1).toInt = _
  generalize (S.1.2.2 7 - 1).toInt = t0 at s ⊢
  omega
def gw_reQ (K : List (Nat × Int)) (x : Int32) (C : gm_S) (z : Int32 × gw_St) : Prop := z.2.1.2.2 13 = x ∧ gw_K 275 K (C.1, C.2.1, va_up C.2.2 2 (z.2.2.2.1.2.2 2))
theorem gw_restore (S : gw_St) {C : gm_S} {x : Int32} {n m : Nat} {K : List (Nat × Int)} (hC : gw_K 275 K S.2.2.1) (e0 : S.2.2.1.1 = C.1) (h7 : (S.1.2.2 7).toInt = (n : Nat)) (hm : (S.1.1 5 n).toInt = (m : Nat)) (hx : S.1.1 4 n = x) : gw_reQ (gv_cut K m) x C (gm_f_Runner_restore S) := by
  have c := gp_cl_n h7
  unfold gm_f_Runner_restore
  rw [c]
  have cu := gw_cut hC (x := S.1.1 5 n) hm
  refine gf_ca (Q := gw_reQ (gv_cut K m) x C) (fun z => gw_K 275 (gv_cut K m) z.2 ∧ z.2.1 = S.2.2.1.1) ⟨cu, ?_⟩ (fun r u hu => ⟨hx, ?_⟩)
  · unfold gm_f_Captures_cutTo
    split
    · rfl
    · split <;> rfl
  · obtain ⟨h1, h2⟩ := hu
    have h2 : u.1 = S.2.2.1.1 := h2
    obtain ⟨k1, k2, k3⟩ := h1
    refine ⟨k1, k2, ?_⟩
    show gw_ca (C.1 0) (C.1 1) _
    rw [← e0, ← h2]
    exact k3
/-- a rule has failed -/
theorem gw_mf {M : gv_Mm} {m k : gm_S} {r p : Nat} (hr : r < 8) (hp : p < 11) (h : gw_M M m k) : gw_M (gv_mf M (r : Nat) p) ((va_up m.1 0 (upd (m.1 0) (11 * r + p) (-1))), m.2.1, m.2.2) k := by
  obtain ⟨KK, h1, h2, h3⟩ := h
  refine ⟨KK, h1, h2, fun r' p' r1 p1 => ?_⟩
  obtain ⟨a1, a2, a3⟩ := h3 r' p' r1 p1
  by_cases c : r' = r ∧ p' = p
  · obtain ⟨c1, c2⟩ := c
    subst c1 c2
    have e : (gv_mf M (r' : Nat) p').1 (r' : Nat) p' = -1 := if_pos ⟨rfl, rfl⟩
    rw [e]
    refine ⟨?_, by omega, fun w => absurd w (by omega)⟩
    show (upd (m.1 0) (11 * r' + p') (-1) (11 * r' + p')).toInt = -1
    rw [gx_us]
    decide
  · have e : (gv_mf M (r : Nat) p).1 (r' : Nat) p' = M.1 (r' : Nat) p' := if_neg (by omega)
    rw [e]
    refine ⟨?_, a2, a3⟩
    show (upd (m.1 0) (11 * r + p) (-1) (11 * r' + p')).toInt = _
    rw [gx_un _ _ _ (by omega)]
    exact a1
def gw_frQ (lo : Bool) (M : gv_Mm) (r : Int) (p : Nat) (m k : gm_S) (z : Int32 × gw_St) : Prop := gw_M (if lo = true then M else gv_mf M r p) ((va_up m.1 0 (z.2.2.2.2.1.1 0)), m.2.1, m.2.2) k
theorem gw_failRule (S : gw_St) {lo : Bool} (hlo : S.1.2.2 10 = 0 ↔ lo = false) {m k : gm_S} {M : gv_Mm} {n r p : Nat} (h7 : (S.1.2.2 7).toInt = (n : Nat)) (hr : (S.1.1 6 n).toInt = (r : Nat)) (hr8 : r < 8) (hp : (S.1.1 4 n).toInt = (p : Nat)) (hp8 : p < 11) (h : gw_M M ((va_up m.1 0 (S.2.2.2.1.1 0)), m.2.1, m.2.2) k) : gw_frQ lo M (r : Nat) p m k (gm_f_Runner_failRule S) := by
  have c := gp_cl_n h7
  unfold gm_f_Runner_failRule
  rw [c]
  refine gf_if (Q := gw_frQ lo M (r : Nat) p m k) (fun q => ?_) (fun q => ?_)
  · have l := hlo.mp q
    obtain ⟨z, e, hz⟩ := gw_slot hr hr8 hp hp8
    have cz := gp_cl_n hz
    unfold gm_f_Memory_keepFailure
    rw [e]
    have nz : ¬ z = -1 := by
      intro w
      rw [w] at hz
      have : (-1 : Int32).toInt = -1 := by decide
      omega
    refine gf_ca (Q := gw_frQ lo M (r : Nat) p m k) (fun y : Int32 × (gm_S × gm_S) => y.2.1.1 0 = upd (S.2.2.2.1.1 0) (11 * r + p) (-1)) ?_ (fun r1 u hu => ?_)
    · show (if z = -1 then _ else _ : Int32 × (gm_S × gm_S)).2.1.1 0 = _
      rw [if_neg nz]
      show upd (S.2.2.2.1.1 0) (Int32.toNatClampNeg z) (-1) = _
      rw [cz]
    · have hu : u.1.1 0 = upd (S.2.2.2.1.1 0) (11 * r + p) (-1) := hu
      show gw_M (if lo = true then M else _) ((va_up m.1 0 (u.1.1 0)), m.2.1, m.2.2) k
      rw [l, if_neg (by decide), hu]
      exact gw_mf hr8 hp8 h
  · have l : lo = true := by
      cases lo with
      | true => rfl
      | false => exact absurd (hlo.mpr rfl) q
    show gw_M (if lo = true then M else _) ((va_up m.1 0 (S.2.2.2.1.1 0)), m.2.1, m.2.2) k
    rw [if_pos l]
    exact h
/-- what failing changes -/
def gw_mg (S u : gw_St) : gw_St := ((S.1.1, S.1.2.1, (va_up (va_up (va_up (va_up S.1.2.2 7 (u.1.2.2 7)) 11 (u.1.2.2 11)) 12 (u.1.2.2 12)) 13 (u.1.2.2 13))), S.2.1, (S.2.2.1.1, S.2.2.1.2.1, (va_up S.2.2.1.2.2 2 (u.2.2.1.2.2 2))), ((va_up S.2.2.2.1.1 0 (u.2.2.2.1.1 0)), S.2.2.2.1.2.1, S.2.2.2.1.2.2), S.2.2.2.2.1, S.2.2.2.2.2.1, S.2.2.2.2.2.2)
theorem gw_fail5 {S : gw_St} {lo : Bool} (hlo : S.1.2.2 10 = 0 ↔ lo = false) {a : Int} {q w : Nat} {K : List (Nat × Int)} (h11 : (S.1.2.2 11).toInt = 0) (hK : gw_K 275 K S.2.2.1) (hw : (S.1.2.2 14).toInt = (w : Nat)) : ∀ (fr : List gv_Fr) (F : Nat) (v : Int32) (U : gw_St) (M : gv_Mm), v.toInt = (fr.length : Nat) → fr.length < F → fr.length ≤ 550 → gw_fa (S.1.1 3) (S.1.1 4) (S.1.1 5) (S.1.1 6) fr → (U.1.2.2 7).toInt = (fr.length : Nat) → U.1.2.2 11 = S.1.2.2 11 → U.2.2.1.2.2 2 = S.2.2.1.2.2 2 → gw_M M ((va_up S.2.2.2.1.1 0 (U.2.2.2.1.1 0)), S.2.2.2.1.2.1, S.2.2.2.1.2.2) S.2.2.2.2.1 → gw_Z (gw_mg S (gm_f_Runner_fail_5 S F v U).2) (gv_fl lo fr K w M a q) := by
  have z0 : (0 : Int32).toInt = 0 := by decide
  have n1 : (-1 : Int32).toInt = -1 := by decide
  intro fr
  induction fr with
  | nil =>
    intro F v U M hv hF hl hfa h7 e11 e2 hM
    cases F with
    | zero => exact absurd hF (by omega)
    | succ F =>
      have hv : v.toInt = 0 := hv
      rw [gm_f_Runner_fail_5, if_pos (by rw [Int32.le_iff_toInt_le]; omega)]
      intro _
      refine ⟨gx_lit 2 (by decide), hw, fun h => ?_⟩
      have h : (2 : Nat) = 0 ∨ (2 : Nat) = 1 := h
      omega
  | cons x r ih =>
    intro F v U M hv hF hl hfa h7 e11 e2 hM
    cases F with
    | zero => exact absurd hF (by omega)
    | succ F =>
      rw [List.length_cons] at hv hF hl h7
      obtain ⟨f1, f2, f3, f4, f5, f6, f7⟩ := hfa
      have av : Unit → (v + -1).toInt = ((r.length : Nat) : Int) := by
        intro _
        have e0 := gx_ak v (-1) (-1) (by decide)
        generalize (v + -1).toInt = t0 at e0 ⊢
        omega
      rw [gm_f_Runner_fail_5, if_neg (by rw [Int32.le_iff_toInt_le]; omega)]
      refine gf_ca (Q := fun z : Int32 × gw_St => gw_Z (gw_mg S z.2) (gv_fl lo (x :: r) K w M a q)) (gw_poQ r.length) (gw_pop _ h7 (by omega)) (fun r10 u10 h10 => ?_)
      have h10 : (u10.1.2.2 7).toInt = (r.length : Nat) := h10
      have c10 := gp_cl_n h10
      rw [c10, gv_fl]
      refine gf_if (Q := fun z : Int32 × gw_St => gw_Z (gw_mg S z.2) (if x.2.2.2 = -1 then (if x.1 = -1 then gv_fl lo r K w M a q else (0, x.1, x.2.1, r, gv_cut K x.2.2.1, w, M)) else gv_fl lo r K w (if lo = true then M else gv_mf M x.2.2.2 x.2.1) a q)) (fun q1 => ?_) (fun q1 => ?_)
      · have x4 : x.2.2.2 = -1 := by rw [← f4, q1]; exact n1
        rw [if_pos x4]
        refine gf_if (Q := fun z : Int32 × gw_St => gw_Z (gw_mg S z.2) (if x.1 = -1 then gv_fl lo r K w M a q else (0, x.1, x.2.1, r, gv_cut K x.2.2.1, w, M))) (fun q2 => ?_) (fun q2 => ?_)
        · have x1 : x.1 = -1 := by rw [← f1, q2]; exact n1
          rw [if_pos x1]
          exact ih F (v + -1) _ M (av ()) (by omega) (by omega) f7 h10 e11 e2 hM
        · have x1 : ¬ x.1 = -1 := fun w => q2 (Int32.toInt_inj.mp (by rw [f1, n1]; exact w))
          rw [if_neg x1]
          refine gf_ca (Q := fun z : Int32 × gw_St => gw_Z (gw_mg S z.2) (0, x.1, x.2.1, r, gv_cut K x.2.2.1, w, M)) (gw_reQ (gv_cut K x.2.2.1) (S.1.1 4 r.length) S.2.2.1) (gw_restore _ (n := r.length) (m := x.2.2.1) ?_ rfl h10 f3 rfl) (fun r47 u47 h47 => ?_)
          · obtain ⟨k1, k2, k3⟩ := hK
            exact ⟨by show (U.2.2.1.2.2 2).toInt = _; rw [e2]; exact k1, k2, k3⟩
          · obtain ⟨g1, g2⟩ := h47
            have g1 : u47.1.2.2 13 = S.1.1 4 r.length := g1
            intro _
            refine ⟨?_, hw, fun _ => ⟨f1, ?_, f5, h10, by show r.length ≤ 550; omega, f7, g2, hw, hM⟩⟩
            · show (U.1.2.2 11).toInt = 0
              rw [e11]; exact h11
            · show (u47.1.2.2 13).toInt = _
              rw [g1]; exact f2
      · have x4 : ¬ x.2.2.2 = -1 := fun w => q1 (Int32.toInt_inj.mp (by rw [f4, n1]; exact w))
        rw [if_neg x4]
        have f6' := f6.resolve_left x4
        have er : x.2.2.2 = ((x.2.2.2.toNat : Nat) : Int) := by omega
        refine gf_ca (Q := fun z : Int32 × gw_St => gw_Z (gw_mg S z.2) (gv_fl lo r K w (if lo = true then M else gv_mf M x.2.2.2 x.2.1) a q)) (gw_frQ lo M x.2.2.2 x.2.1 S.2.2.2.1 S.2.2.2.2.1) ?_ (fun r27 u27 h27 => ?_)
        · rw [er]
          exact gw_failRule _ (by exact hlo) (n := r.length) (r := x.2.2.2.toNat) (p := x.2.1) h10 (by rw [← er]; exact f4) (by omega) f2 (by omega) hM
        · exact ih F (v + -1) _ _ (av ()) (by omega) (by omega) f7 h10 e11 e2 h27
def gw_flQ (S : gw_St) (s : gv_Sx) (z : Int32 × gw_St) : Prop := gw_Z (gw_mg S z.2) s
theorem gw_fail (S : gw_St) {lo : Bool} (hlo : S.1.2.2 10 = 0 ↔ lo = false) {a : Int} {q w : Nat} {fr : List gv_Fr} {K : List (Nat × Int)} {M : gv_Mm} (h11 : (S.1.2.2 11).toInt = 0) (h : gw_R S (a, q, fr, K, w, M)) : gw_flQ S (gv_fl lo fr K w M a q) (gm_f_Runner_fail S) := by
  obtain ⟨r1, r2, r3, r4, r5, r6, r7, r8, r9⟩ := h
  unfold gm_f_Runner_fail
  have r5 : fr.length ≤ 550 := r5
  exact gw_fail5 hlo h11 r7 r8 fr 600 (S.1.2.2 7) _ M r4 (by omega) r5 r6 r4 rfl rfl r9
