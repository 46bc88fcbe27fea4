/-! The class's runner against the machine over lists: captures. -/
/-- captures in arrays: the latest first -/
def gw_ca (b e : Nat → Int32) : List (Nat × Int) → Prop
  | [] => True
  | x :: r => (b r.length).toInt = x.1 ∧ (e r.length).toInt = x.2 ∧ gw_ca b e r
theorem gw_ca_cg {b e b' e' : Nat → Int32} : ∀ l : List (Nat × Int), (∀ i, i < l.length → b' i = b i ∧ e' i = e i) → gw_ca b e l → gw_ca b' e' l := by
  intro l
  induction l with
  | nil => intro _ _; exact trivial
  | cons x r ih =>
    intro h q
    obtain ⟨h1, h2⟩ := h r.length (by rw [List.length_cons]; omega)
    refine ⟨by rw [h1]; exact q.1, by rw [h2]; exact q.2.1, ih (fun i hi => h i (by rw [List.length_cons]; omega)) q.2.2⟩
theorem gw_ca_d {b e : Nat → Int32} : ∀ (n : Nat) (l : List (Nat × Int)), gw_ca b e l → gw_ca b e (l.drop n) := by
  intro n
  induction n with
  | zero => intro l h; exact h
  | succ n ih =>
    intro l h
    cases l with
    | nil => exact trivial
    | cons x r => exact ih r h.2.2
theorem gw_ca_a {b e : Nat → Int32} : ∀ (A l : List (Nat × Int)), gw_ca b e (A ++ l) → gw_ca b e l := by
  intro A
  induction A with
  | nil => intro l h; exact h
  | cons x r ih => intro l h; exact ih l h.2.2
/-- the same, the first first, from a place on -/
def gw_sq (b e : Nat → Int32) : List (Nat × Int) → Nat → Prop
  | [], _ => True
  | x :: r, i => (b i).toInt = x.1 ∧ (e i).toInt = x.2 ∧ gw_sq b e r (i + 1)
theorem gw_sq_s {b e : Nat → Int32} {x : Nat × Int} : ∀ (m : List (Nat × Int)) (i : Nat), gw_sq b e m i → (b (i + m.length)).toInt = x.1 → (e (i + m.length)).toInt = x.2 → gw_sq b e (m ++ [x]) i := by
  intro m
  induction m with
  | nil => intro i _ h1 h2; exact ⟨h1, h2, trivial⟩
  | cons y r ih =>
    intro i h h1 h2
    have l : (y :: r).length = r.length + 1 := rfl
    rw [l, show i + (r.length + 1) = i + 1 + r.length by omega] at h1 h2
    exact ⟨h.1, h.2.1, ih (i + 1) h.2.2 h1 h2⟩
theorem gw_sq_of {b e : Nat → Int32} {B : List (Nat × Int)} : ∀ l : List (Nat × Int), gw_ca b e (l ++ B) → gw_sq b e l.reverse B.length := by
  intro l
  induction l with
  | nil => intro _; exact trivial
  | cons x r ih =>
    intro h
    have h : gw_ca b e (x :: (r ++ B)) := h
    obtain ⟨h1, h2, h3⟩ := h
    rw [List.reverse_cons]
    rw [List.length_append, Nat.add_comm] at h1 h2
    exact gw_sq_s _ _ (ih h3) (by rw [List.length_reverse]; exact h1) (by rw [List.length_reverse]; exact h2)
def gw_ad (n : Nat) (x : Nat × Int) (K : List (Nat × Int)) : List (Nat × Int) := if K.length < n then x :: K else K
/-- captures: how many, where -/
def gw_K (n : Nat) (K : List (Nat × Int)) (S : gm_S) : Prop := (S.2.2 2).toInt = (K.length : Nat) ∧ K.length ≤ n ∧ gw_ca (S.1 0) (S.1 1) K
def gw_KQ (n : Nat) (K : List (Nat × Int)) (z : Int32 × gm_S) : Prop := gw_K n K z.2
theorem gw_add {n : Nat} (hn : n ≤ 6000) {K : List (Nat × Int)} {S : gm_S} (h : gw_K n K S) {x : Nat × Int} {bx ex : Int32} (h1 : bx.toInt = x.1) (h2 : ex.toInt = x.2) : gw_KQ n (gw_ad n x K) (gm_f_Captures_add n bx ex S) := by
  obtain ⟨k1, k2, k3⟩ := h
  have on : (Int32.ofNat n).toInt = n := gx_on n (by omega)
  have c := gp_cl_n k1
  have a := gx_ak (S.2.2 2) 1 1 (by decide)
  unfold gm_f_Captures_add gw_ad
  by_cases q : Int32.ofNat n ≤ S.2.2 2
  · rw [if_pos q]
    rw [Int32.le_iff_toInt_le] at q
    rw [if_neg (by omega)]
    exact ⟨k1, k2, k3⟩
  · rw [if_neg q]
    rw [Int32.le_iff_toInt_le] at q
    rw [if_pos (by omega)]
    refine ⟨?_, by show K.length + 1 ≤ n; omega, ?_, ?_, ?_⟩
    · show (S.2.2 2 + 1).toInt = ((K.length + 1 : Nat) : Int)
      omega
    · show (upd (S.1 0) (Int32.toNatClampNeg (S.2.2 2)) bx K.length).toInt = _
      rw [c, gx_us]
      exact h1
    · show (upd (S.1 1) (Int32.toNatClampNeg (S.2.2 2)) ex K.length).toInt = _
      rw [c, gx_us]
      exact h2
    · refine gw_ca_cg K (fun i hi => ?_) k3
      show upd (S.1 0) (Int32.toNatClampNeg (S.2.2 2)) bx i = _ ∧ upd (S.1 1) (Int32.toNatClampNeg (S.2.2 2)) ex i = _
      rw [c, gx_un _ _ _ (by omega), gx_un _ _ _ (by omega)]
      exact ⟨rfl, rfl⟩
theorem gw_cut {n : Nat} {K : List (Nat × Int)} {S : gm_S} (h : gw_K n K S) {x : Int32} {m : Nat} (hx : x.toInt = m) : gw_KQ n (gv_cut K m) (gm_f_Captures_cutTo n x S) := by
  obtain ⟨k1, k2, k3⟩ := h
  have z0 : (0 : Int32).toInt = 0 := by decide
  unfold gm_f_Captures_cutTo gv_cut
  rw [if_neg (by rw [Int32.lt_iff_toInt_lt]; omega)]
  by_cases q : S.2.2 2 ≤ x
  · rw [if_pos q]
    rw [Int32.le_iff_toInt_le] at q
    rw [show K.length - m = 0 by omega]
    exact ⟨k1, k2, k3⟩
  · rw [if_neg q]
    rw [Int32.le_iff_toInt_le] at q
    refine ⟨?_, by rw [List.length_drop]; omega, gw_ca_d _ _ k3⟩
    show x.toInt = _
    rw [List.length_drop]
    omega
/-- the latest open one is closed -/
theorem gw_close7 {n : Nat} {K0 : List (Nat × Int)} {S : gm_S} {x : Int32} {y : Int} (hx : x.toInt = y) (hn : n ≤ 5900) (h : gw_K n K0 S) : ∀ (F : Nat) (v : Int32) (U : gm_S) (K A : List (Nat × Int)), K0 = A ++ K → v.toInt + 1 = (K.length : Nat) → K.length < F → U.1 1 = S.1 1 → (gv_cl K y).length = K.length ∧ (∃ e' : Nat → Int32, gw_ca (S.1 0) e' (gv_cl K y) ∧ (∀ i, K.length ≤ i → e' i = S.1 1 i) ∧ (gm_f_Captures_closeLatest_7 n x S F v U).2.1 0 = S.1 0 ∧ (gm_f_Captures_closeLatest_7 n x S F v U).2.1 1 = e' ∧ (gm_f_Captures_closeLatest_7 n x S F v U).2.2.2 = S.2.2) := by
  intro F
  induction F with
  | zero => intro v U K A _ _ h3; omega
  | succ F ih =>
    intro v U K A hK hv hF hU
    have z0 : (0 : Int32).toInt = 0 := by decide
    have n1 : (-1 : Int32).toInt = -1 := by decide
    rw [gm_f_Captures_closeLatest_7]
    cases K with
    | nil =>
      have hv : v.toInt + 1 = 0 := hv
      rw [if_pos (by rw [Int32.lt_iff_toInt_lt]; omega)]
      exact ⟨rfl, S.1 1, trivial, fun _ _ => rfl, rfl, hU, rfl⟩
    | cons c r =>
      have hv : v.toInt + 1 = ((r.length + 1 : Nat) : Int) := hv
      have cv : Int32.toNatClampNeg v = r.length := gp_cl_n (by omega)
      have ak : Unit → (v + -1).toInt + 1 = ((r.length : Nat) : Int) := by
        intro _
        have e0 := gx_ak v (-1) (-1) (by decide)
        generalize (v + -1).toInt = t0 at e0 ⊢
        have := h.2.1
        rw [hK, List.length_append, List.length_cons] at this
        omega
      have q := gw_ca_a A (c :: r) (by rw [← hK]; exact h.2.2)
      rw [if_neg (by rw [Int32.lt_iff_toInt_lt]; omega), cv, hU]
      by_cases e : S.1 1 r.length = -1
      · rw [if_pos e]
        have e2 : c.2 = -1 := by rw [← q.2.1, e]; exact n1
        rw [gv_cl, if_pos e2]
        refine ⟨rfl, upd (S.1 1) r.length x, ⟨q.1, ?_, gw_ca_cg r (fun i hi => ⟨rfl, gx_un _ _ _ (by omega)⟩) q.2.2⟩, fun i hi => gx_un _ _ _ (by rw [List.length_cons] at hi; omega), rfl, rfl, rfl⟩
        rw [gx_us]
        exact hx
      · rw [if_neg e]
        have e2 : ¬ c.2 = -1 := fun w => e (Int32.toInt_inj.mp (by rw [q.2.1, n1]; exact w))
        rw [gv_cl, if_neg e2]
        have lr : r.length < 5900 := by
          have := h.2.1
          rw [hK, List.length_append, List.length_cons] at this
          omega
        obtain ⟨i1, e', i2, i3, i4, i5, i6⟩ := ih (v + -1) ((va_up S.1 1 (S.1 1)), S.2.1, S.2.2) r (A ++ [c]) (by rw [hK, List.append_assoc]; rfl) (ak ()) (by rw [List.length_cons] at hF; omega) rfl
        refine ⟨by rw [List.length_cons, List.length_cons, i1], e', ⟨by rw [i1]; exact q.1, by rw [i1, i3 _ (Nat.le_refl _)]; exact q.2.1, i2⟩, fun i hi => i3 i (by rw [List.length_cons] at hi; omega), i4, i5, i6⟩
theorem gw_close {n : Nat} {K : List (Nat × Int)} {S : gm_S} {x : Int32} {y : Int} (hx : x.toInt = y) (hn : n ≤ 5900) (h : gw_K n K S) : gw_KQ n (gv_cl K y) (gm_f_Captures_closeLatest n x S) := by
  have s := gx_sk (S.2.2 2) 1 1 (by decide)
  have k1 := h.1
  have k2 := h.2.1
  have G := gw_close7 hx hn h 6000 (S.2.2 2 - 1) S K [] rfl (by omega) (by omega) rfl
  unfold gm_f_Captures_closeLatest
  generalize gm_f_Captures_closeLatest_7 n x S 6000 (S.2.2 2 - 1) S = z at G ⊢
  obtain ⟨i1, e', i2, i3, i4, i5, i6⟩ := G
  refine ⟨?_, by rw [i1]; exact k2, ?_⟩
  · rw [i6, i1]; exact k1
  · rw [i4, i5]; exact i2
/-- adding from others -/
theorem gw_from3 {n n1 : Nat} (hn : n ≤ 6000) {O : List (Nat × Int)} {x y : Int32} {S : gm_S × gm_S} (hO : gw_K n1 O S.2) (ho : O.length ≤ 5900) {t : Nat} (hy : y.toInt = t) (ht : t ≤ O.length) : ∀ (m : List (Nat × Int)) (i F : Nat) (v : Int32) (U : gm_S × gm_S) (K : List (Nat × Int)), gw_sq (S.2.1 0) (S.2.1 1) m i → i + m.length = t → v.toInt = i → m.length < F → gw_K n K ((va_up (va_up S.1.1 0 (U.1.1 0)) 1 (U.1.1 1)), S.1.2.1, (va_up S.1.2.2 2 (U.1.2.2 2))) → gw_K n (m.foldl (fun K x => gw_ad n x K) K) (gm_f_Captures_addFrom_3 n n1 x y S F v U).2.1 := by
  intro m
  have z0 : (0 : Int32).toInt = 0 := by decide
  induction m with
  | nil =>
    intro i F v U K hs hi hv hF hK
    cases F with
    | zero => exact absurd hF (by show ¬ 0 < 0; omega)
    | succ F =>
      have hi : i + 0 = t := hi
      rw [gm_f_Captures_addFrom_3, if_pos (by rw [Int32.le_iff_toInt_le]; omega)]
      exact hK
  | cons c m ih =>
    intro i F v U K hs hi hv hF hK
    cases F with
    | zero => exact absurd hF (by omega)
    | succ F =>
      rw [List.length_cons] at hi hF
      have cv : Int32.toNatClampNeg v = i := gp_cl_n hv
      have av := gx_ak v 1 1 (by decide)
      have o1 := hO.1
      rw [gm_f_Captures_addFrom_3, if_neg (by rw [Int32.le_iff_toInt_le]; omega), if_neg (by rw [Int32.lt_iff_toInt_lt]; omega), if_neg (by rw [Int32.le_iff_toInt_le]; omega), cv]
      refine gf_ca (Q := fun z : Int32 × (gm_S × gm_S) => gw_K n ((c :: m).foldl (fun K x => gw_ad n x K) K) z.2.1) (gw_KQ n (gw_ad n c K)) (gw_add hn hK hs.1 hs.2.1) (fun r u hu => ?_)
      exact ih (i + 1) F (v + 1) _ _ hs.2.2 (by omega) (by omega) (by omega) hu
def gw_fQ (n : Nat) (K : List (Nat × Int)) (z : Int32 × (gm_S × gm_S)) : Prop := gw_K n K z.2.1
theorem gw_from {n n1 : Nat} (hn : n ≤ 6000) {K A l B : List (Nat × Int)} {x y : Int32} {S : gm_S × gm_S} (hO : gw_K n1 (A ++ (l ++ B)) S.2) (ho : (A ++ (l ++ B)).length ≤ 5900) (hx : x.toInt = (B.length : Nat)) (hy : y.toInt = ((B.length + l.length : Nat) : Int)) (hK : gw_K n K S.1) : gw_fQ n (l.foldr (gw_ad n) K) (gm_f_Captures_addFrom n n1 x y S) := by
  have sq := gw_sq_of l (gw_ca_a A _ hO.2.2)
  rw [List.length_append, List.length_append] at ho
  have h := gw_from3 (n := n) (n1 := n1) hn hO (by rw [List.length_append, List.length_append]; exact ho) hy (by rw [List.length_append, List.length_append]; omega) l.reverse B.length 6000 x (S.1, S.2) K (x := x) sq (by rw [List.length_reverse]) hx (by rw [List.length_reverse]; omega) hK
  unfold gm_f_Captures_addFrom gw_fQ
  rw [List.foldl_reverse] at h
  exact h
