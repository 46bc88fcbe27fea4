/-! The class's runner against the machine over lists: its instructions. -/
/-- what stays while it runs -/
def gw_C (A : gv_A) (S : gw_St) : Prop := A.1 = S.2.2.2.2.2.1.1 1 ∧ A.2.1 = S.2.2.2.2.2.1.1 2 ∧ A.2.2.1 = S.2.2.2.2.2.1.1 3 ∧ A.2.2.2.1 = S.2.2.2.2.2.1.1 4 ∧ (S.2.2.2.2.2.1.2.2 5).toInt = (A.2.2.2.2.1 : Nat) ∧ A.2.2.2.2.1 ≤ 200 ∧ (S.2.2.2.2.2.2.2.2 13).toInt = (A.2.2.2.2.2.1 : Nat) ∧ (S.1.2.2 10 = 0 ↔ A.2.2.2.2.2.2.2 = false) ∧ (∀ (d x : Int32) (q : Nat), x.toInt = (q : Nat) → ((gm_f_Tree_holds d (gm_f_Row_at 10 x S.2.1).1 S.2.2.2.2.2.2).1 = 0 ↔ ¬ A.2.2.2.2.2.2.1 d q = true)) ∧ (∀ d q, A.2.2.2.2.2.2.1 d q = true → q < 10) ∧ ∀ a, a < A.2.2.2.2.1 → A.1 a = 8 → 0 ≤ (A.2.1 a).toInt ∧ (A.2.1 a).toInt < 8
theorem gw_close' {n : Nat} {K : List (Nat × Int)} {S : gm_S} {x : Int32} {y : Int} (hx : x.toInt = y) (hn : n ≤ 5900) (h : gw_K n K S) : gw_K n (gv_cl K y) ((va_up S.1 1 ((gm_f_Captures_closeLatest n x S).2.1 1)), S.2.1, S.2.2) := by
  have s := gx_sk (S.2.2 2) 1 1 (by decide)
  have k1 := h.1
  have k2 := h.2.1
  have G := gw_close7 hx hn h 6000 (S.2.2 2 - 1) S K [] rfl (by omega) (by omega) rfl
  unfold gm_f_Captures_closeLatest
  generalize gm_f_Captures_closeLatest_7 n x S 6000 (S.2.2 2 - 1) S = z at G ⊢
  obtain ⟨i1, e', i2, i3, i4, i5, i6⟩ := G
  refine ⟨?_, by rw [i1]; exact k2, ?_⟩
  · rw [i1]; exact k1
  · show gw_ca (S.1 0) (z.2.1 1) _
    rw [i5]; exact i2
def gw_1Q {S : Type} (v : Int32) (z : Int32 × S) : Prop := z.1 = v
theorem gw_op {A : gv_A} {S : gw_St} (hC : gw_C A S) {x : Int32} {a : Int} (ha : x.toInt = a) : gw_1Q (gv_at A A.1 12 a) (gm_f_Code_operation x (S.2.2.2.2.2.1, S.2.2.2.2.2.2)) := by
  obtain ⟨c1, -, -, -, c5, -⟩ := hC
  have z0 : (0 : Int32).toInt = 0 := by decide
  unfold gm_f_Code_operation gw_1Q gv_at
  by_cases q : x < 0
  · rw [if_pos q]
    rw [Int32.lt_iff_toInt_lt] at q
    rw [if_neg (by omega)]
  · rw [if_neg q]
    rw [Int32.lt_iff_toInt_lt] at q
    by_cases p : S.2.2.2.2.2.1.2.2 5 ≤ x
    · rw [if_pos p]
      rw [Int32.le_iff_toInt_le] at p
      rw [if_neg (by omega)]
    · rw [if_neg p]
      rw [Int32.le_iff_toInt_le] at p
      have cl := gx_cl x (by omega)
      rw [if_pos (by omega), c1]
      show S.2.2.2.2.2.1.1 1 (Int32.toNatClampNeg x) = S.2.2.2.2.2.1.1 1 a.toNat
      rw [show Int32.toNatClampNeg x = a.toNat by omega]
theorem gw_od {A : gv_A} {S : gw_St} (hC : gw_C A S) {x : Int32} {a : Int} (ha : x.toInt = a) : gw_1Q (gv_at A A.2.1 (-1) a) (gm_f_Code_operand x (S.2.2.2.2.2.1, S.2.2.2.2.2.2)) := by
  obtain ⟨-, c1, -, -, c5, -⟩ := hC
  have z0 : (0 : Int32).toInt = 0 := by decide
  unfold gm_f_Code_operand gw_1Q gv_at
  by_cases q : x < 0
  · rw [if_pos q]
    rw [Int32.lt_iff_toInt_lt] at q
    rw [if_neg (by omega)]
  · rw [if_neg q]
    rw [Int32.lt_iff_toInt_lt] at q
    by_cases p : S.2.2.2.2.2.1.2.2 5 ≤ x
    · rw [if_pos p]
      rw [Int32.le_iff_toInt_le] at p
      rw [if_neg (by omega)]
    · rw [if_neg p]
      rw [Int32.le_iff_toInt_le] at p
      have cl := gx_cl x (by omega)
      rw [if_pos (by omega), c1]
      show S.2.2.2.2.2.1.1 2 (Int32.toNatClampNeg x) = S.2.2.2.2.2.1.1 2 a.toNat
      rw [show Int32.toNatClampNeg x = a.toNat by omega]
theorem gw_tg {A : gv_A} {S : gw_St} (hC : gw_C A S) {x : Int32} {a : Int} (ha : x.toInt = a) : gw_1Q (gv_at A A.2.2.1 (-1) a) (gm_f_Code_target x (S.2.2.2.2.2.1, S.2.2.2.2.2.2)) := by
  obtain ⟨-, -, c1, -, c5, -⟩ := hC
  have z0 : (0 : Int32).toInt = 0 := by decide
  unfold gm_f_Code_target gw_1Q gv_at
  by_cases q : x < 0
  · rw [if_pos q]
    rw [Int32.lt_iff_toInt_lt] at q
    rw [if_neg (by omega)]
  · rw [if_neg q]
    rw [Int32.lt_iff_toInt_lt] at q
    by_cases p : S.2.2.2.2.2.1.2.2 5 ≤ x
    · rw [if_pos p]
      rw [Int32.le_iff_toInt_le] at p
      rw [if_neg (by omega)]
    · rw [if_neg p]
      rw [Int32.le_iff_toInt_le] at p
      have cl := gx_cl x (by omega)
      rw [if_pos (by omega), c1]
      show S.2.2.2.2.2.1.1 3 (Int32.toNatClampNeg x) = S.2.2.2.2.2.1.1 3 a.toNat
      rw [show Int32.toNatClampNeg x = a.toNat by omega]
theorem gw_sta {A : gv_A} {S : gw_St} (hC : gw_C A S) {x : Int32} {r : Int} (hx : x.toInt = r) : (gm_f_Code_start x (S.2.2.2.2.2.1, S.2.2.2.2.2.2)).1.toInt = gv_sta A r := by
  obtain ⟨-, -, -, c1, -, -, c5, -⟩ := hC
  have z0 : (0 : Int32).toInt = 0 := by decide
  unfold gm_f_Code_start gv_sta
  by_cases q : x < 0
  · rw [if_pos q]
    rw [Int32.lt_iff_toInt_lt] at q
    rw [if_neg (by omega)]
    exact (show (-1 : Int32).toInt = -1 by decide)
  · rw [if_neg q]
    rw [Int32.lt_iff_toInt_lt] at q
    by_cases p : S.2.2.2.2.2.2.2.2 13 ≤ x
    · rw [if_pos p]
      rw [Int32.le_iff_toInt_le] at p
      rw [if_neg (by omega)]
      exact (show (-1 : Int32).toInt = -1 by decide)
    · rw [if_neg p]
      rw [Int32.le_iff_toInt_le] at p
      have cl := gx_cl x (by omega)
      rw [if_pos (by omega), c1]
      show (S.2.2.2.2.2.1.1 4 (Int32.toNatClampNeg x)).toInt = (S.2.2.2.2.2.1.1 4 r.toNat).toInt
      rw [show Int32.toNatClampNeg x = r.toNat by omega]
/-- a push -/
def gw_puQ (S : gw_St) (t r : Int) (q : Nat) (fr : List gv_Fr) (m : Nat) (z : Int32 × gw_St) : Prop := (fr.length < 550 → (z.2.1.2.2 7).toInt = ((fr.length + 1 : Nat) : Int) ∧ gw_fa (z.2.1.1 3) (z.2.1.1 4) (z.2.1.1 5) (z.2.1.1 6) ((t, q, m, r) :: fr) ∧ z.2.1.2.2 11 = S.1.2.2 11) ∧ (¬ fr.length < 550 → z.2.1.2.2 11 = 3)
theorem gw_push (x y : Int32) (S0 S : gw_St) {t r : Int} {q m : Nat} {fr : List gv_Fr} (e11 : S.1.2.2 11 = S0.1.2.2 11) (h7 : (S.1.2.2 7).toInt = (fr.length : Nat)) (hl : fr.length ≤ 550) (hfa : gw_fa (S.1.1 3) (S.1.1 4) (S.1.1 5) (S.1.1 6) fr) (hx : x.toInt = t) (hy : y.toInt = r) (hq : (S.1.2.2 13).toInt = (q : Nat)) (hq2 : q ≤ 10) (hm : (S.2.2.1.2.2 2).toInt = (m : Nat)) (hr : r = -1 ∨ (0 ≤ r ∧ r < 8)) : gw_puQ S0 t r q fr m (gm_f_Runner_push x y S) := by
  have c := gp_cl_n h7
  have a := gx_ak (S.1.2.2 7) 1 1 (by decide)
  unfold gm_f_Runner_push
  rw [c]
  refine gf_if (Q := gw_puQ S0 t r q fr m) (fun p => ⟨fun _ => ⟨?_, ⟨?_, ?_, ?_, ?_, hq2, hr, ?_⟩, e11⟩, fun n => ?_⟩) (fun p => ⟨fun n => ?_, fun _ => rfl⟩)
  · show (S.1.2.2 7 + 1).toInt = _
    omega
  · show (upd (S.1.1 3) fr.length x fr.length).toInt = t
    rw [gx_us]; exact hx
  · show (upd (S.1.1 4) fr.length (S.1.2.2 13) fr.length).toInt = _
    rw [gx_us]; exact hq
  · show (upd (S.1.1 5) fr.length (S.2.2.1.2.2 2) fr.length).toInt = _
    rw [gx_us]; exact hm
  · show (upd (S.1.1 6) fr.length y fr.length).toInt = r
    rw [gx_us]; exact hy
  · refine gw_fa_cg fr (fun i hi => ?_) hfa
    show upd (S.1.1 3) fr.length x i = _ ∧ upd (S.1.1 4) fr.length (S.1.2.2 13) i = _ ∧ upd (S.1.1 5) fr.length (S.2.2.1.2.2 2) i = _ ∧ upd (S.1.1 6) fr.length y i = _
    rw [gx_un _ _ _ (by omega), gx_un _ _ _ (by omega), gx_un _ _ _ (by omega), gx_un _ _ _ (by omega)]
    exact ⟨rfl, rfl, rfl, rfl⟩
  · exfalso
    rw [Int32.lt_iff_toInt_lt, gx_lit 550 (by decide)] at p
    omega
  · exfalso
    rw [Int32.lt_iff_toInt_lt, gx_lit 550 (by decide)] at p
    omega
