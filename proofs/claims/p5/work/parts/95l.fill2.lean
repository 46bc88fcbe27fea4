theorem gp_kn_all {B : Nat} {tk : Nat → Int32} {p P : Nat} (h : gp_c (gp_kn B tk p) P = P) : ∀ k, k < P → ¬ gp_Tb B tk (B + k) p = -3 := fun k hk => of_decide_eq_true (gp_c_all (x := gp_kn B tk p) (by omega) k hk)
theorem gp_c_full {x : Nat → Bool} : ∀ {n : Nat}, (∀ k, k < n → x k = true) → gp_c x n = n := by
  intro n
  induction n with
  | zero => intro _; rfl
  | succ n ih =>
    intro h
    unfold gp_c
    rw [ih (fun k hk => h k (by omega)), if_pos (h n (by omega))]
theorem gz_fill58 (S : gm_S) (a1 : Int32) (A2 : gm_S) (y : Int32) (A3 : gm_S) {P fed : Nat} (hC : gp_WC S P fed) {rank : Nat → Nat} (RK : gp_RK (S.1 10) (S.1 11) (S.1 12) (gp_Mz S) (S.1 15) (gp_Bs S) P rank) (hy : 0 ≤ y.toInt) (hy2 : y.toInt ≤ fed) (tk0 : Nat → Int32) (later : ∀ k q, k < P → Int32.toNatClampNeg y < q → q ≤ fed → ¬ gp_Tb (gp_Bs S) tk0 (gp_Bs S + k) q = -3) {Q : Int32 × gm_S → Prop} (kp : Int32 → Int32 → gm_S → Prop) (kf : Int32 → Int32 → gm_S → Int32 × gm_S) (hk : ∀ (w5 w4 : Int32) (W : gm_S), gp_tbl S P fed (W.1 34) (W.1 35) → gp_ks tk0 (W.1 34) → (∀ k, k < P → ¬ gp_Tb (gp_Bs S) (W.1 34) (gp_Bs S + k) (Int32.toNatClampNeg y) = -3) → kp w5 w4 W ∧ Q (kf w5 w4 W)) : ∀ (n : Nat) (v5 v4 : Int32) (U : gm_S) (r : Nat), v5.toInt = (r : Int) → r ≤ P + 1 → P + 2 ≤ r + n → gp_tbl S P fed (U.1 34) (U.1 35) → gp_ks tk0 (U.1 34) → (r ≤ gp_c (gp_kn (gp_Bs S) (U.1 34) (Int32.toNatClampNeg y)) P ∨ gp_c (gp_kn (gp_Bs S) (U.1 34) (Int32.toNatClampNeg y)) P = P) → ((v4.toInt = 0 ∧ r = 0) ∨ v4.toInt = ((gp_c (gp_kn (gp_Bs S) (U.1 34) (Int32.toNatClampNeg y)) P : Nat) : Int)) → gm_p_MD_fill_58 S a1 A2 y A3 n v5 v4 U kp ∧ Q (gm_f_MD_fill_58 S a1 A2 y A3 n v5 v4 U kf) := by
  have hC' := hC
  obtain ⟨⟨b0, b1⟩, ⟨p0, p1⟩, ⟨f0, f1⟩, -, SC⟩ := hC'
  have cb := gx_cl (S.2.2 4) b0
  have cy := gx_cl y hy
  have hB : gp_Bs S = 160 * Int32.toNatClampNeg (S.2.2 4) := rfl
  have z0 : (0 : Int32).toInt = 0 := by decide
  intro n
  induction n with
  | zero => intro v5 v4 U r _ _ h; exfalso; omega
  | succ n ih =>
    intro v5 v4 U r hv hr hn htb hks hK h4
    have le := gp_c_le (gp_kn (gp_Bs S) (U.1 34) (Int32.toNatClampNeg y)) P
    rw [gm_p_MD_fill_58, gm_f_MD_fill_58]
    refine gx_if (Q := Q) (fun q => ?_) (fun q => ?_)
    · have q1 := gx_lt q
      refine hk _ _ _ htb hks (gp_kn_all ?_)
      show gp_c (gp_kn (gp_Bs S) (U.1 34) (Int32.toNatClampNeg y)) P = P
      omega
    have q1 := gx_ltn q
    refine gx_if (Q := Q) (fun q => ?_) (fun q => ?_)
    · have q2 := gx_le q
      refine hk _ _ _ htb hks (gp_kn_all ?_)
      show gp_c (gp_kn (gp_Bs S) (U.1 34) (Int32.toNatClampNeg y)) P = P
      omega
    have q2 := gx_len q
    have b5 := gx_ak v5 1 1 (by decide)
    refine gz_fill76 S a1 A2 y A3 v5 v4 U hC hy hy2 (U.1 34) (U.1 35) (Q := Q) 200 (160 * (S.2.2 4)) 0 _ _ _ 0 ?_ (by omega) (by omega) htb (fun c _ => rfl) (by rw [z0]; rfl) (Or.inl ⟨rfl, fun k hk => absurd hk (by omega)⟩) ?_
    · have m := gx_mk 160 (S.2.2 4) 160 (gx_lit 160 (by decide))
      omega
    intro w6 w4 W h1 h2 h3 h5
    have le' := gp_c_le (gp_kn (gp_Bs S) (W.1 34) (Int32.toNatClampNeg y)) P
    refine ih (v5 + 1) w4 _ (r + 1) (by omega) (by omega) (by omega) h1 (fun c hc => by
      have e1 := hks c hc
      have e2 := h2 c (by rw [e1]; exact hc)
      exact e2.trans e1) ?_ (Or.inr h3)
    show r + 1 ≤ gp_c (gp_kn (gp_Bs S) (W.1 34) (Int32.toNatClampNeg y)) P ∨ gp_c (gp_kn (gp_Bs S) (W.1 34) (Int32.toNatClampNeg y)) P = P
    rcases h5 with ⟨x1, x2⟩ | x
    · right
      rw [x1]
      obtain ⟨rk, t, hFI⟩ := htb
      refine gp_c_full (fun k hk1 => decide_eq_true ?_)
      refine gp_prog SC RK hFI (show Int32.toNatClampNeg y ≤ fed by omega) (fun k q hk1 hq1 hq2 hu => ?_) x2 (rank (gp_Bs S + k) + 1) k hk1 (by omega)
      have := later k q hk1 hq1 hq2
      unfold gp_Tb at this hu
      rw [hks _ this] at hu
      exact this hu
    · omega
/-- the table is full -/
def gp_fQ (S : gm_S) (P fed : Nat) (z : Int32 × gm_S) : Prop := gp_tbl S P fed (z.2.1 34) (z.2.1 35) ∧ ∀ k q, k < P → q ≤ fed → ¬ gp_Tb (gp_Bs S) (z.2.1 34) (gp_Bs S + k) q = -3
theorem gz_fill48 (S : gm_S) (a1 : Int32) (A2 : gm_S) {P fed : Nat} (hC : gp_WC S P fed) {rank : Nat → Nat} (RK : gp_RK (S.1 10) (S.1 11) (S.1 12) (gp_Mz S) (S.1 15) (gp_Bs S) P rank) : ∀ (n : Nat) (v3 : Int32) (U : gm_S), -1 ≤ v3.toInt → v3.toInt ≤ fed → v3.toInt + 2 ≤ n → gp_tbl S P fed (U.1 34) (U.1 35) → (∀ k (q : Nat), k < P → v3.toInt < q → q ≤ fed → ¬ gp_Tb (gp_Bs S) (U.1 34) (gp_Bs S + k) q = -3) → gm_p_MD_fill_48 S a1 A2 n v3 U ∧ gp_fQ S P fed (gm_f_MD_fill_48 S a1 A2 n v3 U) := by
  have f1 := hC.2.2.1.2
  have z0 : (0 : Int32).toInt = 0 := by decide
  intro n
  induction n with
  | zero => intro v3 U _ _ h; exfalso; omega
  | succ n ih =>
    intro v3 U h0 h1 hn htb hl
    rw [gm_p_MD_fill_48, gm_f_MD_fill_48]
    refine gx_if (Q := gp_fQ S P fed) (fun q => ⟨trivial, htb, fun k q' hk hq => ?_⟩) (fun q => ?_)
    · have q1 := gx_ltr (k := 0) z0 q
      exact hl k q' hk (by omega) hq
    have q1 := gx_ltnr (k := 0) z0 q
    have c3 := gx_cl v3 q1
    have b' := gx_m1 v3 q1 (by omega)
    generalize v3 + (-1) = w3 at b' ⊢
    refine gz_fill58 S a1 A2 v3 U hC RK q1 h1 (U.1 34) (fun k q hk hq hq2 => hl k q hk (by omega) hq2) (Q := gp_fQ S P fed) _ _ ?_ 200 0 0 _ 0 z0 (by omega) (by have := hC.2.1.2; omega) htb (fun c _ => rfl) (Or.inl (Nat.zero_le _)) (Or.inl ⟨z0, rfl⟩)
    intro w5 w4 W h2 h3 h4
    refine ih w3 _ (by omega) (by omega) (by omega) h2 (fun k q hk hq hq2 => ?_)
    show ¬ gp_Tb (gp_Bs S) (W.1 34) (gp_Bs S + k) q = -3
    by_cases e : (q : Int) = v3.toInt
    · rw [show q = Int32.toNatClampNeg v3 by omega]
      exact h4 k hk
    · have := hl k q hk (by omega) hq2
      unfold gp_Tb at this ⊢
      rw [h3 _ this]
      exact this
theorem gz_fill21 (S : gm_S) {P fed : Nat} (hC : gp_WC S P fed) {rank : Nat → Nat} (RK : gp_RK (S.1 10) (S.1 11) (S.1 12) (gp_Mz S) (S.1 15) (gp_Bs S) P rank) : ∀ (n : Nat) (v : Int32) (U : gm_S), 0 ≤ v.toInt → v.toInt ≤ 11 * P → 11 * (P : Int) < v.toInt + n → (∀ c : Nat, (c : Int) < v.toInt → U.1 34 c = -3) → gm_p_MD_fill_21 S n v U ∧ gp_fQ S P fed (gm_f_MD_fill_21 S n v U) := by
  have hC' := hC
  obtain ⟨⟨b0, b1⟩, ⟨p0, p1⟩, ⟨f0, f1⟩, -, SC⟩ := hC'
  have n3 : (-3 : Int32).toInt = -3 := by decide
  have m := gx_mk 11 ((S.1 9) (Int32.toNatClampNeg (S.2.2 4))) 11 (gx_lit 11 (by decide))
  have T : (11 * ((S.1 9) (Int32.toNatClampNeg (S.2.2 4)))).toInt = 11 * P := by omega
  clear m
  intro n
  induction n with
  | zero => intro v U _ _ h; exfalso; omega
  | succ n ih =>
    intro v U h0 h1 hn hc
    rw [gm_p_MD_fill_21, gm_f_MD_fill_21]
    refine gx_if (Q := gp_fQ S P fed) (fun q => ?_) (fun q => ?_)
    · have q1 := gx_le q
      rw [T] at q1
      refine gz_fill48 S v U hC RK 200 (S.2.2 32) _ (by omega) (by omega) (by omega) ⟨fun _ => 0, 0, fun k p hk hp hu => ?_⟩ (fun k q hk hq hq2 => by omega)
      exfalso
      refine hu ?_
      show (U.1 34 (11 * (gp_Bs S + k - gp_Bs S) + p)).toInt = -3
      rw [hc _ (by omega)]
      exact n3
    · have q1 := gx_len q
      rw [T] at q1
      have cv := gx_cl v h0
      have b := gx_ak v 1 1 (by decide)
      refine gx_in (Q := gp_fQ S P fed) (vp_in_iff.mpr (by omega)) ?_
      refine ih _ _ (by omega) (by omega) (by omega) (fun c hc1 => ?_)
      show upd (U.1 34) (Int32.toNatClampNeg v) (-3) c = -3
      by_cases e : c = Int32.toNatClampNeg v
      · rw [e, gx_us]
      · rw [gx_un _ _ _ e]
        exact hc c (by omega)
theorem gz_fill (S : gm_S) {P fed : Nat} (hC : gp_WC S P fed) {rank : Nat → Nat} (RK : gp_RK (S.1 10) (S.1 11) (S.1 12) (gp_Mz S) (S.1 15) (gp_Bs S) P rank) : gm_p_MD_fill S ∧ gp_fQ S P fed (gm_f_MD_fill S) := by
  have b := hC.1
  have p1 := hC.2.1.2
  have z0 : (0 : Int32).toInt = 0 := by decide
  have w := gz_fill21 S hC RK 2000 0 S (by omega) (by omega) (by omega) (fun c hc => by omega)
  unfold gm_p_MD_fill gm_f_MD_fill
  exact ⟨⟨vp_in_iff.mpr (by omega), w.1⟩, w.2⟩
