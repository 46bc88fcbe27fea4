/-! The reference fills its table: every cell gets known. -/
/-- what a part looks at where it stands comes before it -/
def gp_RK (kd on tw Mz em : Nat → Int32) (B P : Nat) (rank : Nat → Nat) : Prop := ∀ n, B ≤ n → n < B + P → ((kd n).toInt = 3 → rank (Int32.toNatClampNeg (Mz n)) < rank n) ∧ (4 ≤ (kd n).toInt → rank (Int32.toNatClampNeg (on n)) < rank n) ∧ ((kd n).toInt = 4 → em (Int32.toNatClampNeg (on n)) = 1 → rank (Int32.toNatClampNeg (tw n)) < rank n) ∧ ((kd n).toInt = 5 → rank (Int32.toNatClampNeg (tw n)) < rank n) ∧ ((kd n).toInt = 7 ∨ (kd n).toInt = 10 → em (Int32.toNatClampNeg (on n)) = 0)
/-- if all that is unknown here waits, nothing is unknown -/
theorem gp_prog {kd on tw Mz em kp sb : Nat → Int32} {lw hg : Nat → Int64} {b B P fed : Nat} (SC : gp_SC kd on tw Mz em kp sb lw hg b B P fed) {rank : Nat → Nat} (RK : gp_RK kd on tw Mz em B P rank) {tk ck : Nat → Int32} {rk : Nat → Nat} {t : Nat} (h : gp_FI kd on tw Mz (gp_out em lw hg sb fed) (gp_row on tw sb kp b fed) B P fed tk ck rk t) {p : Nat} (hp : p ≤ fed) (later : ∀ k q, k < P → p < q → q ≤ fed → ¬ gp_Tb B tk (B + k) q = -3) (st : ∀ k, k < P → gp_Tb B tk (B + k) p = -3 → ∃ m q, gp_dpn kd on tw Mz (gp_Tb B tk) (B + k) p m q ∧ q ≤ fed ∧ gp_Tb B tk m q = -3) : ∀ (N k : Nat), k < P → rank (B + k) < N → ¬ gp_Tb B tk (B + k) p = -3 := by
  intro N
  induction N with
  | zero => intro k _ q; exact absurd q (by omega)
  | succ N ih =>
    intro k hk hr hu
    obtain ⟨m, q, hd, hq, h3⟩ := st k hk hu
    obtain ⟨-, n4, n45, -, n3⟩ := SC.1 (B + k) (by omega) (by omega)
    obtain ⟨r3, r4, r44, r5, r7⟩ := RK (B + k) (by omega) (by omega)
    have same : ∀ m, B ≤ m → m < B + P → rank m < rank (B + k) → gp_Tb B tk m p = -3 → False := by
      intro m m1 m2 m3 m4
      have e : B + (m - B) = m := by omega
      exact ih (m - B) (by omega) (by rw [e]; omega) (by rw [e]; exact m4)
    have lat : ∀ m, B ≤ m → m < B + P → p < q → gp_Tb B tk m q = -3 → False := by
      intro m m1 m2 m3 m4
      have e : B + (m - B) = m := by omega
      exact later (m - B) q (by omega) m3 hq (by rw [e]; exact m4)
    have known : ∀ m, B ≤ m → m < B + P → 0 ≤ gp_Tb B tk m p → gp_sd em sb lw hg fed (gp_Tb B tk m p) m p := by
      intro m m1 m2 m3
      have e : B + (m - B) = m := by omega
      have a := h (m - B) p (by omega) hp (by rw [e]; omega)
      have := gp_FI_sd SC h t (m - B) p (by omega) hp a.1 (by rw [e]; omega)
      rw [e] at this
      exact this
    rcases hd with ⟨k3, e1, e2⟩ | ⟨k4, e1, e2⟩ | ⟨k4, e1, e3, e2⟩ | ⟨k5, e1, e2⟩ | ⟨k7, e1, e3, e2⟩
    · rw [e1, e2] at h3
      have := n3 k3
      exact same _ this.1 this.2.1 (r3 k3) h3
    · rw [e1, e2] at h3
      have := n4 k4
      exact same _ this.1 (by omega) (r4 k4) h3
    · have a := n4 (by omega)
      have w := n45 (Or.inl k4)
      rw [e1] at h3
      by_cases z : gp_Tb B tk (Int32.toNatClampNeg (on (B + k))) p = 0
      · have e : q = p := by omega
        rw [e] at h3
        have s := known _ a.1 (by omega) (by omega)
        rcases s with s | ⟨-, -, s, -⟩
        · omega
        · exact same _ w.1 (by omega) (r44 k4 (s z)) h3
      · exact lat _ w.1 (by omega) (by omega) h3
    · rw [e1, e2] at h3
      have w := n45 (Or.inr k5)
      exact same _ w.1 (by omega) (r5 k5) h3
    · have a := n4 (by omega)
      rw [e1] at h3
      by_cases z : gp_Tb B tk (Int32.toNatClampNeg (on (B + k))) p = 0
      · have s := known _ a.1 (by omega) (by omega)
        rcases s with s | ⟨-, -, s, -⟩
        · omega
        · have := r7 (Or.inl k7)
          rw [s z] at this
          exact absurd this (by decide)
      · exact lat _ (by omega) (by omega) (by omega) h3
/-- known cells of a place -/
def gp_kn (B : Nat) (tk : Nat → Int32) (p : Nat) (k : Nat) : Bool := decide (¬ gp_Tb B tk (B + k) p = -3)
/-- the table so far -/
def gp_tbl (S : gm_S) (P fed : Nat) (tk ck : Nat → Int32) : Prop := ∃ (rk : Nat → Nat) (t : Nat), gp_FI (S.1 10) (S.1 11) (S.1 12) (gp_Mz S) (gp_So S fed) (gp_Sr S fed) (gp_Bs S) P fed tk ck rk t
/-- what was known stays -/
def gp_ks (tk tk' : Nat → Int32) : Prop := ∀ c, ¬ (tk c).toInt = -3 → tk' c = tk c
theorem gp_ks_c {B : Nat} {tk tk' : Nat → Int32} (h : gp_ks tk tk') (p n : Nat) : gp_c (gp_kn B tk p) n ≤ gp_c (gp_kn B tk' p) n := gp_c_mono (fun k _ q => by
  unfold gp_kn at q ⊢
  have q := of_decide_eq_true q
  refine decide_eq_true ?_
  unfold gp_Tb at q ⊢
  rw [h _ q]
  exact q)
theorem gz_fill76 (S : gm_S) (a1 : Int32) (A2 : gm_S) (y : Int32) (A3 : gm_S) (a4 a5 : Int32) (A6 : gm_S) {P fed : Nat} (hC : gp_WC S P fed) (hy : 0 ≤ y.toInt) (hy2 : y.toInt ≤ fed) (tk0 ck0 : Nat → Int32) {Q : Int32 × gm_S → Prop} : ∀ (n : Nat) (v6 v4 : Int32) (U : gm_S) (kp : Int32 → Int32 → gm_S → Prop) (kf : Int32 → Int32 → gm_S → Int32 × gm_S) (i : Nat), v6.toInt = ((gp_Bs S + i : Nat) : Int) → i ≤ P → P < i + n → gp_tbl S P fed (U.1 34) (U.1 35) → gp_ks tk0 (U.1 34) → v4.toInt = ((gp_c (gp_kn (gp_Bs S) (U.1 34) (Int32.toNatClampNeg y)) i : Nat) : Int) →
    ((U.1 34 = tk0 ∧ ∀ k, k < i → gp_Tb (gp_Bs S) tk0 (gp_Bs S + k) (Int32.toNatClampNeg y) = -3 → ∃ m q, gp_dpn (S.1 10) (S.1 11) (S.1 12) (gp_Mz S) (gp_Tb (gp_Bs S) tk0) (gp_Bs S + k) (Int32.toNatClampNeg y) m q ∧ q ≤ fed ∧ gp_Tb (gp_Bs S) tk0 m q = -3) ∨ gp_c (gp_kn (gp_Bs S) tk0 (Int32.toNatClampNeg y)) P < gp_c (gp_kn (gp_Bs S) (U.1 34) (Int32.toNatClampNeg y)) P) →
    (∀ (w6 w4 : Int32) (W : gm_S), gp_tbl S P fed (W.1 34) (W.1 35) → gp_ks tk0 (W.1 34) → w4.toInt = ((gp_c (gp_kn (gp_Bs S) (W.1 34) (Int32.toNatClampNeg y)) P : Nat) : Int) → ((W.1 34 = tk0 ∧ ∀ k, k < P → gp_Tb (gp_Bs S) tk0 (gp_Bs S + k) (Int32.toNatClampNeg y) = -3 → ∃ m q, gp_dpn (S.1 10) (S.1 11) (S.1 12) (gp_Mz S) (gp_Tb (gp_Bs S) tk0) (gp_Bs S + k) (Int32.toNatClampNeg y) m q ∧ q ≤ fed ∧ gp_Tb (gp_Bs S) tk0 m q = -3) ∨ gp_c (gp_kn (gp_Bs S) tk0 (Int32.toNatClampNeg y)) P < gp_c (gp_kn (gp_Bs S) (W.1 34) (Int32.toNatClampNeg y)) P) → kp w6 w4 W ∧ Q (kf w6 w4 W)) →
    gm_p_MD_fill_76 S a1 A2 y A3 a4 a5 A6 n v6 v4 U kp ∧ Q (gm_f_MD_fill_76 S a1 A2 y A3 a4 a5 A6 n v6 v4 U kf) := by
  have hC' := hC
  obtain ⟨⟨b0, b1⟩, ⟨p0, p1⟩, ⟨f0, f1⟩, -, SC⟩ := hC'
  have cb := gx_cl (S.2.2 4) b0
  have cy := gx_cl y hy
  have hB : gp_Bs S = 160 * Int32.toNatClampNeg (S.2.2 4) := rfl
  have m := gx_mk 160 (S.2.2 4) 160 (gx_lit 160 (by decide))
  have s := gx_ad (160 * (S.2.2 4)) ((S.1 9) (Int32.toNatClampNeg (S.2.2 4)))
  have T : (160 * (S.2.2 4) + (S.1 9) (Int32.toNatClampNeg (S.2.2 4))).toInt = ((gp_Bs S + P : Nat) : Int) := by omega
  clear m s
  have n3 : (-3 : Int32).toInt = -3 := by decide
  have z0 : (0 : Int32).toInt = 0 := by decide
  have z1 : (1 : Int32).toInt = 1 := by decide
  intro n
  induction n with
  | zero => intro v6 v4 U kp kf i _ _ h; exfalso; omega
  | succ n ih =>
    intro v6 v4 U kp kf i hv hi hn htb hks h4 hpr hk
    rw [gm_p_MD_fill_76, gm_f_MD_fill_76]
    refine gx_if (Q := Q) (fun q => ?_) (fun q => ?_)
    · have q1 := gx_le q
      have e : i = P := by omega
      rw [e] at h4 hpr
      exact hk _ _ _ htb hks h4 hpr
    have q1 := gx_len q
    rw [T] at q1
    have c6 := gx_cl v6 (by omega)
    have e6 : Int32.toNatClampNeg v6 = gp_Bs S + i := by omega
    have b6 := gx_ak v6 1 1 (by decide)
    have le := gp_c_le (gp_kn (gp_Bs S) (U.1 34) (Int32.toNatClampNeg y)) i
    have V : gp_WC ((va_up (va_up S.1 34 (U.1 34)) 35 (U.1 35)), S.2.1, S.2.2) P fed := hC
    have next : ∀ (W : gm_S) (j : Int32), gp_tbl S P fed (W.1 34) (W.1 35) → gp_ks tk0 (W.1 34) → (j = 0 ∨ j = 1) → (j = 1 ↔ ¬ gp_Tb (gp_Bs S) (W.1 34) (gp_Bs S + i) (Int32.toNatClampNeg y) = -3) → gp_c (gp_kn (gp_Bs S) (W.1 34) (Int32.toNatClampNeg y)) i = gp_c (gp_kn (gp_Bs S) (U.1 34) (Int32.toNatClampNeg y)) i → ((W.1 34 = tk0 ∧ ∀ k, k < i + 1 → gp_Tb (gp_Bs S) tk0 (gp_Bs S + k) (Int32.toNatClampNeg y) = -3 → ∃ m q, gp_dpn (S.1 10) (S.1 11) (S.1 12) (gp_Mz S) (gp_Tb (gp_Bs S) tk0) (gp_Bs S + k) (Int32.toNatClampNeg y) m q ∧ q ≤ fed ∧ gp_Tb (gp_Bs S) tk0 m q = -3) ∨ gp_c (gp_kn (gp_Bs S) tk0 (Int32.toNatClampNeg y)) P < gp_c (gp_kn (gp_Bs S) (W.1 34) (Int32.toNatClampNeg y)) P) → gm_p_MD_fill_76 S a1 A2 y A3 a4 a5 A6 n (v6 + 1) (v4 + j) ((va_up (va_up S.1 34 (W.1 34)) 35 (W.1 35)), S.2.1, S.2.2) kp ∧ Q (gm_f_MD_fill_76 S a1 A2 y A3 a4 a5 A6 n (v6 + 1) (v4 + j) ((va_up (va_up S.1 34 (W.1 34)) 35 (W.1 35)), S.2.1, S.2.2) kf) := by
      intro W j w1 w2 w3 w4 w5 w6
      refine ih (v6 + 1) (v4 + j) _ kp kf (i + 1) (by omega) (by omega) (by omega) w1 w2 ?_ w6 hk
      have b4 := gx_ad v4 j
      show (v4 + j).toInt = ((gp_c (gp_kn (gp_Bs S) (W.1 34) (Int32.toNatClampNeg y)) (i + 1) : Nat) : Int)
      unfold gp_c
      rw [w5]
      by_cases q : ¬ gp_Tb (gp_Bs S) (W.1 34) (gp_Bs S + i) (Int32.toNatClampNeg y) = -3
      · have e1 : gp_kn (gp_Bs S) (W.1 34) (Int32.toNatClampNeg y) i = true := decide_eq_true q
        rw [if_pos e1]
        have : j.toInt = 1 := by rw [w4.mpr q]; exact z1
        omega
      · have e1 : ¬ gp_kn (gp_Bs S) (W.1 34) (Int32.toNatClampNeg y) i = true := fun t => q (of_decide_eq_true t)
        rw [if_neg e1]
        have : j.toInt = 0 := by
          rcases w3 with w3 | w3
          · rw [w3]; exact z0
          · exact absurd (w4.mp w3) q
        omega
    refine gx_ca (Q := Q) _ (gz_taken v6 y _ V (show gp_Bs S ≤ Int32.toNatClampNeg v6 by omega) (show Int32.toNatClampNeg v6 < gp_Bs S + P by omega) (by omega) hy hy2) ?_
    intro r u hr
    have hr : r.toInt = gp_Tb (gp_Bs S) (U.1 34) (Int32.toNatClampNeg v6) (Int32.toNatClampNeg y) := hr
    rw [e6] at hr
    refine gx_if (Q := Q) (fun q => ?_) (fun q => ?_)
    · have q2 := gx_eqr (k := -3) n3 q
      obtain ⟨rk, t, hFI⟩ := htb
      refine gx_ca (Q := Q) _ (gz_workOut v6 y _ V (rk := rk) (t := t) hFI (show gp_Bs S ≤ Int32.toNatClampNeg v6 by omega) (show Int32.toNatClampNeg v6 < gp_Bs S + P by omega) (by omega) hy hy2) ?_
      intro r2 u2 hr2
      rcases hr2 with ⟨g1, g2, g3, m, q', g4, g5, g6⟩ | ⟨g1, v, w', w, g2, g3, g4, g5, g6, g7⟩
      · have g1 : r2 = 0 := g1
        have g2 : u2.1 34 = U.1 34 := g2
        have g3 : u2.1 35 = U.1 35 := g3
        have g4 : gp_dpn (S.1 10) (S.1 11) (S.1 12) (gp_Mz S) (gp_Tb (gp_Bs S) (U.1 34)) (Int32.toNatClampNeg v6) (Int32.toNatClampNeg y) m q' := g4
        have g6 : gp_Tb (gp_Bs S) (U.1 34) m q' = -3 := g6
        rw [e6] at g4
        refine gx_if (Q := Q) (fun _ => ?_) (fun t => absurd g1 t)
        refine next u2 0 (by rw [g2, g3]; exact ⟨rk, t, hFI⟩) (by rw [g2]; exact hks) (Or.inl rfl) ⟨fun t => absurd t (by decide), fun t => absurd (by rw [g2]; omega) t⟩ (by rw [g2]) ?_
        rw [g2]
        rcases hpr with ⟨x1, x2⟩ | x
        · refine Or.inl ⟨x1, fun k hk1 hk2 => ?_⟩
          by_cases ek : k = i
          · rw [x1] at g4 g6
            rw [ek]
            exact ⟨m, q', g4, g5, g6⟩
          · exact x2 k (by omega) hk2
        · exact Or.inr x
      · have g1 : r2 = 1 := g1
        have g5 : u2.1 34 = upd (U.1 34) (11 * (Int32.toNatClampNeg v6 - gp_Bs S) + Int32.toNatClampNeg y) v := g5
        have g6 : u2.1 35 = upd (U.1 35) (11 * (Int32.toNatClampNeg v6 - gp_Bs S) + Int32.toNatClampNeg y) w' := g6
        have g7 : gp_cell (S.1 10) (S.1 11) (S.1 12) (gp_Mz S) (gp_So S fed) (gp_Sr S fed) (gp_Tb (gp_Bs S) (U.1 34)) (gp_Tb (gp_Bs S) (U.1 35)) (gp_okc (gp_Bs S) P fed (U.1 34) rk t) (Int32.toNatClampNeg v6) (Int32.toNatClampNeg y) v.toInt w := g7
        rw [e6, show gp_Bs S + i - gp_Bs S = i by omega] at g5 g6
        rw [e6] at g7
        have unk : gp_Tb (gp_Bs S) (U.1 34) (gp_Bs S + i) (Int32.toNatClampNeg y) = -3 := by omega
        have FI' := gp_FI_set hFI (show i < P by omega) (show Int32.toNatClampNeg y ≤ fed by omega) f1 unk g2 g3 g4 g7
        have ks' : gp_ks (U.1 34) (u2.1 34) := by
          intro c hc
          rw [g5]
          refine gx_un _ _ _ (fun e => hc ?_)
          rw [e]
          have := unk
          unfold gp_Tb at this
          rw [show gp_Bs S + i - gp_Bs S = i by omega] at this
          exact this
        have Tn : gp_Tb (gp_Bs S) (u2.1 34) (gp_Bs S + i) (Int32.toNatClampNeg y) = v.toInt := by
          unfold gp_Tb
          rw [g5, show gp_Bs S + i - gp_Bs S = i by omega, gx_us]
        refine gx_if (Q := Q) (fun t => by rw [g1] at t; exact absurd t (by decide)) (fun _ => ?_)
        refine next u2 1 ⟨_, _, by rw [g5, g6]; exact FI'⟩ (fun c hc => by rw [ks' c (by rw [hks c hc]; exact hc)]; exact hks c hc) (Or.inr rfl) ⟨fun _ => by rw [Tn]; exact g2, fun _ => rfl⟩ ?_ (Or.inr ?_)
        · refine gp_c_ext (fun k hk1 => ?_)
          unfold gp_kn gp_Tb
          rw [g5, gx_un _ _ _ (show 11 * (gp_Bs S + k - gp_Bs S) + Int32.toNatClampNeg y ≠ 11 * i + Int32.toNatClampNeg y by omega)]
        · have l1 := gp_ks_c (B := gp_Bs S) hks (Int32.toNatClampNeg y) P
          have l2 : gp_c (gp_kn (gp_Bs S) (U.1 34) (Int32.toNatClampNeg y)) P < gp_c (gp_kn (gp_Bs S) (u2.1 34) (Int32.toNatClampNeg y)) P := by
            refine gp_c_lt (k := i) (fun k _ hk2 => ?_) (by omega) ?_ ?_
            · unfold gp_kn at hk2 ⊢
              have hk2 := of_decide_eq_true hk2
              refine decide_eq_true ?_
              unfold gp_Tb at hk2 ⊢
              rw [ks' _ hk2]
              exact hk2
            · exact decide_eq_true (by rw [Tn]; exact g2)
            · exact fun t => of_decide_eq_true t unk
          omega
    · have q2 := gx_eqnr (k := -3) n3 q
      refine next U 1 htb hks (Or.inr rfl) ⟨fun _ => by omega, fun _ => rfl⟩ rfl ?_
      rcases hpr with ⟨x1, x2⟩ | x
      · refine Or.inl ⟨x1, fun k hk1 hk2 => ?_⟩
        by_cases ek : k = i
        · rw [ek, ← x1] at hk2; omega
        · exact x2 k (by omega) hk2
      · exact Or.inr x
