/-! The reference's table and the expressions, for a text and a subject. -/
theorem gy_T_of {S : gm_S} {tx : Nat → Int} {ty R P fed : Nat} {f : Nat → Int × Lean.ParserDescr} (hC : gp_WC S P fed) {Pg : Nat → Nat → Nat → Prop} {nA nC : Nat} (hU : ∃ t : Int32, t.toInt = ty ∧ ty ≤ 50 ∧ gm_iU t (S.2.2 4) (S.1 6) (S.1 7) (S.1 8) (S.1 9) (S.1 10) (S.1 11) (S.1 12) (S.1 13)) (hG : gp_G Pg (S.2.2 4) (S.1 6) (S.1 7) (S.1 8) (S.1 9) (S.1 10) (S.1 11) (S.1 12) (S.1 13) R f nA nC) (hE : ∀ e n, gp_B (S.2.2 4) ≤ n → n < gp_M (S.2.2 4) (S.1 9) → gp_rep Pg (gp_B (S.2.2 4)) (S.1 10) (S.1 11) (S.1 12) e n → (S.1 15 n = 1 ↔ gq_em (gq_EL f R) e)) (hH : ∀ c : Int, 32 ≤ c → c ≤ 126 → ∀ e n, gp_B (S.2.2 4) ≤ n → n < gp_M (S.2.2 4) (S.1 9) → gr_cn e → gp_rep Pg (gp_B (S.2.2 4)) (S.1 10) (S.1 11) (S.1 12) e n → (gp_ih (S.2.1 17) (S.2.1 18) n c ↔ gy_hd tx ty R f e c)) (hK : ∀ k, k < ty → (S.1 14 (50 * Int32.toNatClampNeg (S.2.2 4) + k)).toInt = tx k) {rk : Nat → Nat} {t : Nat} (hF : gp_FT S P fed rk t) (lk : Bool) : gy_T (S.1 10) (S.1 11) (S.1 12) (gp_Mz S) Pg (gp_So S fed) (gp_Sr S fed) (gp_Bs S) P fed (gp_Tb (gp_Bs S) (S.1 34)) (gp_Tb (gp_Bs S) (S.1 35)) (gy_C tx ty R f fed (fun q => (S.1 33 q).toInt) lk) ∧ (lk = true → ∀ e m q, gp_rep Pg (gp_Bs S) (S.1 10) (S.1 11) (S.1 12) e m → gp_Bs S ≤ m → m < gp_Bs S + P → q ≤ fed → (gy_C tx ty R f fed (fun q => (S.1 33 q).toInt) lk).2.2.2 e q = true → ¬ gp_So S fed m q) := by
  have hM : gp_M (S.2.2 4) (S.1 9) = gp_Bs S + P := by
    have := hC.2.1.1
    have c := gx_cl ((S.1 9) (Int32.toNatClampNeg (S.2.2 4))) (by omega)
    show gp_Bs S + Int32.toNatClampNeg ((S.1 9) (Int32.toNatClampNeg (S.2.2 4))) = _
    omega
  have hB : gp_B (S.2.2 4) = gp_Bs S := rfl
  obtain ⟨tt, ht1, ht2, hU⟩ := hU
  have hRR := (gr_R_of hU hG).1
  rw [hM, hB] at hRR hH hE
  have sb := hC.2.2.2.2.2.2.2.2
  have emb := hC.2.2.2.2.2.2.2.1
  have fr0 := hC.1.1
  have cf := gx_cl (S.2.2 4) fr0
  have look : ∀ e m q, gp_rep Pg (gp_Bs S) (S.1 10) (S.1 11) (S.1 12) e m → gp_Bs S ≤ m → m < gp_Bs S + P → q ≤ fed → (gp_So S fed m q ↔ ¬ (gq_em (gq_EL f R) e ∨ (q < fed ∧ gy_hd tx ty R f (gy_nm e) ((S.1 33 q).toInt)))) := by
    intro e m q hr b1 b2 hq
    have a := hE e m b1 b2 hr
    obtain ⟨n1, n2⟩ := gy_nm_rep e m hr
    have b : q < fed → (gp_ih (S.2.1 17) (S.2.1 18) m (S.1 33 q).toInt ↔ gy_hd tx ty R f (gy_nm e) ((S.1 33 q).toInt)) := fun h => hH _ (sb q h).1 (sb q h).2 _ m b1 b2 n2 n1
    constructor
    · rintro ⟨o1, o2⟩ z
      rcases z with z | ⟨z1, z2⟩
      · have := a.mpr z
        rw [o1] at this
        exact absurd this (by decide)
      · rcases o2 with o2 | o2
        · omega
        · exact o2 ((b z1).mpr z2)
    · intro z
      refine ⟨?_, ?_⟩
      · rcases emb m with y | y
        · exact y
        · exact absurd (Or.inl (a.mp y)) z
      · by_cases y : q = fed
        · exact Or.inl y
        · exact Or.inr (fun w => z (Or.inr ⟨by omega, (b (by omega)).mp w⟩))
  refine ⟨⟨?_, ?_, ?_, ?_, ?_, ?_⟩, ?_⟩
  · intro m q b1 b2 hq
    have e : gp_Bs S + (m - gp_Bs S) = m := by omega
    have k := hF.2 (m - gp_Bs S) q (by omega) hq
    obtain ⟨-, w, w0, w1, a⟩ := hF.1 (m - gp_Bs S) q (by omega) hq k
    rw [e] at a w1
    have s := gp_vc_sd hC hF b1 b2 hq
    refine ⟨?_, ?_, _, w, w0, w1, a⟩
    · rcases s with s | s
      · omega
      · have := s.1; omega
    · rcases s with s | s
      · omega
      · exact s.2.1
  · intro m q b1 b2 hq ho
    exact gp_out_f hC hF b1 b2 hq ho
  · intro nm m q hr b1 b2 hq
    obtain ⟨-, kj, r1, -, -⟩ := hr
    obtain ⟨r1, r2⟩ := r1 rfl
    have nd := (hU.2.2.2.1.1 m (by have := cf; have b1 : 160 * Int32.toNatClampNeg (S.2.2 4) ≤ m := b1; omega) (by
      have := hC.2.1.1
      have b2 : m < 160 * Int32.toNatClampNeg (S.2.2 4) + P := b2
      omega)).1
    obtain ⟨-, -, -, -, nd, -⟩ := nd
    obtain ⟨nd1, nd2, nd3⟩ := nd (by omega)
    have co := gx_cl _ nd1
    refine Iff.trans ?_ gy_dc_i.symm
    constructor
    · rintro ⟨a1, a2⟩
      refine ⟨by omega, fun i hi => ?_⟩
      have a := a2 i (by omega)
      show (S.1 33 (q + i)).toInt = tx (gp_n1 nm + i)
      rw [a, ← hK (gp_n1 nm + i) (by omega)]
      rw [show 50 * Int32.toNatClampNeg (S.2.2 4) + Int32.toNatClampNeg (S.1 11 m) + i = 50 * Int32.toNatClampNeg (S.2.2 4) + (gp_n1 nm + i) by omega]
    · rintro ⟨a1, a2⟩
      refine ⟨by omega, fun i hi => ?_⟩
      have a : (S.1 33 (q + i)).toInt = tx (gp_n1 nm + i) := a2 i (by omega)
      rw [← hK (gp_n1 nm + i) (by omega)] at a
      rw [show 50 * Int32.toNatClampNeg (S.2.2 4) + Int32.toNatClampNeg (S.1 11 m) + i = 50 * Int32.toNatClampNeg (S.2.2 4) + (gp_n1 nm + i) by omega]
      exact Int32.toInt_inj.mp a
  · intro nm m q hr b1 b2 hq
    have l := look _ m q hr b1 b2 hq
    refine l.trans (not_congr ?_)
    refine Iff.trans ?_ gy_dc_i.symm
    constructor
    · rintro (z | ⟨z1, z2⟩)
      · rcases z with z | ⟨z, -⟩ <;> exact absurd z (by decide)
      · refine ⟨z1, ?_⟩
        rcases z2 with z2 | ⟨z2, -⟩
        · rcases z2 with ⟨a, b, e, s⟩ | ⟨a, b, e, -⟩
          · injection e with e1 e2
            injection e1 with e3 e4
            injection e3 with e5 e6
            have e4 : gp_n2 nm = b := e4
            rw [e6, e4]
            exact s
          · injection e with e1 e2
            exact absurd e2 (by decide)
        · exact absurd z2 (by decide)
    · rintro ⟨z1, z2⟩
      exact Or.inr ⟨z1, Or.inl (Or.inl ⟨gp_n1 nm, gp_n2 nm, rfl, z2⟩)⟩
  · intro nm m hr b1 b2
    obtain ⟨-, kj, -, r3, -⟩ := hr
    obtain ⟨a, b⟩ := hRR.2 m (gp_n1 nm) b1 b2 kj (r3 rfl)
    obtain ⟨c1, c2, c3⟩ := hRR.1 _ a
    have b : Int32.toNatClampNeg (gp_Mz S m) = _ := b
    rw [b]
    exact ⟨c1, c2, c3⟩
  · intro e m q hr b1 b2 hq z
    refine (look e m q hr b1 b2 hq).mpr (fun w => z (gy_dc_i.mpr (fun _ => w)))
  · intro hl e m q hr b1 b2 hq z o
    exact (look e m q hr b1 b2 hq).mp o (gy_dc_i.mp z hl)
/-- a bound of the ranks -/
theorem gy_rkb (rank : Nat → Nat) (B : Nat) : ∀ P, ∃ K, ∀ m, B ≤ m → m < B + P → rank m < K := by
  intro P
  induction P with
  | zero => exact ⟨0, fun m a b => absurd b (by omega)⟩
  | succ P ih =>
    obtain ⟨K, hK⟩ := ih
    refine ⟨K + rank (B + P) + 1, fun m a b => ?_⟩
    by_cases e : m = B + P
    · rw [e]; omega
    · have := hK m a (by omega)
      omega
theorem gy_mu_of {S : gm_S} {P fed : Nat} (hC : gp_WC S P fed) {rank : Nat → Nat} (RK : gp_RK (S.1 10) (S.1 11) (S.1 12) (gp_Mz S) (S.1 15) (gp_Bs S) P rank) {rk : Nat → Nat} {t : Nat} (hF : gp_FT S P fed rk t) : ∃ K, gy_mu (S.1 10) (S.1 11) (S.1 12) (gp_Mz S) (gp_Bs S) P fed (gp_Tb (gp_Bs S) (S.1 34)) (fun m q => (fed - q) * K + rank m) := by
  obtain ⟨K, hK⟩ := gy_rkb rank (gp_Bs S) P
  refine ⟨K, fun m q b1 b2 hq => ?_⟩
  obtain ⟨r3, r4, r4e, r5, r7⟩ := RK m b1 b2
  obtain ⟨-, n4, n45, -, n3⟩ := hC.2.2.2.2.1 m b1 b2
  have bk : ∀ m', gp_Bs S ≤ m' → m' < gp_Bs S + P → ∀ v : Int, 0 ≤ v → (q : Int) + v ≤ fed → ¬ v = 0 → (fed - (q + v.toNat)) * K + rank m' < (fed - q) * K + rank m := by
    intro m' c1 c2 v v0 vf vn
    have := hK m' c1 c2
    have e := Nat.mul_le_mul_right K (show fed - (q + v.toNat) + 1 ≤ fed - q by omega)
    rw [Nat.add_mul, Nat.one_mul] at e
    omega
  refine ⟨fun k => ?_, fun k => ?_, fun k h0 => ?_, fun k h0 => ?_, fun k => ?_⟩
  · have := r3 k
    show (fed - q) * K + _ < (fed - q) * K + _
    omega
  · have := r4 k
    show (fed - q) * K + _ < (fed - q) * K + _
    omega
  · obtain ⟨o1, o2, -⟩ := n4 (by omega)
    have s := gp_vc_sd hC hF (m := Int32.toNatClampNeg (S.1 11 m)) o1 (by omega) hq
    rcases s with s | ⟨s1, s2, s3, s4⟩
    · omega
    · refine bk m b1 b2 _ s1 s2 (fun z => ?_)
      have := s3 z
      rw [r7 (Or.inl k)] at this
      exact absurd this (by decide)
  · obtain ⟨o1, o2, -⟩ := n4 (by omega)
    obtain ⟨p1, p2, -⟩ := n45 (Or.inl k)
    have s := gp_vc_sd hC hF (m := Int32.toNatClampNeg (S.1 11 m)) o1 (by omega) hq
    rcases s with s | ⟨s1, s2, s3, s4⟩
    · omega
    · by_cases z : gp_Tb (gp_Bs S) (S.1 34) (Int32.toNatClampNeg (S.1 11 m)) q = 0
      · have := r4e k (s3 z)
        rw [z]
        show (fed - (q + 0)) * K + _ < (fed - q) * K + _
        rw [Nat.add_zero]
        omega
      · exact bk _ p1 (by omega) _ s1 s2 z
  · have := r5 k
    show (fed - q) * K + _ < (fed - q) * K + _
    omega
