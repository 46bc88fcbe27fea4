/-! What the reference knows of the half in use. -/
def gp_GB (fr : Int32) (rc nm wh pa kd on tw ow : Nat → Int32) : Prop := ∃ (Pg : Nat → Nat → Nat → Prop) (R : Nat) (f : Nat → Int × Lean.ParserDescr) (nA nC : Nat), gp_G Pg fr rc nm wh pa kd on tw ow R f nA nC ∧ 1 ≤ R ∧ 2 * nA ≤ 150 ∧ 2 * nC + 3 * R ≤ 50 ∧ ∀ r, r < R → gp_cd (f r).2 ≤ 6
/-- what study has found: em empty, bg begins, lw and hg heads; kp the text kept -/
def gp_RS (fr : Int32) (rc nm wh pa kd on tw em bg kp : Nat → Int32) (lw hg : Nat → Int64) : Prop :=
  (∀ n, gp_B fr ≤ n → n < gp_M fr pa → (em n = 1 ↔ gp_eF kd on tw (fun n => gp_mz rc nm wh fr (on n)) (fun j => gp_B fr ≤ j ∧ em j = 1) n)) ∧
  (∀ n, gp_B fr ≤ n → n < gp_M fr pa → ∀ c : Int, 32 ≤ c → c ≤ 126 → gp_hF kd on tw (fun n => gp_mz rc nm wh fr (on n)) (fun j => em j = 1) (fun j => gp_B fr ≤ j ∧ gp_ih lw hg j c) ((kp (50 * Int32.toNatClampNeg fr + Int32.toNatClampNeg (on n))).toInt = c) n → gp_ih lw hg n c) ∧
  (∀ q : Nat, q < 8 → ∀ n, gp_B fr ≤ n → n < gp_M fr pa → gp_bF kd on tw (fun n => gp_mz rc nm wh fr (on n)) (fun n => gp_rz rc nm fr (on n)) (fun j => em j = 1) (fun j => gp_B fr ≤ j ∧ gp_bt (bg j) q = true) q n → gp_bt (bg n) q = true)
/-- no rule runs for ever -/
def gp_RW (fr : Int32) (rc wh pa kd on em bg : Nat → Int32) : Prop :=
  (∀ n, gp_B fr ≤ n → n < gp_M fr pa → (kd n = 7 ∨ kd n = 10) → em (Int32.toNatClampNeg (on n)) = 0) ∧
  (∀ r : Nat, (r : Int) < (rc (Int32.toNatClampNeg fr)).toInt → ¬ gp_bt (bg (Int32.toNatClampNeg (wh (8 * Int32.toNatClampNeg fr + r)))) r = true)
def gp_RG (fr : Int32) (rc nm wh pa kd on tw ow em bg kp : Nat → Int32) (lw hg : Nat → Int64) : Prop :=
  (∃ ty : Int32, ty.toInt ≤ 50 ∧ gm_iU ty fr rc nm wh pa kd on tw ow) ∧ gp_GB fr rc nm wh pa kd on tw ow ∧ gp_RS fr rc nm wh pa kd on tw em bg kp lw hg ∧ gp_RW fr rc wh pa kd on em bg
/-- the same in the half fr -/
def gp_hs (fr : Int32) (rc nm wh pa kd on tw ow rc' nm' wh' pa' kd' on' tw' ow' : Nat → Int32) : Prop :=
  rc' (Int32.toNatClampNeg fr) = rc (Int32.toNatClampNeg fr) ∧ pa' (Int32.toNatClampNeg fr) = pa (Int32.toNatClampNeg fr) ∧ (∀ n, 8 * Int32.toNatClampNeg fr ≤ n → n < 8 * Int32.toNatClampNeg fr + 8 → nm' n = nm n ∧ wh' n = wh n) ∧ ∀ n, 160 * Int32.toNatClampNeg fr ≤ n → n < 160 * Int32.toNatClampNeg fr + 160 → kd' n = kd n ∧ on' n = on n ∧ tw' n = tw n ∧ ow' n = ow n
theorem gp_ru_hs {fr : Int32} {rc nm wh pa kd on tw ow rc' nm' wh' pa' kd' on' tw' ow' : Nat → Int32} (h : gp_hs fr rc nm wh pa kd on tw ow rc' nm' wh' pa' kd' on' tw' ow') (hf : 0 ≤ fr.toInt) (hR : (rc (Int32.toNatClampNeg fr)).toInt ≤ 8) {y r : Int32} (q : gp_ru rc nm fr y r) : gp_ru rc' nm' fr y r := by
  have cf := gx_cl fr hf
  obtain ⟨h1, h2, h3, h4⟩ := h
  unfold gp_ru at q ⊢
  rw [h1]
  rcases q with ⟨a, b⟩ | ⟨a, b, c, d⟩
  · exact Or.inl ⟨a, fun k hk j hj => by rw [(h3 j (by omega) (by omega)).1]; exact b k hk j hj⟩
  · exact Or.inr ⟨a, b, fun j hj => by rw [(h3 j (by omega) (by omega)).1]; exact c j hj, fun k hk j hj => by rw [(h3 j (by omega) (by omega)).1]; exact d k hk j hj⟩
theorem gp_me_hs {fr : Int32} {rc nm wh pa kd on tw ow rc' nm' wh' pa' kd' on' tw' ow' : Nat → Int32} (h : gp_hs fr rc nm wh pa kd on tw ow rc' nm' wh' pa' kd' on' tw' ow') (hf : 0 ≤ fr.toInt) (hR : (rc (Int32.toNatClampNeg fr)).toInt ≤ 8) {y z : Int32} (q : gp_me rc nm wh fr y z) : gp_me rc' nm' wh' fr y z := by
  have cf := gx_cl fr hf
  obtain ⟨r, a, b⟩ := q
  refine ⟨r, gp_ru_hs h hf hR a, ?_⟩
  rw [h.1]
  rcases b with b | ⟨b1, b2, b3⟩
  · exact Or.inl b
  · exact Or.inr ⟨b1, b2, fun j hj => by rw [(h.2.2.1 j (by omega) (by omega)).2]; exact b3 j hj⟩
theorem gp_me_ex (rc nm wh : Nat → Int32) (fr y : Int32) (hf : 0 ≤ fr.toInt) (hR : (rc (Int32.toNatClampNeg fr)).toInt ≤ 8) : ∃ z, gp_me rc nm wh fr y z := by
  have cf := gx_cl fr hf
  have key : ∀ K : Nat, (K : Int) ≤ 8 → (∀ k : Nat, k < K → nm (8 * Int32.toNatClampNeg fr + k) ≠ y) ∨ ∃ k : Nat, k < K ∧ nm (8 * Int32.toNatClampNeg fr + k) = y ∧ ∀ k', k' < k → nm (8 * Int32.toNatClampNeg fr + k') ≠ y := by
    intro K
    induction K with
    | zero => intro _; exact Or.inl (fun k hk => absurd hk (by omega))
    | succ K ih =>
      intro hK
      rcases ih (by omega) with a | ⟨k, a, b, c⟩
      · by_cases q : nm (8 * Int32.toNatClampNeg fr + K) = y
        · exact Or.inr ⟨K, by omega, q, a⟩
        · refine Or.inl (fun k hk => ?_)
          by_cases t : k = K
          · rw [t]; exact q
          · exact a k (by omega)
      · exact Or.inr ⟨k, by omega, b, c⟩
  rcases key (rc (Int32.toNatClampNeg fr)).toInt.toNat (by omega) with a | ⟨k, a, b, c⟩
  · refine ⟨-1, -1, Or.inl ⟨rfl, fun k hk j hj => ?_⟩, Or.inl ⟨rfl, rfl⟩⟩
    have e : j = 8 * Int32.toNatClampNeg fr + k := by omega
    rw [e]
    exact a k (by omega)
  · have l : (Int32.ofNat k).toInt = k := gx_on k (by omega)
    refine ⟨wh (8 * Int32.toNatClampNeg fr + k), Int32.ofNat k, Or.inr ⟨by omega, by omega, fun j hj => ?_, fun k' hk' j hj => ?_⟩, Or.inr ⟨by omega, by omega, fun j hj => ?_⟩⟩
    · have e : j = 8 * Int32.toNatClampNeg fr + k := by omega
      rw [e]; exact b
    · have e : j = 8 * Int32.toNatClampNeg fr + k' := by omega
      rw [e]; exact c k' (by omega)
    · have e : j = 8 * Int32.toNatClampNeg fr + k := by omega
      rw [e]
theorem gp_mz_hs {fr : Int32} {rc nm wh pa kd on tw ow rc' nm' wh' pa' kd' on' tw' ow' : Nat → Int32} (h : gp_hs fr rc nm wh pa kd on tw ow rc' nm' wh' pa' kd' on' tw' ow') (hf : 0 ≤ fr.toInt) (hR : (rc (Int32.toNatClampNeg fr)).toInt ≤ 8) (y : Int32) : gp_mz rc' nm' wh' fr y = gp_mz rc nm wh fr y := by
  obtain ⟨z, hz⟩ := gp_me_ex rc nm wh fr y hf hR
  rw [← gp_mz_eq hf hz, ← gp_mz_eq hf (gp_me_hs h hf hR hz)]
theorem gp_iU_hs {ty fr : Int32} {rc nm wh pa kd on tw ow rc' nm' wh' pa' kd' on' tw' ow' : Nat → Int32} (h : gp_hs fr rc nm wh pa kd on tw ow rc' nm' wh' pa' kd' on' tw' ow') (q : gm_iU ty fr rc nm wh pa kd on tw ow) : gm_iU ty fr rc' nm' wh' pa' kd' on' tw' ow' := by
  obtain ⟨⟨f0, f1⟩, ⟨p0, p1⟩, ⟨r0, r1⟩, hG, hN⟩ := q
  have cf := gx_cl fr f0
  obtain ⟨h1, h2, h3, h4⟩ := h
  unfold gm_iU gm_iS
  rw [h1, h2]
  refine ⟨⟨f0, f1⟩, ⟨p0, p1⟩, ⟨r0, r1⟩, ⟨fun n a b => ?_, fun k hk => hG.2.1 k hk, fun k hk => hG.2.2.1 k hk, fun r hr j hj => ?_⟩, fun n a b => ?_⟩
  · obtain ⟨e1, e2, e3, e4⟩ := h4 n (by omega) (by omega)
    rw [e1, e2, e3, e4]
    exact hG.1 n a b
  · obtain ⟨e1, e2⟩ := h3 j (by omega) (by omega)
    rw [e1, e2]
    exact hG.2.2.2 r hr j hj
  · obtain ⟨e1, e2, e3, e4⟩ := h4 n (by omega) (by omega)
    rw [e1, e2]
    intro k3 nd
    refine hN n a b k3 (fun k hk j hj => ?_)
    have := nd k (by rw [h1]; exact hk) j hj
    rw [(h3 j (by omega) (by omega)).1] at this
    exact this
theorem gp_rep_hs {Pg : Nat → Nat → Nat → Prop} {B N : Nat} {kd on tw kd' on' tw' : Nat → Int32} (h : ∀ m, B ≤ m → m < N → kd' m = kd m ∧ on' m = on m ∧ tw' m = tw m) : ∀ (e : Lean.ParserDescr) (n : Nat), B ≤ n → n < N → gp_rep Pg B kd on tw e n → gp_rep Pg B kd' on' tw' e n := by
  intro e
  induction e with
  | cat nm k =>
    intro n hb hn r
    unfold gp_rep at r ⊢
    rw [(h n hb hn).1, (h n hb hn).2.1, (h n hb hn).2.2]
    exact r
  | node nm k e ih =>
    intro n hb hn r
    unfold gp_rep at r ⊢
    rw [(h n hb hn).1, (h n hb hn).2.1]
    have c := gp_ch_cl r.2.2.1
    exact ⟨r.1, r.2.1, r.2.2.1, ih _ c.1 (by omega) r.2.2.2⟩
  | binary nm e f ih1 ih2 =>
    intro n hb hn r
    unfold gp_rep at r ⊢
    rw [(h n hb hn).1, (h n hb hn).2.1, (h n hb hn).2.2]
    have c := gp_ch_cl r.2.2.1
    have c2 := gp_ch_cl r.2.2.2.1
    exact ⟨r.1, r.2.1, r.2.2.1, r.2.2.2.1, ih1 _ c.1 (by omega) r.2.2.2.2.1, ih2 _ c2.1 (by omega) r.2.2.2.2.2⟩
  | _ =>
    intro n hb hn r
    unfold gp_rep at r
    exact r.elim
theorem gp_G_hs {Pg : Nat → Nat → Nat → Prop} {fr : Int32} {rc nm wh pa kd on tw ow rc' nm' wh' pa' kd' on' tw' ow' : Nat → Int32} (h : gp_hs fr rc nm wh pa kd on tw ow rc' nm' wh' pa' kd' on' tw' ow') (hp : 0 ≤ (pa (Int32.toNatClampNeg fr)).toInt) (hp2 : (pa (Int32.toNatClampNeg fr)).toInt ≤ 100) {R nA nC : Nat} {f : Nat → Int × Lean.ParserDescr} (hR : R ≤ 8) (q : gp_G Pg fr rc nm wh pa kd on tw ow R f nA nC) : gp_G Pg fr rc' nm' wh' pa' kd' on' tw' ow' R f nA nC := by
  obtain ⟨h1, h2, h3, h4⟩ := h
  obtain ⟨G1, G2, G3, G4, G5⟩ := q
  have cp := gx_cl _ hp
  have hM : gp_M fr pa = 160 * Int32.toNatClampNeg fr + Int32.toNatClampNeg (pa (Int32.toNatClampNeg fr)) := rfl
  have hB : gp_B fr = 160 * Int32.toNatClampNeg fr := rfl
  have hM' : gp_M fr pa' = gp_M fr pa := by unfold gp_M; rw [h2]
  have sm : ∀ m, gp_B fr ≤ m → m < gp_M fr pa → kd' m = kd m ∧ on' m = on m ∧ tw' m = tw m := fun m a b => by
    obtain ⟨e1, e2, e3, e4⟩ := h4 m (by omega) (by omega)
    exact ⟨e1, e2, e3⟩
  unfold gp_G
  rw [h1, hM', h2]
  refine ⟨G1, fun r hr => ?_, fun n a b => ?_, ?_, ?_⟩
  · obtain ⟨e1, e2⟩ := h3 (8 * Int32.toNatClampNeg fr + r) (by omega) (by omega)
    rw [e1, e2]
    have g := G2 r hr
    have c := gp_ch_cl g.2.1
    exact ⟨g.1, g.2.1, gp_rep_hs sm _ _ c.1 c.2.1 g.2.2⟩
  · obtain ⟨r, a1, a2, e', a3, a4⟩ := G3 n a b
    refine ⟨r, a1, ?_, e', a3, gp_rep_hs sm _ _ a b a4⟩
    rw [(h4 n (by omega) (by omega)).2.2.2]
    exact a2
  · rw [← G4]
    exact gp_c_ext (fun k hk => by rw [(sm (gp_B fr + k) (by omega) (by omega)).1])
  · rw [← G5]
    exact gp_c_ext (fun k hk => by rw [(sm (gp_B fr + k) (by omega) (by omega)).1])
theorem gp_eF_hs {kd on tw M kd' on' tw' M' : Nat → Int32} {em : Nat → Prop} {n : Nat} (e1 : kd' n = kd n) (e2 : on' n = on n) (e3 : tw' n = tw n) (e4 : M' n = M n) (h : gp_eF kd' on' tw' M' em n) : gp_eF kd on tw M em n := by
  unfold gp_eF at h ⊢
  rw [e1, e2, e3, e4] at h
  exact h
theorem gp_rz_hs {fr : Int32} {rc nm wh pa kd on tw ow rc' nm' wh' pa' kd' on' tw' ow' : Nat → Int32} (h : gp_hs fr rc nm wh pa kd on tw ow rc' nm' wh' pa' kd' on' tw' ow') (hf : 0 ≤ fr.toInt) (hR : (rc (Int32.toNatClampNeg fr)).toInt ≤ 8) (y : Int32) : gp_rz rc' nm' fr y = gp_rz rc nm fr y := by
  obtain ⟨z, r, hr, -⟩ := gp_me_ex rc nm wh fr y hf hR
  rw [← gp_rz_eq hf hr, ← gp_rz_eq hf (gp_ru_hs h hf hR hr)]
theorem gp_hF_cg {kd on tw M kd' on' tw' M' : Nat → Int32} {em hd : Nat → Prop} {rw' : Prop} {n : Nat} (e1 : kd' n = kd n) (e2 : on' n = on n) (e3 : tw' n = tw n) (e4 : M' n = M n) (h : gp_hF kd' on' tw' M' em hd rw' n) : gp_hF kd on tw M em hd rw' n := by
  unfold gp_hF at h ⊢
  rw [e1, e2, e3, e4] at h
  exact h
theorem gp_bF_cg {kd on tw M R kd' on' tw' M' R' : Nat → Int32} {em bg : Nat → Prop} {q n : Nat} (e1 : kd' n = kd n) (e2 : on' n = on n) (e3 : tw' n = tw n) (e4 : M' n = M n) (e5 : R' n = R n) (h : gp_bF kd' on' tw' M' R' em bg q n) : gp_bF kd on tw M R em bg q n := by
  unfold gp_bF at h ⊢
  rw [e1, e2, e3, e4, e5] at h
  exact h
/-- parts of a half lie in it -/
def gp_kd (fr : Int32) (rc nm wh pa kd on tw : Nat → Int32) : Prop := ∀ n, gp_B fr ≤ n → n < gp_M fr pa → ((kd n).toInt = 3 → gp_B fr ≤ Int32.toNatClampNeg (gp_mz rc nm wh fr (on n)) ∧ Int32.toNatClampNeg (gp_mz rc nm wh fr (on n)) < gp_M fr pa ∧ ((Int32.toNatClampNeg (gp_mz rc nm wh fr (on n)) : Nat) : Int) = (gp_mz rc nm wh fr (on n)).toInt) ∧ (4 ≤ (kd n).toInt → gp_B fr ≤ Int32.toNatClampNeg (on n) ∧ Int32.toNatClampNeg (on n) < n ∧ ((Int32.toNatClampNeg (on n) : Nat) : Int) = (on n).toInt) ∧ ((kd n).toInt = 4 ∨ (kd n).toInt = 5 → gp_B fr ≤ Int32.toNatClampNeg (tw n) ∧ Int32.toNatClampNeg (tw n) < n ∧ ((Int32.toNatClampNeg (tw n) : Nat) : Int) = (tw n).toInt) ∧ ((kd n).toInt = 1 → 0 ≤ (on n).toInt ∧ 1 ≤ (tw n).toInt ∧ (on n).toInt + (tw n).toInt ≤ 50) ∧ 0 ≤ (kd n).toInt ∧ (kd n).toInt ≤ 10
theorem gp_kd_of {ty fr : Int32} {rc nm wh pa kd on tw ow : Nat → Int32} (ht : ty.toInt ≤ 50) (hU : gm_iU ty fr rc nm wh pa kd on tw ow) : gp_kd fr rc nm wh pa kd on tw := by
  obtain ⟨⟨f0, f1⟩, ⟨p0, p1⟩, ⟨r0, r1⟩, hS, hN⟩ := hU
  have cf := gx_cl fr f0
  have cp := gx_cl _ p0
  have hM : gp_M fr pa = 160 * Int32.toNatClampNeg fr + Int32.toNatClampNeg (pa (Int32.toNatClampNeg fr)) := rfl
  have hB : gp_B fr = 160 * Int32.toNatClampNeg fr := rfl
  intro n a b
  have nd := (hS.1 n (by omega) (by omega)).1
  unfold gp_node at nd
  obtain ⟨k0, k1, n4, n45, n1, n3⟩ := nd
  refine ⟨fun k3 => ?_, fun k4 => ?_, fun k45 => ?_, fun k => ?_, k0, k1⟩
  · obtain ⟨z, hz⟩ := gp_me_ex rc nm wh fr (on n) f0 r1
    rw [← gp_mz_eq f0 hz]
    rcases gp_me_un hS f0 hz with ⟨-, w⟩ | ⟨-, -, w1, w2⟩
    · exact absurd w (hN n (by omega) (by omega) (Int32.toInt_inj.mp (by rw [k3]; exact (gx_lit 3 (by decide)).symm)))
    · have cz := gx_cl z (by omega)
      exact ⟨by omega, by omega, cz⟩
  · have := n4 k4
    have c := gx_cl (on n) (by omega)
    exact ⟨by omega, by omega, c⟩
  · have := n45 k45
    have c := gx_cl (tw n) (by omega)
    exact ⟨by omega, by omega, c⟩
  · have := n1 k
    omega
theorem gp_RG_hs {fr : Int32} {rc nm wh pa kd on tw ow em bg kp rc' nm' wh' pa' kd' on' tw' ow' em' bg' kp' : Nat → Int32} {lw hg lw' hg' : Nat → Int64} (h : gp_hs fr rc nm wh pa kd on tw ow rc' nm' wh' pa' kd' on' tw' ow') (he : ∀ n, 160 * Int32.toNatClampNeg fr ≤ n → n < 160 * Int32.toNatClampNeg fr + 160 → em' n = em n ∧ bg' n = bg n ∧ lw' n = lw n ∧ hg' n = hg n) (hk : ∀ n, 50 * Int32.toNatClampNeg fr ≤ n → n < 50 * Int32.toNatClampNeg fr + 50 → kp' n = kp n) (q : gp_RG fr rc nm wh pa kd on tw ow em bg kp lw hg) : gp_RG fr rc' nm' wh' pa' kd' on' tw' ow' em' bg' kp' lw' hg' := by
  obtain ⟨⟨ty, ty2, hU⟩, ⟨Pg, R, f, nA, nC, hG, b1, b2, b3, b4⟩, ⟨hE, hH, hB'⟩, hW, hL⟩ := q
  have K := gp_kd_of ty2 hU
  have hU' := hU
  obtain ⟨⟨f0, f1⟩, ⟨p0, p1⟩, ⟨r0, r1⟩, hS, hN⟩ := hU'
  have cp := gx_cl _ p0
  have cf := gx_cl fr f0
  have hM : gp_M fr pa = 160 * Int32.toNatClampNeg fr + Int32.toNatClampNeg (pa (Int32.toNatClampNeg fr)) := rfl
  have hB : gp_B fr = 160 * Int32.toNatClampNeg fr := rfl
  have hM' : gp_M fr pa' = gp_M fr pa := by unfold gp_M; rw [h.2.1]
  have hR8 : R ≤ 8 := by have := hG.1; omega
  have inn : ∀ j, gp_B fr ≤ j → j < gp_M fr pa → em' j = em j ∧ bg' j = bg j ∧ lw' j = lw j ∧ hg' j = hg j := fun j a b => he j (by omega) (by omega)
  have ihe : ∀ j c, gp_B fr ≤ j → j < gp_M fr pa → (gp_ih lw' hg' j c ↔ gp_ih lw hg j c) := by
    intro j c a b
    unfold gp_ih
    rw [(inn j a b).2.2.1, (inn j a b).2.2.2]
  refine ⟨⟨ty, ty2, gp_iU_hs h hU⟩, ⟨Pg, R, f, nA, nC, gp_G_hs h p0 p1 hR8 hG, b1, b2, b3, b4⟩, ⟨fun n a b => ?_, fun n a b c c1 c2 t => ?_, fun q hq n a b t => ?_⟩, fun n a b t => ?_, fun r hr => ?_⟩
  · rw [hM'] at b
    obtain ⟨e1, e2, e3, e4⟩ := h.2.2.2 n (by omega) (by omega)
    obtain ⟨k3, k4, k45, -, -, -⟩ := K n a b
    have em1 : (fun n => gp_mz rc' nm' wh' fr (on' n)) n = (fun n => gp_mz rc nm wh fr (on n)) n := by dsimp only; rw [e2]; exact gp_mz_hs h f0 r1 _
    rw [(inn n a b).1, hE n a b]
    constructor
    · intro t
      refine gp_eF_hs (M' := fun n => gp_mz rc nm wh fr (on n)) e1.symm e2.symm e3.symm em1.symm ?_
      refine ⟨t.1, t.2.1, fun k => ?_, fun k => ?_, fun k => ?_, fun k => ?_⟩
      · have x := k3 k
        exact ⟨x.1, by rw [(inn _ x.1 x.2.1).1]; exact (t.2.2.1 k).2⟩
      · have x := k4 (by omega)
        have y := k45 (Or.inl k)
        exact ⟨⟨x.1, by rw [(inn _ x.1 (by omega)).1]; exact (t.2.2.2.1 k).1.2⟩, y.1, by rw [(inn _ y.1 (by omega)).1]; exact (t.2.2.2.1 k).2.2⟩
      · have x := k4 (by omega)
        have y := k45 (Or.inr k)
        rcases t.2.2.2.2.1 k with w | w
        · exact Or.inl ⟨x.1, by rw [(inn _ x.1 (by omega)).1]; exact w.2⟩
        · exact Or.inr ⟨y.1, by rw [(inn _ y.1 (by omega)).1]; exact w.2⟩
      · have x := k4 (by omega)
        exact ⟨x.1, by rw [(inn _ x.1 (by omega)).1]; exact (t.2.2.2.2.2 k).2⟩
    · intro t
      have t := gp_eF_hs (M := fun n => gp_mz rc nm wh fr (on n)) e1 e2 e3 em1 t
      refine ⟨t.1, t.2.1, fun k => ?_, fun k => ?_, fun k => ?_, fun k => ?_⟩
      · have x := k3 k
        exact ⟨x.1, by rw [← (inn _ x.1 x.2.1).1]; exact (t.2.2.1 k).2⟩
      · have x := k4 (by omega)
        have y := k45 (Or.inl k)
        exact ⟨⟨x.1, by rw [← (inn _ x.1 (by omega)).1]; exact (t.2.2.2.1 k).1.2⟩, y.1, by rw [← (inn _ y.1 (by omega)).1]; exact (t.2.2.2.1 k).2.2⟩
      · have x := k4 (by omega)
        have y := k45 (Or.inr k)
        rcases t.2.2.2.2.1 k with w | w
        · exact Or.inl ⟨x.1, by rw [← (inn _ x.1 (by omega)).1]; exact w.2⟩
        · exact Or.inr ⟨y.1, by rw [← (inn _ y.1 (by omega)).1]; exact w.2⟩
      · have x := k4 (by omega)
        exact ⟨x.1, by rw [← (inn _ x.1 (by omega)).1]; exact (t.2.2.2.2.2 k).2⟩
  · rw [hM'] at b
    obtain ⟨e1, e2, e3, e4⟩ := h.2.2.2 n (by omega) (by omega)
    obtain ⟨k3, k4, k45, k1, -, -⟩ := K n a b
    have em1 : (fun n => gp_mz rc' nm' wh' fr (on' n)) n = (fun n => gp_mz rc nm wh fr (on n)) n := by dsimp only; rw [e2]; exact gp_mz_hs h f0 r1 _
    rw [ihe n c a b]
    have t := gp_hF_cg (M := fun n => gp_mz rc nm wh fr (on n)) e1 e2 e3 em1 t
    refine hH n a b c c1 c2 ?_
    rcases t with ⟨k, t⟩ | ⟨k, t⟩ | ⟨k, t⟩ | ⟨k, t⟩ | ⟨k, t⟩
    · have o := k1 k
      have co := gx_cl (on n) o.1
      rw [e2, hk _ (by omega) (by omega)] at t
      exact Or.inl ⟨k, t⟩
    · have x := k3 k
      exact Or.inr (Or.inl ⟨k, x.1, (ihe _ c x.1 x.2.1).mp t.2⟩)
    · have x := k4 (by omega)
      have y := k45 (Or.inl k)
      rcases t with t | t
      · exact Or.inr (Or.inr (Or.inl ⟨k, Or.inl ⟨x.1, (ihe _ c x.1 (by omega)).mp t.2⟩⟩))
      · exact Or.inr (Or.inr (Or.inl ⟨k, Or.inr ⟨(by show em (Int32.toNatClampNeg (on n)) = 1; rw [← (inn _ x.1 (by omega)).1]; exact t.1), y.1, (ihe _ c y.1 (by omega)).mp t.2.2⟩⟩))
    · have x := k4 (by omega)
      have y := k45 (Or.inr k)
      rcases t with t | t
      · exact Or.inr (Or.inr (Or.inr (Or.inl ⟨k, Or.inl ⟨x.1, (ihe _ c x.1 (by omega)).mp t.2⟩⟩)))
      · exact Or.inr (Or.inr (Or.inr (Or.inl ⟨k, Or.inr ⟨y.1, (ihe _ c y.1 (by omega)).mp t.2⟩⟩)))
    · have x := k4 (by omega)
      exact Or.inr (Or.inr (Or.inr (Or.inr ⟨k, x.1, (ihe _ c x.1 (by omega)).mp t.2⟩)))
  · rw [hM'] at b
    obtain ⟨e1, e2, e3, e4⟩ := h.2.2.2 n (by omega) (by omega)
    obtain ⟨k3, k4, k45, k1, -, -⟩ := K n a b
    have em1 : (fun n => gp_mz rc' nm' wh' fr (on' n)) n = (fun n => gp_mz rc nm wh fr (on n)) n := by dsimp only; rw [e2]; exact gp_mz_hs h f0 r1 _
    have em2 : (fun n => gp_rz rc' nm' fr (on' n)) n = (fun n => gp_rz rc nm fr (on n)) n := by dsimp only; rw [e2]; exact gp_rz_hs h f0 r1 _
    rw [(inn n a b).2.1]
    have t := gp_bF_cg (M := fun n => gp_mz rc nm wh fr (on n)) (R := fun n => gp_rz rc nm fr (on n)) e1 e2 e3 em1 em2 t
    have bge : ∀ j, gp_B fr ≤ j → j < gp_M fr pa → gp_bt (bg' j) q = true → gp_bt (bg j) q = true := fun j x y w => by rw [← (inn j x y).2.1]; exact w
    refine hB' q hq n a b ?_
    rcases t with ⟨k, t⟩ | ⟨k, t⟩ | ⟨k, t⟩ | ⟨k, t⟩
    · rcases t with t | t
      · exact Or.inl ⟨k, Or.inl t⟩
      · have x := k3 k
        exact Or.inl ⟨k, Or.inr ⟨x.1, bge _ x.1 x.2.1 t.2⟩⟩
    · have x := k4 (by omega)
      have y := k45 (Or.inl k)
      rcases t with t | t
      · exact Or.inr (Or.inl ⟨k, Or.inl ⟨x.1, bge _ x.1 (by omega) t.2⟩⟩)
      · exact Or.inr (Or.inl ⟨k, Or.inr ⟨(by show em (Int32.toNatClampNeg (on n)) = 1; rw [← (inn _ x.1 (by omega)).1]; exact t.1), y.1, bge _ y.1 (by omega) t.2.2⟩⟩)
    · have x := k4 (by omega)
      have y := k45 (Or.inr k)
      rcases t with t | t
      · exact Or.inr (Or.inr (Or.inl ⟨k, Or.inl ⟨x.1, bge _ x.1 (by omega) t.2⟩⟩))
      · exact Or.inr (Or.inr (Or.inl ⟨k, Or.inr ⟨y.1, bge _ y.1 (by omega) t.2⟩⟩))
    · have x := k4 (by omega)
      exact Or.inr (Or.inr (Or.inr ⟨k, x.1, bge _ x.1 (by omega) t.2⟩))
  · rw [hM'] at b
    obtain ⟨e1, e2, e3, e4⟩ := h.2.2.2 n (by omega) (by omega)
    rw [e1] at t
    rw [e2]
    have k4 : 4 ≤ (kd n).toInt := by
      rcases t with t | t
      · have := gx_eqr (k := 7) (gx_lit 7 (by decide)) t; omega
      · have := gx_eqr (k := 10) (gx_lit 10 (by decide)) t; omega
    have x := (K n a b).2.1 k4
    rw [(inn _ x.1 (by omega)).1]
    exact hW n a b t
  · rw [h.1] at hr
    have w := hS.2.2.2 r hr (8 * Int32.toNatClampNeg fr + r) (by omega)
    have cw := gx_cl (wh (8 * Int32.toNatClampNeg fr + r)) (by omega)
    rw [(h.2.2.1 (8 * Int32.toNatClampNeg fr + r) (by omega) (by omega)).2, (inn _ (by omega) (by omega)).2.1]
    exact hL r hr
/-- of the half in use, if there is one -/
def gp_RB (bs : Int32) (rc nm wh pa kd on tw ow em bg kp : Nat → Int32) (lw hg : Nat → Int64) : Prop := bs = -1 ∨ gp_RG bs rc nm wh pa kd on tw ow em bg kp lw hg
/-- it stays so while the other half is written -/
theorem gp_RB_hs {bs F : Int32} {rc nm wh pa kd on tw ow em bg kp rc' nm' wh' pa' kd' on' tw' ow' em' bg' kp' : Nat → Int32} {lw hg lw' hg' lx hx lx' hx' : Nat → Int64} (h : gp_RB bs rc nm wh pa kd on tw ow em bg kp lw hg) (hF : F = (if bs = 0 then 1 else 0)) (hO : gp_O F (gp_B F) pa kd on tw ow lx hx pa' kd' on' tw' ow' lx' hx') (hO2 : gp_O2 F rc nm wh rc' nm' wh') (he : ∀ n, (n < 160 * Int32.toNatClampNeg F ∨ 160 * Int32.toNatClampNeg F + 160 ≤ n) → em' n = em n ∧ bg' n = bg n ∧ lw' n = lw n ∧ hg' n = hg n) (hk : ∀ n, (n < 50 * Int32.toNatClampNeg F ∨ 50 * Int32.toNatClampNeg F + 50 ≤ n) → kp' n = kp n) : gp_RB bs rc' nm' wh' pa' kd' on' tw' ow' em' bg' kp' lw' hg' := by
  rcases h with h | h
  · exact Or.inl h
  · refine Or.inr ?_
    obtain ⟨ty, ty2, hU⟩ := h.1
    have hf := hU.1
    have z0 : (0 : Int32).toInt = 0 := by decide
    have z1 : (1 : Int32).toInt = 1 := by decide
    have cb := gx_cl bs hf.1
    have cF : Int32.toNatClampNeg F = 1 - Int32.toNatClampNeg bs := by
      by_cases q : bs = 0
      · rw [hF, if_pos q, q]; decide
      · have q1 := gx_eqnr (k := 0) z0 q
        rw [hF, if_neg q]
        have : Int32.toNatClampNeg 0 = 0 := by decide
        omega
    obtain ⟨o1, o2⟩ := hO
    obtain ⟨p1, p2⟩ := hO2
    have hB : gp_B F = 160 * Int32.toNatClampNeg F := rfl
    refine gp_RG_hs ⟨p1 _ (by omega), o1 _ (by omega), fun n a b => p2 n (by omega), fun n a b => ?_⟩ (fun n a b => he n (by omega)) (fun n a b => hk n (by omega)) h
    obtain ⟨e1, e2, e3, e4, -⟩ := o2 n (by omega)
    exact ⟨e1, e2, e3, e4⟩
