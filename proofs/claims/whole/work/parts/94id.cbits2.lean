/-! The bits that readClass leaves at its leaf. -/
theorem gr_create0 (x y w : Int32) (S : gm_S) : (gm_f_MD_create x y w S).2.2.1 17 (Int32.toNatClampNeg (gm_f_MD_create x y w S).1) = 0 ∧ (gm_f_MD_create x y w S).2.2.1 18 (Int32.toNatClampNeg (gm_f_MD_create x y w S).1) = 0 := by
  unfold gm_f_MD_create
  exact ⟨gx_lus _ _ _, gx_lus _ _ _⟩
theorem gp_P_lo {P : Nat → Nat → Nat → Prop} {fr : Int32} {rc pa kd on tw ow bk bf ib ab it al : Nat → Int32} {d i l : Nat} {fs : List gp_Fm} {lo : Nat × Nat} {nA nC : Nat} {F : List Lean.ParserDescr} (q : gp_P P fr rc pa kd on tw ow bk bf ib ab it al d i l fs lo nA nC F) : gp_P P fr rc pa kd on tw ow bk bf ib ab it al d i l fs (gp_M fr pa, lo.2) nA nC F := ⟨q.1, fun n h1 h2 => absurd h1 (Nat.not_le.mpr h2), q.2.2.1, q.2.2.2.1, Nat.le_refl _, q.2.2.2.2.2⟩
theorem gp_ih_z {lw hg : Nat → Int64} {n : Nat} (h1 : lw n = 0) (h2 : hg n = 0) (c : Int) : ¬ gp_ih lw hg n c := by
  have z : ∀ q, gp_bl 0 q = false := fun q => by unfold gp_bl; rw [Int64.toBitVec_zero]; exact BitVec.getLsbD_zero
  unfold gp_ih
  rw [h1, h2, z, z]
  rintro (h | h)
  · exact absurd h.2.2 (by decide)
  · exact absurd h.2.2 (by decide)
theorem gr_readClassB (S : gm_S) {tx : Nat → Int} {lo : Nat × Nat} {ty nA nC a : Nat} {p : Int} {fs : List gp_Fm} (ht : gp_tx (S.2.2 2) (S.1 3) tx ty) (h : gp_P gp_T (S.2.2 5) (S.1 6) (S.1 9) (S.1 10) (S.1 11) (S.1 12) (S.1 13) (S.1 26) (S.1 27) (S.1 28) (S.1 29) (S.1 30) (S.1 31) (Int32.toNatClampNeg (S.2.2 20)) (Int32.toNatClampNeg (S.2.2 21)) (Int32.toNatClampNeg (S.2.2 22)) fs lo nA nC []) (hf : 0 ≤ (S.2.2 5).toInt) (hf2 : (S.2.2 5).toInt ≤ 1) (hp : 0 ≤ ((S.1 9) (Int32.toNatClampNeg (S.2.2 5))).toInt) (hp2 : ((S.1 9) (Int32.toNatClampNeg (S.2.2 5))).toInt ≤ 120) (hi : 0 ≤ (S.2.2 21).toInt) (hi2 : (S.2.2 21).toInt ≤ 60) (ha : (S.2.2 19).toInt = a) (hpx : (S.2.2 23).toInt = p) (hat : a < ty) : gr_cB (S.2.2 5) tx ty (a + 1) (gp_cl tx ty (a + 1)) (gp_M (S.2.2 5) (S.1 9)) (gm_f_MD_readClass S) := by
  have t2 := ht.2.1
  have b := gx_ak (S.2.2 19) 1 1 (by decide)
  have b1 : ((S.2.2 19) + 1).toInt = ((a + 1 : Nat) : Int) := by omega
  have l2 : (2 : Int32).toInt = 2 := gx_lit 2 (by decide)
  unfold gm_f_MD_readClass
  refine gf_ca (Q := gr_cB (S.2.2 5) tx ty (a + 1) (gp_cl tx ty (a + 1)) (gp_M (S.2.2 5) (S.1 9))) (fun z => gp_cQ 2 (-1) (-1) S z ∧ z.2.2.1 17 (Int32.toNatClampNeg z.1) = 0 ∧ z.2.2.1 18 (Int32.toNatClampNeg z.1) = 0) ⟨gz_create 2 _ _ _ hf hf2 hp (by omega), gr_create0 2 _ _ _⟩ ?_
  intro r4 u4 ⟨hu, z17, z18⟩
  have z17 : u4.2.1 17 (Int32.toNatClampNeg r4) = 0 := z17
  have z18 : u4.2.1 18 (Int32.toNatClampNeg r4) = 0 := z18
  have hu9 : u4.1 9 = upd (S.1 9) (Int32.toNatClampNeg (S.2.2 5)) ((S.1 9) (Int32.toNatClampNeg (S.2.2 5)) + 1) := hu.2.1
  have bb := gx_ak ((S.1 9) (Int32.toNatClampNeg (S.2.2 5))) 1 1 (by decide)
  have P1 : ((u4.1 9) (Int32.toNatClampNeg (S.2.2 5))).toInt = ((S.1 9) (Int32.toNatClampNeg (S.2.2 5))).toInt + 1 := by rw [hu9, gx_us]; omega
  have H : ∀ c : Nat, c = gp_cl tx ty (a + 1) → gp_H gp_T ((va_up (va_up (va_up (va_up (va_up S.1 9 (u4.1 9)) 10 (u4.1 10)) 11 (u4.1 11)) 12 (u4.1 12)) 13 (u4.1 13)), (va_up (va_up S.2.1 17 (u4.2.1 17)) 18 (u4.2.1 18)), (va_up S.2.2 19 ((S.2.2 19) + 1))) ((va_up (va_up (va_up (va_up (va_up S.1 9 (u4.1 9)) 10 (u4.1 10)) 11 (u4.1 11)) 12 (u4.1 12)) 13 (u4.1 13)), (va_up (va_up S.2.1 17 (u4.2.1 17)) 18 (u4.2.1 18)), (va_up S.2.2 19 ((S.2.2 19) + 1))) lo fs nA nC (gp_e0 2 (a + 1) c) r4 ∧ gp_O (S.2.2 5) lo.1 (S.1 9) (S.1 10) (S.1 11) (S.1 12) (S.1 13) (S.2.1 17) (S.2.1 18) (u4.1 9) (u4.1 10) (u4.1 11) (u4.1 12) (u4.1 13) (u4.2.1 17) (u4.2.1 18) := fun c hcc => gp_H_0 (r := r4) (S2 := ((va_up (va_up (va_up (va_up (va_up S.1 9 (u4.1 9)) 10 (u4.1 10)) 11 (u4.1 11)) 12 (u4.1 12)) 13 (u4.1 13)), (va_up (va_up S.2.1 17 (u4.2.1 17)) 18 (u4.2.1 18)), (va_up S.2.2 19 ((S.2.2 19) + 1)))) h hu rfl rfl rfl rfl rfl rfl rfl rfl rfl (k := 2) (b := a + 1) (c := c) (by omega) l2 (fun t => absurd t (by omega)) (fun t => absurd t (by omega)) (fun _ => by rw [hcc]; exact trivial) rfl rfl rfl rfl rfl rfl rfl rfl rfl rfl rfl rfl rfl rfl rfl rfl rfl
  have c4 := gp_ch_cl (H _ rfl).1.2.1
  have cp := gx_cl _ hp
  have hM : gp_M (S.2.2 5) (u4.1 9) = 160 * Int32.toNatClampNeg (S.2.2 5) + Int32.toNatClampNeg ((u4.1 9) (Int32.toNatClampNeg (S.2.2 5))) := rfl
  have cu := gx_cl ((u4.1 9) (Int32.toNatClampNeg (S.2.2 5))) (by omega)
  have c4' : Int32.toNatClampNeg r4 < gp_M (S.2.2 5) (u4.1 9) := c4.2.1
  have r4M : Int32.toNatClampNeg r4 = gp_M (S.2.2 5) (S.1 9) := hu.1.2.1
  have M1 : gp_M (S.2.2 5) (u4.1 9) = gp_M (S.2.2 5) (S.1 9) + 1 := hu.1.2.2.1
  rw [r4M] at z17 z18
  exact gr_cls20 (lo := lo) (lo2 := (gp_M (S.2.2 5) (u4.1 9), lo.2)) S u4 r4 ht hf hf2 (by omega) (by omega) hi hi2 ha hpx (fun c hcc => gp_P_lo (H c hcc).1.1) (H _ rfl).1.2.1 (fun c hcc => (H c hcc).1.2.2.1) (by have := hu.1.2.1; have t : Int32.toNatClampNeg r4 = gp_M (S.2.2 5) (S.1 9) := this; rw [t]; exact h.2.2.2.2.1) (by omega) r4M (by omega) 200 0 _ (a + 1) ⟨rfl, rfl, rfl, rfl, rfl, rfl, rfl, rfl, rfl, (H _ rfl).2⟩ b1 ⟨fun _ => rfl, fun _ => rfl⟩ (by omega) (by omega) (by omega) 0 rfl (fun c _ _ => ⟨fun t => absurd t (gp_ih_z z17 z18 c), fun ⟨i, i1, _⟩ => absurd i1 (Nat.not_lt_zero i)⟩) rfl
