/-! What a match may go by, out of what is kept. -/
theorem gp_WC_of {S : gm_S} (h : gp_RI S) (hb : ¬ S.2.2 4 = -1) : ∃ P fed : Nat, gp_WC S P fed ∧ P = Int32.toNatClampNeg ((S.1 9) (Int32.toNatClampNeg (S.2.2 4))) ∧ gp_GB (S.2.2 4) (S.1 6) (S.1 7) (S.1 8) (S.1 9) (S.1 10) (S.1 11) (S.1 12) (S.1 13) ∧ ∃ rank : Nat → Nat, gp_RK (S.1 10) (S.1 11) (S.1 12) (gp_Mz S) (S.1 15) (gp_Bs S) P rank := by
  obtain ⟨hW, hW2, hn, hbl, hR⟩ := h
  rcases hR with hR | hR
  · exact absurd hR hb
  obtain ⟨⟨ty, ty2, hU⟩, hG, ⟨hE, hH, hBg⟩, hw, hl⟩ := hR
  have K := gp_kd_of ty2 hU
  have hU' := hU
  obtain ⟨⟨f0, f1⟩, ⟨p0, p1⟩, ⟨r0, r1⟩, hS, hN⟩ := hU'
  have cb := gx_cl (S.2.2 4) f0
  have cp := gx_cl _ p0
  have w0 := hW2.1.1
  have w1 := hW2.1.2
  have cw := gx_cl (S.2.2 32) w0
  have hB : gp_B (S.2.2 4) = gp_Bs S := rfl
  have hM : gp_M (S.2.2 4) (S.1 9) = gp_Bs S + Int32.toNatClampNeg ((S.1 9) (Int32.toNatClampNeg (S.2.2 4))) := rfl
  rw [hM, hB] at hE hH hBg hw
  have K' := K
  have sub : ∀ n m, (∀ q : Nat, q < 8 → gp_bt (S.1 16 m) q = true → gp_bt (S.1 16 n) q = true) → gp_c (fun q => gp_bt (S.1 16 m) q) 8 ≤ gp_c (fun q => gp_bt (S.1 16 n) q) 8 := fun n m h => gp_c_mono (fun k hk => h k hk)
  refine ⟨Int32.toNatClampNeg ((S.1 9) (Int32.toNatClampNeg (S.2.2 4))), Int32.toNatClampNeg (S.2.2 32), ⟨⟨f0, f1⟩, ⟨cp.symm, by omega⟩, ⟨cw.symm, by omega⟩, ⟨ty, hU⟩, fun n a b => ?_, hE, hH, hbl, fun q hq => hW2.2 q (by omega)⟩, rfl, hG, fun n => 160 * gp_c (fun q => gp_bt (S.1 16 n) q) 8 + (n - gp_Bs S), fun n a b => ?_⟩
  · obtain ⟨k3, k4, k45, k1, k0, k10⟩ := K' n a b
    exact ⟨⟨k0, k10⟩, k4, k45, k1, k3⟩
  · obtain ⟨k3, k4, k45, k1, k0, k10⟩ := K' n a b
    refine ⟨fun k => ?_, fun k => ?_, fun k e => ?_, fun k => ?_, fun k => ?_⟩
    · have x := k3 k
      obtain ⟨z, hz⟩ := gp_me_ex (S.1 6) (S.1 7) (S.1 8) (S.2.2 4) (S.1 11 n) f0 r1
      have ez := gp_mz_eq f0 hz
      have hz' := hz
      obtain ⟨r, hr, hr2⟩ := hz'
      have er := gp_rz_eq f0 hr
      rcases hr2 with ⟨t1, t2⟩ | ⟨t1, t2, t3⟩
      · have x3 := x.2.2
        have ez' : gp_mz (S.1 6) (S.1 7) (S.1 8) (S.2.2 4) (S.1 11 n) = -1 := by rw [← ez]; exact t2
        rw [ez'] at x3
        exact absurd x3 (by decide)
      · have cr := gx_cl r t1
        have ew : z = S.1 8 (8 * Int32.toNatClampNeg (S.2.2 4) + Int32.toNatClampNeg r) := t3 _ (by omega)
        have no := hl (Int32.toNatClampNeg r) (by omega)
        rw [← ew, ez] at no
        have lt : gp_c (fun q => gp_bt (S.1 16 (Int32.toNatClampNeg (gp_mz (S.1 6) (S.1 7) (S.1 8) (S.2.2 4) (S.1 11 n)))) q) 8 < gp_c (fun q => gp_bt (S.1 16 n) q) 8 := by
          refine gp_c_lt (k := Int32.toNatClampNeg r) (fun q hq hq2 => ?_) (by omega) ?_ no
          · exact hBg q hq n a b (Or.inl ⟨k, Or.inr ⟨x.1, hq2⟩⟩)
          · refine hBg _ (by omega) n a b (Or.inl ⟨k, Or.inl ?_⟩)
            show ((Int32.toNatClampNeg r : Nat) : Int) = (gp_rz (S.1 6) (S.1 7) (S.2.2 4) (S.1 11 n)).toInt
            rw [← er]
            exact cr
        have x2 := x.2.1
        have x1 := x.1
        show 160 * gp_c (fun q => gp_bt (S.1 16 (Int32.toNatClampNeg (gp_mz (S.1 6) (S.1 7) (S.1 8) (S.2.2 4) (S.1 11 n)))) q) 8 + (Int32.toNatClampNeg (gp_mz (S.1 6) (S.1 7) (S.1 8) (S.2.2 4) (S.1 11 n)) - gp_Bs S) < 160 * gp_c (fun q => gp_bt (S.1 16 n) q) 8 + (n - gp_Bs S)
        rw [hM] at x2
        rw [hB] at x1
        omega
    · have x := k4 k
      have x1 := x.1
      rw [hB] at x1
      have le := sub n (Int32.toNatClampNeg (S.1 11 n)) (fun q hq hq2 => by
        by_cases a4 : (S.1 10 n).toInt = 4
        · exact hBg q hq n a b (Or.inr (Or.inl ⟨a4, Or.inl ⟨x1, hq2⟩⟩))
        · by_cases a5 : (S.1 10 n).toInt = 5
          · exact hBg q hq n a b (Or.inr (Or.inr (Or.inl ⟨a5, Or.inl ⟨x1, hq2⟩⟩)))
          · exact hBg q hq n a b (Or.inr (Or.inr (Or.inr ⟨by omega, x1, hq2⟩))))
      dsimp only
      omega
    · have x := k4 (by omega)
      have y := k45 (Or.inl k)
      have y1 := y.1
      rw [hB] at y1
      have le := sub n (Int32.toNatClampNeg (S.1 12 n)) (fun q hq hq2 => hBg q hq n a b (Or.inr (Or.inl ⟨k, Or.inr ⟨e, y1, hq2⟩⟩)))
      dsimp only
      omega
    · have y := k45 (Or.inr k)
      have y1 := y.1
      rw [hB] at y1
      have le := sub n (Int32.toNatClampNeg (S.1 12 n)) (fun q hq hq2 => hBg q hq n a b (Or.inr (Or.inr (Or.inl ⟨k, Or.inr ⟨y1, hq2⟩⟩))))
      dsimp only
      omega
    · refine hw n a b ?_
      rcases k with k | k
      · exact Or.inl (Int32.toInt_inj.mp (by rw [k]; exact (gx_lit 7 (by decide)).symm))
      · exact Or.inr (Int32.toInt_inj.mp (by rw [k]; exact (gx_lit 10 (by decide)).symm))
