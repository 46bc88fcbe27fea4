set_option maxHeartbeats 40000000 in
set_option maxRecDepth 100000 in
theorem gm_lawloop {p : Program} {e : Env} {s : State} {m : MethodId} {below : List Frame} {meth : Method} {c : Code} (l : Launch) (hst : l.stackTraces = false) {b L : Nat} {xs : Nat → Int32} (C0 : lw_At p s m meth c b L xs) (D : va_G) (cI cJ cC cZ : ClassId) (hK : va_K D gm_cl (gm_T cI cJ cC cZ) s) {A : Nat → Prop} (hE : gm_E A s) (hN : gm_N s) (hA : ∀ q : Nat, s.heap.size ≤ q → A q) (hSA : ∀ q, A q → s.heap.size ≤ q) (m0 d0 o0 : Nat) (n : Nat) : ∀ (i : Int32) (qm qt qw qa qaT qaJ qaC qaD qb qbT qbJ qbC qbD qr qk qv qn qd qo : Nat → Nat) (s0 s1 s2 s3 s4 s5 s6 s7 s8 s9 s10 s11 s12 s13 s14 s15 s16 s17 s18 : gm_S) (cells slots : Nat) (H : Heap) (locs : List Loc) (ls : Array Slot), cells + n + 2 ≤ 601024 → slots + 6 * n + 12 ≤ 7293034 → lv_has ls 7 [(0, .ref b), (1, .ref m0), (2, .ref d0), (3, .ref o0), (4, .int i)] → va_P D gm_cl ([gm_w_GM cI cJ cC cZ m0 qm s0, gm_w_Row cI cJ cC cZ 50 (qm 0) qt s1, gm_w_Row cI cJ cC cZ 10 (qm 1) qw s2, gm_w_Grammar cI cJ cC cZ (qm 2) qa s3, gm_w_Tree cI cJ cC cZ (qa 0) qaT s4, gm_w_Judge cI cJ cC cZ (qa 1) (gm_q0 qaJ 0 (qa 0)) s5, gm_w_Code cI cJ cC cZ (qa 2) (gm_q0 qaC 0 (qa 0)) s6, gm_w_Reader cI cJ cC cZ (qa 3) (gm_q0 (gm_q0 qaD 0 (qm 0)) 1 (qa 0)) s7, gm_w_Grammar cI cJ cC cZ (qm 3) qb s8, gm_w_Tree cI cJ cC cZ (qb 0) qbT s9, gm_w_Judge cI cJ cC cZ (qb 1) (gm_q0 qbJ 0 (qb 0)) s10, gm_w_Code cI cJ cC cZ (qb 2) (gm_q0 qbC 0 (qb 0)) s11, gm_w_Reader cI cJ cC cZ (qb 3) (gm_q0 (gm_q0 qbD 0 (qm 0)) 1 (qb 0)) s12, gm_w_Runner cI cJ cC cZ (qm 4) (gm_q0 qr 0 (qm 1)) s13, gm_w_Captures cI cJ cC cZ 275 (qr 1) qk s14, gm_w_Memory cI cJ cC cZ (qr 2) qv s15, gm_w_Captures cI cJ cC cZ 5720 (qv 3) qn s16, gm_w_MD cI cJ cC cZ d0 qd s17, gm_w_Out cI cJ cC cZ o0 (fun _ => 0) s18] : List va_W).flatten H → va_D A ([gm_w_GM cI cJ cC cZ m0 qm s0, gm_w_Row cI cJ cC cZ 50 (qm 0) qt s1, gm_w_Row cI cJ cC cZ 10 (qm 1) qw s2, gm_w_Grammar cI cJ cC cZ (qm 2) qa s3, gm_w_Tree cI cJ cC cZ (qa 0) qaT s4, gm_w_Judge cI cJ cC cZ (qa 1) (gm_q0 qaJ 0 (qa 0)) s5, gm_w_Code cI cJ cC cZ (qa 2) (gm_q0 qaC 0 (qa 0)) s6, gm_w_Reader cI cJ cC cZ (qa 3) (gm_q0 (gm_q0 qaD 0 (qm 0)) 1 (qa 0)) s7, gm_w_Grammar cI cJ cC cZ (qm 3) qb s8, gm_w_Tree cI cJ cC cZ (qb 0) qbT s9, gm_w_Judge cI cJ cC cZ (qb 1) (gm_q0 qbJ 0 (qb 0)) s10, gm_w_Code cI cJ cC cZ (qb 2) (gm_q0 qbC 0 (qb 0)) s11, gm_w_Reader cI cJ cC cZ (qb 3) (gm_q0 (gm_q0 qbD 0 (qm 0)) 1 (qb 0)) s12, gm_w_Runner cI cJ cC cZ (qm 4) (gm_q0 qr 0 (qm 1)) s13, gm_w_Captures cI cJ cC cZ 275 (qr 1) qk s14, gm_w_Memory cI cJ cC cZ (qr 2) qv s15, gm_w_Captures cI cJ cC cZ 5720 (qv 3) qn s16, gm_w_MD cI cJ cC cZ d0 qd s17, gm_w_Out cI cJ cC cZ o0 (fun _ => 0) s18] : List va_W).flatten → va_S A s.heap H locs → gm_p_law xs L n i s0 s1 s2 s3 s4 s5 s6 s7 s8 s9 s10 s11 s12 s13 s14 s15 s16 s17 s18 → W p l e room_1 s m #[Value.ref b] below meth c H locs cells slots (lw_Z below #[Value.ref b] s) (F0 m 23 ls []) := by
  have C1 := C0
  obtain ⟨hx, hb, hr, hml, hown0, hts, hX, hbl, hlocks, hgv⟩ := C0
  have hown : s.vm.findClass gm_R_LW = some m.cls := hown0
  have hw : ∀ w ∈ gm_W, w.before #[Value.ref b] s = true := fun w h => hts w (gm_tb h)
  have hbA : ¬ A b := fun h => Nat.not_le.mpr hbl (hSA b h)
  induction n with
  | zero => intro i qm qt qw qa qaT qaJ qaC qaD qb qbT qbJ qbC qbD qr qk qv qn qd qo s0 s1 s2 s3 s4 s5 s6 s7 s8 s9 s10 s11 s12 s13 s14 s15 s16 s17 s18 cells slots H locs ls hc hs hl hP hD hS hok; exact hok.elim
  | succ n ih =>
    intro i qm qt qw qa qaT qaJ qaC qaD qb qbT qbJ qbC qbD qr qk qv qn qd qo s0 s1 s2 s3 s4 s5 s6 s7 s8 s9 s10 s11 s12 s13 s14 s15 s16 s17 s18 cells slots H locs ls hc hs hl hP hD hS hok
    have hcn : cells + 2 ≤ 601024 := by omega
    have hsn : slots + 12 ≤ 7293034 := by omega
    rw [gm_p_law] at hok
    refine lv_iload hx hb gm_d_LW_law_23 (lv_at hl 4 rfl) ?_
    refine lv_aload_n hx hb gm_d_LW_law_25 rfl (lv_at hl 0 rfl) ?_
    refine va_slen hx hb hX hbl hbA hS gm_d_LW_law_26 ?_
    refine lv_iconst (v := 3) hx hb gm_d_LW_law_27 (by decide) ?_
    refine lv_isub hx hb gm_d_LW_law_28 ?_
    refine lv_icmp_gt (tgt := 430) hx hb gm_d_LW_law_29 (by decide) (fun c29 => ?_) (fun c29 => ?_)
    · skip
      have hok := hok.1 c29
      refine lv_iconst (v := 1) hx hb gm_d_LW_law_430 (by decide) ?_
      refine va_forget (fun q hq => hSA _ (hS.2.2 q hq)) ?_
      refine W.widen (k := 601024) (n := 7293034) (show cells ≤ 601024 by omega) (show slots ≤ 7293034 by omega) ?_
      exact lw_ret hx hb hr hlocks gm_d_LW_law_431
    · skip
      have hok := hok.2 c29
      refine lv_aload_n hx hb gm_d_LW_law_32 rfl (lv_at hl 0 rfl) ?_
      refine lv_iload hx hb gm_d_LW_law_33 (lv_at hl 4 rfl) ?_
      have i35 := hok.1
      have hok := hok.2
      refine va_sld hx hb hX hbl hbA hS i35 gm_d_LW_law_35 ?_
      refine lv_bipush (v := 15) hx hb gm_d_LW_law_36 (by decide) ?_
      refine lv_iand hx hb gm_d_LW_law_38 ?_
      by_cases c39_0 : ((xs i.toNatClampNeg) &&& 15) = 0
      · skip
        have hok := hok.1 c39_0
        refine lv_tableIn (tgt := 100) hx hb gm_d_LW_law_39 (by rw [c39_0]; decide) (by rw [c39_0]; decide) (by rw [c39_0]; rfl) (by decide) ?_
        exact gm_law_100 l hst C1 D cI cJ cC cZ hK hE hN hA hSA m0 d0 o0 n ih i qm qt qw qa qaT qaJ qaC qaD qb qbT qbJ qbC qbD qr qk qv qn qd qo s0 s1 s2 s3 s4 s5 s6 s7 s8 s9 s10 s11 s12 s13 s14 s15 s16 s17 s18 cells slots _ _ _ hc hs hl hP hD hS hok
      · skip
        have hok := hok.2 c39_0
        by_cases c39_1 : ((xs i.toNatClampNeg) &&& 15) = 1
        · skip
          have hok := hok.1 c39_1
          refine lv_tableIn (tgt := 127) hx hb gm_d_LW_law_39 (by rw [c39_1]; decide) (by rw [c39_1]; decide) (by rw [c39_1]; rfl) (by decide) ?_
          exact gm_law_127 l hst C1 D cI cJ cC cZ hK hE hN hA hSA m0 d0 o0 n ih i qm qt qw qa qaT qaJ qaC qaD qb qbT qbJ qbC qbD qr qk qv qn qd qo s0 s1 s2 s3 s4 s5 s6 s7 s8 s9 s10 s11 s12 s13 s14 s15 s16 s17 s18 cells slots _ _ _ hc hs hl hP hD hS hok
        · skip
          have hok := hok.2 c39_1
          by_cases c39_2 : ((xs i.toNatClampNeg) &&& 15) = 2
          · skip
            have hok := hok.1 c39_2
            refine lv_tableIn (tgt := 138) hx hb gm_d_LW_law_39 (by rw [c39_2]; decide) (by rw [c39_2]; decide) (by rw [c39_2]; rfl) (by decide) ?_
            exact gm_law_138 l hst C1 D cI cJ cC cZ hK hE hN hA hSA m0 d0 o0 n ih i qm qt qw qa qaT qaJ qaC qaD qb qbT qbJ qbC qbD qr qk qv qn qd qo s0 s1 s2 s3 s4 s5 s6 s7 s8 s9 s10 s11 s12 s13 s14 s15 s16 s17 s18 cells slots _ _ _ hc hs hl hP hD hS hok
          · skip
            have hok := hok.2 c39_2
            by_cases c39_3 : ((xs i.toNatClampNeg) &&& 15) = 3
            · skip
              have hok := hok.1 c39_3
              refine lv_tableIn (tgt := 154) hx hb gm_d_LW_law_39 (by rw [c39_3]; decide) (by rw [c39_3]; decide) (by rw [c39_3]; rfl) (by decide) ?_
              exact gm_law_154 l hst C1 D cI cJ cC cZ hK hE hN hA hSA m0 d0 o0 n ih i qm qt qw qa qaT qaJ qaC qaD qb qbT qbJ qbC qbD qr qk qv qn qd qo s0 s1 s2 s3 s4 s5 s6 s7 s8 s9 s10 s11 s12 s13 s14 s15 s16 s17 s18 cells slots _ _ _ hc hs hl hP hD hS hok
            · skip
              have hok := hok.2 c39_3
              by_cases c39_4 : ((xs i.toNatClampNeg) &&& 15) = 4
              · skip
                have hok := hok.1 c39_4
                refine lv_tableIn (tgt := 167) hx hb gm_d_LW_law_39 (by rw [c39_4]; decide) (by rw [c39_4]; decide) (by rw [c39_4]; rfl) (by decide) ?_
                exact gm_law_167 l hst C1 D cI cJ cC cZ hK hE hN hA hSA m0 d0 o0 n ih i qm qt qw qa qaT qaJ qaC qaD qb qbT qbJ qbC qbD qr qk qv qn qd qo s0 s1 s2 s3 s4 s5 s6 s7 s8 s9 s10 s11 s12 s13 s14 s15 s16 s17 s18 cells slots _ _ _ hc hs hl hP hD hS hok
              · skip
                have hok := hok.2 c39_4
                by_cases c39_5 : ((xs i.toNatClampNeg) &&& 15) = 5
                · skip
                  have hok := hok.1 c39_5
                  refine lv_tableIn (tgt := 197) hx hb gm_d_LW_law_39 (by rw [c39_5]; decide) (by rw [c39_5]; decide) (by rw [c39_5]; rfl) (by decide) ?_
                  exact gm_law_197 l hst C1 D cI cJ cC cZ hK hE hN hA hSA m0 d0 o0 n ih i qm qt qw qa qaT qaJ qaC qaD qb qbT qbJ qbC qbD qr qk qv qn qd qo s0 s1 s2 s3 s4 s5 s6 s7 s8 s9 s10 s11 s12 s13 s14 s15 s16 s17 s18 cells slots _ _ _ hc hs hl hP hD hS hok
                · skip
                  have hok := hok.2 c39_5
                  by_cases c39_6 : ((xs i.toNatClampNeg) &&& 15) = 6
                  · skip
                    have hok := hok.1 c39_6
                    refine lv_tableIn (tgt := 276) hx hb gm_d_LW_law_39 (by rw [c39_6]; decide) (by rw [c39_6]; decide) (by rw [c39_6]; rfl) (by decide) ?_
                    exact gm_law_276 l hst C1 D cI cJ cC cZ hK hE hN hA hSA m0 d0 o0 n ih i qm qt qw qa qaT qaJ qaC qaD qb qbT qbJ qbC qbD qr qk qv qn qd qo s0 s1 s2 s3 s4 s5 s6 s7 s8 s9 s10 s11 s12 s13 s14 s15 s16 s17 s18 cells slots _ _ _ hc hs hl hP hD hS hok
                  · skip
                    have hok := hok.2 c39_6
                    by_cases c39_7 : ((xs i.toNatClampNeg) &&& 15) = 7
                    · skip
                      have hok := hok.1 c39_7
                      refine lv_tableIn (tgt := 303) hx hb gm_d_LW_law_39 (by rw [c39_7]; decide) (by rw [c39_7]; decide) (by rw [c39_7]; rfl) (by decide) ?_
                      exact gm_law_303 l hst C1 D cI cJ cC cZ hK hE hN hA hSA m0 d0 o0 n ih i qm qt qw qa qaT qaJ qaC qaD qb qbT qbJ qbC qbD qr qk qv qn qd qo s0 s1 s2 s3 s4 s5 s6 s7 s8 s9 s10 s11 s12 s13 s14 s15 s16 s17 s18 cells slots _ _ _ hc hs hl hP hD hS hok
                    · skip
                      have hok := hok.2 c39_7
                      by_cases c39_8 : ((xs i.toNatClampNeg) &&& 15) = 8
                      · skip
                        have hok := hok.1 c39_8
                        refine lv_tableIn (tgt := 314) hx hb gm_d_LW_law_39 (by rw [c39_8]; decide) (by rw [c39_8]; decide) (by rw [c39_8]; rfl) (by decide) ?_
                        exact gm_law_314 l hst C1 D cI cJ cC cZ hK hE hN hA hSA m0 d0 o0 n ih i qm qt qw qa qaT qaJ qaC qaD qb qbT qbJ qbC qbD qr qk qv qn qd qo s0 s1 s2 s3 s4 s5 s6 s7 s8 s9 s10 s11 s12 s13 s14 s15 s16 s17 s18 cells slots _ _ _ hc hs hl hP hD hS hok
                      · skip
                        have hok := hok.2 c39_8
                        by_cases c39_9 : ((xs i.toNatClampNeg) &&& 15) = 9
                        · skip
                          have hok := hok.1 c39_9
                          refine lv_tableIn (tgt := 358) hx hb gm_d_LW_law_39 (by rw [c39_9]; decide) (by rw [c39_9]; decide) (by rw [c39_9]; rfl) (by decide) ?_
                          exact gm_law_358 l hst C1 D cI cJ cC cZ hK hE hN hA hSA m0 d0 o0 n ih i qm qt qw qa qaT qaJ qaC qaD qb qbT qbJ qbC qbD qr qk qv qn qd qo s0 s1 s2 s3 s4 s5 s6 s7 s8 s9 s10 s11 s12 s13 s14 s15 s16 s17 s18 cells slots _ _ _ hc hs hl hP hD hS hok
                        · skip
                          have hok := hok.2 c39_9
                          by_cases c39_10 : ((xs i.toNatClampNeg) &&& 15) = 10
                          · skip
                            have hok := hok.1 c39_10
                            refine lv_tableIn (tgt := 371) hx hb gm_d_LW_law_39 (by rw [c39_10]; decide) (by rw [c39_10]; decide) (by rw [c39_10]; rfl) (by decide) ?_
                            exact gm_law_371 l hst C1 D cI cJ cC cZ hK hE hN hA hSA m0 d0 o0 n ih i qm qt qw qa qaT qaJ qaC qaD qb qbT qbJ qbC qbD qr qk qv qn qd qo s0 s1 s2 s3 s4 s5 s6 s7 s8 s9 s10 s11 s12 s13 s14 s15 s16 s17 s18 cells slots _ _ _ hc hs hl hP hD hS hok
                          · skip
                            have hok := hok.2 c39_10
                            by_cases c39_11 : ((xs i.toNatClampNeg) &&& 15) = 11
                            · skip
                              have hok := hok.1 c39_11
                              refine lv_tableIn (tgt := 384) hx hb gm_d_LW_law_39 (by rw [c39_11]; decide) (by rw [c39_11]; decide) (by rw [c39_11]; rfl) (by decide) ?_
                              exact gm_law_384 l hst C1 D cI cJ cC cZ hK hE hN hA hSA m0 d0 o0 n ih i qm qt qw qa qaT qaJ qaC qaD qb qbT qbJ qbC qbD qr qk qv qn qd qo s0 s1 s2 s3 s4 s5 s6 s7 s8 s9 s10 s11 s12 s13 s14 s15 s16 s17 s18 cells slots _ _ _ hc hs hl hP hD hS hok
                            · skip
                              have hok := hok.2 c39_11
                              refine lv_tableOut (tgt := 424) hx hb gm_d_LW_law_39 (by have n0 := lv_neT c39_0 (a := 0) (by decide); have n1 := lv_neT c39_1 (a := 1) (by decide); have n2 := lv_neT c39_2 (a := 2) (by decide); have n3 := lv_neT c39_3 (a := 3) (by decide); have n4 := lv_neT c39_4 (a := 4) (by decide); have n5 := lv_neT c39_5 (a := 5) (by decide); have n6 := lv_neT c39_6 (a := 6) (by decide); have n7 := lv_neT c39_7 (a := 7) (by decide); have n8 := lv_neT c39_8 (a := 8) (by decide); have n9 := lv_neT c39_9 (a := 9) (by decide); have n10 := lv_neT c39_10 (a := 10) (by decide); have n11 := lv_neT c39_11 (a := 11) (by decide); omega) (by decide) ?_
                              exact gm_law_424 l hst C1 D cI cJ cC cZ hK hE hN hA hSA m0 d0 o0 n ih i qm qt qw qa qaT qaJ qaC qaD qb qbT qbJ qbC qbD qr qk qv qn qd qo s0 s1 s2 s3 s4 s5 s6 s7 s8 s9 s10 s11 s12 s13 s14 s15 s16 s17 s18 cells slots _ _ _ hc hs hl hP hD hS hok
