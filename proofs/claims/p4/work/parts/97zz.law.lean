/-! The law: both sides answer alike. -/
theorem gl_ce {R S : Type} {x : R × S} {Pc : Prop} {P : R → S → Prop} (T : R × S → Prop) (hc : Pc ∧ T x) (h : ∀ r u, T (r, u) → (r, u) = x → P r u) : Pc ∧ gm_bd x P := ⟨hc.1, h x.1 x.2 hc.2 rfl⟩
def gl_I (s0 s1 s2 s4 s6 s7 s9 s11 s12 s13 s14 s16 s17 : gm_S) : Prop :=
  gm_iW 50 (s1.2.2 1) (s1.1 0) ∧ gm_iW 10 (s2.2.2 1) (s2.1 0) ∧ gm_iT (s4.2.2 11) (s4.2.2 12) (s4.2.2 13) (s4.1 2) (s4.1 3) (s4.1 4) (s4.1 5) (s4.1 10) ∧ gm_iN 200 (s6.2.2 5) ∧ gm_iN 75 (s7.2.2 3) ∧ gm_iT (s9.2.2 11) (s9.2.2 12) (s9.2.2 13) (s9.1 2) (s9.1 3) (s9.1 4) (s9.1 5) (s9.1 10) ∧ gm_iN 200 (s11.2.2 5) ∧ gm_iN 75 (s12.2.2 3) ∧ gm_iN 550 (s13.2.2 7) ∧ gm_iN 275 (s14.2.2 2) ∧ gm_iN 5720 (s16.2.2 2) ∧ gp_RI s17 ∧ gs_TK s1 s17 ∧ gs_SK s2 s17 ∧ s0.2.2 7 = s17.2.2 1 ∧ gs_GK s0 s4 s17
set_option maxHeartbeats 4000000 in
theorem gl_law (xs : Nat → Int32) (L : Nat) (hL : L ≤ 1536) : ∀ (n : Nat) (i : Int32) (s0 s1 s2 s3 s4 s5 s6 s7 s8 s9 s10 s11 s12 s13 s14 s15 s16 s17 s18 : gm_S), gl_I s0 s1 s2 s4 s6 s7 s9 s11 s12 s13 s14 s16 s17 → 0 ≤ i.toInt → i.toInt ≤ L → (L : Int) < i.toInt + 3 * n → gm_p_law xs L n i s0 s1 s2 s3 s4 s5 s6 s7 s8 s9 s10 s11 s12 s13 s14 s15 s16 s17 s18 := by
  have oL : (Int32.ofNat L).toInt = L := gx_on L (by omega)
  have l3 : ((Int32.ofNat L) - 3).toInt = L - 3 := by
    have := gx_sk (Int32.ofNat L) 3 3 (gx_lit 3 (by decide))
    omega
  intro n
  induction n with
  | zero =>
    intro i s0 s1 s2 s3 s4 s5 s6 s7 s8 s9 s10 s11 s12 s13 s14 s15 s16 s17 s18 _ h0 h1 h2
    exfalso
    omega
  | succ n ih =>
    intro i s0 s1 s2 s3 s4 s5 s6 s7 s8 s9 s10 s11 s12 s13 s14 s15 s16 s17 s18 hI h0 hi1 hi2
    obtain ⟨h_1, h_2, h_4, h_6, h_7, h_9, h_11, h_12, h_13, h_14, h_16, h_17, hTK, hSK, hFK, hGK⟩ := hI
    have a1 := gx_ak i 1 1 (by decide)
    have a2 := gx_ak i 2 2 (gx_lit 2 (by decide))
    have a3 := gx_ak i 3 3 (gx_lit 3 (by decide))
    rw [gm_p_law]
    refine ⟨fun _ => trivial, fun hi => ?_⟩
    have hi := gx_ltn hi
    rw [l3] at hi
    have i0 : vp_in i L := vp_in_iff.mpr (by omega)
    have i1 : vp_in (i + 1) L := vp_in_iff.mpr (by omega)
    have i2 : vp_in (i + 2) L := vp_in_iff.mpr (by omega)
    have nx : 0 ≤ (i + 3).toInt ∧ (i + 3).toInt ≤ L ∧ (L : Int) < (i + 3).toInt + 3 * n := by omega
    refine ⟨i0, ?_⟩
    refine ⟨fun h1 => ?_, fun h1 => ?_⟩
    · refine ⟨i1, ?_⟩
      refine gl_ce _ (gx_s_GM_type _ _ h_1) ?_
      intro r3 u4 h2 e5
      refine ⟨i1, ?_⟩
      refine gl_ce _ (gx_s_MD_type _ _ h_17.1 h_17.2.1 h_17.2.2.1) ?_
      intro r7 u8 h6 e9
      have q10 := gs_ty_e e5 e9 hTK h_17.1
      exact ih _ _ _ _ _ _ _ _ _ _ _ _ _ _ _ _ _ _ _ _ ⟨h2, h_2, h_4, h_6, h_7, h_9, h_11, h_12, h_13, h_14, h_16, ⟨h6.1, h_17.2⟩, q10.2, hSK, hFK, hGK⟩ nx.1 nx.2.1 nx.2.2
    · refine ⟨fun h11 => ?_, fun h11 => ?_⟩
      · refine gl_ce _ (gx_s_GM_wipe _ h_1) ?_
        intro r13 u14 h12 e15
        refine gl_ce _ (gx_s_MD_wipe _ h_17.1 h_17.2.1 h_17.2.2.1) ?_
        intro r17 u18 h16 e19
        have q20 := gs_wp_e e15 e19
        exact ih _ _ _ _ _ _ _ _ _ _ _ _ _ _ _ _ _ _ _ _ ⟨h12, h_2, h_4, h_6, h_7, h_9, h_11, h_12, h_13, h_14, h_16, ⟨h16, h_17.2⟩, (gs_TK_0 q20.1 q20.2), hSK, hFK, hGK⟩ nx.1 nx.2.1 nx.2.2
      · refine ⟨fun h21 => ?_, fun h21 => ?_⟩
        · refine ⟨fun h22 => ?_, fun h22 => ?_⟩
          · refine gl_ce _ (gx_s_LW_compile_r _ h_1 h_9 h_11 h_12) ?_
            intro r24 u25 h23 e26
            refine gl_ce _ (gz_compile _ h_17) ?_
            intro r28 u29 h27 e30
            have q31 := gs_cr_e e26 e30 hTK h_17 h_9 h_12 h_1 h22
            have g32 := gs_GK_r q31
            refine gl_ce _ (gx_s_MD_thrown _ h_17.1 h_17.2.1 h_17.2.2.1) ?_
            intro r34 u35 h33 e36
            refine ⟨fun h37 => ?_, fun h37 => ?_⟩
            · refine ⟨fun h38 => ?_, fun h38 => ?_⟩
              · refine ⟨(vp_in_iff.mpr (by decide)), ?_⟩
                refine ⟨fun h39 => ?_, fun h39 => ?_⟩
                · exact ih _ _ _ _ _ _ _ _ _ _ _ _ _ _ _ _ _ _ _ _ ⟨h_1, h_2, h23.1, h23.2.1, h23.2.2, h_4, h_6, h_7, h_13, h_14, h_16, ⟨h_17.1, h_17.2.1, h_17.2.2.1, h27.2.2.2.1, h27.2.2.2.2⟩, hTK, hSK, q31.2.2.2.2.2.1, g32⟩ nx.1 nx.2.1 nx.2.2
                · exact absurd ((gp_cmp0 _ _).mpr q31.2.2.1) h39
              · exact absurd q31.1 h38
            · exact absurd ((show _ = _ from (congrArg Prod.fst e36)).trans (q31.2.1.trans q31.1.symm)) h37
          · refine gl_ce _ (gx_s_LW_compile_t _ h_1 h_9 h_11 h_12) ?_
            intro r41 u42 h40 e43
            refine gl_ce _ (gz_compile _ h_17) ?_
            intro r45 u46 h44 e47
            have q48 := gs_ct_e e43 e47 hTK h_17 h_9 h_12 h_1 h22
            have g49 := gs_GK_t q48 hGK
            refine gl_ce _ (gx_s_MD_thrown _ h_17.1 h_17.2.1 h_17.2.2.1) ?_
            intro r51 u52 h50 e53
            refine ⟨fun h54 => ?_, fun h54 => ?_⟩
            · refine ⟨fun h55 => ?_, fun h55 => ?_⟩
              · exact absurd h55 q48.1
              · exact ih _ _ _ _ _ _ _ _ _ _ _ _ _ _ _ _ _ _ _ _ ⟨h_1, h_2, h_4, h_6, h_7, h40.1, h40.2.1, h40.2.2, h_13, h_14, h_16, ⟨h_17.1, h_17.2.1, h_17.2.2.1, h44.2.2.2.1, h44.2.2.2.2⟩, hTK, hSK, q48.2.2.2.2.1, g49⟩ nx.1 nx.2.1 nx.2.2
            · exact absurd ((show _ = _ from (congrArg Prod.fst e53)).trans q48.2.1) h54
        · refine ⟨fun h56 => ?_, fun h56 => ?_⟩
          · refine gl_ce _ (gx_s_GM_fault _) ?_
            intro r58 u59 h57 e60
            refine gl_ce _ (gx_s_MD_fault _ h_17.1 h_17.2.1 h_17.2.2.1) ?_
            intro r62 u63 h61 e64
            have q65 := gs_ft_e e60 e64 hFK
            exact ih _ _ _ _ _ _ _ _ _ _ _ _ _ _ _ _ _ _ _ _ ⟨h_1, h_2, h_4, h_6, h_7, h_9, h_11, h_12, h_13, h_14, h_16, h_17, hTK, hSK, hFK, hGK⟩ nx.1 nx.2.1 nx.2.2
          · refine ⟨fun h66 => ?_, fun h66 => ?_⟩
            · refine ⟨i1, ?_⟩
              refine gl_ce _ (gx_s_LW_empty _ _ h_4) ?_
              intro r68 u69 h67 e70
              refine ⟨i1, ?_⟩
              refine gl_ce _ (gz_empty _ _ h_17) ?_
              intro r72 u73 h71 e74
              have q75 := gs_em_e e70 e74 hGK h_17.2.2.2.1
              exact ih _ _ _ _ _ _ _ _ _ _ _ _ _ _ _ _ _ _ _ _ ⟨h_1, h_2, h_4, h_6, h_7, h_9, h_11, h_12, h_13, h_14, h_16, h_17, hTK, hSK, hFK, hGK⟩ nx.1 nx.2.1 nx.2.2
            · refine ⟨fun h76 => ?_, fun h76 => ?_⟩
              · refine ⟨i1, ?_⟩
                refine ⟨i2, ?_⟩
                refine gl_ce _ (gx_s_LW_head _ _ _ h_4) ?_
                intro r78 u79 h77 e80
                refine ⟨i1, ?_⟩
                refine ⟨i2, ?_⟩
                refine gl_ce _ (gz_head _ _ _ h_17) ?_
                intro r82 u83 h81 e84
                have q85 := gs_hd_e e80 e84 hGK
                exact ih _ _ _ _ _ _ _ _ _ _ _ _ _ _ _ _ _ _ _ _ ⟨h_1, h_2, h_4, h_6, h_7, h_9, h_11, h_12, h_13, h_14, h_16, h_17, hTK, hSK, hFK, hGK⟩ nx.1 nx.2.1 nx.2.2
              · refine ⟨fun h86 => ?_, fun h86 => ?_⟩
                · refine ⟨i1, ?_⟩
                  refine gl_ce _ (gx_s_GM_feed _ _ h_2) ?_
                  intro r88 u89 h87 e90
                  refine ⟨i1, ?_⟩
                  refine gl_ce _ (gx_s_MD_feed _ _ h_17.1 h_17.2.1 h_17.2.2.1) ?_
                  intro r92 u93 h91 e94
                  have q95 := gs_fd_e e90 e94 hSK h_17.2.1
                  exact ih _ _ _ _ _ _ _ _ _ _ _ _ _ _ _ _ _ _ _ _ ⟨h_1, h87, h_4, h_6, h_7, h_9, h_11, h_12, h_13, h_14, h_16, ⟨h_17.1, h91.1, h_17.2.2⟩, hTK, q95.2, hFK, hGK⟩ nx.1 nx.2.1 nx.2.2
                · refine ⟨fun h96 => ?_, fun h96 => ?_⟩
                  · refine gl_ce _ (gx_s_GM_clear _ h_2) ?_
                    intro r98 u99 h97 e100
                    refine gl_ce _ (gx_s_MD_clear _ h_17.1 h_17.2.1 h_17.2.2.1) ?_
                    intro r102 u103 h101 e104
                    have q105 := gs_cl_e e100 e104
                    exact ih _ _ _ _ _ _ _ _ _ _ _ _ _ _ _ _ _ _ _ _ ⟨h_1, h97, h_4, h_6, h_7, h_9, h_11, h_12, h_13, h_14, h_16, ⟨h_17.1, h101, h_17.2.2⟩, hTK, (gs_SK_0 q105.1 q105.2), hFK, hGK⟩ nx.1 nx.2.1 nx.2.2
                  · refine ⟨fun h106 => ?_, fun h106 => ?_⟩
                    · refine ⟨i1, ?_⟩
                      refine ⟨fun h107 => ?_, fun h107 => ?_⟩
                      · refine ⟨fun h108 => ?_, fun h108 => ?_⟩
                        · refine gl_ce _ (gx_s_LW_match_r _ _ h_13 h_2 h_14 h_16 h_6 h_4 (Or.inl rfl)) ?_
                          intro r110 u111 h109 e112
                          refine ⟨i1, ?_⟩
                          refine gl_ce _ (gz_match _ _ h_17) ?_
                          intro r114 u115 h113 e116
                          exact ih _ _ _ _ _ _ _ _ _ _ _ _ _ _ _ _ _ _ _ _ ⟨h_1, h_2, h_4, h_6, h_7, h_9, h_11, h_12, h109.1, h109.2.1, h109.2.2, ⟨h_17.1, h_17.2.1, h113.2.2.1, h_17.2.2.2⟩, hTK, hSK, hFK, hGK⟩ nx.1 nx.2.1 nx.2.2
                        · refine gl_ce _ (gx_s_LW_match_t _ _ h_13 h_2 h_14 h_16 h_6 h_4 (Or.inl rfl)) ?_
                          intro r119 u120 h118 e121
                          refine ⟨i1, ?_⟩
                          refine gl_ce _ (gz_match _ _ h_17) ?_
                          intro r123 u124 h122 e125
                          exact ih _ _ _ _ _ _ _ _ _ _ _ _ _ _ _ _ _ _ _ _ ⟨h_1, h_2, h_4, h_6, h_7, h_9, h_11, h_12, h118.1, h118.2.1, h118.2.2, ⟨h_17.1, h_17.2.1, h122.2.2.1, h_17.2.2.2⟩, hTK, hSK, hFK, hGK⟩ nx.1 nx.2.1 nx.2.2
                      · refine ⟨fun h127 => ?_, fun h127 => ?_⟩
                        · refine gl_ce _ (gx_s_LW_match_r _ _ h_13 h_2 h_14 h_16 h_6 h_4 (Or.inr rfl)) ?_
                          intro r129 u130 h128 e131
                          refine ⟨i1, ?_⟩
                          refine gl_ce _ (gz_match _ _ h_17) ?_
                          intro r133 u134 h132 e135
                          exact ih _ _ _ _ _ _ _ _ _ _ _ _ _ _ _ _ _ _ _ _ ⟨h_1, h_2, h_4, h_6, h_7, h_9, h_11, h_12, h128.1, h128.2.1, h128.2.2, ⟨h_17.1, h_17.2.1, h132.2.2.1, h_17.2.2.2⟩, hTK, hSK, hFK, hGK⟩ nx.1 nx.2.1 nx.2.2
                        · refine gl_ce _ (gx_s_LW_match_t _ _ h_13 h_2 h_14 h_16 h_6 h_4 (Or.inr rfl)) ?_
                          intro r138 u139 h137 e140
                          refine ⟨i1, ?_⟩
                          refine gl_ce _ (gz_match _ _ h_17) ?_
                          intro r142 u143 h141 e144
                          exact ih _ _ _ _ _ _ _ _ _ _ _ _ _ _ _ _ _ _ _ _ ⟨h_1, h_2, h_4, h_6, h_7, h_9, h_11, h_12, h137.1, h137.2.1, h137.2.2, ⟨h_17.1, h_17.2.1, h141.2.2.1, h_17.2.2.2⟩, hTK, hSK, hFK, hGK⟩ nx.1 nx.2.1 nx.2.2
                    · refine ⟨fun h146 => ?_, fun h146 => ?_⟩
                      · refine gl_ce _ (gx_s_GM_work _ h_13) ?_
                        intro r148 u149 h147 e150
                        refine gl_ce _ (gx_s_MD_work _ h_17.1 h_17.2.1 h_17.2.2.1) ?_
                        intro r152 u153 h151 e154
                        exact ih _ _ _ _ _ _ _ _ _ _ _ _ _ _ _ _ _ _ _ _ ⟨h_1, h_2, h_4, h_6, h_7, h_9, h_11, h_12, h_13, h_14, h_16, h_17, hTK, hSK, hFK, hGK⟩ nx.1 nx.2.1 nx.2.2
                      · refine ⟨fun h156 => ?_, fun h156 => ?_⟩
                        · refine gl_ce _ (gx_s_GM_nodes _ h_13 h_14) ?_
                          intro r158 u159 h157 e160
                          refine gl_ce _ (gx_s_MD_nodes _ h_17.1 h_17.2.1 h_17.2.2.1) ?_
                          intro r162 u163 h161 e164
                          exact ih _ _ _ _ _ _ _ _ _ _ _ _ _ _ _ _ _ _ _ _ ⟨h_1, h_2, h_4, h_6, h_7, h_9, h_11, h_12, h_13, h_14, h_16, h_17, hTK, hSK, hFK, hGK⟩ nx.1 nx.2.1 nx.2.2
                        · refine ⟨fun h166 => ?_, fun h166 => ?_⟩
                          · refine ⟨i1, ?_⟩
                            refine ⟨i2, ?_⟩
                            refine gl_ce _ (gx_s_LW_node _ _ _ h_13 h_14) ?_
                            intro r168 u169 h167 e170
                            refine ⟨i1, ?_⟩
                            refine ⟨i2, ?_⟩
                            refine gl_ce _ (gx_s_MD_node _ _ _ h_17.1 h_17.2.1 h_17.2.2.1) ?_
                            intro r172 u173 h171 e174
                            exact ih _ _ _ _ _ _ _ _ _ _ _ _ _ _ _ _ _ _ _ _ ⟨h_1, h_2, h_4, h_6, h_7, h_9, h_11, h_12, h_13, h_14, h_16, h_17, hTK, hSK, hFK, hGK⟩ nx.1 nx.2.1 nx.2.2
                          · exact ih _ _ _ _ _ _ _ _ _ _ _ _ _ _ _ _ _ _ _ _ ⟨h_1, h_2, h_4, h_6, h_7, h_9, h_11, h_12, h_13, h_14, h_16, h_17, hTK, hSK, hFK, hGK⟩ nx.1 nx.2.1 nx.2.2
