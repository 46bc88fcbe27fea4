/-! The law: both sides answer alike. -/
theorem gl_ce {R S : Type} {x : R × S} {Pc : Prop} {P : R → S → Prop} (T : R × S → Prop) (hc : Pc ∧ T x) (h : ∀ r u, T (r, u) → (r, u) = x → P r u) : Pc ∧ gm_bd x P := ⟨hc.1, h x.1 x.2 hc.2 rfl⟩
def gl_I (s0 s1 s2 s4 s6 s7 s9 s11 s12 s13 s14 s16 s17 : gm_S) : Prop :=
  gm_iW 50 (s1.2.2 1) (s1.1 0) ∧ gm_iW 10 (s2.2.2 1) (s2.1 0) ∧ gm_iT (s4.2.2 11) (s4.2.2 12) (s4.2.2 13) (s4.1 2) (s4.1 3) (s4.1 4) (s4.1 5) (s4.1 10) ∧ gm_iN 200 (s6.2.2 5) ∧ gm_iN 75 (s7.2.2 3) ∧ gm_iT (s9.2.2 11) (s9.2.2 12) (s9.2.2 13) (s9.1 2) (s9.1 3) (s9.1 4) (s9.1 5) (s9.1 10) ∧ gm_iN 200 (s11.2.2 5) ∧ gm_iN 75 (s12.2.2 3) ∧ gm_iN 550 (s13.2.2 7) ∧ gm_iN 275 (s14.2.2 2) ∧ gm_iN 5720 (s16.2.2 2) ∧ gp_RI s17 ∧ gs_TK s1 s17 ∧ gs_SK s2 s17 ∧ s0.2.2 7 = s17.2.2 1 ∧ gs_GK s0 s4 s6 s17 ∧ gs_MK s0 s13 s14 s17
set_option maxHeartbeats 4000000 in
theorem gl_law (xs : Nat → Int32) (L : Nat) (hL : L ≤ 1536) : ∀ (n : Nat) (i : Int32) (s0 s1 s2 s3 s4 s5 s6 s7 s8 s9 s10 s11 s12 s13 s14 s15 s16 s17 s18 : gm_S), gl_I s0 s1 s2 s4 s6 s7 s9 s11 s12 s13 s14 s16 s17 → 0 ≤ i.toInt → i.toInt ≤ L → (L : Int) < i.toInt + 3 * n → gm_p_law xs L n i s0 s1 s2 s3 s4 s5 s6 s7 s8 s9 s10 s11 s12 s13 s14 s15 s16 s17 s18 := by
  have oL : (Int32.ofNat L).toInt = L := gx_on L (by omega)
  have l3 : ((Int32.ofNat L) - 3).toInt = L - 3 := by
    have := gx_sk (Int32.ofNat L) 3 3 (gx_lit 3 (by decide))
    omega
  intro n
  induction n with
  | zero =>
    intro i s0 s1 s2 s3 s4 s5 s6 s7 s8 s9 s10 s11 s12 s13 s14 s15 s16 s17 s18 _ h0 h1 h2
    exfalso
    omega
  | succ n ih =>
    intro i s0 s1 s2 s3 s4 s5 s6 s7 s8 s9 s10 s11 s12 s13 s14 s15 s16 s17 s18 hI h0 hi1 hi2
    obtain ⟨h_1, h_2, h_4, h_6, h_7, h_9, h_11, h_12, h_13, h_14, h_16, h_17, hTK, hSK, hFK, hGK, hMK⟩ := hI
    have a1 := gx_ak i 1 1 (by decide)
    have a2 := gx_ak i 2 2 (gx_lit 2 (by decide))
    have a3 := gx_ak i 3 3 (gx_lit 3 (by decide))
    rw [gm_p_law]
    refine ⟨fun _ => trivial, fun hi => ?_⟩
    have hi := gx_ltn hi
    rw [l3] at hi
    have i0 : vp_in i L := vp_in_iff.mpr (by omega)
    have i1 : vp_in (i + 1) L := vp_in_iff.mpr (by omega)
    have i2 : vp_in (i + 2) L := vp_in_iff.mpr (by omega)
    have nx : 0 ≤ (i + 3).toInt ∧ (i + 3).toInt ≤ L ∧ (L : Int) < (i + 3).toInt + 3 * n := by omega
    refine ⟨i0, ?_⟩
    refine ⟨fun h1 => ?_, fun h1 => ?_⟩
    · refine ⟨i1, ?_⟩
      refine gl_ce _ (gx_s_GM_type _ _ h_1) ?_
      intro r3 u4 h2 e5
      refine ⟨i1, ?_⟩
      refine gl_ce _ (gx_s_MD_type _ _ h_17.1 h_17.2.1 h_17.2.2.1) ?_
      intro r7 u8 h6 e9
      have q10 := gs_ty_e e5 e9 hTK h_17.1
      refine ⟨fun h11 => ?_, fun h11 => ?_⟩
      · exact ih _ _ _ _ _ _ _ _ _ _ _ _ _ _ _ _ _ _ _ _ ⟨h2, h_2, h_4, h_6, h_7, h_9, h_11, h_12, h_13, h_14, h_16, ⟨h6.1, h_17.2⟩, q10.2, hSK, hFK, hGK, hMK⟩ nx.1 nx.2.1 nx.2.2
      · exact absurd q10.1 h11
    · refine ⟨fun h12 => ?_, fun h12 => ?_⟩
      · refine gl_ce _ (gx_s_GM_wipe _ h_1) ?_
        intro r14 u15 h13 e16
        refine gl_ce _ (gx_s_MD_wipe _ h_17.1 h_17.2.1 h_17.2.2.1) ?_
        intro r18 u19 h17 e20
        have q21 := gs_wp_e e16 e20
        exact ih _ _ _ _ _ _ _ _ _ _ _ _ _ _ _ _ _ _ _ _ ⟨h13, h_2, h_4, h_6, h_7, h_9, h_11, h_12, h_13, h_14, h_16, ⟨h17, h_17.2⟩, (gs_TK_0 q21.1 q21.2), hSK, hFK, hGK, hMK⟩ nx.1 nx.2.1 nx.2.2
      · refine ⟨fun h22 => ?_, fun h22 => ?_⟩
        · refine ⟨fun h23 => ?_, fun h23 => ?_⟩
          · refine gl_ce _ (gx_s_LW_compile_r _ h_1 h_9 h_11 h_12) ?_
            intro r25 u26 h24 e27
            refine gl_ce _ (gz_compile _ h_17) ?_
            intro r29 u30 h28 e31
            have q32 := gs_cr_e e27 e31 hTK h_17 h_9 h_12 h_1 h23
            have g33 := gs_GK_r q32
            refine gl_ce _ (gx_s_MD_thrown _ h_17.1 h_17.2.1 h_17.2.2.1) ?_
            intro r35 u36 h34 e37
            refine ⟨fun h38 => ?_, fun h38 => ?_⟩
            · refine ⟨fun h39 => ?_, fun h39 => ?_⟩
              · refine ⟨(vp_in_iff.mpr (by decide)), ?_⟩
                refine ⟨fun h40 => ?_, fun h40 => ?_⟩
                · exact ih _ _ _ _ _ _ _ _ _ _ _ _ _ _ _ _ _ _ _ _ ⟨h_1, h_2, h24.1, h24.2.1, h24.2.2, h_4, h_6, h_7, h_13, h_14, h_16, ⟨h_17.1, h_17.2.1, h_17.2.2.1, h28.2.2.2.1, h28.2.2.2.2⟩, hTK, hSK, q32.2.2.2.2.2.1, g33, (gs_MK_r q32 _ _ _ _ rfl rfl)⟩ nx.1 nx.2.1 nx.2.2
                · exact absurd ((gp_cmp0 _ _).mpr q32.2.2.1) h40
              · exact absurd q32.1 h39
            · exact absurd ((show _ = _ from (congrArg Prod.fst e37)).trans (q32.2.1.trans q32.1.symm)) h38
          · refine gl_ce _ (gx_s_LW_compile_t _ h_1 h_9 h_11 h_12) ?_
            intro r42 u43 h41 e44
            refine gl_ce _ (gz_compile _ h_17) ?_
            intro r46 u47 h45 e48
            have q49 := gs_ct_e e44 e48 hTK h_17 h_9 h_12 h_1 h23
            have g50 := gs_GK_t q49 hGK
            refine gl_ce _ (gx_s_MD_thrown _ h_17.1 h_17.2.1 h_17.2.2.1) ?_
            intro r52 u53 h51 e54
            refine ⟨fun h55 => ?_, fun h55 => ?_⟩
            · refine ⟨fun h56 => ?_, fun h56 => ?_⟩
              · exact absurd h56 q49.1
              · exact ih _ _ _ _ _ _ _ _ _ _ _ _ _ _ _ _ _ _ _ _ ⟨h_1, h_2, h_4, h_6, h_7, h41.1, h41.2.1, h41.2.2, h_13, h_14, h_16, ⟨h_17.1, h_17.2.1, h_17.2.2.1, h45.2.2.2.1, h45.2.2.2.2⟩, hTK, hSK, q49.2.2.2.2.1, g50, (gs_MK_t q49 hMK _ _ rfl rfl rfl rfl rfl rfl rfl)⟩ nx.1 nx.2.1 nx.2.2
            · exact absurd ((show _ = _ from (congrArg Prod.fst e54)).trans q49.2.1) h55
        · refine ⟨fun h57 => ?_, fun h57 => ?_⟩
          · refine gl_ce _ (gx_s_GM_fault _) ?_
            intro r59 u60 h58 e61
            refine gl_ce _ (gx_s_MD_fault _ h_17.1 h_17.2.1 h_17.2.2.1) ?_
            intro r63 u64 h62 e65
            have q66 := gs_ft_e e61 e65 hFK
            refine ⟨fun h67 => ?_, fun h67 => ?_⟩
            · exact ih _ _ _ _ _ _ _ _ _ _ _ _ _ _ _ _ _ _ _ _ ⟨h_1, h_2, h_4, h_6, h_7, h_9, h_11, h_12, h_13, h_14, h_16, h_17, hTK, hSK, hFK, hGK, hMK⟩ nx.1 nx.2.1 nx.2.2
            · exact absurd q66 h67
          · refine ⟨fun h68 => ?_, fun h68 => ?_⟩
            · refine ⟨i1, ?_⟩
              refine gl_ce _ (gx_s_LW_empty _ _ h_4) ?_
              intro r70 u71 h69 e72
              refine ⟨i1, ?_⟩
              refine gl_ce _ (gz_empty _ _ h_17) ?_
              intro r74 u75 h73 e76
              have q77 := gs_em_e e72 e76 hGK h_17.2.2.2.1
              refine gl_ce _ (gx_s_MD_thrown _ h_17.1 h_17.2.1 h_17.2.2.1) ?_
              intro r79 u80 h78 e81
              refine ⟨fun h82 => ?_, fun h82 => ?_⟩
              · refine ⟨fun h83 => ?_, fun h83 => ?_⟩
                · refine ⟨(vp_in_iff.mpr (by decide)), ?_⟩
                  refine ⟨fun h84 => ?_, fun h84 => ?_⟩
                  · refine ⟨fun h85 => ?_, fun h85 => ?_⟩
                    · exact ih _ _ _ _ _ _ _ _ _ _ _ _ _ _ _ _ _ _ _ _ ⟨h_1, h_2, h_4, h_6, h_7, h_9, h_11, h_12, h_13, h_14, h_16, h_17, hTK, hSK, hFK, hGK, hMK⟩ nx.1 nx.2.1 nx.2.2
                    · exact absurd ((gp_cmp0 _ _).mpr ((q77.2 h83).1 h84)) h85
                  · refine ⟨fun h86 => ?_, fun h86 => ?_⟩
                    · exact ih _ _ _ _ _ _ _ _ _ _ _ _ _ _ _ _ _ _ _ _ ⟨h_1, h_2, h_4, h_6, h_7, h_9, h_11, h_12, h_13, h_14, h_16, h_17, hTK, hSK, hFK, hGK, hMK⟩ nx.1 nx.2.1 nx.2.2
                    · exact absurd ((gp_cmp0 _ _).mpr ((q77.2 h83).2 h84)) h86
                · exact ih _ _ _ _ _ _ _ _ _ _ _ _ _ _ _ _ _ _ _ _ ⟨h_1, h_2, h_4, h_6, h_7, h_9, h_11, h_12, h_13, h_14, h_16, h_17, hTK, hSK, hFK, hGK, hMK⟩ nx.1 nx.2.1 nx.2.2
              · exact absurd ((show _ = _ from (congrArg Prod.fst e81)).trans q77.1) h82
            · refine ⟨fun h87 => ?_, fun h87 => ?_⟩
              · refine ⟨i1, ?_⟩
                refine ⟨i2, ?_⟩
                refine gl_ce _ (gx_s_LW_head _ _ _ h_4) ?_
                intro r89 u90 h88 e91
                refine ⟨i1, ?_⟩
                refine ⟨i2, ?_⟩
                refine gl_ce _ (gz_head _ _ _ h_17) ?_
                intro r93 u94 h92 e95
                have q96 := gs_hd_e e91 e95 hGK
                refine gl_ce _ (gx_s_MD_thrown _ h_17.1 h_17.2.1 h_17.2.2.1) ?_
                intro r98 u99 h97 e100
                refine ⟨fun h101 => ?_, fun h101 => ?_⟩
                · refine ⟨fun h102 => ?_, fun h102 => ?_⟩
                  · refine ⟨(vp_in_iff.mpr (by decide)), ?_⟩
                    refine ⟨fun h103 => ?_, fun h103 => ?_⟩
                    · refine ⟨fun h104 => ?_, fun h104 => ?_⟩
                      · exact ih _ _ _ _ _ _ _ _ _ _ _ _ _ _ _ _ _ _ _ _ ⟨h_1, h_2, h_4, h_6, h_7, h_9, h_11, h_12, h_13, h_14, h_16, h_17, hTK, hSK, hFK, hGK, hMK⟩ nx.1 nx.2.1 nx.2.2
                      · exact absurd ((gp_cmp0 _ _).mpr ((q96.2 h102).1 h103)) h104
                    · refine ⟨fun h105 => ?_, fun h105 => ?_⟩
                      · exact ih _ _ _ _ _ _ _ _ _ _ _ _ _ _ _ _ _ _ _ _ ⟨h_1, h_2, h_4, h_6, h_7, h_9, h_11, h_12, h_13, h_14, h_16, h_17, hTK, hSK, hFK, hGK, hMK⟩ nx.1 nx.2.1 nx.2.2
                      · exact absurd ((gp_cmp0 _ _).mpr ((q96.2 h102).2 h103)) h105
                  · exact ih _ _ _ _ _ _ _ _ _ _ _ _ _ _ _ _ _ _ _ _ ⟨h_1, h_2, h_4, h_6, h_7, h_9, h_11, h_12, h_13, h_14, h_16, h_17, hTK, hSK, hFK, hGK, hMK⟩ nx.1 nx.2.1 nx.2.2
                · exact absurd ((show _ = _ from (congrArg Prod.fst e100)).trans q96.1) h101
              · refine ⟨fun h106 => ?_, fun h106 => ?_⟩
                · refine ⟨i1, ?_⟩
                  refine gl_ce _ (gx_s_GM_feed _ _ h_2) ?_
                  intro r108 u109 h107 e110
                  refine ⟨i1, ?_⟩
                  refine gl_ce _ (gx_s_MD_feed _ _ h_17.1 h_17.2.1 h_17.2.2.1) ?_
                  intro r112 u113 h111 e114
                  have q115 := gs_fd_e e110 e114 hSK h_17.2.1
                  refine ⟨fun h116 => ?_, fun h116 => ?_⟩
                  · exact ih _ _ _ _ _ _ _ _ _ _ _ _ _ _ _ _ _ _ _ _ ⟨h_1, h107, h_4, h_6, h_7, h_9, h_11, h_12, h_13, h_14, h_16, ⟨h_17.1, h111.1, h_17.2.2⟩, hTK, q115.2, hFK, hGK, (gs_MK_f e110 e114 q115.1 hMK _ _ rfl rfl rfl rfl rfl rfl rfl)⟩ nx.1 nx.2.1 nx.2.2
                  · exact absurd q115.1 h116
                · refine ⟨fun h117 => ?_, fun h117 => ?_⟩
                  · refine gl_ce _ (gx_s_GM_clear _ h_2) ?_
                    intro r119 u120 h118 e121
                    refine gl_ce _ (gx_s_MD_clear _ h_17.1 h_17.2.1 h_17.2.2.1) ?_
                    intro r123 u124 h122 e125
                    have q126 := gs_cl_e e121 e125
                    exact ih _ _ _ _ _ _ _ _ _ _ _ _ _ _ _ _ _ _ _ _ ⟨h_1, h118, h_4, h_6, h_7, h_9, h_11, h_12, h_13, h_14, h_16, ⟨h_17.1, h122, h_17.2.2⟩, hTK, (gs_SK_0 q126.1 q126.2), hFK, hGK, (gs_MK_c e121 e125 _ _ _ _ rfl rfl)⟩ nx.1 nx.2.1 nx.2.2
                  · refine ⟨fun h127 => ?_, fun h127 => ?_⟩
                    · refine ⟨i1, ?_⟩
                      refine ⟨fun h128 => ?_, fun h128 => ?_⟩
                      · refine ⟨fun h129 => ?_, fun h129 => ?_⟩
                        · refine gl_ce _ (gx_s_LW_match_r _ _ h_13 h_2 h_14 h_16 h_6 h_4 (Or.inl rfl)) ?_
                          intro r131 u132 h130 e133
                          refine ⟨i1, ?_⟩
                          refine gl_ce _ (gz_match _ _ h_17) ?_
                          intro r135 u136 h134 e137
                          have q138 := gs_mr_e e133 e137 hGK hSK h_17 h129
                          refine gl_ce _ (gx_s_MD_thrown _ h_17.1 h_17.2.1 h134.2.2.1) ?_
                          intro r140 u141 h139 e142
                          refine ⟨fun h143 => ?_, fun h143 => ?_⟩
                          · refine ⟨fun h144 => ?_, fun h144 => ?_⟩
                            · refine ⟨(vp_in_iff.mpr (by decide)), ?_⟩
                              refine ⟨fun h145 => ?_, fun h145 => ?_⟩
                              · exact ih _ _ _ _ _ _ _ _ _ _ _ _ _ _ _ _ _ _ _ _ ⟨h_1, h_2, h_4, h_6, h_7, h_9, h_11, h_12, h130.1, h130.2.1, h130.2.2, ⟨h_17.1, h_17.2.1, h134.2.2.1, h_17.2.2.2⟩, hTK, hSK, hFK, hGK, q138.2.2.2⟩ nx.1 nx.2.1 nx.2.2
                              · exact absurd ((gp_cmp0 _ _).mpr q138.2.2.1) h145
                            · exact absurd q138.1 h144
                          · exact absurd ((show _ = _ from (congrArg Prod.fst e142)).trans (q138.2.1.trans q138.1.symm)) h143
                        · refine gl_ce _ (gx_s_LW_match_t _ _ h_13 h_2 h_14 h_16 h_6 h_4 (Or.inl rfl)) ?_
                          intro r147 u148 h146 e149
                          refine ⟨i1, ?_⟩
                          refine gl_ce _ (gz_match _ _ h_17) ?_
                          intro r151 u152 h150 e153
                          have q154 := gs_mt_e e149 e153 hGK hMK h129
                          refine gl_ce _ (gx_s_MD_thrown _ h_17.1 h_17.2.1 h150.2.2.1) ?_
                          intro r156 u157 h155 e158
                          refine ⟨fun h159 => ?_, fun h159 => ?_⟩
                          · refine ⟨fun h160 => ?_, fun h160 => ?_⟩
                            · exact absurd h160 q154.1
                            · exact ih _ _ _ _ _ _ _ _ _ _ _ _ _ _ _ _ _ _ _ _ ⟨h_1, h_2, h_4, h_6, h_7, h_9, h_11, h_12, h146.1, h146.2.1, h146.2.2, ⟨h_17.1, h_17.2.1, h150.2.2.1, h_17.2.2.2⟩, hTK, hSK, hFK, hGK, q154.2.2⟩ nx.1 nx.2.1 nx.2.2
                          · exact absurd ((show _ = _ from (congrArg Prod.fst e158)).trans q154.2.1) h159
                      · refine ⟨fun h161 => ?_, fun h161 => ?_⟩
                        · refine gl_ce _ (gx_s_LW_match_r _ _ h_13 h_2 h_14 h_16 h_6 h_4 (Or.inr rfl)) ?_
                          intro r163 u164 h162 e165
                          refine ⟨i1, ?_⟩
                          refine gl_ce _ (gz_match _ _ h_17) ?_
                          intro r167 u168 h166 e169
                          have q170 := gs_mr_e e165 e169 hGK hSK h_17 h161
                          refine gl_ce _ (gx_s_MD_thrown _ h_17.1 h_17.2.1 h166.2.2.1) ?_
                          intro r172 u173 h171 e174
                          refine ⟨fun h175 => ?_, fun h175 => ?_⟩
                          · refine ⟨fun h176 => ?_, fun h176 => ?_⟩
                            · refine ⟨(vp_in_iff.mpr (by decide)), ?_⟩
                              refine ⟨fun h177 => ?_, fun h177 => ?_⟩
                              · exact ih _ _ _ _ _ _ _ _ _ _ _ _ _ _ _ _ _ _ _ _ ⟨h_1, h_2, h_4, h_6, h_7, h_9, h_11, h_12, h162.1, h162.2.1, h162.2.2, ⟨h_17.1, h_17.2.1, h166.2.2.1, h_17.2.2.2⟩, hTK, hSK, hFK, hGK, q170.2.2.2⟩ nx.1 nx.2.1 nx.2.2
                              · exact absurd ((gp_cmp0 _ _).mpr q170.2.2.1) h177
                            · exact absurd q170.1 h176
                          · exact absurd ((show _ = _ from (congrArg Prod.fst e174)).trans (q170.2.1.trans q170.1.symm)) h175
                        · refine gl_ce _ (gx_s_LW_match_t _ _ h_13 h_2 h_14 h_16 h_6 h_4 (Or.inr rfl)) ?_
                          intro r179 u180 h178 e181
                          refine ⟨i1, ?_⟩
                          refine gl_ce _ (gz_match _ _ h_17) ?_
                          intro r183 u184 h182 e185
                          have q186 := gs_mt_e e181 e185 hGK hMK h161
                          refine gl_ce _ (gx_s_MD_thrown _ h_17.1 h_17.2.1 h182.2.2.1) ?_
                          intro r188 u189 h187 e190
                          refine ⟨fun h191 => ?_, fun h191 => ?_⟩
                          · refine ⟨fun h192 => ?_, fun h192 => ?_⟩
                            · exact absurd h192 q186.1
                            · exact ih _ _ _ _ _ _ _ _ _ _ _ _ _ _ _ _ _ _ _ _ ⟨h_1, h_2, h_4, h_6, h_7, h_9, h_11, h_12, h178.1, h178.2.1, h178.2.2, ⟨h_17.1, h_17.2.1, h182.2.2.1, h_17.2.2.2⟩, hTK, hSK, hFK, hGK, q186.2.2⟩ nx.1 nx.2.1 nx.2.2
                          · exact absurd ((show _ = _ from (congrArg Prod.fst e190)).trans q186.2.1) h191
                    · refine ⟨fun h193 => ?_, fun h193 => ?_⟩
                      · refine gl_ce _ (gx_s_GM_work _ h_13) ?_
                        intro r195 u196 h194 e197
                        refine gl_ce _ (gx_s_MD_work _ h_17.1 h_17.2.1 h_17.2.2.1) ?_
                        intro r199 u200 h198 e201
                        have q202 := gs_wk_e e197 e201 hMK
                        refine ⟨fun h203 => ?_, fun h203 => ?_⟩
                        · exact ih _ _ _ _ _ _ _ _ _ _ _ _ _ _ _ _ _ _ _ _ ⟨h_1, h_2, h_4, h_6, h_7, h_9, h_11, h_12, h_13, h_14, h_16, h_17, hTK, hSK, hFK, hGK, hMK⟩ nx.1 nx.2.1 nx.2.2
                        · exact absurd q202 h203
                      · refine ⟨fun h204 => ?_, fun h204 => ?_⟩
                        · refine gl_ce _ (gx_s_GM_nodes _ h_13 h_14) ?_
                          intro r206 u207 h205 e208
                          refine gl_ce _ (gx_s_MD_nodes _ h_17.1 h_17.2.1 h_17.2.2.1) ?_
                          intro r210 u211 h209 e212
                          have q213 := gs_ns_e e208 e212 hMK
                          refine ⟨fun h214 => ?_, fun h214 => ?_⟩
                          · exact ih _ _ _ _ _ _ _ _ _ _ _ _ _ _ _ _ _ _ _ _ ⟨h_1, h_2, h_4, h_6, h_7, h_9, h_11, h_12, h_13, h_14, h_16, h_17, hTK, hSK, hFK, hGK, hMK⟩ nx.1 nx.2.1 nx.2.2
                          · exact absurd q213 h214
                        · refine ⟨fun h215 => ?_, fun h215 => ?_⟩
                          · refine ⟨i1, ?_⟩
                            refine ⟨i2, ?_⟩
                            refine gl_ce _ (gx_s_LW_node _ _ _ h_13 h_14) ?_
                            intro r217 u218 h216 e219
                            refine ⟨i1, ?_⟩
                            refine ⟨i2, ?_⟩
                            refine gl_ce _ (gx_s_MD_node _ _ _ h_17.1 h_17.2.1 h_17.2.2.1) ?_
                            intro r221 u222 h220 e223
                            have q224 := gs_nd_e e219 e223 hMK
                            refine gl_ce _ (gx_s_MD_thrown _ h_17.1 h_17.2.1 h_17.2.2.1) ?_
                            intro r226 u227 h225 e228
                            refine ⟨fun h229 => ?_, fun h229 => ?_⟩
                            · refine ⟨fun h230 => ?_, fun h230 => ?_⟩
                              · refine ⟨(vp_in_iff.mpr (by decide)), ?_⟩
                                refine ⟨fun h231 => ?_, fun h231 => ?_⟩
                                · exact ih _ _ _ _ _ _ _ _ _ _ _ _ _ _ _ _ _ _ _ _ ⟨h_1, h_2, h_4, h_6, h_7, h_9, h_11, h_12, h_13, h_14, h_16, h_17, hTK, hSK, hFK, hGK, hMK⟩ nx.1 nx.2.1 nx.2.2
                                · exact absurd ((gp_cmp0 _ _).mpr (q224.2 h230)) h231
                              · exact ih _ _ _ _ _ _ _ _ _ _ _ _ _ _ _ _ _ _ _ _ ⟨h_1, h_2, h_4, h_6, h_7, h_9, h_11, h_12, h_13, h_14, h_16, h_17, hTK, hSK, hFK, hGK, hMK⟩ nx.1 nx.2.1 nx.2.2
                            · exact absurd ((show _ = _ from (congrArg Prod.fst e228)).trans q224.1) h229
                          · exact ih _ _ _ _ _ _ _ _ _ _ _ _ _ _ _ _ _ _ _ _ ⟨h_1, h_2, h_4, h_6, h_7, h_9, h_11, h_12, h_13, h_14, h_16, h_17, hTK, hSK, hFK, hGK, hMK⟩ nx.1 nx.2.1 nx.2.2
