/-! The law: both sides answer alike. -/
theorem gl_ce {R S : Type} {x : R × S} {Pc : Prop} {P : R → S → Prop} (T : R × S → Prop) (hc : Pc ∧ T x) (h : ∀ r u, T (r, u) → (r, u) = x → P r u) : Pc ∧ gm_bd x P := ⟨hc.1, h x.1 x.2 hc.2 rfl⟩
def gl_I (s0 s1 s2 s4 s6 s7 s9 s11 s12 s13 s14 s16 s17 : gm_S) : Prop :=
  gm_iW 50 (s1.2.2 1) (s1.1 0) ∧ gm_iW 10 (s2.2.2 1) (s2.1 0) ∧ gm_iT (s4.2.2 11) (s4.2.2 12) (s4.2.2 13) (s4.1 2) (s4.1 3) (s4.1 4) (s4.1 5) (s4.1 10) ∧ gm_iN 200 (s6.2.2 5) ∧ gm_iN 75 (s7.2.2 3) ∧ gm_iT (s9.2.2 11) (s9.2.2 12) (s9.2.2 13) (s9.1 2) (s9.1 3) (s9.1 4) (s9.1 5) (s9.1 10) ∧ gm_iN 200 (s11.2.2 5) ∧ gm_iN 75 (s12.2.2 3) ∧ gm_iN 550 (s13.2.2 7) ∧ gm_iN 275 (s14.2.2 2) ∧ gm_iN 5720 (s16.2.2 2) ∧ gp_RI s17 ∧ gs_TK s1 s17 ∧ gs_SK s2 s17 ∧ s0.2.2 7 = s17.2.2 1 ∧ gs_GK s0 s4 s17
set_option maxHeartbeats 4000000 in
theorem gl_law (xs : Nat → Int32) (L : Nat) (hL : L ≤ 1536) : ∀ (n : Nat) (i : Int32) (s0 s1 s2 s3 s4 s5 s6 s7 s8 s9 s10 s11 s12 s13 s14 s15 s16 s17 s18 : gm_S), gl_I s0 s1 s2 s4 s6 s7 s9 s11 s12 s13 s14 s16 s17 → 0 ≤ i.toInt → i.toInt ≤ L → (L : Int) < i.toInt + 3 * n → gm_p_law xs L n i s0 s1 s2 s3 s4 s5 s6 s7 s8 s9 s10 s11 s12 s13 s14 s15 s16 s17 s18 := by
  have oL : (Int32.ofNat L).toInt = L := gx_on L (by omega)
  have l3 : ((Int32.ofNat L) - 3).toInt = L - 3 := by
    have := gx_sk (Int32.ofNat L) 3 3 (gx_lit 3 (by decide))
    omega
  intro n
  induction n with
  | zero =>
    intro i s0 s1 s2 s3 s4 s5 s6 s7 s8 s9 s10 s11 s12 s13 s14 s15 s16 s17 s18 _ h0 h1 h2
    exfalso
    omega
  | succ n ih =>
    intro i s0 s1 s2 s3 s4 s5 s6 s7 s8 s9 s10 s11 s12 s13 s14 s15 s16 s17 s18 hI h0 hi1 hi2
    obtain ⟨h_1, h_2, h_4, h_6, h_7, h_9, h_11, h_12, h_13, h_14, h_16, h_17, hTK, hSK, hFK, hGK⟩ := hI
    have a1 := gx_ak i 1 1 (by decide)
    have a2 := gx_ak i 2 2 (gx_lit 2 (by decide))
    have a3 := gx_ak i 3 3 (gx_lit 3 (by decide))
    rw [gm_p_law]
    refine ⟨fun _ => trivial, fun hi => ?_⟩
    have hi := gx_ltn hi
    rw [l3] at hi
    have i0 : vp_in i L := vp_in_iff.mpr (by omega)
    have i1 : vp_in (i + 1) L := vp_in_iff.mpr (by omega)
    have i2 : vp_in (i + 2) L := vp_in_iff.mpr (by omega)
    have nx : 0 ≤ (i + 3).toInt ∧ (i + 3).toInt ≤ L ∧ (L : Int) < (i + 3).toInt + 3 * n := by omega
    refine ⟨i0, ?_⟩
    refine ⟨fun h1 => ?_, fun h1 => ?_⟩
    · refine ⟨i1, ?_⟩
      refine gl_ce _ (gx_s_GM_type _ _ h_1) ?_
      intro r3 u4 h2 e5
      refine ⟨i1, ?_⟩
      refine gl_ce _ (gx_s_MD_type _ _ h_17.1 h_17.2.1 h_17.2.2.1) ?_
      intro r7 u8 h6 e9
      have q10 := gs_ty_e e5 e9 hTK h_17.1
      exact ih _ _ _ _ _ _ _ _ _ _ _ _ _ _ _ _ _ _ _ _ ⟨h2, h_2, h_4, h_6, h_7, h_9, h_11, h_12, h_13, h_14, h_16, ⟨h6.1, h_17.2⟩, q10.2, hSK, hFK, hGK⟩ nx.1 nx.2.1 nx.2.2
    · refine ⟨fun h11 => ?_, fun h11 => ?_⟩
      · refine gl_ce _ (gx_s_GM_wipe _ h_1) ?_
        intro r13 u14 h12 e15
        refine gl_ce _ (gx_s_MD_wipe _ h_17.1 h_17.2.1 h_17.2.2.1) ?_
        intro r17 u18 h16 e19
        have q20 := gs_wp_e e15 e19
        exact ih _ _ _ _ _ _ _ _ _ _ _ _ _ _ _ _ _ _ _ _ ⟨h12, h_2, h_4, h_6, h_7, h_9, h_11, h_12, h_13, h_14, h_16, ⟨h16, h_17.2⟩, (gs_TK_0 q20.1 q20.2), hSK, hFK, hGK⟩ nx.1 nx.2.1 nx.2.2
      · refine ⟨fun h21 => ?_, fun h21 => ?_⟩
        · refine ⟨fun h22 => ?_, fun h22 => ?_⟩
          · refine gl_ce _ (gx_s_LW_compile_r _ h_1 h_9 h_11 h_12) ?_
            intro r24 u25 h23 e26
            refine gl_ce _ (gz_compile _ h_17) ?_
            intro r28 u29 h27 e30
            have q31 := gs_cr_e e26 e30 hTK h_17 h_9 h_12 h_1 h22
            have g32 := gs_GK_r q31
            exact ih _ _ _ _ _ _ _ _ _ _ _ _ _ _ _ _ _ _ _ _ ⟨h_1, h_2, h23.1, h23.2.1, h23.2.2, h_4, h_6, h_7, h_13, h_14, h_16, ⟨h_17.1, h_17.2.1, h_17.2.2.1, h27.2.2.2.1, h27.2.2.2.2⟩, hTK, hSK, q31.2.2.2.2.2.1, g32⟩ nx.1 nx.2.1 nx.2.2
          · refine gl_ce _ (gx_s_LW_compile_t _ h_1 h_9 h_11 h_12) ?_
            intro r34 u35 h33 e36
            refine gl_ce _ (gz_compile _ h_17) ?_
            intro r38 u39 h37 e40
            have q41 := gs_ct_e e36 e40 hTK h_17 h_9 h_12 h_1 h22
            have g42 := gs_GK_t q41 hGK
            exact ih _ _ _ _ _ _ _ _ _ _ _ _ _ _ _ _ _ _ _ _ ⟨h_1, h_2, h_4, h_6, h_7, h33.1, h33.2.1, h33.2.2, h_13, h_14, h_16, ⟨h_17.1, h_17.2.1, h_17.2.2.1, h37.2.2.2.1, h37.2.2.2.2⟩, hTK, hSK, q41.2.2.2.2.1, g42⟩ nx.1 nx.2.1 nx.2.2
        · refine ⟨fun h43 => ?_, fun h43 => ?_⟩
          · refine gl_ce _ (gx_s_GM_fault _) ?_
            intro r45 u46 h44 e47
            refine gl_ce _ (gx_s_MD_fault _ h_17.1 h_17.2.1 h_17.2.2.1) ?_
            intro r49 u50 h48 e51
            have q52 := gs_ft_e e47 e51 hFK
            exact ih _ _ _ _ _ _ _ _ _ _ _ _ _ _ _ _ _ _ _ _ ⟨h_1, h_2, h_4, h_6, h_7, h_9, h_11, h_12, h_13, h_14, h_16, h_17, hTK, hSK, hFK, hGK⟩ nx.1 nx.2.1 nx.2.2
          · refine ⟨fun h53 => ?_, fun h53 => ?_⟩
            · refine ⟨i1, ?_⟩
              refine gl_ce _ (gx_s_LW_empty _ _ h_4) ?_
              intro r55 u56 h54 e57
              refine ⟨i1, ?_⟩
              refine gl_ce _ (gz_empty _ _ h_17) ?_
              intro r59 u60 h58 e61
              have q62 := gs_em_e e57 e61 hGK h_17.2.2.2.1
              exact ih _ _ _ _ _ _ _ _ _ _ _ _ _ _ _ _ _ _ _ _ ⟨h_1, h_2, h_4, h_6, h_7, h_9, h_11, h_12, h_13, h_14, h_16, h_17, hTK, hSK, hFK, hGK⟩ nx.1 nx.2.1 nx.2.2
            · refine ⟨fun h63 => ?_, fun h63 => ?_⟩
              · refine ⟨i1, ?_⟩
                refine ⟨i2, ?_⟩
                refine gl_ce _ (gx_s_LW_head _ _ _ h_4) ?_
                intro r65 u66 h64 e67
                refine ⟨i1, ?_⟩
                refine ⟨i2, ?_⟩
                refine gl_ce _ (gz_head _ _ _ h_17) ?_
                intro r69 u70 h68 e71
                have q72 := gs_hd_e e67 e71 hGK
                refine gl_ce _ (gx_s_MD_thrown _ h_17.1 h_17.2.1 h_17.2.2.1) ?_
                intro r74 u75 h73 e76
                refine ⟨fun h77 => ?_, fun h77 => ?_⟩
                · refine ⟨fun h78 => ?_, fun h78 => ?_⟩
                  · refine ⟨(vp_in_iff.mpr (by decide)), ?_⟩
                    refine ⟨fun h79 => ?_, fun h79 => ?_⟩
                    · refine ⟨fun h80 => ?_, fun h80 => ?_⟩
                      · exact ih _ _ _ _ _ _ _ _ _ _ _ _ _ _ _ _ _ _ _ _ ⟨h_1, h_2, h_4, h_6, h_7, h_9, h_11, h_12, h_13, h_14, h_16, h_17, hTK, hSK, hFK, hGK⟩ nx.1 nx.2.1 nx.2.2
                      · exact absurd ((gp_cmp0 _ _).mpr ((q72.2 h78).1 h79)) h80
                    · refine ⟨fun h81 => ?_, fun h81 => ?_⟩
                      · exact ih _ _ _ _ _ _ _ _ _ _ _ _ _ _ _ _ _ _ _ _ ⟨h_1, h_2, h_4, h_6, h_7, h_9, h_11, h_12, h_13, h_14, h_16, h_17, hTK, hSK, hFK, hGK⟩ nx.1 nx.2.1 nx.2.2
                      · exact absurd ((gp_cmp0 _ _).mpr ((q72.2 h78).2 h79)) h81
                  · exact ih _ _ _ _ _ _ _ _ _ _ _ _ _ _ _ _ _ _ _ _ ⟨h_1, h_2, h_4, h_6, h_7, h_9, h_11, h_12, h_13, h_14, h_16, h_17, hTK, hSK, hFK, hGK⟩ nx.1 nx.2.1 nx.2.2
                · exact absurd ((show _ = _ from (congrArg Prod.fst e76)).trans q72.1) h77
              · refine ⟨fun h82 => ?_, fun h82 => ?_⟩
                · refine ⟨i1, ?_⟩
                  refine gl_ce _ (gx_s_GM_feed _ _ h_2) ?_
                  intro r84 u85 h83 e86
                  refine ⟨i1, ?_⟩
                  refine gl_ce _ (gx_s_MD_feed _ _ h_17.1 h_17.2.1 h_17.2.2.1) ?_
                  intro r88 u89 h87 e90
                  have q91 := gs_fd_e e86 e90 hSK h_17.2.1
                  exact ih _ _ _ _ _ _ _ _ _ _ _ _ _ _ _ _ _ _ _ _ ⟨h_1, h83, h_4, h_6, h_7, h_9, h_11, h_12, h_13, h_14, h_16, ⟨h_17.1, h87.1, h_17.2.2⟩, hTK, q91.2, hFK, hGK⟩ nx.1 nx.2.1 nx.2.2
                · refine ⟨fun h92 => ?_, fun h92 => ?_⟩
                  · refine gl_ce _ (gx_s_GM_clear _ h_2) ?_
                    intro r94 u95 h93 e96
                    refine gl_ce _ (gx_s_MD_clear _ h_17.1 h_17.2.1 h_17.2.2.1) ?_
                    intro r98 u99 h97 e100
                    have q101 := gs_cl_e e96 e100
                    exact ih _ _ _ _ _ _ _ _ _ _ _ _ _ _ _ _ _ _ _ _ ⟨h_1, h93, h_4, h_6, h_7, h_9, h_11, h_12, h_13, h_14, h_16, ⟨h_17.1, h97, h_17.2.2⟩, hTK, (gs_SK_0 q101.1 q101.2), hFK, hGK⟩ nx.1 nx.2.1 nx.2.2
                  · refine ⟨fun h102 => ?_, fun h102 => ?_⟩
                    · refine ⟨i1, ?_⟩
                      refine ⟨fun h103 => ?_, fun h103 => ?_⟩
                      · refine ⟨fun h104 => ?_, fun h104 => ?_⟩
                        · refine gl_ce _ (gx_s_LW_match_r _ _ h_13 h_2 h_14 h_16 h_6 h_4 (Or.inl rfl)) ?_
                          intro r106 u107 h105 e108
                          refine ⟨i1, ?_⟩
                          refine gl_ce _ (gz_match _ _ h_17) ?_
                          intro r110 u111 h109 e112
                          exact ih _ _ _ _ _ _ _ _ _ _ _ _ _ _ _ _ _ _ _ _ ⟨h_1, h_2, h_4, h_6, h_7, h_9, h_11, h_12, h105.1, h105.2.1, h105.2.2, ⟨h_17.1, h_17.2.1, h109.2.2.1, h_17.2.2.2⟩, hTK, hSK, hFK, hGK⟩ nx.1 nx.2.1 nx.2.2
                        · refine gl_ce _ (gx_s_LW_match_t _ _ h_13 h_2 h_14 h_16 h_6 h_4 (Or.inl rfl)) ?_
                          intro r115 u116 h114 e117
                          refine ⟨i1, ?_⟩
                          refine gl_ce _ (gz_match _ _ h_17) ?_
                          intro r119 u120 h118 e121
                          exact ih _ _ _ _ _ _ _ _ _ _ _ _ _ _ _ _ _ _ _ _ ⟨h_1, h_2, h_4, h_6, h_7, h_9, h_11, h_12, h114.1, h114.2.1, h114.2.2, ⟨h_17.1, h_17.2.1, h118.2.2.1, h_17.2.2.2⟩, hTK, hSK, hFK, hGK⟩ nx.1 nx.2.1 nx.2.2
                      · refine ⟨fun h123 => ?_, fun h123 => ?_⟩
                        · refine gl_ce _ (gx_s_LW_match_r _ _ h_13 h_2 h_14 h_16 h_6 h_4 (Or.inr rfl)) ?_
                          intro r125 u126 h124 e127
                          refine ⟨i1, ?_⟩
                          refine gl_ce _ (gz_match _ _ h_17) ?_
                          intro r129 u130 h128 e131
                          exact ih _ _ _ _ _ _ _ _ _ _ _ _ _ _ _ _ _ _ _ _ ⟨h_1, h_2, h_4, h_6, h_7, h_9, h_11, h_12, h124.1, h124.2.1, h124.2.2, ⟨h_17.1, h_17.2.1, h128.2.2.1, h_17.2.2.2⟩, hTK, hSK, hFK, hGK⟩ nx.1 nx.2.1 nx.2.2
                        · refine gl_ce _ (gx_s_LW_match_t _ _ h_13 h_2 h_14 h_16 h_6 h_4 (Or.inr rfl)) ?_
                          intro r134 u135 h133 e136
                          refine ⟨i1, ?_⟩
                          refine gl_ce _ (gz_match _ _ h_17) ?_
                          intro r138 u139 h137 e140
                          exact ih _ _ _ _ _ _ _ _ _ _ _ _ _ _ _ _ _ _ _ _ ⟨h_1, h_2, h_4, h_6, h_7, h_9, h_11, h_12, h133.1, h133.2.1, h133.2.2, ⟨h_17.1, h_17.2.1, h137.2.2.1, h_17.2.2.2⟩, hTK, hSK, hFK, hGK⟩ nx.1 nx.2.1 nx.2.2
                    · refine ⟨fun h142 => ?_, fun h142 => ?_⟩
                      · refine gl_ce _ (gx_s_GM_work _ h_13) ?_
                        intro r144 u145 h143 e146
                        refine gl_ce _ (gx_s_MD_work _ h_17.1 h_17.2.1 h_17.2.2.1) ?_
                        intro r148 u149 h147 e150
                        exact ih _ _ _ _ _ _ _ _ _ _ _ _ _ _ _ _ _ _ _ _ ⟨h_1, h_2, h_4, h_6, h_7, h_9, h_11, h_12, h_13, h_14, h_16, h_17, hTK, hSK, hFK, hGK⟩ nx.1 nx.2.1 nx.2.2
                      · refine ⟨fun h152 => ?_, fun h152 => ?_⟩
                        · refine gl_ce _ (gx_s_GM_nodes _ h_13 h_14) ?_
                          intro r154 u155 h153 e156
                          refine gl_ce _ (gx_s_MD_nodes _ h_17.1 h_17.2.1 h_17.2.2.1) ?_
                          intro r158 u159 h157 e160
                          exact ih _ _ _ _ _ _ _ _ _ _ _ _ _ _ _ _ _ _ _ _ ⟨h_1, h_2, h_4, h_6, h_7, h_9, h_11, h_12, h_13, h_14, h_16, h_17, hTK, hSK, hFK, hGK⟩ nx.1 nx.2.1 nx.2.2
                        · refine ⟨fun h162 => ?_, fun h162 => ?_⟩
                          · refine ⟨i1, ?_⟩
                            refine ⟨i2, ?_⟩
                            refine gl_ce _ (gx_s_LW_node _ _ _ h_13 h_14) ?_
                            intro r164 u165 h163 e166
                            refine ⟨i1, ?_⟩
                            refine ⟨i2, ?_⟩
                            refine gl_ce _ (gx_s_MD_node _ _ _ h_17.1 h_17.2.1 h_17.2.2.1) ?_
                            intro r168 u169 h167 e170
                            exact ih _ _ _ _ _ _ _ _ _ _ _ _ _ _ _ _ _ _ _ _ ⟨h_1, h_2, h_4, h_6, h_7, h_9, h_11, h_12, h_13, h_14, h_16, h_17, hTK, hSK, hFK, hGK⟩ nx.1 nx.2.1 nx.2.2
                          · exact ih _ _ _ _ _ _ _ _ _ _ _ _ _ _ _ _ _ _ _ _ ⟨h_1, h_2, h_4, h_6, h_7, h_9, h_11, h_12, h_13, h_14, h_16, h_17, hTK, hSK, hFK, hGK⟩ nx.1 nx.2.1 nx.2.2
