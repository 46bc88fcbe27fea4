/-! The law: both sides answer alike. -/
theorem gl_ce {R S : Type} {x : R × S} {Pc : Prop} {P : R → S → Prop} (T : R × S → Prop) (hc : Pc ∧ T x) (h : ∀ r u, T (r, u) → (r, u) = x → P r u) : Pc ∧ gm_bd x P := ⟨hc.1, h x.1 x.2 hc.2 rfl⟩
def gl_I (s0 s1 s2 s4 s6 s7 s9 s11 s12 s13 s14 s16 s17 : gm_S) : Prop :=
  gm_iW 50 (s1.2.2 1) (s1.1 0) ∧ gm_iW 10 (s2.2.2 1) (s2.1 0) ∧ gm_iT (s4.2.2 11) (s4.2.2 12) (s4.2.2 13) (s4.1 2) (s4.1 3) (s4.1 4) (s4.1 5) (s4.1 10) ∧ gm_iN 200 (s6.2.2 5) ∧ gm_iN 75 (s7.2.2 3) ∧ gm_iT (s9.2.2 11) (s9.2.2 12) (s9.2.2 13) (s9.1 2) (s9.1 3) (s9.1 4) (s9.1 5) (s9.1 10) ∧ gm_iN 200 (s11.2.2 5) ∧ gm_iN 75 (s12.2.2 3) ∧ gm_iN 550 (s13.2.2 7) ∧ gm_iN 275 (s14.2.2 2) ∧ gm_iN 5720 (s16.2.2 2) ∧ gp_RI s17 ∧ gs_TK s1 s17 ∧ gs_SK s2 s17 ∧ s0.2.2 7 = s17.2.2 1 ∧ gs_GK s0 s4 s17
set_option maxHeartbeats 4000000 in
theorem gl_law (xs : Nat → Int32) (L : Nat) (hL : L ≤ 1536) : ∀ (n : Nat) (i : Int32) (s0 s1 s2 s3 s4 s5 s6 s7 s8 s9 s10 s11 s12 s13 s14 s15 s16 s17 s18 : gm_S), gl_I s0 s1 s2 s4 s6 s7 s9 s11 s12 s13 s14 s16 s17 → 0 ≤ i.toInt → i.toInt ≤ L → (L : Int) < i.toInt + 3 * n → gm_p_law xs L n i s0 s1 s2 s3 s4 s5 s6 s7 s8 s9 s10 s11 s12 s13 s14 s15 s16 s17 s18 := by
  have oL : (Int32.ofNat L).toInt = L := gx_on L (by omega)
  have l3 : ((Int32.ofNat L) - 3).toInt = L - 3 := by
    have := gx_sk (Int32.ofNat L) 3 3 (gx_lit 3 (by decide))
    omega
  intro n
  induction n with
  | zero =>
    intro i s0 s1 s2 s3 s4 s5 s6 s7 s8 s9 s10 s11 s12 s13 s14 s15 s16 s17 s18 _ h0 h1 h2
    exfalso
    omega
  | succ n ih =>
    intro i s0 s1 s2 s3 s4 s5 s6 s7 s8 s9 s10 s11 s12 s13 s14 s15 s16 s17 s18 hI h0 hi1 hi2
    obtain ⟨h_1, h_2, h_4, h_6, h_7, h_9, h_11, h_12, h_13, h_14, h_16, h_17, hTK, hSK, hFK, hGK⟩ := hI
    have a1 := gx_ak i 1 1 (by decide)
    have a2 := gx_ak i 2 2 (gx_lit 2 (by decide))
    have a3 := gx_ak i 3 3 (gx_lit 3 (by decide))
    rw [gm_p_law]
    refine ⟨fun _ => trivial, fun hi => ?_⟩
    have hi := gx_ltn hi
    rw [l3] at hi
    have i0 : vp_in i L := vp_in_iff.mpr (by omega)
    have i1 : vp_in (i + 1) L := vp_in_iff.mpr (by omega)
    have i2 : vp_in (i + 2) L := vp_in_iff.mpr (by omega)
    have nx : 0 ≤ (i + 3).toInt ∧ (i + 3).toInt ≤ L ∧ (L : Int) < (i + 3).toInt + 3 * n := by omega
    refine ⟨i0, ?_⟩
    refine ⟨fun h1 => ?_, fun h1 => ?_⟩
    · refine ⟨i1, ?_⟩
      refine gl_ce _ (gx_s_GM_type _ _ h_1) ?_
      intro r3 u4 h2 e5
      refine ⟨i1, ?_⟩
      refine gl_ce _ (gx_s_MD_type _ _ h_17.1 h_17.2.1 h_17.2.2.1) ?_
      intro r7 u8 h6 e9
      have q10 := gs_ty_e e5 e9 hTK h_17.1
      exact ih _ _ _ _ _ _ _ _ _ _ _ _ _ _ _ _ _ _ _ _ ⟨h2, h_2, h_4, h_6, h_7, h_9, h_11, h_12, h_13, h_14, h_16, ⟨h6.1, h_17.2⟩, q10.2, hSK, hFK, hGK⟩ nx.1 nx.2.1 nx.2.2
    · refine ⟨fun h11 => ?_, fun h11 => ?_⟩
      · refine gl_ce _ (gx_s_GM_wipe _ h_1) ?_
        intro r13 u14 h12 e15
        refine gl_ce _ (gx_s_MD_wipe _ h_17.1 h_17.2.1 h_17.2.2.1) ?_
        intro r17 u18 h16 e19
        have q20 := gs_wp_e e15 e19
        exact ih _ _ _ _ _ _ _ _ _ _ _ _ _ _ _ _ _ _ _ _ ⟨h12, h_2, h_4, h_6, h_7, h_9, h_11, h_12, h_13, h_14, h_16, ⟨h16, h_17.2⟩, (gs_TK_0 q20.1 q20.2), hSK, hFK, hGK⟩ nx.1 nx.2.1 nx.2.2
      · refine ⟨fun h21 => ?_, fun h21 => ?_⟩
        · refine ⟨fun h22 => ?_, fun h22 => ?_⟩
          · refine gl_ce _ (gx_s_LW_compile_r _ h_1 h_9 h_11 h_12) ?_
            intro r24 u25 h23 e26
            refine gl_ce _ (gz_compile _ h_17) ?_
            intro r28 u29 h27 e30
            have q31 := gs_cr_e e26 e30 hTK h_17 h_9 h_12 h_1 h22
            have g32 := gs_GK_r q31
            exact ih _ _ _ _ _ _ _ _ _ _ _ _ _ _ _ _ _ _ _ _ ⟨h_1, h_2, h23.1, h23.2.1, h23.2.2, h_4, h_6, h_7, h_13, h_14, h_16, ⟨h_17.1, h_17.2.1, h_17.2.2.1, h27.2.2.2.1, h27.2.2.2.2⟩, hTK, hSK, q31.2.2.2.2.2.1, g32⟩ nx.1 nx.2.1 nx.2.2
          · refine gl_ce _ (gx_s_LW_compile_t _ h_1 h_9 h_11 h_12) ?_
            intro r34 u35 h33 e36
            refine gl_ce _ (gz_compile _ h_17) ?_
            intro r38 u39 h37 e40
            have q41 := gs_ct_e e36 e40 hTK h_17 h_9 h_12 h_1 h22
            have g42 := gs_GK_t q41 hGK
            exact ih _ _ _ _ _ _ _ _ _ _ _ _ _ _ _ _ _ _ _ _ ⟨h_1, h_2, h_4, h_6, h_7, h33.1, h33.2.1, h33.2.2, h_13, h_14, h_16, ⟨h_17.1, h_17.2.1, h_17.2.2.1, h37.2.2.2.1, h37.2.2.2.2⟩, hTK, hSK, q41.2.2.2.2.1, g42⟩ nx.1 nx.2.1 nx.2.2
        · refine ⟨fun h43 => ?_, fun h43 => ?_⟩
          · refine gl_ce _ (gx_s_GM_fault _) ?_
            intro r45 u46 h44 e47
            refine gl_ce _ (gx_s_MD_fault _ h_17.1 h_17.2.1 h_17.2.2.1) ?_
            intro r49 u50 h48 e51
            have q52 := gs_ft_e e47 e51 hFK
            refine ⟨fun h53 => ?_, fun h53 => ?_⟩
            · exact ih _ _ _ _ _ _ _ _ _ _ _ _ _ _ _ _ _ _ _ _ ⟨h_1, h_2, h_4, h_6, h_7, h_9, h_11, h_12, h_13, h_14, h_16, h_17, hTK, hSK, hFK, hGK⟩ nx.1 nx.2.1 nx.2.2
            · exact absurd q52 h53
          · refine ⟨fun h54 => ?_, fun h54 => ?_⟩
            · refine ⟨i1, ?_⟩
              refine gl_ce _ (gx_s_LW_empty _ _ h_4) ?_
              intro r56 u57 h55 e58
              refine ⟨i1, ?_⟩
              refine gl_ce _ (gz_empty _ _ h_17) ?_
              intro r60 u61 h59 e62
              have q63 := gs_em_e e58 e62 hGK h_17.2.2.2.1
              exact ih _ _ _ _ _ _ _ _ _ _ _ _ _ _ _ _ _ _ _ _ ⟨h_1, h_2, h_4, h_6, h_7, h_9, h_11, h_12, h_13, h_14, h_16, h_17, hTK, hSK, hFK, hGK⟩ nx.1 nx.2.1 nx.2.2
            · refine ⟨fun h64 => ?_, fun h64 => ?_⟩
              · refine ⟨i1, ?_⟩
                refine ⟨i2, ?_⟩
                refine gl_ce _ (gx_s_LW_head _ _ _ h_4) ?_
                intro r66 u67 h65 e68
                refine ⟨i1, ?_⟩
                refine ⟨i2, ?_⟩
                refine gl_ce _ (gz_head _ _ _ h_17) ?_
                intro r70 u71 h69 e72
                have q73 := gs_hd_e e68 e72 hGK
                exact ih _ _ _ _ _ _ _ _ _ _ _ _ _ _ _ _ _ _ _ _ ⟨h_1, h_2, h_4, h_6, h_7, h_9, h_11, h_12, h_13, h_14, h_16, h_17, hTK, hSK, hFK, hGK⟩ nx.1 nx.2.1 nx.2.2
              · refine ⟨fun h74 => ?_, fun h74 => ?_⟩
                · refine ⟨i1, ?_⟩
                  refine gl_ce _ (gx_s_GM_feed _ _ h_2) ?_
                  intro r76 u77 h75 e78
                  refine ⟨i1, ?_⟩
                  refine gl_ce _ (gx_s_MD_feed _ _ h_17.1 h_17.2.1 h_17.2.2.1) ?_
                  intro r80 u81 h79 e82
                  have q83 := gs_fd_e e78 e82 hSK h_17.2.1
                  exact ih _ _ _ _ _ _ _ _ _ _ _ _ _ _ _ _ _ _ _ _ ⟨h_1, h75, h_4, h_6, h_7, h_9, h_11, h_12, h_13, h_14, h_16, ⟨h_17.1, h79.1, h_17.2.2⟩, hTK, q83.2, hFK, hGK⟩ nx.1 nx.2.1 nx.2.2
                · refine ⟨fun h84 => ?_, fun h84 => ?_⟩
                  · refine gl_ce _ (gx_s_GM_clear _ h_2) ?_
                    intro r86 u87 h85 e88
                    refine gl_ce _ (gx_s_MD_clear _ h_17.1 h_17.2.1 h_17.2.2.1) ?_
                    intro r90 u91 h89 e92
                    have q93 := gs_cl_e e88 e92
                    exact ih _ _ _ _ _ _ _ _ _ _ _ _ _ _ _ _ _ _ _ _ ⟨h_1, h85, h_4, h_6, h_7, h_9, h_11, h_12, h_13, h_14, h_16, ⟨h_17.1, h89, h_17.2.2⟩, hTK, (gs_SK_0 q93.1 q93.2), hFK, hGK⟩ nx.1 nx.2.1 nx.2.2
                  · refine ⟨fun h94 => ?_, fun h94 => ?_⟩
                    · refine ⟨i1, ?_⟩
                      refine ⟨fun h95 => ?_, fun h95 => ?_⟩
                      · refine ⟨fun h96 => ?_, fun h96 => ?_⟩
                        · refine gl_ce _ (gx_s_LW_match_r _ _ h_13 h_2 h_14 h_16 h_6 h_4 (Or.inl rfl)) ?_
                          intro r98 u99 h97 e100
                          refine ⟨i1, ?_⟩
                          refine gl_ce _ (gz_match _ _ h_17) ?_
                          intro r102 u103 h101 e104
                          exact ih _ _ _ _ _ _ _ _ _ _ _ _ _ _ _ _ _ _ _ _ ⟨h_1, h_2, h_4, h_6, h_7, h_9, h_11, h_12, h97.1, h97.2.1, h97.2.2, ⟨h_17.1, h_17.2.1, h101.2.2.1, h_17.2.2.2⟩, hTK, hSK, hFK, hGK⟩ nx.1 nx.2.1 nx.2.2
                        · refine gl_ce _ (gx_s_LW_match_t _ _ h_13 h_2 h_14 h_16 h_6 h_4 (Or.inl rfl)) ?_
                          intro r107 u108 h106 e109
                          refine ⟨i1, ?_⟩
                          refine gl_ce _ (gz_match _ _ h_17) ?_
                          intro r111 u112 h110 e113
                          exact ih _ _ _ _ _ _ _ _ _ _ _ _ _ _ _ _ _ _ _ _ ⟨h_1, h_2, h_4, h_6, h_7, h_9, h_11, h_12, h106.1, h106.2.1, h106.2.2, ⟨h_17.1, h_17.2.1, h110.2.2.1, h_17.2.2.2⟩, hTK, hSK, hFK, hGK⟩ nx.1 nx.2.1 nx.2.2
                      · refine ⟨fun h115 => ?_, fun h115 => ?_⟩
                        · refine gl_ce _ (gx_s_LW_match_r _ _ h_13 h_2 h_14 h_16 h_6 h_4 (Or.inr rfl)) ?_
                          intro r117 u118 h116 e119
                          refine ⟨i1, ?_⟩
                          refine gl_ce _ (gz_match _ _ h_17) ?_
                          intro r121 u122 h120 e123
                          exact ih _ _ _ _ _ _ _ _ _ _ _ _ _ _ _ _ _ _ _ _ ⟨h_1, h_2, h_4, h_6, h_7, h_9, h_11, h_12, h116.1, h116.2.1, h116.2.2, ⟨h_17.1, h_17.2.1, h120.2.2.1, h_17.2.2.2⟩, hTK, hSK, hFK, hGK⟩ nx.1 nx.2.1 nx.2.2
                        · refine gl_ce _ (gx_s_LW_match_t _ _ h_13 h_2 h_14 h_16 h_6 h_4 (Or.inr rfl)) ?_
                          intro r126 u127 h125 e128
                          refine ⟨i1, ?_⟩
                          refine gl_ce _ (gz_match _ _ h_17) ?_
                          intro r130 u131 h129 e132
                          exact ih _ _ _ _ _ _ _ _ _ _ _ _ _ _ _ _ _ _ _ _ ⟨h_1, h_2, h_4, h_6, h_7, h_9, h_11, h_12, h125.1, h125.2.1, h125.2.2, ⟨h_17.1, h_17.2.1, h129.2.2.1, h_17.2.2.2⟩, hTK, hSK, hFK, hGK⟩ nx.1 nx.2.1 nx.2.2
                    · refine ⟨fun h134 => ?_, fun h134 => ?_⟩
                      · refine gl_ce _ (gx_s_GM_work _ h_13) ?_
                        intro r136 u137 h135 e138
                        refine gl_ce _ (gx_s_MD_work _ h_17.1 h_17.2.1 h_17.2.2.1) ?_
                        intro r140 u141 h139 e142
                        exact ih _ _ _ _ _ _ _ _ _ _ _ _ _ _ _ _ _ _ _ _ ⟨h_1, h_2, h_4, h_6, h_7, h_9, h_11, h_12, h_13, h_14, h_16, h_17, hTK, hSK, hFK, hGK⟩ nx.1 nx.2.1 nx.2.2
                      · refine ⟨fun h144 => ?_, fun h144 => ?_⟩
                        · refine gl_ce _ (gx_s_GM_nodes _ h_13 h_14) ?_
                          intro r146 u147 h145 e148
                          refine gl_ce _ (gx_s_MD_nodes _ h_17.1 h_17.2.1 h_17.2.2.1) ?_
                          intro r150 u151 h149 e152
                          exact ih _ _ _ _ _ _ _ _ _ _ _ _ _ _ _ _ _ _ _ _ ⟨h_1, h_2, h_4, h_6, h_7, h_9, h_11, h_12, h_13, h_14, h_16, h_17, hTK, hSK, hFK, hGK⟩ nx.1 nx.2.1 nx.2.2
                        · refine ⟨fun h154 => ?_, fun h154 => ?_⟩
                          · refine ⟨i1, ?_⟩
                            refine ⟨i2, ?_⟩
                            refine gl_ce _ (gx_s_LW_node _ _ _ h_13 h_14) ?_
                            intro r156 u157 h155 e158
                            refine ⟨i1, ?_⟩
                            refine ⟨i2, ?_⟩
                            refine gl_ce _ (gx_s_MD_node _ _ _ h_17.1 h_17.2.1 h_17.2.2.1) ?_
                            intro r160 u161 h159 e162
                            exact ih _ _ _ _ _ _ _ _ _ _ _ _ _ _ _ _ _ _ _ _ ⟨h_1, h_2, h_4, h_6, h_7, h_9, h_11, h_12, h_13, h_14, h_16, h_17, hTK, hSK, hFK, hGK⟩ nx.1 nx.2.1 nx.2.2
                          · exact ih _ _ _ _ _ _ _ _ _ _ _ _ _ _ _ _ _ _ _ _ ⟨h_1, h_2, h_4, h_6, h_7, h_9, h_11, h_12, h_13, h_14, h_16, h_17, hTK, hSK, hFK, hGK⟩ nx.1 nx.2.1 nx.2.2
