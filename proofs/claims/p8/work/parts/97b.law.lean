/-! The law is safe: calls that are not compared, and those that are. -/
theorem gl_ce {R S : Type} {x : R × S} {Pc : Prop} {P : R → S → Prop} (T : R × S → Prop) (hc : Pc ∧ T x) (h : ∀ r u, T (r, u) → (r, u) = x → P r u) : Pc ∧ gm_bd x P := ⟨hc.1, h x.1 x.2 hc.2 rfl⟩
theorem gp_fd_g (x : Int32) (a s : gm_S) : (gm_f_GM_feed x (a, s)).1 = (gm_f_Row_append 10 x s).1 ∧ (gm_f_GM_feed x (a, s)).2.2.2.2 1 = (gm_f_Row_append 10 x s).2.2.2 1 := by
  unfold gm_f_GM_feed
  show (if (gm_f_Row_append 10 x s).1 = 0 then _ else _ : Int32 × gm_S × gm_S).1 = _ ∧ (if (gm_f_Row_append 10 x s).1 = 0 then _ else _ : Int32 × gm_S × gm_S).2.2.2.2 1 = _
  by_cases q : (gm_f_Row_append 10 x s).1 = 0
  · rw [if_pos q]; exact ⟨rfl, rfl⟩
  · rw [if_neg q]; exact ⟨rfl, rfl⟩
theorem gp_ty_e {A r r' : Int32} {u : gm_S × gm_S} {u' s0 s t : gm_S} (e : (r, u) = gm_f_GM_type A (s0, s)) (e' : (r', u') = gm_f_MD_type A t) (h : s.2.2 1 = t.2.2 2) (hW : gm_iW 50 (t.2.2 2) (t.1 3)) : r = r' ∧ u.2.2.2 1 = u'.2.2 2 := by
  have q := gp_ty_eq A s t h hW
  have a1 : r = (gm_f_Row_append 50 A s).1 := congrArg Prod.fst e
  have a2 : u.2.2.2 1 = (gm_f_Row_append 50 A s).2.2.2 1 := congrArg (fun z : Int32 × gm_S × gm_S => z.2.2.2.2 1) e
  have b1 : r' = (gm_f_MD_type A t).1 := congrArg Prod.fst e'
  have b2 : u'.2.2 2 = (gm_f_MD_type A t).2.2.2 2 := congrArg (fun z : Int32 × gm_S => z.2.2.2 2) e'
  exact ⟨a1.trans (q.1.trans b1.symm), a2.trans (q.2.trans b2.symm)⟩
theorem gp_fd_e {A r r' : Int32} {u : gm_S × gm_S} {u' s0 s t : gm_S} (e : (r, u) = gm_f_GM_feed A (s0, s)) (e' : (r', u') = gm_f_MD_feed A t) (h : s.2.2 1 = t.2.2 32) (hW : gm_iW 10 (t.2.2 32) (t.1 33)) : r = r' ∧ u.2.2.2 1 = u'.2.2 32 := by
  have q := gp_fd_eq A s t h hW
  have g := gp_fd_g A s0 s
  have a1 : r = (gm_f_GM_feed A (s0, s)).1 := congrArg Prod.fst e
  have a2 : u.2.2.2 1 = (gm_f_GM_feed A (s0, s)).2.2.2.2 1 := congrArg (fun z : Int32 × gm_S × gm_S => z.2.2.2.2 1) e
  have b1 : r' = (gm_f_MD_feed A t).1 := congrArg Prod.fst e'
  have b2 : u'.2.2 32 = (gm_f_MD_feed A t).2.2.2 32 := congrArg (fun z : Int32 × gm_S => z.2.2.2 32) e'
  exact ⟨(a1.trans g.1).trans (q.1.trans b1.symm), (a2.trans g.2).trans (q.2.trans b2.symm)⟩
def gp_LI (s1 s2 s4 s6 s7 s9 s11 s12 s13 s14 s16 s17 : gm_S) : Prop :=
  gm_iW 50 (s1.2.2 1) (s1.1 0) ∧ gm_iW 10 (s2.2.2 1) (s2.1 0) ∧ gm_iT (s4.2.2 11) (s4.2.2 12) (s4.2.2 13) (s4.1 2) (s4.1 3) (s4.1 4) (s4.1 5) (s4.1 10) ∧ gm_iN 200 (s6.2.2 5) ∧ gm_iN 75 (s7.2.2 3) ∧ gm_iT (s9.2.2 11) (s9.2.2 12) (s9.2.2 13) (s9.1 2) (s9.1 3) (s9.1 4) (s9.1 5) (s9.1 10) ∧ gm_iN 200 (s11.2.2 5) ∧ gm_iN 75 (s12.2.2 3) ∧ gm_iN 550 (s13.2.2 7) ∧ gm_iN 275 (s14.2.2 2) ∧ gm_iN 5720 (s16.2.2 2) ∧ gp_RI s17 ∧ s1.2.2 1 = s17.2.2 2 ∧ s2.2.2 1 = s17.2.2 32
set_option maxHeartbeats 4000000 in
theorem gp_law_safe (xs : Nat → Int32) (L : Nat) (hL : L ≤ 1536) : ∀ (n : Nat) (i : Int32) (s0 s1 s2 s3 s4 s5 s6 s7 s8 s9 s10 s11 s12 s13 s14 s15 s16 s17 s18 : gm_S), gp_LI s1 s2 s4 s6 s7 s9 s11 s12 s13 s14 s16 s17 → 0 ≤ i.toInt → i.toInt ≤ L → (L : Int) < i.toInt + 3 * n → gm_p_law xs L n i s0 s1 s2 s3 s4 s5 s6 s7 s8 s9 s10 s11 s12 s13 s14 s15 s16 s17 s18 := by
  have oL : (Int32.ofNat L).toInt = L := gx_on L (by omega)
  have l3 : ((Int32.ofNat L) - 3).toInt = L - 3 := by
    have := gx_sk (Int32.ofNat L) 3 3 (gx_lit 3 (by decide))
    omega
  intro n
  induction n with
  | zero =>
    intro i s0 s1 s2 s3 s4 s5 s6 s7 s8 s9 s10 s11 s12 s13 s14 s15 s16 s17 s18 _ h0 h1 h2
    exfalso
    omega
  | succ n ih =>
    intro i s0 s1 s2 s3 s4 s5 s6 s7 s8 s9 s10 s11 s12 s13 s14 s15 s16 s17 s18 hI h0 hi1 hi2
    obtain ⟨h_1, h_2, h_4, h_6, h_7, h_9, h_11, h_12, h_13, h_14, h_16, h_17, hE1, hE2⟩ := hI
    have a1 := gx_ak i 1 1 (by decide)
    have a2 := gx_ak i 2 2 (gx_lit 2 (by decide))
    have a3 := gx_ak i 3 3 (gx_lit 3 (by decide))
    rw [gm_p_law]
    refine ⟨fun _ => trivial, fun hi => ?_⟩
    have hi := gx_ltn hi
    rw [l3] at hi
    have i0 : vp_in i L := vp_in_iff.mpr (by omega)
    have i1 : vp_in (i + 1) L := vp_in_iff.mpr (by omega)
    have i2 : vp_in (i + 2) L := vp_in_iff.mpr (by omega)
    have nx : 0 ≤ (i + 3).toInt ∧ (i + 3).toInt ≤ L ∧ (L : Int) < (i + 3).toInt + 3 * n := by omega
    refine ⟨i0, ?_⟩
    refine ⟨fun h1 => ?_, fun h1 => ?_⟩
    · refine ⟨i1, ?_⟩
      refine gl_ce _ (gx_s_GM_type _ _ h_1) ?_
      intro r3 u4 h2 e5
      refine ⟨i1, ?_⟩
      refine gl_ce _ (gx_s_MD_type _ _ h_17.1 h_17.2.1 h_17.2.2.1) ?_
      intro r7 u8 h6 e9
      have q10 := gp_ty_e e5 e9 hE1 h_17.1
      exact ih _ _ _ _ _ _ _ _ _ _ _ _ _ _ _ _ _ _ _ _ ⟨h2, h_2, h_4, h_6, h_7, h_9, h_11, h_12, h_13, h_14, h_16, ⟨h6.1, h_17.2⟩, q10.2, hE2⟩ nx.1 nx.2.1 nx.2.2
    · refine ⟨fun h11 => ?_, fun h11 => ?_⟩
      · refine gl_ce _ (gx_s_GM_wipe _ h_1) ?_
        intro r13 u14 h12 e15
        refine gl_ce _ (gx_s_MD_wipe _ h_17.1 h_17.2.1 h_17.2.2.1) ?_
        intro r17 u18 h16 e19
        have q20 : u14.2.2.2 1 = u18.2.2 2 := (show u14.2.2.2 1 = 0 from congrArg (fun z : Int32 × gm_S × gm_S => z.2.2.2.2 1) e15).trans (show u18.2.2 2 = 0 from congrArg (fun z : Int32 × gm_S => z.2.2.2 2) e19).symm
        exact ih _ _ _ _ _ _ _ _ _ _ _ _ _ _ _ _ _ _ _ _ ⟨h12, h_2, h_4, h_6, h_7, h_9, h_11, h_12, h_13, h_14, h_16, ⟨h16, h_17.2⟩, q20, hE2⟩ nx.1 nx.2.1 nx.2.2
      · refine ⟨fun h21 => ?_, fun h21 => ?_⟩
        · refine ⟨fun h22 => ?_, fun h22 => ?_⟩
          · refine gl_ce _ (gx_s_LW_compile_r _ h_1 h_9 h_11 h_12) ?_
            intro r24 u25 h23 e26
            refine gl_ce _ (gz_compile _ h_17) ?_
            intro r28 u29 h27 e30
            exact ih _ _ _ _ _ _ _ _ _ _ _ _ _ _ _ _ _ _ _ _ ⟨h_1, h_2, h23.1, h23.2.1, h23.2.2, h_4, h_6, h_7, h_13, h_14, h_16, ⟨h_17.1, h_17.2.1, h_17.2.2.1, h27.2.2.2.1, h27.2.2.2.2⟩, hE1, hE2⟩ nx.1 nx.2.1 nx.2.2
          · refine gl_ce _ (gx_s_LW_compile_t _ h_1 h_9 h_11 h_12) ?_
            intro r32 u33 h31 e34
            refine gl_ce _ (gz_compile _ h_17) ?_
            intro r36 u37 h35 e38
            exact ih _ _ _ _ _ _ _ _ _ _ _ _ _ _ _ _ _ _ _ _ ⟨h_1, h_2, h_4, h_6, h_7, h31.1, h31.2.1, h31.2.2, h_13, h_14, h_16, ⟨h_17.1, h_17.2.1, h_17.2.2.1, h35.2.2.2.1, h35.2.2.2.2⟩, hE1, hE2⟩ nx.1 nx.2.1 nx.2.2
        · refine ⟨fun h39 => ?_, fun h39 => ?_⟩
          · refine gl_ce _ (gx_s_GM_fault _) ?_
            intro r41 u42 h40 e43
            refine gl_ce _ (gx_s_MD_fault _ h_17.1 h_17.2.1 h_17.2.2.1) ?_
            intro r45 u46 h44 e47
            exact ih _ _ _ _ _ _ _ _ _ _ _ _ _ _ _ _ _ _ _ _ ⟨h_1, h_2, h_4, h_6, h_7, h_9, h_11, h_12, h_13, h_14, h_16, h_17, hE1, hE2⟩ nx.1 nx.2.1 nx.2.2
          · refine ⟨fun h48 => ?_, fun h48 => ?_⟩
            · refine ⟨i1, ?_⟩
              refine gl_ce _ (gx_s_LW_empty _ _ h_4) ?_
              intro r50 u51 h49 e52
              refine ⟨i1, ?_⟩
              refine gl_ce _ (gz_empty _ _ h_17) ?_
              intro r54 u55 h53 e56
              exact ih _ _ _ _ _ _ _ _ _ _ _ _ _ _ _ _ _ _ _ _ ⟨h_1, h_2, h_4, h_6, h_7, h_9, h_11, h_12, h_13, h_14, h_16, h_17, hE1, hE2⟩ nx.1 nx.2.1 nx.2.2
            · refine ⟨fun h57 => ?_, fun h57 => ?_⟩
              · refine ⟨i1, ?_⟩
                refine ⟨i2, ?_⟩
                refine gl_ce _ (gx_s_LW_head _ _ _ h_4) ?_
                intro r59 u60 h58 e61
                refine ⟨i1, ?_⟩
                refine ⟨i2, ?_⟩
                refine gl_ce _ (gz_head _ _ _ h_17) ?_
                intro r63 u64 h62 e65
                exact ih _ _ _ _ _ _ _ _ _ _ _ _ _ _ _ _ _ _ _ _ ⟨h_1, h_2, h_4, h_6, h_7, h_9, h_11, h_12, h_13, h_14, h_16, h_17, hE1, hE2⟩ nx.1 nx.2.1 nx.2.2
              · refine ⟨fun h66 => ?_, fun h66 => ?_⟩
                · refine ⟨i1, ?_⟩
                  refine gl_ce _ (gx_s_GM_feed _ _ h_2) ?_
                  intro r68 u69 h67 e70
                  refine ⟨i1, ?_⟩
                  refine gl_ce _ (gx_s_MD_feed _ _ h_17.1 h_17.2.1 h_17.2.2.1) ?_
                  intro r72 u73 h71 e74
                  have q75 := gp_fd_e e70 e74 hE2 h_17.2.1
                  refine ⟨fun h76 => ?_, fun h76 => ?_⟩
                  · exact ih _ _ _ _ _ _ _ _ _ _ _ _ _ _ _ _ _ _ _ _ ⟨h_1, h67, h_4, h_6, h_7, h_9, h_11, h_12, h_13, h_14, h_16, ⟨h_17.1, h71.1, h_17.2.2⟩, hE1, q75.2⟩ nx.1 nx.2.1 nx.2.2
                  · exact absurd q75.1 h76
                · refine ⟨fun h77 => ?_, fun h77 => ?_⟩
                  · refine gl_ce _ (gx_s_GM_clear _ h_2) ?_
                    intro r79 u80 h78 e81
                    refine gl_ce _ (gx_s_MD_clear _ h_17.1 h_17.2.1 h_17.2.2.1) ?_
                    intro r83 u84 h82 e85
                    have q86 : u80.2.2.2 1 = u84.2.2 32 := (show u80.2.2.2 1 = 0 from congrArg (fun z : Int32 × gm_S × gm_S => z.2.2.2.2 1) e81).trans (show u84.2.2 32 = 0 from congrArg (fun z : Int32 × gm_S => z.2.2.2 32) e85).symm
                    exact ih _ _ _ _ _ _ _ _ _ _ _ _ _ _ _ _ _ _ _ _ ⟨h_1, h78, h_4, h_6, h_7, h_9, h_11, h_12, h_13, h_14, h_16, ⟨h_17.1, h82, h_17.2.2⟩, hE1, q86⟩ nx.1 nx.2.1 nx.2.2
                  · refine ⟨fun h87 => ?_, fun h87 => ?_⟩
                    · refine ⟨i1, ?_⟩
                      refine ⟨fun h88 => ?_, fun h88 => ?_⟩
                      · refine ⟨fun h89 => ?_, fun h89 => ?_⟩
                        · refine gl_ce _ (gx_s_LW_match_r _ _ h_13 h_2 h_14 h_16 h_6 h_4 (Or.inl rfl)) ?_
                          intro r91 u92 h90 e93
                          refine ⟨i1, ?_⟩
                          refine gl_ce _ (gz_match _ _ h_17) ?_
                          intro r95 u96 h94 e97
                          exact ih _ _ _ _ _ _ _ _ _ _ _ _ _ _ _ _ _ _ _ _ ⟨h_1, h_2, h_4, h_6, h_7, h_9, h_11, h_12, h90.1, h90.2.1, h90.2.2, ⟨h_17.1, h_17.2.1, h94.2.2.1, h_17.2.2.2⟩, hE1, hE2⟩ nx.1 nx.2.1 nx.2.2
                        · refine gl_ce _ (gx_s_LW_match_t _ _ h_13 h_2 h_14 h_16 h_6 h_4 (Or.inl rfl)) ?_
                          intro r99 u100 h98 e101
                          refine ⟨i1, ?_⟩
                          refine gl_ce _ (gz_match _ _ h_17) ?_
                          intro r103 u104 h102 e105
                          exact ih _ _ _ _ _ _ _ _ _ _ _ _ _ _ _ _ _ _ _ _ ⟨h_1, h_2, h_4, h_6, h_7, h_9, h_11, h_12, h98.1, h98.2.1, h98.2.2, ⟨h_17.1, h_17.2.1, h102.2.2.1, h_17.2.2.2⟩, hE1, hE2⟩ nx.1 nx.2.1 nx.2.2
                      · refine ⟨fun h106 => ?_, fun h106 => ?_⟩
                        · refine gl_ce _ (gx_s_LW_match_r _ _ h_13 h_2 h_14 h_16 h_6 h_4 (Or.inr rfl)) ?_
                          intro r108 u109 h107 e110
                          refine ⟨i1, ?_⟩
                          refine gl_ce _ (gz_match _ _ h_17) ?_
                          intro r112 u113 h111 e114
                          exact ih _ _ _ _ _ _ _ _ _ _ _ _ _ _ _ _ _ _ _ _ ⟨h_1, h_2, h_4, h_6, h_7, h_9, h_11, h_12, h107.1, h107.2.1, h107.2.2, ⟨h_17.1, h_17.2.1, h111.2.2.1, h_17.2.2.2⟩, hE1, hE2⟩ nx.1 nx.2.1 nx.2.2
                        · refine gl_ce _ (gx_s_LW_match_t _ _ h_13 h_2 h_14 h_16 h_6 h_4 (Or.inr rfl)) ?_
                          intro r116 u117 h115 e118
                          refine ⟨i1, ?_⟩
                          refine gl_ce _ (gz_match _ _ h_17) ?_
                          intro r120 u121 h119 e122
                          exact ih _ _ _ _ _ _ _ _ _ _ _ _ _ _ _ _ _ _ _ _ ⟨h_1, h_2, h_4, h_6, h_7, h_9, h_11, h_12, h115.1, h115.2.1, h115.2.2, ⟨h_17.1, h_17.2.1, h119.2.2.1, h_17.2.2.2⟩, hE1, hE2⟩ nx.1 nx.2.1 nx.2.2
                    · refine ⟨fun h123 => ?_, fun h123 => ?_⟩
                      · refine gl_ce _ (gx_s_GM_work _ h_13) ?_
                        intro r125 u126 h124 e127
                        refine gl_ce _ (gx_s_MD_work _ h_17.1 h_17.2.1 h_17.2.2.1) ?_
                        intro r129 u130 h128 e131
                        exact ih _ _ _ _ _ _ _ _ _ _ _ _ _ _ _ _ _ _ _ _ ⟨h_1, h_2, h_4, h_6, h_7, h_9, h_11, h_12, h_13, h_14, h_16, h_17, hE1, hE2⟩ nx.1 nx.2.1 nx.2.2
                      · refine ⟨fun h132 => ?_, fun h132 => ?_⟩
                        · refine gl_ce _ (gx_s_GM_nodes _ h_13 h_14) ?_
                          intro r134 u135 h133 e136
                          refine gl_ce _ (gx_s_MD_nodes _ h_17.1 h_17.2.1 h_17.2.2.1) ?_
                          intro r138 u139 h137 e140
                          exact ih _ _ _ _ _ _ _ _ _ _ _ _ _ _ _ _ _ _ _ _ ⟨h_1, h_2, h_4, h_6, h_7, h_9, h_11, h_12, h_13, h_14, h_16, h_17, hE1, hE2⟩ nx.1 nx.2.1 nx.2.2
                        · refine ⟨fun h141 => ?_, fun h141 => ?_⟩
                          · refine ⟨i1, ?_⟩
                            refine ⟨i2, ?_⟩
                            refine gl_ce _ (gx_s_LW_node _ _ _ h_13 h_14) ?_
                            intro r143 u144 h142 e145
                            refine ⟨i1, ?_⟩
                            refine ⟨i2, ?_⟩
                            refine gl_ce _ (gx_s_MD_node _ _ _ h_17.1 h_17.2.1 h_17.2.2.1) ?_
                            intro r147 u148 h146 e149
                            exact ih _ _ _ _ _ _ _ _ _ _ _ _ _ _ _ _ _ _ _ _ ⟨h_1, h_2, h_4, h_6, h_7, h_9, h_11, h_12, h_13, h_14, h_16, h_17, hE1, hE2⟩ nx.1 nx.2.1 nx.2.2
                          · exact ih _ _ _ _ _ _ _ _ _ _ _ _ _ _ _ _ _ _ _ _ ⟨h_1, h_2, h_4, h_6, h_7, h_9, h_11, h_12, h_13, h_14, h_16, h_17, hE1, hE2⟩ nx.1 nx.2.1 nx.2.2
