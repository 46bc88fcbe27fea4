/-- a part in order: its kind, and what it is made of -/
def gp_node (b T k o t n : Int) : Prop := 0 ≤ k ∧ k ≤ 10 ∧ (4 ≤ k → b ≤ o ∧ o < n) ∧ ((k = 4 ∨ k = 5) → b ≤ t ∧ t < n) ∧ (k = 1 → 0 ≤ o ∧ 1 ≤ t ∧ o + t ≤ T) ∧ (k = 3 → 65 ≤ o ∧ o ≤ 90)
/-- what has been read: parts, pending items and alternatives, rules -/
def gm_iS (e : Int) (ty fr : Int32) (rc nm wh pa kd on tw ow : Nat → Int32) (i l : Int32) (it al : Nat → Int32) : Prop :=
  (∀ n : Nat, 160 * fr.toInt ≤ n → (n : Int) < 160 * fr.toInt + (pa (Int32.toNatClampNeg fr)).toInt → gp_node (160 * fr.toInt) ty.toInt (kd n).toInt (on n).toInt (tw n).toInt n ∧ 0 ≤ (ow n).toInt ∧ (ow n).toInt < (rc (Int32.toNatClampNeg fr)).toInt + e) ∧
  (∀ k : Nat, (k : Int) < i.toInt → 160 * fr.toInt ≤ (it k).toInt ∧ (it k).toInt < 160 * fr.toInt + (pa (Int32.toNatClampNeg fr)).toInt) ∧
  (∀ k : Nat, (k : Int) < l.toInt → 160 * fr.toInt ≤ (al k).toInt ∧ (al k).toInt < 160 * fr.toInt + (pa (Int32.toNatClampNeg fr)).toInt) ∧
  (∀ r : Nat, (r : Int) < (rc (Int32.toNatClampNeg fr)).toInt → ∀ j : Nat, (j : Int) = 8 * fr.toInt + r → 65 ≤ (nm j).toInt ∧ (nm j).toInt ≤ 90 ∧ 160 * fr.toInt ≤ (wh j).toInt ∧ (wh j).toInt < 160 * fr.toInt + (pa (Int32.toNatClampNeg fr)).toInt)
theorem gx_un (g : Nat → Int32) (k : Nat) (x : Int32) {j : Nat} (h : j ≠ k) : upd g k x j = g j := if_neg h
theorem gx_iS_ri {e : Int} {ty fr : Int32} {rc nm wh pa kd on tw ow : Nat → Int32} {i l : Int32} {it al : Nat → Int32} (h : gm_iS e ty fr rc nm wh pa kd on tw ow i l it al) {x : Int32} (h0 : 0 ≤ x.toInt) (h1 : x.toInt < i.toInt) : 160 * fr.toInt ≤ (it (Int32.toNatClampNeg x)).toInt ∧ (it (Int32.toNatClampNeg x)).toInt < 160 * fr.toInt + (pa (Int32.toNatClampNeg fr)).toInt := by
  have c := gx_cl x h0
  exact h.2.1 _ (by omega)
theorem gx_iS_ra {e : Int} {ty fr : Int32} {rc nm wh pa kd on tw ow : Nat → Int32} {i l : Int32} {it al : Nat → Int32} (h : gm_iS e ty fr rc nm wh pa kd on tw ow i l it al) {x : Int32} (h0 : 0 ≤ x.toInt) (h1 : x.toInt < l.toInt) : 160 * fr.toInt ≤ (al (Int32.toNatClampNeg x)).toInt ∧ (al (Int32.toNatClampNeg x)).toInt < 160 * fr.toInt + (pa (Int32.toNatClampNeg fr)).toInt := by
  have c := gx_cl x h0
  exact h.2.2.1 _ (by omega)
theorem gx_iS_w {e : Int} {ty fr : Int32} {rc nm wh pa kd on tw ow : Nat → Int32} {i l i' l' : Int32} {it al : Nat → Int32} (h : gm_iS e ty fr rc nm wh pa kd on tw ow i l it al) (hi : i'.toInt ≤ i.toInt) (hl : l'.toInt ≤ l.toInt) : gm_iS e ty fr rc nm wh pa kd on tw ow i' l' it al :=
  ⟨h.1, fun k hk => h.2.1 k (by omega), fun k hk => h.2.2.1 k (by omega), h.2.2.2⟩
theorem gx_iS_i {e : Int} {ty fr : Int32} {rc nm wh pa kd on tw ow : Nat → Int32} {i l n : Int32} {it al : Nat → Int32} (h : gm_iS e ty fr rc nm wh pa kd on tw ow i l it al) (h0 : 0 ≤ i.toInt) (h1 : i.toInt ≤ 100) (hn : 160 * fr.toInt ≤ n.toInt) (hn2 : n.toInt < 160 * fr.toInt + (pa (Int32.toNatClampNeg fr)).toInt) : gm_iS e ty fr rc nm wh pa kd on tw ow (i + 1) l (upd it (Int32.toNatClampNeg i) n) al := by
  have a := gx_ak i 1 1 (by decide)
  have c := gx_cl i h0
  refine ⟨h.1, fun k hk => ?_, h.2.2.1, h.2.2.2⟩
  by_cases q : k = Int32.toNatClampNeg i
  · rw [q, gx_us]; exact ⟨hn, hn2⟩
  · rw [gx_un _ _ _ q]; exact h.2.1 k (by omega)
theorem gx_iS_l {e : Int} {ty fr : Int32} {rc nm wh pa kd on tw ow : Nat → Int32} {i i' l n : Int32} {it al : Nat → Int32} (h : gm_iS e ty fr rc nm wh pa kd on tw ow i l it al) (hi : i'.toInt ≤ i.toInt) (h0 : 0 ≤ l.toInt) (h1 : l.toInt ≤ 100) (hn : 160 * fr.toInt ≤ n.toInt) (hn2 : n.toInt < 160 * fr.toInt + (pa (Int32.toNatClampNeg fr)).toInt) : gm_iS e ty fr rc nm wh pa kd on tw ow i' (l + 1) it (upd al (Int32.toNatClampNeg l) n) := by
  have a := gx_ak l 1 1 (by decide)
  have c := gx_cl l h0
  refine ⟨h.1, fun k hk => h.2.1 k (by omega), fun k hk => ?_, h.2.2.2⟩
  by_cases q : k = Int32.toNatClampNeg l
  · rw [q, gx_us]; exact ⟨hn, hn2⟩
  · rw [gx_un _ _ _ q]; exact h.2.2.1 k (by omega)
theorem gx_iS_c {e : Int} {ty fr : Int32} {rc nm wh pa kd on tw ow : Nat → Int32} {i l : Int32} {it al : Nat → Int32} (h : gm_iS e ty fr rc nm wh pa kd on tw ow i l it al) {x y w o p' : Int32} {N : Nat} (hN : (N : Int) = 160 * fr.toInt + (pa (Int32.toNatClampNeg fr)).toInt) (hp : p'.toInt = (pa (Int32.toNatClampNeg fr)).toInt + 1) (hn : gp_node (160 * fr.toInt) ty.toInt x.toInt y.toInt w.toInt N) (ho : 0 ≤ o.toInt) (ho2 : o.toInt < (rc (Int32.toNatClampNeg fr)).toInt + e) : gm_iS e ty fr rc nm wh (upd pa (Int32.toNatClampNeg fr) p') (upd kd N x) (upd on N y) (upd tw N w) (upd ow N o) i l it al := by
  unfold gm_iS
  rw [gx_us]
  refine ⟨fun n h1 h2 => ?_, fun k hk => ?_, fun k hk => ?_, fun r hr j hj => ?_⟩
  · by_cases q : n = N
    · rw [q, gx_us, gx_us, gx_us, gx_us]; exact ⟨hn, ho, ho2⟩
    · rw [gx_un _ _ _ q, gx_un _ _ _ q, gx_un _ _ _ q, gx_un _ _ _ q]; exact h.1 n h1 (by omega)
  · have := h.2.1 k hk; omega
  · have := h.2.2.1 k hk; omega
  · have := h.2.2.2 r hr j hj; omega
abbrev gy_q_MD_create (x : Int32) (y : Int32) (w : Int32) (S : gm_S) (z : Int32 × (gm_S)) : Prop := (gm_iS 1 (S.2.2 2) (S.2.2 5) (S.1 6) (S.1 7) (S.1 8) (z.2.1 9) (z.2.1 10) (z.2.1 11) (z.2.1 12) (z.2.1 13) (S.2.2 21) (S.2.2 22) (S.1 30) (S.1 31)) ∧ (((z.2.1 9 (Int32.toNatClampNeg (S.2.2 5))).toInt = ((S.1 9 (Int32.toNatClampNeg (S.2.2 5))).toInt + 1)) ∧ (z.1.toInt = ((160 * (S.2.2 5).toInt) + (S.1 9 (Int32.toNatClampNeg (S.2.2 5))).toInt)))
theorem gy_s_MD_create (x : Int32) (y : Int32) (w : Int32) (S : gm_S) (h1 : gm_iW 50 (S.2.2 2) (S.1 3)) (h2 : gm_iN 1 (S.2.2 5)) (hS : gm_iS 1 (S.2.2 2) (S.2.2 5) (S.1 6) (S.1 7) (S.1 8) (S.1 9) (S.1 10) (S.1 11) (S.1 12) (S.1 13) (S.2.2 21) (S.2.2 22) (S.1 30) (S.1 31)) (h3 : 0 ≤ (S.1 9 (Int32.toNatClampNeg (S.2.2 5))).toInt) (h4 : (S.1 9 (Int32.toNatClampNeg (S.2.2 5))).toInt ≤ 150) (h5 : ((x.toInt = 0) ∨ (x.toInt = 2)) ∨ (((x.toInt = 1) ∧ ((0 ≤ y.toInt) ∧ ((1 ≤ w.toInt) ∧ ((y.toInt + w.toInt) ≤ (S.2.2 2).toInt)))) ∨ (((x.toInt = 3) ∧ ((65 ≤ y.toInt) ∧ (y.toInt ≤ 90))) ∨ (((4 ≤ x.toInt) ∧ (x.toInt ≤ 10)) ∧ ((((160 * (S.2.2 5).toInt) ≤ y.toInt) ∧ (y.toInt < ((160 * (S.2.2 5).toInt) + (S.1 9 (Int32.toNatClampNeg (S.2.2 5))).toInt))) ∧ ((5 < x.toInt) ∨ (((160 * (S.2.2 5).toInt) ≤ w.toInt) ∧ (w.toInt < ((160 * (S.2.2 5).toInt) + (S.1 9 (Int32.toNatClampNeg (S.2.2 5))).toInt))))))))) (h6 : 0 ≤ (S.1 6 (Int32.toNatClampNeg (S.2.2 5))).toInt) : gm_p_MD_create x y w S ∧ gy_q_MD_create x y w S (gm_f_MD_create x y w S) := by
  have base := gx_s_MD_create x y w S h1 h2 h3 h4
  refine ⟨base.1, ?_, base.2.1, base.2.2⟩
  have m := gx_mk 160 (S.2.2 5) 160 (gx_lit 160 (by decide))
  have a := gx_ad (160 * (S.2.2 5)) ((S.1 9) (Int32.toNatClampNeg (S.2.2 5)))
  have b := gx_ak ((S.1 9) (Int32.toNatClampNeg (S.2.2 5))) 1 1 (by decide)
  have v : (160 * (S.2.2 5) + (S.1 9) (Int32.toNatClampNeg (S.2.2 5))).toInt = 160 * (S.2.2 5).toInt + (S.1 9 (Int32.toNatClampNeg (S.2.2 5))).toInt := by omega
  have c := gx_cl (160 * (S.2.2 5) + (S.1 9) (Int32.toNatClampNeg (S.2.2 5))) (by omega)
  refine gx_iS_c hS (o := (S.1 6) (Int32.toNatClampNeg (S.2.2 5))) (p' := (S.1 9) (Int32.toNatClampNeg (S.2.2 5)) + 1) (by omega) (by omega) ?_ h6 (by omega)
  have c' : ((Int32.toNatClampNeg (160 * (S.2.2 5) + (S.1 9) (Int32.toNatClampNeg (S.2.2 5))) : Nat) : Int) = 160 * (S.2.2 5).toInt + (S.1 9 (Int32.toNatClampNeg (S.2.2 5))).toInt := by omega
  rw [c']
  generalize (S.1 9 (Int32.toNatClampNeg (S.2.2 5))).toInt = P9 at h3 h4 h5
  clear base v c c' a b m hS
  unfold gp_node
  omega
abbrev gy_q_MD_primary (x : Int32) (S : gm_S) (z : Int32 × (gm_S)) : Prop := (gm_iS 1 (S.2.2 2) (S.2.2 5) (S.1 6) (S.1 7) (S.1 8) (z.2.1 9) (z.2.1 10) (z.2.1 11) (z.2.1 12) (z.2.1 13) (z.2.2.2 21) (S.2.2 22) (z.2.1 30) (S.1 31)) ∧ (((z.2.2.2 21).toInt = ((S.2.2 21).toInt + 1)) ∧ (((z.2.2.2 23).toInt = 0) ∧ (((S.2.2 19).toInt ≤ (z.2.2.2 19).toInt) ∧ (((z.2.2.2 19).toInt ≤ ((S.2.2 19).toInt + 1)) ∧ (((z.2.2.2 19).toInt ≤ (S.2.2 2).toInt) ∧ (((S.1 9 (Int32.toNatClampNeg (S.2.2 5))).toInt ≤ (z.2.1 9 (Int32.toNatClampNeg (S.2.2 5))).toInt) ∧ ((((z.2.1 9 (Int32.toNatClampNeg (S.2.2 5))).toInt ≤ ((S.1 9 (Int32.toNatClampNeg (S.2.2 5))).toInt + (2 * ((z.2.2.2 19).toInt - (S.2.2 19).toInt)))) ∨ (((S.2.2 23).toInt ≠ 0) ∧ ((z.2.1 9 (Int32.toNatClampNeg (S.2.2 5))).toInt ≤ (((S.1 9 (Int32.toNatClampNeg (S.2.2 5))).toInt + (2 * ((z.2.2.2 19).toInt - (S.2.2 19).toInt))) + 1)))))))))))
set_option maxRecDepth 100000 in
theorem gy_s_MD_primary_j106 (x : Int32) (S : gm_S) (r3 : Int32) (u3 : gm_S) (v2_j76 : Int32) (S_j76 : gm_S) (v2_j106 : Int32) (S_j106 : gm_S) (h1 : gm_iW 50 (S.2.2 2) (S.1 3)) (h2 : gm_iN 1 (S.2.2 5)) (h3 : gm_iS 1 (S.2.2 2) (S.2.2 5) (S.1 6) (S.1 7) (S.1 8) (S.1 9) (S.1 10) (S.1 11) (S.1 12) (S.1 13) (S.2.2 21) (S.2.2 22) (S.1 30) (S.1 31)) (h4 : 0 ≤ (S.1 9 (Int32.toNatClampNeg (S.2.2 5))).toInt) (h5 : (S.1 9 (Int32.toNatClampNeg (S.2.2 5))).toInt ≤ 145) (h6 : 0 ≤ (S.2.2 19).toInt) (h7 : (S.2.2 19).toInt ≤ (S.2.2 2).toInt) (h8 : 0 ≤ (S.2.2 21).toInt) (h9 : (S.2.2 21).toInt ≤ 58) (h10 : (160 * (S.2.2 5).toInt) ≤ x.toInt) (h11 : x.toInt < ((160 * (S.2.2 5).toInt) + (S.1 9 (Int32.toNatClampNeg (S.2.2 5))).toInt)) (h12 : 0 ≤ (S.1 6 (Int32.toNatClampNeg (S.2.2 5))).toInt) (h13 : (S.1 9 (Int32.toNatClampNeg (S.2.2 5))).toInt ≤ (S_j106.1 9 (Int32.toNatClampNeg (S.2.2 5))).toInt) (h14 : (S.2.2 19).toInt ≤ (S_j106.2.2 19).toInt) (h15 : (S_j106.2.2 19).toInt ≤ ((S.2.2 19).toInt + 1)) (h16 : (S_j106.2.2 19).toInt ≤ (S.2.2 2).toInt) (h17 : (S_j106.2.2 21).toInt = (S.2.2 21).toInt) (h18 : ((S_j106.1 9 (Int32.toNatClampNeg (S.2.2 5))).toInt ≤ ((S.1 9 (Int32.toNatClampNeg (S.2.2 5))).toInt + (2 * ((S_j106.2.2 19).toInt - (S.2.2 19).toInt)))) ∨ (((S.2.2 23).toInt ≠ 0) ∧ ((S_j106.1 9 (Int32.toNatClampNeg (S.2.2 5))).toInt ≤ (((S.1 9 (Int32.toNatClampNeg (S.2.2 5))).toInt + (2 * ((S_j106.2.2 19).toInt - (S.2.2 19).toInt))) + 1)))) (h19 : (160 * (S.2.2 5).toInt) ≤ v2_j106.toInt) (h20 : v2_j106.toInt < ((160 * (S.2.2 5).toInt) + (S_j106.1 9 (Int32.toNatClampNeg (S.2.2 5))).toInt)) (h21 : gm_iS 1 (S.2.2 2) (S.2.2 5) (S.1 6) (S.1 7) (S.1 8) (S_j106.1 9) (S_j106.1 10) (S_j106.1 11) (S_j106.1 12) (S_j106.1 13) (S_j106.2.2 21) (S.2.2 22) (S_j106.1 30) (S.1 31)) : gm_p_MD_primary_j106 x S r3 u3 v2_j76 S_j76 v2_j106 S_j106 ∧ gy_q_MD_primary x S (gm_f_MD_primary_j106 x S r3 u3 v2_j76 S_j76 v2_j106 S_j106) := by
  unfold gm_p_MD_primary_j106 gm_f_MD_primary_j106
  refine gx_in (Q := gy_q_MD_primary x S) (vp_in_iff.mpr (by omega)) ?_
  exact ⟨trivial, ⟨(gx_iS_i h21 (show 0 ≤ (S_j106.2.2 21).toInt from (by omega)) (show (S_j106.2.2 21).toInt ≤ 100 from (by omega)) (show (160 * (S.2.2 5).toInt) ≤ v2_j106.toInt from (by omega)) (show v2_j106.toInt < ((160 * (S.2.2 5).toInt) + (S_j106.1 9 (Int32.toNatClampNeg (S.2.2 5))).toInt) from (by omega))), (show (((S_j106.2.2 21) + 1).toInt = ((S.2.2 21).toInt + 1)) ∧ (((0 : Int32).toInt = 0) ∧ (((S.2.2 19).toInt ≤ (S_j106.2.2 19).toInt) ∧ (((S_j106.2.2 19).toInt ≤ ((S.2.2 19).toInt + 1)) ∧ (((S_j106.2.2 19).toInt ≤ (S.2.2 2).toInt) ∧ (((S.1 9 (Int32.toNatClampNeg (S.2.2 5))).toInt ≤ (S_j106.1 9 (Int32.toNatClampNeg (S.2.2 5))).toInt) ∧ (((S_j106.1 9 (Int32.toNatClampNeg (S.2.2 5))).toInt ≤ ((S.1 9 (Int32.toNatClampNeg (S.2.2 5))).toInt + (2 * ((S_j106.2.2 19).toInt - (S.2.2 19).toInt)))) ∨ (((S.2.2 23).toInt ≠ 0) ∧ ((S_j106.1 9 (Int32.toNatClampNeg (S.2.2 5))).toInt ≤ (((S.1 9 (Int32.toNatClampNeg (S.2.2 5))).toInt + (2 * ((S_j106.2.2 19).toInt - (S.2.2 19).toInt))) + 1))))))))) from (by have := gx_ak (S_j106.2.2 21) 1 (1) (by decide); have : (0 : Int32).toInt = 0 := (by decide); omega))⟩⟩
set_option maxRecDepth 100000 in
theorem gy_s_MD_primary_j100 (x : Int32) (S : gm_S) (r3 : Int32) (u3 : gm_S) (v2_j76 : Int32) (S_j76 : gm_S) (k0_j100 : Int32) (S_j100 : gm_S) (h1 : gm_iW 50 (S.2.2 2) (S.1 3)) (h2 : gm_iN 1 (S.2.2 5)) (h3 : gm_iS 1 (S.2.2 2) (S.2.2 5) (S.1 6) (S.1 7) (S.1 8) (S.1 9) (S.1 10) (S.1 11) (S.1 12) (S.1 13) (S.2.2 21) (S.2.2 22) (S.1 30) (S.1 31)) (h4 : 0 ≤ (S.1 9 (Int32.toNatClampNeg (S.2.2 5))).toInt) (h5 : (S.1 9 (Int32.toNatClampNeg (S.2.2 5))).toInt ≤ 145) (h6 : 0 ≤ (S.2.2 19).toInt) (h7 : (S.2.2 19).toInt ≤ (S.2.2 2).toInt) (h8 : 0 ≤ (S.2.2 21).toInt) (h9 : (S.2.2 21).toInt ≤ 58) (h10 : (160 * (S.2.2 5).toInt) ≤ x.toInt) (h11 : x.toInt < ((160 * (S.2.2 5).toInt) + (S.1 9 (Int32.toNatClampNeg (S.2.2 5))).toInt)) (h12 : 0 ≤ (S.1 6 (Int32.toNatClampNeg (S.2.2 5))).toInt) (h13 : (S.1 9 (Int32.toNatClampNeg (S.2.2 5))).toInt ≤ (S_j100.1 9 (Int32.toNatClampNeg (S.2.2 5))).toInt) (h14 : (S.2.2 19).toInt ≤ (S_j100.2.2 19).toInt) (h15 : (S_j100.2.2 19).toInt ≤ ((S.2.2 19).toInt + 1)) (h16 : (S_j100.2.2 19).toInt ≤ (S.2.2 2).toInt) (h17 : (S_j100.2.2 21).toInt = (S.2.2 21).toInt) (h18 : (S_j100.2.2 23).toInt = (S.2.2 23).toInt) (h19 : (S_j100.1 9 (Int32.toNatClampNeg (S.2.2 5))).toInt ≤ ((S.1 9 (Int32.toNatClampNeg (S.2.2 5))).toInt + (2 * ((S_j100.2.2 19).toInt - (S.2.2 19).toInt)))) (h20 : (S.2.2 23).toInt ≠ 0) (h21 : (160 * (S.2.2 5).toInt) ≤ v2_j76.toInt) (h22 : v2_j76.toInt < ((160 * (S.2.2 5).toInt) + (S_j100.1 9 (Int32.toNatClampNeg (S.2.2 5))).toInt)) (h23 : (k0_j100.toInt = 8) ∨ (k0_j100.toInt = 9)) (h24 : gm_iS 1 (S.2.2 2) (S.2.2 5) (S.1 6) (S.1 7) (S.1 8) (S_j100.1 9) (S_j100.1 10) (S_j100.1 11) (S_j100.1 12) (S_j100.1 13) (S_j100.2.2 21) (S.2.2 22) (S_j100.1 30) (S.1 31)) : gm_p_MD_primary_j100 x S r3 u3 v2_j76 S_j76 k0_j100 S_j100 ∧ gy_q_MD_primary x S (gm_f_MD_primary_j100 x S r3 u3 v2_j76 S_j76 k0_j100 S_j100) := by
  unfold gm_p_MD_primary_j100 gm_f_MD_primary_j100
  refine gx_ca (Q := gy_q_MD_primary x S) (gy_q_MD_create _ _ _ _) (gy_s_MD_create _ _ _ _ h1 h2 h24 (show 0 ≤ (S_j100.1 9 (Int32.toNatClampNeg (S.2.2 5))).toInt from (by omega)) (show (S_j100.1 9 (Int32.toNatClampNeg (S.2.2 5))).toInt ≤ 150 from (by omega)) (show ((k0_j100.toInt = 0) ∨ (k0_j100.toInt = 2)) ∨ (((k0_j100.toInt = 1) ∧ ((0 ≤ v2_j76.toInt) ∧ ((1 ≤ ((-1) : Int32).toInt) ∧ ((v2_j76.toInt + ((-1) : Int32).toInt) ≤ (S.2.2 2).toInt)))) ∨ (((k0_j100.toInt = 3) ∧ ((65 ≤ v2_j76.toInt) ∧ (v2_j76.toInt ≤ 90))) ∨ (((4 ≤ k0_j100.toInt) ∧ (k0_j100.toInt ≤ 10)) ∧ ((((160 * (S.2.2 5).toInt) ≤ v2_j76.toInt) ∧ (v2_j76.toInt < ((160 * (S.2.2 5).toInt) + (S_j100.1 9 (Int32.toNatClampNeg (S.2.2 5))).toInt))) ∧ ((5 < k0_j100.toInt) ∨ (((160 * (S.2.2 5).toInt) ≤ ((-1) : Int32).toInt) ∧ (((-1) : Int32).toInt < ((160 * (S.2.2 5).toInt) + (S_j100.1 9 (Int32.toNatClampNeg (S.2.2 5))).toInt)))))))) from (by have : ((-1) : Int32).toInt = -1 := (by decide); omega)) h12) ?_
  intro r102 u102 h25
  have h25_0 : gm_iS 1 (S.2.2 2) (S.2.2 5) (S.1 6) (S.1 7) (S.1 8) (u102.1 9) (u102.1 10) (u102.1 11) (u102.1 12) (u102.1 13) (S_j100.2.2 21) (S.2.2 22) (S_j100.1 30) (S.1 31) := h25.1
  have h25_1 : ((u102.1 9 (Int32.toNatClampNeg (S.2.2 5))).toInt = ((S_j100.1 9 (Int32.toNatClampNeg (S.2.2 5))).toInt + 1)) ∧ (r102.toInt = ((160 * (S.2.2 5).toInt) + (S_j100.1 9 (Int32.toNatClampNeg (S.2.2 5))).toInt)) := h25.2
  clear h25
  refine gy_s_MD_primary_j106 _ _ _ _ _ _ _ _ ?_ ?_ ?_ ?_ ?_ ?_ ?_ ?_ ?_ ?_ ?_ ?_ ?_ ?_ ?_ ?_ ?_ ?_ ?_ ?_ ?_
  · exact h1
  · exact h2
  · exact h3
  · exact (show 0 ≤ (S.1 9 (Int32.toNatClampNeg (S.2.2 5))).toInt from (by omega))
  · exact (show (S.1 9 (Int32.toNatClampNeg (S.2.2 5))).toInt ≤ 145 from (by omega))
  · exact (show 0 ≤ (S.2.2 19).toInt from (by omega))
  · exact (show (S.2.2 19).toInt ≤ (S.2.2 2).toInt from (by omega))
  · exact (show 0 ≤ (S.2.2 21).toInt from (by omega))
  · exact (show (S.2.2 21).toInt ≤ 58 from (by omega))
  · exact (show (160 * (S.2.2 5).toInt) ≤ x.toInt from (by omega))
  · exact (show x.toInt < ((160 * (S.2.2 5).toInt) + (S.1 9 (Int32.toNatClampNeg (S.2.2 5))).toInt) from (by omega))
  · exact (show 0 ≤ (S.1 6 (Int32.toNatClampNeg (S.2.2 5))).toInt from (by omega))
  · exact (show (S.1 9 (Int32.toNatClampNeg (S.2.2 5))).toInt ≤ (u102.1 9 (Int32.toNatClampNeg (S.2.2 5))).toInt from (by omega))
  · exact (show (S.2.2 19).toInt ≤ (S_j100.2.2 19).toInt from (by omega))
  · exact (show (S_j100.2.2 19).toInt ≤ ((S.2.2 19).toInt + 1) from (by omega))
  · exact (show (S_j100.2.2 19).toInt ≤ (S.2.2 2).toInt from (by omega))
  · exact (show (S_j100.2.2 21).toInt = (S.2.2 21).toInt from (by omega))
  · exact (show ((u102.1 9 (Int32.toNatClampNeg (S.2.2 5))).toInt ≤ ((S.1 9 (Int32.toNatClampNeg (S.2.2 5))).toInt + (2 * ((S_j100.2.2 19).toInt - (S.2.2 19).toInt)))) ∨ (((S.2.2 23).toInt ≠ 0) ∧ ((u102.1 9 (Int32.toNatClampNeg (S.2.2 5))).toInt ≤ (((S.1 9 (Int32.toNatClampNeg (S.2.2 5))).toInt + (2 * ((S_j100.2.2 19).toInt - (S.2.2 19).toInt))) + 1))) from (by omega))
  · exact (show (160 * (S.2.2 5).toInt) ≤ r102.toInt from (by omega))
  · exact (show r102.toInt < ((160 * (S.2.2 5).toInt) + (u102.1 9 (Int32.toNatClampNeg (S.2.2 5))).toInt) from (by omega))
  · exact h25_0
set_option maxRecDepth 100000 in
theorem gy_s_MD_primary_j76 (x : Int32) (S : gm_S) (r3 : Int32) (u3 : gm_S) (v2_j76 : Int32) (S_j76 : gm_S) (h1 : gm_iW 50 (S.2.2 2) (S.1 3)) (h2 : gm_iN 1 (S.2.2 5)) (h3 : gm_iS 1 (S.2.2 2) (S.2.2 5) (S.1 6) (S.1 7) (S.1 8) (S.1 9) (S.1 10) (S.1 11) (S.1 12) (S.1 13) (S.2.2 21) (S.2.2 22) (S.1 30) (S.1 31)) (h4 : 0 ≤ (S.1 9 (Int32.toNatClampNeg (S.2.2 5))).toInt) (h5 : (S.1 9 (Int32.toNatClampNeg (S.2.2 5))).toInt ≤ 145) (h6 : 0 ≤ (S.2.2 19).toInt) (h7 : (S.2.2 19).toInt ≤ (S.2.2 2).toInt) (h8 : 0 ≤ (S.2.2 21).toInt) (h9 : (S.2.2 21).toInt ≤ 58) (h10 : (160 * (S.2.2 5).toInt) ≤ x.toInt) (h11 : x.toInt < ((160 * (S.2.2 5).toInt) + (S.1 9 (Int32.toNatClampNeg (S.2.2 5))).toInt)) (h12 : 0 ≤ (S.1 6 (Int32.toNatClampNeg (S.2.2 5))).toInt) (h13 : (S.1 9 (Int32.toNatClampNeg (S.2.2 5))).toInt ≤ (S_j76.1 9 (Int32.toNatClampNeg (S.2.2 5))).toInt) (h14 : (S.2.2 19).toInt ≤ (S_j76.2.2 19).toInt) (h15 : (S_j76.2.2 19).toInt ≤ ((S.2.2 19).toInt + 1)) (h16 : (S_j76.2.2 19).toInt ≤ (S.2.2 2).toInt) (h17 : (S_j76.2.2 21).toInt = (S.2.2 21).toInt) (h18 : (S_j76.2.2 23).toInt = (S.2.2 23).toInt) (h19 : (S_j76.1 9 (Int32.toNatClampNeg (S.2.2 5))).toInt ≤ ((S.1 9 (Int32.toNatClampNeg (S.2.2 5))).toInt + (2 * ((S_j76.2.2 19).toInt - (S.2.2 19).toInt)))) (h20 : (160 * (S.2.2 5).toInt) ≤ v2_j76.toInt) (h21 : v2_j76.toInt < ((160 * (S.2.2 5).toInt) + (S_j76.1 9 (Int32.toNatClampNeg (S.2.2 5))).toInt)) (h22 : gm_iS 1 (S.2.2 2) (S.2.2 5) (S.1 6) (S.1 7) (S.1 8) (S_j76.1 9) (S_j76.1 10) (S_j76.1 11) (S_j76.1 12) (S_j76.1 13) (S_j76.2.2 21) (S.2.2 22) (S_j76.1 30) (S.1 31)) : gm_p_MD_primary_j76 x S r3 u3 v2_j76 S_j76 ∧ gy_q_MD_primary x S (gm_f_MD_primary_j76 x S r3 u3 v2_j76 S_j76) := by
  unfold gm_p_MD_primary_j76 gm_f_MD_primary_j76
  refine gx_if (Q := gy_q_MD_primary x S) (fun h23 => ?_) (fun h23 => ?_)
  · skip
    have h23_ := gx_eqr (k := 0) (by decide) h23
    refine gy_s_MD_primary_j106 _ _ _ _ _ _ _ _ ?_ ?_ ?_ ?_ ?_ ?_ ?_ ?_ ?_ ?_ ?_ ?_ ?_ ?_ ?_ ?_ ?_ ?_ ?_ ?_ ?_
    · exact h1
    · exact h2
    · exact h3
    · exact (show 0 ≤ (S.1 9 (Int32.toNatClampNeg (S.2.2 5))).toInt from (by omega))
    · exact (show (S.1 9 (Int32.toNatClampNeg (S.2.2 5))).toInt ≤ 145 from (by omega))
    · exact (show 0 ≤ (S.2.2 19).toInt from (by omega))
    · exact (show (S.2.2 19).toInt ≤ (S.2.2 2).toInt from (by omega))
    · exact (show 0 ≤ (S.2.2 21).toInt from (by omega))
    · exact (show (S.2.2 21).toInt ≤ 58 from (by omega))
    · exact (show (160 * (S.2.2 5).toInt) ≤ x.toInt from (by omega))
    · exact (show x.toInt < ((160 * (S.2.2 5).toInt) + (S.1 9 (Int32.toNatClampNeg (S.2.2 5))).toInt) from (by omega))
    · exact (show 0 ≤ (S.1 6 (Int32.toNatClampNeg (S.2.2 5))).toInt from (by omega))
    · exact (show (S.1 9 (Int32.toNatClampNeg (S.2.2 5))).toInt ≤ (S_j76.1 9 (Int32.toNatClampNeg (S.2.2 5))).toInt from (by omega))
    · exact (show (S.2.2 19).toInt ≤ (S_j76.2.2 19).toInt from (by omega))
    · exact (show (S_j76.2.2 19).toInt ≤ ((S.2.2 19).toInt + 1) from (by omega))
    · exact (show (S_j76.2.2 19).toInt ≤ (S.2.2 2).toInt from (by omega))
    · exact (show (S_j76.2.2 21).toInt = (S.2.2 21).toInt from (by omega))
    · exact (show ((S_j76.1 9 (Int32.toNatClampNeg (S.2.2 5))).toInt ≤ ((S.1 9 (Int32.toNatClampNeg (S.2.2 5))).toInt + (2 * ((S_j76.2.2 19).toInt - (S.2.2 19).toInt)))) ∨ (((S.2.2 23).toInt ≠ 0) ∧ ((S_j76.1 9 (Int32.toNatClampNeg (S.2.2 5))).toInt ≤ (((S.1 9 (Int32.toNatClampNeg (S.2.2 5))).toInt + (2 * ((S_j76.2.2 19).toInt - (S.2.2 19).toInt))) + 1))) from (by omega))
    · exact (show (160 * (S.2.2 5).toInt) ≤ v2_j76.toInt from (by omega))
    · exact (show v2_j76.toInt < ((160 * (S.2.2 5).toInt) + (S_j76.1 9 (Int32.toNatClampNeg (S.2.2 5))).toInt) from (by omega))
    · exact h22
  · skip
    have h23_ := gx_eqnr (k := 0) (by decide) h23
    refine gx_if (Q := gy_q_MD_primary x S) (fun h24 => ?_) (fun h24 => ?_)
    · skip
      have h24_ := gx_eqr (k := 38) (gx_lit 38 (by decide)) h24
      refine gy_s_MD_primary_j100 _ _ _ _ _ _ _ _ ?_ ?_ ?_ ?_ ?_ ?_ ?_ ?_ ?_ ?_ ?_ ?_ ?_ ?_ ?_ ?_ ?_ ?_ ?_ ?_ ?_ ?_ ?_ ?_
      · exact h1
      · exact h2
      · exact h3
      · exact (show 0 ≤ (S.1 9 (Int32.toNatClampNeg (S.2.2 5))).toInt from (by omega))
      · exact (show (S.1 9 (Int32.toNatClampNeg (S.2.2 5))).toInt ≤ 145 from (by omega))
      · exact (show 0 ≤ (S.2.2 19).toInt from (by omega))
      · exact (show (S.2.2 19).toInt ≤ (S.2.2 2).toInt from (by omega))
      · exact (show 0 ≤ (S.2.2 21).toInt from (by omega))
      · exact (show (S.2.2 21).toInt ≤ 58 from (by omega))
      · exact (show (160 * (S.2.2 5).toInt) ≤ x.toInt from (by omega))
      · exact (show x.toInt < ((160 * (S.2.2 5).toInt) + (S.1 9 (Int32.toNatClampNeg (S.2.2 5))).toInt) from (by omega))
      · exact (show 0 ≤ (S.1 6 (Int32.toNatClampNeg (S.2.2 5))).toInt from (by omega))
      · exact (show (S.1 9 (Int32.toNatClampNeg (S.2.2 5))).toInt ≤ (S_j76.1 9 (Int32.toNatClampNeg (S.2.2 5))).toInt from (by omega))
      · exact (show (S.2.2 19).toInt ≤ (S_j76.2.2 19).toInt from (by omega))
      · exact (show (S_j76.2.2 19).toInt ≤ ((S.2.2 19).toInt + 1) from (by omega))
      · exact (show (S_j76.2.2 19).toInt ≤ (S.2.2 2).toInt from (by omega))
      · exact (show (S_j76.2.2 21).toInt = (S.2.2 21).toInt from (by omega))
      · exact (show (S_j76.2.2 23).toInt = (S.2.2 23).toInt from (by omega))
      · exact (show (S_j76.1 9 (Int32.toNatClampNeg (S.2.2 5))).toInt ≤ ((S.1 9 (Int32.toNatClampNeg (S.2.2 5))).toInt + (2 * ((S_j76.2.2 19).toInt - (S.2.2 19).toInt))) from (by omega))
      · exact (show (S.2.2 23).toInt ≠ 0 from (by omega))
      · exact (show (160 * (S.2.2 5).toInt) ≤ v2_j76.toInt from (by omega))
      · exact (show v2_j76.toInt < ((160 * (S.2.2 5).toInt) + (S_j76.1 9 (Int32.toNatClampNeg (S.2.2 5))).toInt) from (by omega))
      · exact (show ((8 : Int32).toInt = 8) ∨ ((8 : Int32).toInt = 9) from (by have : (8 : Int32).toInt = 8 := gx_lit 8 (by decide); omega))
      · exact h22
    · skip
      have h24_ := gx_eqnr (k := 38) (gx_lit 38 (by decide)) h24
      refine gy_s_MD_primary_j100 _ _ _ _ _ _ _ _ ?_ ?_ ?_ ?_ ?_ ?_ ?_ ?_ ?_ ?_ ?_ ?_ ?_ ?_ ?_ ?_ ?_ ?_ ?_ ?_ ?_ ?_ ?_ ?_
      · exact h1
      · exact h2
      · exact h3
      · exact (show 0 ≤ (S.1 9 (Int32.toNatClampNeg (S.2.2 5))).toInt from (by omega))
      · exact (show (S.1 9 (Int32.toNatClampNeg (S.2.2 5))).toInt ≤ 145 from (by omega))
      · exact (show 0 ≤ (S.2.2 19).toInt from (by omega))
      · exact (show (S.2.2 19).toInt ≤ (S.2.2 2).toInt from (by omega))
      · exact (show 0 ≤ (S.2.2 21).toInt from (by omega))
      · exact (show (S.2.2 21).toInt ≤ 58 from (by omega))
      · exact (show (160 * (S.2.2 5).toInt) ≤ x.toInt from (by omega))
      · exact (show x.toInt < ((160 * (S.2.2 5).toInt) + (S.1 9 (Int32.toNatClampNeg (S.2.2 5))).toInt) from (by omega))
      · exact (show 0 ≤ (S.1 6 (Int32.toNatClampNeg (S.2.2 5))).toInt from (by omega))
      · exact (show (S.1 9 (Int32.toNatClampNeg (S.2.2 5))).toInt ≤ (S_j76.1 9 (Int32.toNatClampNeg (S.2.2 5))).toInt from (by omega))
      · exact (show (S.2.2 19).toInt ≤ (S_j76.2.2 19).toInt from (by omega))
      · exact (show (S_j76.2.2 19).toInt ≤ ((S.2.2 19).toInt + 1) from (by omega))
      · exact (show (S_j76.2.2 19).toInt ≤ (S.2.2 2).toInt from (by omega))
      · exact (show (S_j76.2.2 21).toInt = (S.2.2 21).toInt from (by omega))
      · exact (show (S_j76.2.2 23).toInt = (S.2.2 23).toInt from (by omega))
      · exact (show (S_j76.1 9 (Int32.toNatClampNeg (S.2.2 5))).toInt ≤ ((S.1 9 (Int32.toNatClampNeg (S.2.2 5))).toInt + (2 * ((S_j76.2.2 19).toInt - (S.2.2 19).toInt))) from (by omega))
      · exact (show (S.2.2 23).toInt ≠ 0 from (by omega))
      · exact (show (160 * (S.2.2 5).toInt) ≤ v2_j76.toInt from (by omega))
      · exact (show v2_j76.toInt < ((160 * (S.2.2 5).toInt) + (S_j76.1 9 (Int32.toNatClampNeg (S.2.2 5))).toInt) from (by omega))
      · exact (show ((9 : Int32).toInt = 8) ∨ ((9 : Int32).toInt = 9) from (by have : (9 : Int32).toInt = 9 := gx_lit 9 (by decide); omega))
      · exact h22
set_option maxRecDepth 100000 in
theorem gy_s_MD_primary_j75 (x : Int32) (S : gm_S) (r3 : Int32) (u3 : gm_S) (S_j25 : gm_S) (k0_j49 : Int32) (S_j49 : gm_S) (r51 : Int32) (u51 : gm_S) (k0_j75 : Int32) (S_j75 : gm_S) (h1 : gm_iW 50 (S.2.2 2) (S.1 3)) (h2 : gm_iN 1 (S.2.2 5)) (h3 : gm_iS 1 (S.2.2 2) (S.2.2 5) (S.1 6) (S.1 7) (S.1 8) (S.1 9) (S.1 10) (S.1 11) (S.1 12) (S.1 13) (S.2.2 21) (S.2.2 22) (S.1 30) (S.1 31)) (h4 : 0 ≤ (S.1 9 (Int32.toNatClampNeg (S.2.2 5))).toInt) (h5 : (S.1 9 (Int32.toNatClampNeg (S.2.2 5))).toInt ≤ 145) (h6 : 0 ≤ (S.2.2 19).toInt) (h7 : (S.2.2 19).toInt ≤ (S.2.2 2).toInt) (h8 : 0 ≤ (S.2.2 21).toInt) (h9 : (S.2.2 21).toInt ≤ 58) (h10 : (160 * (S.2.2 5).toInt) ≤ x.toInt) (h11 : x.toInt < ((160 * (S.2.2 5).toInt) + (S.1 9 (Int32.toNatClampNeg (S.2.2 5))).toInt)) (h12 : 0 ≤ (S.1 6 (Int32.toNatClampNeg (S.2.2 5))).toInt) (h13 : (S.1 9 (Int32.toNatClampNeg (S.2.2 5))).toInt ≤ (S_j75.1 9 (Int32.toNatClampNeg (S.2.2 5))).toInt) (h14 : (S.2.2 19).toInt ≤ (S_j75.2.2 19).toInt) (h15 : (S_j75.2.2 19).toInt ≤ ((S.2.2 19).toInt + 1)) (h16 : (S_j75.2.2 19).toInt ≤ (S.2.2 2).toInt) (h17 : (S_j75.2.2 21).toInt = (S.2.2 21).toInt) (h18 : (S_j75.2.2 23).toInt = (S.2.2 23).toInt) (h19 : (S_j75.1 9 (Int32.toNatClampNeg (S.2.2 5))).toInt ≤ ((S.1 9 (Int32.toNatClampNeg (S.2.2 5))).toInt + (2 * ((S_j75.2.2 19).toInt - (S.2.2 19).toInt)))) (h20 : (160 * (S.2.2 5).toInt) ≤ k0_j75.toInt) (h21 : k0_j75.toInt < ((160 * (S.2.2 5).toInt) + (S_j75.1 9 (Int32.toNatClampNeg (S.2.2 5))).toInt)) (h22 : gm_iS 1 (S.2.2 2) (S.2.2 5) (S.1 6) (S.1 7) (S.1 8) (S_j75.1 9) (S_j75.1 10) (S_j75.1 11) (S_j75.1 12) (S_j75.1 13) (S_j75.2.2 21) (S.2.2 22) (S_j75.1 30) (S.1 31)) : gm_p_MD_primary_j75 x S r3 u3 S_j25 k0_j49 S_j49 r51 u51 k0_j75 S_j75 ∧ gy_q_MD_primary x S (gm_f_MD_primary_j75 x S r3 u3 S_j25 k0_j49 S_j49 r51 u51 k0_j75 S_j75) := by
  unfold gm_p_MD_primary_j75 gm_f_MD_primary_j75
  refine gy_s_MD_primary_j76 _ _ _ _ _ _ ?_ ?_ ?_ ?_ ?_ ?_ ?_ ?_ ?_ ?_ ?_ ?_ ?_ ?_ ?_ ?_ ?_ ?_ ?_ ?_ ?_ ?_
  · exact h1
  · exact h2
  · exact h3
  · exact (show 0 ≤ (S.1 9 (Int32.toNatClampNeg (S.2.2 5))).toInt from (by omega))
  · exact (show (S.1 9 (Int32.toNatClampNeg (S.2.2 5))).toInt ≤ 145 from (by omega))
  · exact (show 0 ≤ (S.2.2 19).toInt from (by omega))
  · exact (show (S.2.2 19).toInt ≤ (S.2.2 2).toInt from (by omega))
  · exact (show 0 ≤ (S.2.2 21).toInt from (by omega))
  · exact (show (S.2.2 21).toInt ≤ 58 from (by omega))
  · exact (show (160 * (S.2.2 5).toInt) ≤ x.toInt from (by omega))
  · exact (show x.toInt < ((160 * (S.2.2 5).toInt) + (S.1 9 (Int32.toNatClampNeg (S.2.2 5))).toInt) from (by omega))
  · exact (show 0 ≤ (S.1 6 (Int32.toNatClampNeg (S.2.2 5))).toInt from (by omega))
  · exact (show (S.1 9 (Int32.toNatClampNeg (S.2.2 5))).toInt ≤ (S_j75.1 9 (Int32.toNatClampNeg (S.2.2 5))).toInt from (by omega))
  · exact (show (S.2.2 19).toInt ≤ (S_j75.2.2 19).toInt from (by omega))
  · exact (show (S_j75.2.2 19).toInt ≤ ((S.2.2 19).toInt + 1) from (by omega))
  · exact (show (S_j75.2.2 19).toInt ≤ (S.2.2 2).toInt from (by omega))
  · exact (show (S_j75.2.2 21).toInt = (S.2.2 21).toInt from (by omega))
  · exact (show (S_j75.2.2 23).toInt = (S.2.2 23).toInt from (by omega))
  · exact (show (S_j75.1 9 (Int32.toNatClampNeg (S.2.2 5))).toInt ≤ ((S.1 9 (Int32.toNatClampNeg (S.2.2 5))).toInt + (2 * ((S_j75.2.2 19).toInt - (S.2.2 19).toInt))) from (by omega))
  · exact (show (160 * (S.2.2 5).toInt) ≤ k0_j75.toInt from (by omega))
  · exact (show k0_j75.toInt < ((160 * (S.2.2 5).toInt) + (S_j75.1 9 (Int32.toNatClampNeg (S.2.2 5))).toInt) from (by omega))
  · exact h22
set_option maxRecDepth 100000 in
theorem gy_s_MD_primary_j49 (x : Int32) (S : gm_S) (r3 : Int32) (u3 : gm_S) (S_j25 : gm_S) (k0_j49 : Int32) (S_j49 : gm_S) (h1 : gm_iW 50 (S.2.2 2) (S.1 3)) (h2 : gm_iN 1 (S.2.2 5)) (h3 : gm_iS 1 (S.2.2 2) (S.2.2 5) (S.1 6) (S.1 7) (S.1 8) (S.1 9) (S.1 10) (S.1 11) (S.1 12) (S.1 13) (S.2.2 21) (S.2.2 22) (S.1 30) (S.1 31)) (h4 : 0 ≤ (S.1 9 (Int32.toNatClampNeg (S.2.2 5))).toInt) (h5 : (S.1 9 (Int32.toNatClampNeg (S.2.2 5))).toInt ≤ 145) (h6 : 0 ≤ (S.2.2 19).toInt) (h7 : (S.2.2 19).toInt ≤ (S.2.2 2).toInt) (h8 : 0 ≤ (S.2.2 21).toInt) (h9 : (S.2.2 21).toInt ≤ 58) (h10 : (160 * (S.2.2 5).toInt) ≤ x.toInt) (h11 : x.toInt < ((160 * (S.2.2 5).toInt) + (S.1 9 (Int32.toNatClampNeg (S.2.2 5))).toInt)) (h12 : 0 ≤ (S.1 6 (Int32.toNatClampNeg (S.2.2 5))).toInt) (h13 : (S_j49.1 9 (Int32.toNatClampNeg (S.2.2 5))).toInt = (S.1 9 (Int32.toNatClampNeg (S.2.2 5))).toInt) (h14 : (S_j49.2.2 19).toInt = ((S.2.2 19).toInt + 1)) (h15 : (S_j49.2.2 21).toInt = (S.2.2 21).toInt) (h16 : (S_j49.2.2 23).toInt = (S.2.2 23).toInt) (h17 : (S.2.2 19).toInt < (S.2.2 2).toInt) (h18 : (k0_j49.toInt = 6) ∨ (k0_j49.toInt = 7)) (h19 : gm_iS 1 (S.2.2 2) (S.2.2 5) (S.1 6) (S.1 7) (S.1 8) (S_j49.1 9) (S_j49.1 10) (S_j49.1 11) (S_j49.1 12) (S_j49.1 13) (S_j49.2.2 21) (S.2.2 22) (S_j49.1 30) (S.1 31)) : gm_p_MD_primary_j49 x S r3 u3 S_j25 k0_j49 S_j49 ∧ gy_q_MD_primary x S (gm_f_MD_primary_j49 x S r3 u3 S_j25 k0_j49 S_j49) := by
  unfold gm_p_MD_primary_j49 gm_f_MD_primary_j49
  refine gx_ca (Q := gy_q_MD_primary x S) (gy_q_MD_create _ _ _ _) (gy_s_MD_create _ _ _ _ h1 h2 h19 (show 0 ≤ (S_j49.1 9 (Int32.toNatClampNeg (S.2.2 5))).toInt from (by omega)) (show (S_j49.1 9 (Int32.toNatClampNeg (S.2.2 5))).toInt ≤ 150 from (by omega)) (show ((k0_j49.toInt = 0) ∨ (k0_j49.toInt = 2)) ∨ (((k0_j49.toInt = 1) ∧ ((0 ≤ x.toInt) ∧ ((1 ≤ ((-1) : Int32).toInt) ∧ ((x.toInt + ((-1) : Int32).toInt) ≤ (S.2.2 2).toInt)))) ∨ (((k0_j49.toInt = 3) ∧ ((65 ≤ x.toInt) ∧ (x.toInt ≤ 90))) ∨ (((4 ≤ k0_j49.toInt) ∧ (k0_j49.toInt ≤ 10)) ∧ ((((160 * (S.2.2 5).toInt) ≤ x.toInt) ∧ (x.toInt < ((160 * (S.2.2 5).toInt) + (S_j49.1 9 (Int32.toNatClampNeg (S.2.2 5))).toInt))) ∧ ((5 < k0_j49.toInt) ∨ (((160 * (S.2.2 5).toInt) ≤ ((-1) : Int32).toInt) ∧ (((-1) : Int32).toInt < ((160 * (S.2.2 5).toInt) + (S_j49.1 9 (Int32.toNatClampNeg (S.2.2 5))).toInt)))))))) from (by have : ((-1) : Int32).toInt = -1 := (by decide); omega)) h12) ?_
  intro r51 u51 h20
  have h20_0 : gm_iS 1 (S.2.2 2) (S.2.2 5) (S.1 6) (S.1 7) (S.1 8) (u51.1 9) (u51.1 10) (u51.1 11) (u51.1 12) (u51.1 13) (S_j49.2.2 21) (S.2.2 22) (S_j49.1 30) (S.1 31) := h20.1
  have h20_1 : ((u51.1 9 (Int32.toNatClampNeg (S.2.2 5))).toInt = ((S_j49.1 9 (Int32.toNatClampNeg (S.2.2 5))).toInt + 1)) ∧ (r51.toInt = ((160 * (S.2.2 5).toInt) + (S_j49.1 9 (Int32.toNatClampNeg (S.2.2 5))).toInt)) := h20.2
  clear h20
  refine gx_if (Q := gy_q_MD_primary x S) (fun h21 => ?_) (fun h21 => ?_)
  · skip
    have h21_ := gx_eqr (k := 43) (gx_lit 43 (by decide)) h21
    refine gx_ca (Q := gy_q_MD_primary x S) (gy_q_MD_create _ _ _ _) (gy_s_MD_create _ _ _ _ h1 h2 h20_0 (show 0 ≤ (u51.1 9 (Int32.toNatClampNeg (S.2.2 5))).toInt from (by omega)) (show (u51.1 9 (Int32.toNatClampNeg (S.2.2 5))).toInt ≤ 150 from (by omega)) (show (((4 : Int32).toInt = 0) ∨ ((4 : Int32).toInt = 2)) ∨ ((((4 : Int32).toInt = 1) ∧ ((0 ≤ x.toInt) ∧ ((1 ≤ r51.toInt) ∧ ((x.toInt + r51.toInt) ≤ (S.2.2 2).toInt)))) ∨ ((((4 : Int32).toInt = 3) ∧ ((65 ≤ x.toInt) ∧ (x.toInt ≤ 90))) ∨ (((4 ≤ (4 : Int32).toInt) ∧ ((4 : Int32).toInt ≤ 10)) ∧ ((((160 * (S.2.2 5).toInt) ≤ x.toInt) ∧ (x.toInt < ((160 * (S.2.2 5).toInt) + (u51.1 9 (Int32.toNatClampNeg (S.2.2 5))).toInt))) ∧ ((5 < (4 : Int32).toInt) ∨ (((160 * (S.2.2 5).toInt) ≤ r51.toInt) ∧ (r51.toInt < ((160 * (S.2.2 5).toInt) + (u51.1 9 (Int32.toNatClampNeg (S.2.2 5))).toInt)))))))) from (by have : (4 : Int32).toInt = 4 := gx_lit 4 (by decide); omega)) h12) ?_
    intro r67 u67 h22
    have h22_0 : gm_iS 1 (S.2.2 2) (S.2.2 5) (S.1 6) (S.1 7) (S.1 8) (u67.1 9) (u67.1 10) (u67.1 11) (u67.1 12) (u67.1 13) (S_j49.2.2 21) (S.2.2 22) (S_j49.1 30) (S.1 31) := h22.1
    have h22_1 : ((u67.1 9 (Int32.toNatClampNeg (S.2.2 5))).toInt = ((u51.1 9 (Int32.toNatClampNeg (S.2.2 5))).toInt + 1)) ∧ (r67.toInt = ((160 * (S.2.2 5).toInt) + (u51.1 9 (Int32.toNatClampNeg (S.2.2 5))).toInt)) := h22.2
    clear h22
    refine gy_s_MD_primary_j75 _ _ _ _ _ _ _ _ _ _ _ ?_ ?_ ?_ ?_ ?_ ?_ ?_ ?_ ?_ ?_ ?_ ?_ ?_ ?_ ?_ ?_ ?_ ?_ ?_ ?_ ?_ ?_
    · exact h1
    · exact h2
    · exact h3
    · exact (show 0 ≤ (S.1 9 (Int32.toNatClampNeg (S.2.2 5))).toInt from (by omega))
    · exact (show (S.1 9 (Int32.toNatClampNeg (S.2.2 5))).toInt ≤ 145 from (by omega))
    · exact (show 0 ≤ (S.2.2 19).toInt from (by omega))
    · exact (show (S.2.2 19).toInt ≤ (S.2.2 2).toInt from (by omega))
    · exact (show 0 ≤ (S.2.2 21).toInt from (by omega))
    · exact (show (S.2.2 21).toInt ≤ 58 from (by omega))
    · exact (show (160 * (S.2.2 5).toInt) ≤ x.toInt from (by omega))
    · exact (show x.toInt < ((160 * (S.2.2 5).toInt) + (S.1 9 (Int32.toNatClampNeg (S.2.2 5))).toInt) from (by omega))
    · exact (show 0 ≤ (S.1 6 (Int32.toNatClampNeg (S.2.2 5))).toInt from (by omega))
    · exact (show (S.1 9 (Int32.toNatClampNeg (S.2.2 5))).toInt ≤ (u67.1 9 (Int32.toNatClampNeg (S.2.2 5))).toInt from (by omega))
    · exact (show (S.2.2 19).toInt ≤ (S_j49.2.2 19).toInt from (by omega))
    · exact (show (S_j49.2.2 19).toInt ≤ ((S.2.2 19).toInt + 1) from (by omega))
    · exact (show (S_j49.2.2 19).toInt ≤ (S.2.2 2).toInt from (by omega))
    · exact (show (S_j49.2.2 21).toInt = (S.2.2 21).toInt from (by omega))
    · exact (show (S_j49.2.2 23).toInt = (S.2.2 23).toInt from (by omega))
    · exact (show (u67.1 9 (Int32.toNatClampNeg (S.2.2 5))).toInt ≤ ((S.1 9 (Int32.toNatClampNeg (S.2.2 5))).toInt + (2 * ((S_j49.2.2 19).toInt - (S.2.2 19).toInt))) from (by omega))
    · exact (show (160 * (S.2.2 5).toInt) ≤ r67.toInt from (by omega))
    · exact (show r67.toInt < ((160 * (S.2.2 5).toInt) + (u67.1 9 (Int32.toNatClampNeg (S.2.2 5))).toInt) from (by omega))
    · exact h22_0
  · skip
    have h21_ := gx_eqnr (k := 43) (gx_lit 43 (by decide)) h21
    refine gy_s_MD_primary_j75 _ _ _ _ _ _ _ _ _ _ _ ?_ ?_ ?_ ?_ ?_ ?_ ?_ ?_ ?_ ?_ ?_ ?_ ?_ ?_ ?_ ?_ ?_ ?_ ?_ ?_ ?_ ?_
    · exact h1
    · exact h2
    · exact h3
    · exact (show 0 ≤ (S.1 9 (Int32.toNatClampNeg (S.2.2 5))).toInt from (by omega))
    · exact (show (S.1 9 (Int32.toNatClampNeg (S.2.2 5))).toInt ≤ 145 from (by omega))
    · exact (show 0 ≤ (S.2.2 19).toInt from (by omega))
    · exact (show (S.2.2 19).toInt ≤ (S.2.2 2).toInt from (by omega))
    · exact (show 0 ≤ (S.2.2 21).toInt from (by omega))
    · exact (show (S.2.2 21).toInt ≤ 58 from (by omega))
    · exact (show (160 * (S.2.2 5).toInt) ≤ x.toInt from (by omega))
    · exact (show x.toInt < ((160 * (S.2.2 5).toInt) + (S.1 9 (Int32.toNatClampNeg (S.2.2 5))).toInt) from (by omega))
    · exact (show 0 ≤ (S.1 6 (Int32.toNatClampNeg (S.2.2 5))).toInt from (by omega))
    · exact (show (S.1 9 (Int32.toNatClampNeg (S.2.2 5))).toInt ≤ (u51.1 9 (Int32.toNatClampNeg (S.2.2 5))).toInt from (by omega))
    · exact (show (S.2.2 19).toInt ≤ (S_j49.2.2 19).toInt from (by omega))
    · exact (show (S_j49.2.2 19).toInt ≤ ((S.2.2 19).toInt + 1) from (by omega))
    · exact (show (S_j49.2.2 19).toInt ≤ (S.2.2 2).toInt from (by omega))
    · exact (show (S_j49.2.2 21).toInt = (S.2.2 21).toInt from (by omega))
    · exact (show (S_j49.2.2 23).toInt = (S.2.2 23).toInt from (by omega))
    · exact (show (u51.1 9 (Int32.toNatClampNeg (S.2.2 5))).toInt ≤ ((S.1 9 (Int32.toNatClampNeg (S.2.2 5))).toInt + (2 * ((S_j49.2.2 19).toInt - (S.2.2 19).toInt))) from (by omega))
    · exact (show (160 * (S.2.2 5).toInt) ≤ r51.toInt from (by omega))
    · exact (show r51.toInt < ((160 * (S.2.2 5).toInt) + (u51.1 9 (Int32.toNatClampNeg (S.2.2 5))).toInt) from (by omega))
    · exact h20_0
set_option maxRecDepth 100000 in
theorem gy_s_MD_primary_j25 (x : Int32) (S : gm_S) (r3 : Int32) (u3 : gm_S) (S_j25 : gm_S) (h1 : gm_iW 50 (S.2.2 2) (S.1 3)) (h2 : gm_iN 1 (S.2.2 5)) (h3 : gm_iS 1 (S.2.2 2) (S.2.2 5) (S.1 6) (S.1 7) (S.1 8) (S.1 9) (S.1 10) (S.1 11) (S.1 12) (S.1 13) (S.2.2 21) (S.2.2 22) (S.1 30) (S.1 31)) (h4 : 0 ≤ (S.1 9 (Int32.toNatClampNeg (S.2.2 5))).toInt) (h5 : (S.1 9 (Int32.toNatClampNeg (S.2.2 5))).toInt ≤ 145) (h6 : 0 ≤ (S.2.2 19).toInt) (h7 : (S.2.2 19).toInt ≤ (S.2.2 2).toInt) (h8 : 0 ≤ (S.2.2 21).toInt) (h9 : (S.2.2 21).toInt ≤ 58) (h10 : (160 * (S.2.2 5).toInt) ≤ x.toInt) (h11 : x.toInt < ((160 * (S.2.2 5).toInt) + (S.1 9 (Int32.toNatClampNeg (S.2.2 5))).toInt)) (h12 : 0 ≤ (S.1 6 (Int32.toNatClampNeg (S.2.2 5))).toInt) (h13 : (S_j25.1 9 (Int32.toNatClampNeg (S.2.2 5))).toInt = (S.1 9 (Int32.toNatClampNeg (S.2.2 5))).toInt) (h14 : (S_j25.2.2 19).toInt = (S.2.2 19).toInt) (h15 : (S_j25.2.2 21).toInt = (S.2.2 21).toInt) (h16 : (S_j25.2.2 23).toInt = (S.2.2 23).toInt) (h17 : (S.2.2 19).toInt < (S.2.2 2).toInt) (h18 : gm_iS 1 (S.2.2 2) (S.2.2 5) (S.1 6) (S.1 7) (S.1 8) (S_j25.1 9) (S_j25.1 10) (S_j25.1 11) (S_j25.1 12) (S_j25.1 13) (S_j25.2.2 21) (S.2.2 22) (S_j25.1 30) (S.1 31)) : gm_p_MD_primary_j25 x S r3 u3 S_j25 ∧ gy_q_MD_primary x S (gm_f_MD_primary_j25 x S r3 u3 S_j25) := by
  unfold gm_p_MD_primary_j25 gm_f_MD_primary_j25
  refine gx_if (Q := gy_q_MD_primary x S) (fun h19 => ?_) (fun h19 => ?_)
  · skip
    have h19_ := gx_eqr (k := 63) (gx_lit 63 (by decide)) h19
    refine gy_s_MD_primary_j49 _ _ _ _ _ _ _ ?_ ?_ ?_ ?_ ?_ ?_ ?_ ?_ ?_ ?_ ?_ ?_ ?_ ?_ ?_ ?_ ?_ ?_ ?_
    · exact h1
    · exact h2
    · exact h3
    · exact (show 0 ≤ (S.1 9 (Int32.toNatClampNeg (S.2.2 5))).toInt from (by omega))
    · exact (show (S.1 9 (Int32.toNatClampNeg (S.2.2 5))).toInt ≤ 145 from (by omega))
    · exact (show 0 ≤ (S.2.2 19).toInt from (by omega))
    · exact (show (S.2.2 19).toInt ≤ (S.2.2 2).toInt from (by omega))
    · exact (show 0 ≤ (S.2.2 21).toInt from (by omega))
    · exact (show (S.2.2 21).toInt ≤ 58 from (by omega))
    · exact (show (160 * (S.2.2 5).toInt) ≤ x.toInt from (by omega))
    · exact (show x.toInt < ((160 * (S.2.2 5).toInt) + (S.1 9 (Int32.toNatClampNeg (S.2.2 5))).toInt) from (by omega))
    · exact (show 0 ≤ (S.1 6 (Int32.toNatClampNeg (S.2.2 5))).toInt from (by omega))
    · exact (show (S_j25.1 9 (Int32.toNatClampNeg (S.2.2 5))).toInt = (S.1 9 (Int32.toNatClampNeg (S.2.2 5))).toInt from (by omega))
    · exact (show ((S_j25.2.2 19) + 1).toInt = ((S.2.2 19).toInt + 1) from (by have := gx_ak (S_j25.2.2 19) 1 (1) (by decide); omega))
    · exact (show (S_j25.2.2 21).toInt = (S.2.2 21).toInt from (by omega))
    · exact (show (S_j25.2.2 23).toInt = (S.2.2 23).toInt from (by omega))
    · exact (show (S.2.2 19).toInt < (S.2.2 2).toInt from (by omega))
    · exact (show ((6 : Int32).toInt = 6) ∨ ((6 : Int32).toInt = 7) from (by have : (6 : Int32).toInt = 6 := gx_lit 6 (by decide); omega))
    · exact h18
  · skip
    have h19_ := gx_eqnr (k := 63) (gx_lit 63 (by decide)) h19
    refine gy_s_MD_primary_j49 _ _ _ _ _ _ _ ?_ ?_ ?_ ?_ ?_ ?_ ?_ ?_ ?_ ?_ ?_ ?_ ?_ ?_ ?_ ?_ ?_ ?_ ?_
    · exact h1
    · exact h2
    · exact h3
    · exact (show 0 ≤ (S.1 9 (Int32.toNatClampNeg (S.2.2 5))).toInt from (by omega))
    · exact (show (S.1 9 (Int32.toNatClampNeg (S.2.2 5))).toInt ≤ 145 from (by omega))
    · exact (show 0 ≤ (S.2.2 19).toInt from (by omega))
    · exact (show (S.2.2 19).toInt ≤ (S.2.2 2).toInt from (by omega))
    · exact (show 0 ≤ (S.2.2 21).toInt from (by omega))
    · exact (show (S.2.2 21).toInt ≤ 58 from (by omega))
    · exact (show (160 * (S.2.2 5).toInt) ≤ x.toInt from (by omega))
    · exact (show x.toInt < ((160 * (S.2.2 5).toInt) + (S.1 9 (Int32.toNatClampNeg (S.2.2 5))).toInt) from (by omega))
    · exact (show 0 ≤ (S.1 6 (Int32.toNatClampNeg (S.2.2 5))).toInt from (by omega))
    · exact (show (S_j25.1 9 (Int32.toNatClampNeg (S.2.2 5))).toInt = (S.1 9 (Int32.toNatClampNeg (S.2.2 5))).toInt from (by omega))
    · exact (show ((S_j25.2.2 19) + 1).toInt = ((S.2.2 19).toInt + 1) from (by have := gx_ak (S_j25.2.2 19) 1 (1) (by decide); omega))
    · exact (show (S_j25.2.2 21).toInt = (S.2.2 21).toInt from (by omega))
    · exact (show (S_j25.2.2 23).toInt = (S.2.2 23).toInt from (by omega))
    · exact (show (S.2.2 19).toInt < (S.2.2 2).toInt from (by omega))
    · exact (show ((7 : Int32).toInt = 6) ∨ ((7 : Int32).toInt = 7) from (by have : (7 : Int32).toInt = 7 := gx_lit 7 (by decide); omega))
    · exact h18
set_option maxRecDepth 100000 in
theorem gy_s_MD_primary (x : Int32) (S : gm_S) (h1 : gm_iW 50 (S.2.2 2) (S.1 3)) (h2 : gm_iN 1 (S.2.2 5)) (h3 : gm_iS 1 (S.2.2 2) (S.2.2 5) (S.1 6) (S.1 7) (S.1 8) (S.1 9) (S.1 10) (S.1 11) (S.1 12) (S.1 13) (S.2.2 21) (S.2.2 22) (S.1 30) (S.1 31)) (h4 : 0 ≤ (S.1 9 (Int32.toNatClampNeg (S.2.2 5))).toInt) (h5 : (S.1 9 (Int32.toNatClampNeg (S.2.2 5))).toInt ≤ 145) (h6 : 0 ≤ (S.2.2 19).toInt) (h7 : (S.2.2 19).toInt ≤ (S.2.2 2).toInt) (h8 : 0 ≤ (S.2.2 21).toInt) (h9 : (S.2.2 21).toInt ≤ 58) (h10 : (160 * (S.2.2 5).toInt) ≤ x.toInt) (h11 : x.toInt < ((160 * (S.2.2 5).toInt) + (S.1 9 (Int32.toNatClampNeg (S.2.2 5))).toInt)) (h12 : 0 ≤ (S.1 6 (Int32.toNatClampNeg (S.2.2 5))).toInt) : gm_p_MD_primary x S ∧ gy_q_MD_primary x S (gm_f_MD_primary x S) := by
  unfold gm_p_MD_primary gm_f_MD_primary
  refine gx_ca (Q := gy_q_MD_primary x S) (gx_q_MD_peek _) (gx_s_MD_peek _ h1 h2 h6) ?_
  intro r3 u3 h13
  have h13_0 : (((r3.toInt = 0) ∧ ((S.2.2 2).toInt ≤ (S.2.2 19).toInt)) ∨ ((32 ≤ r3.toInt) ∧ ((r3.toInt ≤ 126) ∧ ((S.2.2 19).toInt < (S.2.2 2).toInt)))) ∧ (r3 = (gm_f_MD_peek S).1) := h13
  refine gx_if (Q := gy_q_MD_primary x S) (fun h14 => ?_) (fun h14 => ?_)
  · skip
    have h14_ := gx_eqr (k := 63) (gx_lit 63 (by decide)) h14
    refine gy_s_MD_primary_j25 _ _ _ _ _ ?_ ?_ ?_ ?_ ?_ ?_ ?_ ?_ ?_ ?_ ?_ ?_ ?_ ?_ ?_ ?_ ?_ ?_
    · exact h1
    · exact h2
    · exact h3
    · exact (show 0 ≤ (S.1 9 (Int32.toNatClampNeg (S.2.2 5))).toInt from (by omega))
    · exact (show (S.1 9 (Int32.toNatClampNeg (S.2.2 5))).toInt ≤ 145 from (by omega))
    · exact (show 0 ≤ (S.2.2 19).toInt from (by omega))
    · exact (show (S.2.2 19).toInt ≤ (S.2.2 2).toInt from (by omega))
    · exact (show 0 ≤ (S.2.2 21).toInt from (by omega))
    · exact (show (S.2.2 21).toInt ≤ 58 from (by omega))
    · exact (show (160 * (S.2.2 5).toInt) ≤ x.toInt from (by omega))
    · exact (show x.toInt < ((160 * (S.2.2 5).toInt) + (S.1 9 (Int32.toNatClampNeg (S.2.2 5))).toInt) from (by omega))
    · exact (show 0 ≤ (S.1 6 (Int32.toNatClampNeg (S.2.2 5))).toInt from (by omega))
    · exact (show (S.1 9 (Int32.toNatClampNeg (S.2.2 5))).toInt = (S.1 9 (Int32.toNatClampNeg (S.2.2 5))).toInt from (by omega))
    · exact (show (S.2.2 19).toInt = (S.2.2 19).toInt from (by omega))
    · exact (show (S.2.2 21).toInt = (S.2.2 21).toInt from (by omega))
    · exact (show (S.2.2 23).toInt = (S.2.2 23).toInt from (by omega))
    · exact (show (S.2.2 19).toInt < (S.2.2 2).toInt from (by omega))
    · exact h3
  · skip
    have h14_ := gx_eqnr (k := 63) (gx_lit 63 (by decide)) h14
    refine gx_if (Q := gy_q_MD_primary x S) (fun h15 => ?_) (fun h15 => ?_)
    · skip
      have h15_ := gx_eqr (k := 42) (gx_lit 42 (by decide)) h15
      refine gy_s_MD_primary_j25 _ _ _ _ _ ?_ ?_ ?_ ?_ ?_ ?_ ?_ ?_ ?_ ?_ ?_ ?_ ?_ ?_ ?_ ?_ ?_ ?_
      · exact h1
      · exact h2
      · exact h3
      · exact (show 0 ≤ (S.1 9 (Int32.toNatClampNeg (S.2.2 5))).toInt from (by omega))
      · exact (show (S.1 9 (Int32.toNatClampNeg (S.2.2 5))).toInt ≤ 145 from (by omega))
      · exact (show 0 ≤ (S.2.2 19).toInt from (by omega))
      · exact (show (S.2.2 19).toInt ≤ (S.2.2 2).toInt from (by omega))
      · exact (show 0 ≤ (S.2.2 21).toInt from (by omega))
      · exact (show (S.2.2 21).toInt ≤ 58 from (by omega))
      · exact (show (160 * (S.2.2 5).toInt) ≤ x.toInt from (by omega))
      · exact (show x.toInt < ((160 * (S.2.2 5).toInt) + (S.1 9 (Int32.toNatClampNeg (S.2.2 5))).toInt) from (by omega))
      · exact (show 0 ≤ (S.1 6 (Int32.toNatClampNeg (S.2.2 5))).toInt from (by omega))
      · exact (show (S.1 9 (Int32.toNatClampNeg (S.2.2 5))).toInt = (S.1 9 (Int32.toNatClampNeg (S.2.2 5))).toInt from (by omega))
      · exact (show (S.2.2 19).toInt = (S.2.2 19).toInt from (by omega))
      · exact (show (S.2.2 21).toInt = (S.2.2 21).toInt from (by omega))
      · exact (show (S.2.2 23).toInt = (S.2.2 23).toInt from (by omega))
      · exact (show (S.2.2 19).toInt < (S.2.2 2).toInt from (by omega))
      · exact h3
    · skip
      have h15_ := gx_eqnr (k := 42) (gx_lit 42 (by decide)) h15
      refine gx_if (Q := gy_q_MD_primary x S) (fun h16 => ?_) (fun h16 => ?_)
      · skip
        have h16_ := gx_eqr (k := 43) (gx_lit 43 (by decide)) h16
        refine gy_s_MD_primary_j25 _ _ _ _ _ ?_ ?_ ?_ ?_ ?_ ?_ ?_ ?_ ?_ ?_ ?_ ?_ ?_ ?_ ?_ ?_ ?_ ?_
        · exact h1
        · exact h2
        · exact h3
        · exact (show 0 ≤ (S.1 9 (Int32.toNatClampNeg (S.2.2 5))).toInt from (by omega))
        · exact (show (S.1 9 (Int32.toNatClampNeg (S.2.2 5))).toInt ≤ 145 from (by omega))
        · exact (show 0 ≤ (S.2.2 19).toInt from (by omega))
        · exact (show (S.2.2 19).toInt ≤ (S.2.2 2).toInt from (by omega))
        · exact (show 0 ≤ (S.2.2 21).toInt from (by omega))
        · exact (show (S.2.2 21).toInt ≤ 58 from (by omega))
        · exact (show (160 * (S.2.2 5).toInt) ≤ x.toInt from (by omega))
        · exact (show x.toInt < ((160 * (S.2.2 5).toInt) + (S.1 9 (Int32.toNatClampNeg (S.2.2 5))).toInt) from (by omega))
        · exact (show 0 ≤ (S.1 6 (Int32.toNatClampNeg (S.2.2 5))).toInt from (by omega))
        · exact (show (S.1 9 (Int32.toNatClampNeg (S.2.2 5))).toInt = (S.1 9 (Int32.toNatClampNeg (S.2.2 5))).toInt from (by omega))
        · exact (show (S.2.2 19).toInt = (S.2.2 19).toInt from (by omega))
        · exact (show (S.2.2 21).toInt = (S.2.2 21).toInt from (by omega))
        · exact (show (S.2.2 23).toInt = (S.2.2 23).toInt from (by omega))
        · exact (show (S.2.2 19).toInt < (S.2.2 2).toInt from (by omega))
        · exact h3
      · skip
        have h16_ := gx_eqnr (k := 43) (gx_lit 43 (by decide)) h16
        refine gy_s_MD_primary_j76 _ _ _ _ _ _ ?_ ?_ ?_ ?_ ?_ ?_ ?_ ?_ ?_ ?_ ?_ ?_ ?_ ?_ ?_ ?_ ?_ ?_ ?_ ?_ ?_ ?_
        · exact h1
        · exact h2
        · exact h3
        · exact (show 0 ≤ (S.1 9 (Int32.toNatClampNeg (S.2.2 5))).toInt from (by omega))
        · exact (show (S.1 9 (Int32.toNatClampNeg (S.2.2 5))).toInt ≤ 145 from (by omega))
        · exact (show 0 ≤ (S.2.2 19).toInt from (by omega))
        · exact (show (S.2.2 19).toInt ≤ (S.2.2 2).toInt from (by omega))
        · exact (show 0 ≤ (S.2.2 21).toInt from (by omega))
        · exact (show (S.2.2 21).toInt ≤ 58 from (by omega))
        · exact (show (160 * (S.2.2 5).toInt) ≤ x.toInt from (by omega))
        · exact (show x.toInt < ((160 * (S.2.2 5).toInt) + (S.1 9 (Int32.toNatClampNeg (S.2.2 5))).toInt) from (by omega))
        · exact (show 0 ≤ (S.1 6 (Int32.toNatClampNeg (S.2.2 5))).toInt from (by omega))
        · exact (show (S.1 9 (Int32.toNatClampNeg (S.2.2 5))).toInt ≤ (S.1 9 (Int32.toNatClampNeg (S.2.2 5))).toInt from (by omega))
        · exact (show (S.2.2 19).toInt ≤ (S.2.2 19).toInt from (by omega))
        · exact (show (S.2.2 19).toInt ≤ ((S.2.2 19).toInt + 1) from (by omega))
        · exact (show (S.2.2 19).toInt ≤ (S.2.2 2).toInt from (by omega))
        · exact (show (S.2.2 21).toInt = (S.2.2 21).toInt from (by omega))
        · exact (show (S.2.2 23).toInt = (S.2.2 23).toInt from (by omega))
        · exact (show (S.1 9 (Int32.toNatClampNeg (S.2.2 5))).toInt ≤ ((S.1 9 (Int32.toNatClampNeg (S.2.2 5))).toInt + (2 * ((S.2.2 19).toInt - (S.2.2 19).toInt))) from (by omega))
        · exact (show (160 * (S.2.2 5).toInt) ≤ x.toInt from (by omega))
        · exact (show x.toInt < ((160 * (S.2.2 5).toInt) + (S.1 9 (Int32.toNatClampNeg (S.2.2 5))).toInt) from (by omega))
        · exact h3
