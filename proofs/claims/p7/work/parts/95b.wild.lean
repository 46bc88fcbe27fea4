/-! Rules that could run for ever, as the reference finds them. -/
def gp_wd (kd on ow em : Nat → Int32) (x v0 : Int32) (lo hi : Int) (v : Int32) : Prop :=
  (v = 0 ∧ v0 = 0 ∧ ∀ n : Nat, lo ≤ n → (n : Int) < hi → ow n = x → (kd n = 7 ∨ kd n = 10) → em (Int32.toNatClampNeg (on n)) = 0) ∨
  (v = 1 ∧ (¬ v0 = 0 ∨ ∃ n : Nat, lo ≤ n ∧ (n : Int) < hi ∧ ow n = x ∧ (kd n = 7 ∨ kd n = 10) ∧ ¬ em (Int32.toNatClampNeg (on n)) = 0))
theorem gp_wd_0 {kd on ow em : Nat → Int32} {x v0 : Int32} {lo hi : Int} {N : Nat} (h : gp_wd kd on ow em x v0 lo hi 0) (hN : (N : Int) = hi) (h1 : ow N = x → (kd N = 7 ∨ kd N = 10) → em (Int32.toNatClampNeg (on N)) = 0) : gp_wd kd on ow em x v0 lo (hi + 1) 0 := by
  rcases h with ⟨-, h0, h⟩ | ⟨h, -⟩
  · refine Or.inl ⟨rfl, h0, fun n a b => ?_⟩
    by_cases q : n = N
    · rw [q]; exact h1
    · exact h n a (by omega)
  · exact absurd h (by decide)
theorem gp_wd_1 {kd on ow em : Nat → Int32} {x v0 v : Int32} {lo hi : Int} (h : gp_wd kd on ow em x v0 lo hi v) (hv : ¬ v = 0) : gp_wd kd on ow em x v0 lo (hi + 1) 1 := by
  rcases h with ⟨h, -⟩ | ⟨-, h | ⟨n, a, b, c⟩⟩
  · exact absurd h hv
  · exact Or.inr ⟨rfl, Or.inl h⟩
  · exact Or.inr ⟨rfl, Or.inr ⟨n, a, by omega, c⟩⟩
theorem gy_wd_42 (x : Int32) (S : gm_S) (k0 : Int32) (Sj : gm_S) {ty : Int32} (hU : gm_iU ty (S.2.2 5) (S.1 6) (S.1 7) (S.1 8) (S.1 9) (S.1 10) (S.1 11) (S.1 12) (S.1 13)) :
    ∀ (n : Nat) (v3 v2 : Int32) (S2 : gm_S), 160 * (S.2.2 5).toInt ≤ v3.toInt → v3.toInt ≤ 160 * (S.2.2 5).toInt + ((S.1 9) (Int32.toNatClampNeg (S.2.2 5))).toInt → 160 * (S.2.2 5).toInt + ((S.1 9) (Int32.toNatClampNeg (S.2.2 5))).toInt < v3.toInt + n → gp_wd (S.1 10) (S.1 11) (S.1 13) (S.1 15) x k0 (160 * (S.2.2 5).toInt) v3.toInt v2 → gm_p_MD_isWild_42 x S k0 Sj n v3 v2 S2 ∧ (fun z : Int32 × gm_S => gp_wd (S.1 10) (S.1 11) (S.1 13) (S.1 15) x k0 (160 * (S.2.2 5).toInt) (160 * (S.2.2 5).toInt + ((S.1 9) (Int32.toNatClampNeg (S.2.2 5))).toInt) z.1) (gm_f_MD_isWild_42 x S k0 Sj n v3 v2 S2) := by
  obtain ⟨⟨f0, f1⟩, ⟨p0, p1⟩, ⟨r0, r1⟩, hG, hN⟩ := hU
  have m := gx_mk 160 (S.2.2 5) 160 (gx_lit 160 (by decide))
  have s := gx_ad (160 * (S.2.2 5)) ((S.1 9) (Int32.toNatClampNeg (S.2.2 5)))
  have T : (160 * (S.2.2 5) + (S.1 9) (Int32.toNatClampNeg (S.2.2 5))).toInt = 160 * (S.2.2 5).toInt + ((S.1 9) (Int32.toNatClampNeg (S.2.2 5))).toInt := by omega
  clear m s
  obtain ⟨Q, hQ⟩ : ∃ Q : Int32 × gm_S → Prop, Q = (fun z : Int32 × gm_S => gp_wd (S.1 10) (S.1 11) (S.1 13) (S.1 15) x k0 (160 * (S.2.2 5).toInt) (160 * (S.2.2 5).toInt + ((S.1 9) (Int32.toNatClampNeg (S.2.2 5))).toInt) z.1) := ⟨_, rfl⟩
  rw [← hQ]
  intro n
  induction n with
  | zero => intro v3 v2 S2 h0 h1 h2; exfalso; omega
  | succ n ih =>
    intro v3 v2 S2 h0 h1 h2 hW
    rw [gm_p_MD_isWild_42, gm_f_MD_isWild_42]
    refine gx_in (Q := Q) (vp_in_iff.mpr (by omega)) ?_
    refine gx_if (Q := Q) (fun h => ?_) (fun h => ?_)
    · have a := gx_le h
      have e3 : v3.toInt = 160 * (S.2.2 5).toInt + ((S.1 9) (Int32.toNatClampNeg (S.2.2 5))).toInt := by omega
      rw [e3] at hW
      refine gx_in (Q := Q) (by rcases hW with ⟨q, -⟩ | ⟨q, -⟩; exact Or.inl q; exact Or.inr q) ⟨trivial, ?_⟩
      rw [hQ]
      exact hW
    · have a := gx_len h
      rw [T] at a
      have b := gx_ak v3 1 1 (by decide)
      have e1 : (v3 + 1).toInt = v3.toInt + 1 := by omega
      have c := gx_cl v3 (by omega)
      have nd := (hG.1 (Int32.toNatClampNeg v3) (by omega) (by omega)).1
      unfold gp_node at nd
      obtain ⟨k0', k1, n4, -, -, -⟩ := nd
      have step : ∀ w : Int32, gp_wd (S.1 10) (S.1 11) (S.1 13) (S.1 15) x k0 (160 * (S.2.2 5).toInt) (v3.toInt + 1) w → gm_p_MD_isWild_42 x S k0 Sj n (v3 + 1) w S ∧ Q (gm_f_MD_isWild_42 x S k0 Sj n (v3 + 1) w S) := fun w hw => ih (v3 + 1) w S (by omega) (by omega) (by omega) (by rw [e1]; exact hw)
      have ix : vp_in v3 320 := vp_in_iff.mpr (by omega)
      refine gx_if (Q := Q) (fun h2 => ?_) (fun h2 => step 1 (gp_wd_1 hW h2))
      rw [h2] at hW
      refine gx_in (Q := Q) ix ?_
      refine gx_if (Q := Q) (fun h3 => ?_) (fun h3 => step 0 (gp_wd_0 hW c (fun q => absurd q h3)))
      refine gx_in (Q := Q) ix ?_
      refine gx_if (Q := Q) (fun h4 => ?_) (fun h4 => ?_)
      · have k7 : ((S.1 10) (Int32.toNatClampNeg v3)).toInt = 7 := by rw [h4]; exact gx_lit 7 (by decide)
        have w := n4 (by omega)
        refine gx_in (Q := Q) ix (gx_in (Q := Q) (vp_in_iff.mpr (by omega)) ?_)
        refine gx_if (Q := Q) (fun h5 => step 0 (gp_wd_0 hW c (fun _ _ => h5))) (fun h5 => step 1 (Or.inr ⟨rfl, Or.inr ⟨Int32.toNatClampNeg v3, by omega, by omega, h3, Or.inl h4, h5⟩⟩))
      refine gx_in (Q := Q) ix ?_
      refine gx_if (Q := Q) (fun h5 => ?_) (fun h5 => step 0 (gp_wd_0 hW c (fun _ q => by rcases q with q | q; (exact absurd q h4); (exact absurd q h5))))
      have k7 : ((S.1 10) (Int32.toNatClampNeg v3)).toInt = 10 := by rw [h5]; exact gx_lit 10 (by decide)
      have w := n4 (by omega)
      refine gx_in (Q := Q) ix (gx_in (Q := Q) (vp_in_iff.mpr (by omega)) ?_)
      refine gx_if (Q := Q) (fun h6 => step 0 (gp_wd_0 hW c (fun _ _ => h6))) (fun h6 => step 1 (Or.inr ⟨rfl, Or.inr ⟨Int32.toNatClampNeg v3, by omega, by omega, h3, Or.inr h5, h6⟩⟩))
/-- r is left recursive: its bit is among what it begins with -/
abbrev gp_lr (S : gm_S) (x : Int32) : Int32 := if (((S.1 16) (Int32.toNatClampNeg ((S.1 8) (Int32.toNatClampNeg ((8 * (S.2.2 5)) + x))))) >>> (x &&& 31)) &&& 1 = 1 then 1 else 0
theorem gy_s_MD_isWild (x : Int32) (S : gm_S) {ty : Int32} (hU : gm_iU ty (S.2.2 5) (S.1 6) (S.1 7) (S.1 8) (S.1 9) (S.1 10) (S.1 11) (S.1 12) (S.1 13)) (hx : 0 ≤ x.toInt) (hx2 : x.toInt < ((S.1 6) (Int32.toNatClampNeg (S.2.2 5))).toInt) :
    gm_p_MD_isWild x S ∧ (fun z : Int32 × gm_S => gp_wd (S.1 10) (S.1 11) (S.1 13) (S.1 15) x (gp_lr S x) (160 * (S.2.2 5).toInt) (160 * (S.2.2 5).toInt + ((S.1 9) (Int32.toNatClampNeg (S.2.2 5))).toInt) z.1) (gm_f_MD_isWild x S) := by
  have hU' := hU
  obtain ⟨⟨f0, f1⟩, ⟨p0, p1⟩, ⟨r0, r1⟩, hG, hN⟩ := hU'
  have m := gx_mk 160 (S.2.2 5) 160 (gx_lit 160 (by decide))
  have m8 := gx_mk 8 (S.2.2 5) 8 (gx_lit 8 (by decide))
  have s8 := gx_ad (8 * (S.2.2 5)) x
  have e8 : (8 * (S.2.2 5) + x).toInt = 8 * (S.2.2 5).toInt + x.toInt := by omega
  have c8 := gx_cl (8 * (S.2.2 5) + x) (by omega)
  have cx := gx_cl x hx
  have cf := gx_cl (S.2.2 5) f0
  have w := hG.2.2.2 (Int32.toNatClampNeg x) (by omega) (Int32.toNatClampNeg (8 * (S.2.2 5) + x)) (by omega)
  have j32 : ∀ k0 Sj, (k0 = 0 ∨ k0 = 1) → gm_p_MD_isWild_j32 x S k0 Sj ∧ (fun z : Int32 × gm_S => gp_wd (S.1 10) (S.1 11) (S.1 13) (S.1 15) x k0 (160 * (S.2.2 5).toInt) (160 * (S.2.2 5).toInt + ((S.1 9) (Int32.toNatClampNeg (S.2.2 5))).toInt) z.1) (gm_f_MD_isWild_j32 x S k0 Sj) := by
    intro k0 Sj hk
    unfold gm_p_MD_isWild_j32 gm_f_MD_isWild_j32
    refine gy_wd_42 x S k0 Sj hU 200 _ k0 S (by omega) (by omega) (by omega) ?_
    rcases hk with hk | hk
    · exact Or.inl ⟨hk, hk, fun n a b => by omega⟩
    · exact Or.inr ⟨hk, Or.inl (by rw [hk]; decide)⟩
  unfold gm_p_MD_isWild gm_f_MD_isWild
  refine gx_in (vp_in_iff.mpr (by omega)) (gx_in (vp_in_iff.mpr (by omega)) ?_)
  by_cases q : (((S.1 16) (Int32.toNatClampNeg ((S.1 8) (Int32.toNatClampNeg ((8 * (S.2.2 5)) + x))))) >>> (x &&& 31)) &&& 1 = 1
  · have e : gp_lr S x = 1 := if_pos q
    rw [e, if_pos q]
    exact ⟨⟨fun _ => (j32 1 S (Or.inr rfl)).1, fun t => absurd q t⟩, (j32 1 S (Or.inr rfl)).2⟩
  · have e : gp_lr S x = 0 := if_neg q
    rw [e, if_neg q]
    exact ⟨⟨fun t => absurd t q, fun _ => (j32 0 S (Or.inl rfl)).1⟩, (j32 0 S (Or.inl rfl)).2⟩
