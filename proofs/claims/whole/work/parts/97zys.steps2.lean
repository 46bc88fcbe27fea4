/-! How many steps between tries: each expression. -/
theorem gj_s {C : gv_C} {f : Nat → Int × Lean.ParserDescr} {R fed : Nat} {b : Lean.ParserDescr → Nat → Bool} {em : Lean.ParserDescr → Bool} {ph W : Nat → Nat} {Hd H G : Nat} (hb : gv_pb f R b) (hem : ∀ e, em e = true ↔ gq_em (gq_EL f R) e) (hw : gs_no R (gq_wd f R)) (hC : ∀ c, C.1 c = (f (gq_fx f (c : Int) R)).2) (hf : ∀ r, r < R → gv_wf f R (f r).2) (hle : ∀ (k : Nat) (e : Lean.ParserDescr) (q : Nat), q ≤ fed → (q : Int) + gv_v C k e q ≤ fed) (hlk : ∀ x q, em x = true → C.2.2.2 x q = true) (hph : ∀ c : Nat, gq_fx f (c : Int) R < R → gj_Z em ph (f (gq_fx f (c : Int) R)).2 ≤ ph c) (hW : ∀ r, r < R → 2 + gj_D em ph (f r).2 ≤ W r) (hH : gv_su (fun _ => true) W R ≤ H) (hB : ∀ r, r < R → ∀ e', e' ∈ gp_sb (f r).2 → gj_D em ph e' ≤ Hd) (hG : Hd + 11 * H + 6 ≤ G) (h10 : fed ≤ 10) : ∀ (k : Nat) (e : Lean.ParserDescr) (q bb : Nat), gv_wf f R e → (∀ e', e' ∈ gp_sb e → gj_D em ph e' ≤ Hd) → q ≤ fed → gv_v C k e q ≠ -2 → gj_Q H G fed q bb (gv_v C k e q) (gv_c C k e q) (gv_s C k e q bb) (gj_Z em ph e) (gj_D em ph e) (gv_su (b e) W R) := by
  have z0 := gv_z0 (C := C) (f := f) (R := R) rfl hC hf
  have all : ∀ e, gv_su (b e) W R ≤ H := fun e => Nat.le_trans (gv_su_le _ _ _) hH
  intro k
  induction k with
  | zero => intro e q bb _ _ _ hv; exact absurd rfl hv
  | succ k ih =>
    intro e q bb hwf hs hq hv
    have hwf0 := hwf
    have z0e := z0 (k + 1) e q hwf
    cases e with
    | cat nm j =>
      obtain ⟨j3, w1, w3⟩ := hwf
      have : j = 0 ∨ j = 1 ∨ j = 2 ∨ j = 3 := by omega
      rcases this with e | e | e | e
      · subst e
        refine gj_cheap (fun _ => ?_) (fun _ => ?_) <;> exact Nat.zero_le _
      · subst e
        have ev : gv_v C (k + 1) (.cat nm 1) q = if C.2.1 (gp_n1 nm) (gp_n2 nm) q = true then (gp_n2 nm : Int) else -1 := rfl
        have eD : gj_D em ph (.cat nm 1) = gp_n2 nm := rfl
        have es : gv_s C (k + 1) (.cat nm 1) q bb = gp_n2 nm := rfl
        have ec : gv_c C (k + 1) (.cat nm 1) q = 0 := rfl
        have := w1 rfl
        rw [eD, es, ec, ev]
        refine ⟨fun _ a => ?_, fun _ _ => by omega, fun _ _ => by omega, fun a => absurd a (by omega)⟩
        exfalso
        by_cases z : C.2.1 (gp_n1 nm) (gp_n2 nm) q = true
        · rw [if_pos z] at a; omega
        · rw [if_neg z] at a; omega
      · subst e
        have ev : gv_v C (k + 1) (.cat nm 2) q = if C.2.2.1 (gp_n1 nm) (gp_n2 nm) q = true then 1 else -1 := rfl
        have eD : gj_D em ph (.cat nm 2) = 1 := rfl
        have es : gv_s C (k + 1) (.cat nm 2) q bb = 1 := rfl
        have ec : gv_c C (k + 1) (.cat nm 2) q = 0 := rfl
        rw [eD, es, ec, ev]
        refine ⟨fun _ a => ?_, fun _ _ => by omega, fun _ _ => by omega, fun a => absurd a (by omega)⟩
        exfalso
        by_cases z : C.2.2.1 (gp_n1 nm) (gp_n2 nm) q = true
        · rw [if_pos z] at a; omega
        · rw [if_neg z] at a; omega
      · subst e
        obtain ⟨c, e1, e2⟩ := w3 rfl
        subst e1
        have ev : gv_v C (k + 1) (.cat (.num (.num .anonymous c) 0) 3) q = gv_v C k (C.1 c) q := rfl
        have es : gv_s C (k + 1) (.cat (.num (.num .anonymous c) 0) 3) q bb = 2 + gv_s C k (C.1 c) q bb := rfl
        have ec : gv_c C (k + 1) (.cat (.num (.num .anonymous c) 0) 3) q = gv_c C k (C.1 c) q := rfl
        rw [hC] at ev es ec
        rw [ev] at hv z0e
        rw [ev, es, ec]
        have i := ih (f (gq_fx f (c : Int) R)).2 q bb (hf _ e2) (hB _ e2) hq hv
        have s : gv_su (b (f (gq_fx f (c : Int) R)).2) W R + W (gq_fx f (c : Int) R) ≤ gv_su (b (.cat (.num (.num .anonymous c) 0) 3)) W R := gv_sg_c hb W hw e2
        have w := hW _ e2
        refine gj_add 2 i (fun a => ?_) (by omega)
        have eZ : gj_Z em ph (.cat (.num (.num .anonymous c) 0) 3) = if em (.cat (.num (.num .anonymous c) 0) 3) = true then 2 + ph c else 0 := rfl
        rw [eZ, if_pos ((hem _).mpr (z0e a))]
        have := hph c e2
        omega
    | node nm j x =>
      obtain ⟨j6, j10, wx, wn⟩ := hwf
      have hsx : ∀ e', e' ∈ gp_sb x → gj_D em ph e' ≤ Hd := fun e' h => hs e' (List.mem_cons_of_mem _ h)
      have dx := hsx x (gy_sb_s x)
      have zd := gj_ZD em ph x
      have gx := all x
      have g := gv_v_ge C k x q
      have l := hle k x q hq
      have s := gv_sg_n (k := j) (nm := nm) (x := x) hb W
      have : j = 6 ∨ j = 7 ∨ j = 8 ∨ j = 9 ∨ j = 10 := by omega
      rcases this with q0 | q0 | q0 | q0 | q0
      · subst q0
        have ev : gv_v C (k + 1) (.node nm 6 x) q = if C.2.2.2 x q = true then (if gv_v C k x q = -1 then 0 else gv_v C k x q) else 0 := rfl
        have ec : gv_c C (k + 1) (.node nm 6 x) q = if C.2.2.2 x q = true then 1 + gv_c C k x q else 0 := rfl
        have es : gv_s C (k + 1) (.node nm 6 x) q bb = if C.2.2.2 x q = true then 3 + gv_g bb (gv_s C k x q (bb - 1)) else 1 := rfl
        by_cases z : C.2.2.2 x q = true
        · rw [if_pos z] at ev ec es
          have vx : gv_v C k x q ≠ -2 := by intro e; rw [ev, e] at hv; exact hv rfl
          obtain ⟨t1, t2⟩ := gj_try (ih x q (bb - 1) wx hsx hq vx) zd dx gx (by omega) l hq h10 hG
          rw [ec, es]
          exact gj_cheap t1 t2
        · rw [if_neg z] at ev ec es
          have ne : ¬ em x = true := fun h => z (hlk x q h)
          have eZ : gj_Z em ph (.node nm 6 x) = if em (.node nm 6 x) = true then (if em x = true then 0 else 1) else 0 := rfl
          rw [if_pos ((hem _).mpr (z0e ev)), if_neg ne] at eZ
          rw [ev, ec, es, eZ]
          exact ⟨fun _ _ => by omega, fun _ a => absurd a (by omega), fun _ a => absurd a (by omega), fun a => absurd a (by omega)⟩
      · subst q0
        have ev : gv_v C (k + 1) (.node nm 7 x) q = if C.2.2.2 x q = true then (if gv_v C k x q = -1 then 0 else if gv_v C k x q = -2 then -2 else if gv_v C k (.node nm 7 x) (q + (gv_v C k x q).toNat) = -2 then -2 else gv_v C k x q + gv_v C k (.node nm 7 x) (q + (gv_v C k x q).toNat)) else 0 := rfl
        have ec : gv_c C (k + 1) (.node nm 7 x) q = if C.2.2.2 x q = true then (if gv_v C k x q < 0 then 1 + gv_c C k x q else 1 + gv_c C k x q + gv_c C k (.node nm 7 x) (q + (gv_v C k x q).toNat)) else 0 := rfl
        have es : gv_s C (k + 1) (.node nm 7 x) q bb = if C.2.2.2 x q = true then (if gv_v C k x q < 0 then 3 + gv_g bb (gv_s C k x q (bb - 1)) else 3 + gv_g bb (gv_s C k x q (bb - 1)) + gv_h (1 + gv_c C k x q) bb (gv_s C k (.node nm 7 x) (q + (gv_v C k x q).toNat) (bb - (1 + gv_c C k x q)))) else 1 := rfl
        have ne : ¬ em x = true := fun h => wn (Or.inl rfl) ((hem x).mp h)
        have emS : em (.node nm 7 x) = true := (hem _).mpr (fun h => absurd h (by decide))
        have eZ : gj_Z em ph (.node nm 7 x) = if em (.node nm 7 x) = true then (if em x = true then 0 else 1) else 0 := rfl
        rw [if_pos emS, if_neg ne] at eZ
        have eD : gj_D em ph (.node nm 7 x) = if em x = true then 0 else 1 := rfl
        rw [if_neg ne] at eD
        by_cases z : C.2.2.2 x q = true
        · rw [if_pos z] at ev ec es
          have vx : gv_v C k x q ≠ -2 := by intro e; rw [ev, e] at hv; exact hv rfl
          obtain ⟨t1, t2⟩ := gj_try (ih x q (bb - 1) wx hsx hq vx) zd dx gx (by omega) l hq h10 hG
          by_cases v0 : gv_v C k x q < 0
          · rw [if_pos v0] at ec es
            rw [ec, es]
            exact gj_cheap t1 t2
          · rw [if_neg v0] at ec es
            rw [if_neg (show ¬ gv_v C k x q = -1 by omega), if_neg vx] at ev
            have vs : gv_v C k (.node nm 7 x) (q + (gv_v C k x q).toNat) ≠ -2 := by intro e; rw [if_pos e] at ev; exact hv ev
            rw [if_neg vs] at ev
            have sn := gv_star_ne C nm x k (q + (gv_v C k x q).toNat)
            have sg := gv_v_ge C k (.node nm 7 x) (q + (gv_v C k x q).toNat)
            have nz : ¬ gv_v C k x q = 0 := fun h => ne ((hem x).mpr (z0 k x q wx h))
            have i2 := ih (.node nm 7 x) (q + (gv_v C k x q).toNat) (bb - (1 + gv_c C k x q)) hwf0 hs (by omega) vs
            rw [ev, ec, es]
            exact gj_then t1 t2 i2 (by omega) (Nat.le_refl _) (by rw [eZ, eD]; omega) (fun a => absurd a (by omega)) (fun _ => by omega) (fun a => absurd a (by omega))
        · rw [if_neg z] at ev ec es
          rw [ev, ec, es, eZ]
          exact ⟨fun _ _ => by omega, fun _ a => absurd a (by omega), fun _ a => absurd a (by omega), fun a => absurd a (by omega)⟩
      · subst q0
        have ev : gv_v C (k + 1) (.node nm 8 x) q = if 0 ≤ gv_v C k x q then 0 else gv_v C k x q := rfl
        have ec : gv_c C (k + 1) (.node nm 8 x) q = 1 + gv_c C k x q := rfl
        have es : gv_s C (k + 1) (.node nm 8 x) q bb = 2 + gv_g bb (gv_s C k x q (bb - 1)) := rfl
        have vx : gv_v C k x q ≠ -2 := by intro e; rw [ev, e] at hv; exact hv rfl
        obtain ⟨t1, t2⟩ := gj_try (ih x q (bb - 1) wx hsx hq vx) zd dx gx (by omega) l hq h10 hG
        rw [ec, es]
        exact gj_cheap (fun a => by have := t1 a; omega) (fun a => by have := t2 a; omega)
      · subst q0
        have ev : gv_v C (k + 1) (.node nm 9 x) q = if 0 ≤ gv_v C k x q then -1 else if gv_v C k x q = -1 then 0 else -2 := rfl
        have ec : gv_c C (k + 1) (.node nm 9 x) q = 1 + gv_c C k x q := rfl
        have es : gv_s C (k + 1) (.node nm 9 x) q bb = 2 + gv_g bb (gv_s C k x q (bb - 1)) := rfl
        have vx : gv_v C k x q ≠ -2 := by intro e; rw [ev, e] at hv; exact hv rfl
        obtain ⟨t1, t2⟩ := gj_try (ih x q (bb - 1) wx hsx hq vx) zd dx gx (by omega) l hq h10 hG
        rw [ec, es]
        exact gj_cheap (fun a => by have := t1 a; omega) (fun a => by have := t2 a; omega)
      · subst q0
        have ev : gv_v C (k + 1) (.node nm 10 x) q = gv_v C k x q := rfl
        have ec : gv_c C (k + 1) (.node nm 10 x) q = gv_c C k x q := rfl
        have es : gv_s C (k + 1) (.node nm 10 x) q bb = 2 + gv_s C k x q bb := rfl
        have eD : gj_D em ph (.node nm 10 x) = 2 + gj_D em ph x := rfl
        rw [ev] at hv
        rw [ev, ec, es, eD]
        exact gj_add 2 (ih x q bb wx hsx hq hv) (fun a => absurd (z0 k x q wx a) (wn (Or.inr rfl))) (by omega)
    | binary nm x y =>
      obtain ⟨wx, wy, j45, wp⟩ := hwf
      have hsx : ∀ e', e' ∈ gp_sb x → gj_D em ph e' ≤ Hd := fun e' h => hs e' (List.mem_cons_of_mem _ (List.mem_append_left _ h))
      have hsy : ∀ e', e' ∈ gp_sb y → gj_D em ph e' ≤ Hd := fun e' h => hs e' (List.mem_cons_of_mem _ (List.mem_append_right _ h))
      have dx := hsx x (gy_sb_s x)
      have zd := gj_ZD em ph x
      have zdy := gj_ZD em ph y
      have gx := all x
      have gy := all y
      have g := gv_v_ge C k x q
      have l := hle k x q hq
      have s1 := gv_sg_1 (nm := nm) (x := x) (y := y) hb W
      by_cases n4 : gp_n2 nm = 4
      · have ev : gv_v C (k + 1) (.binary nm x y) q = if gv_v C k x q < 0 then gv_v C k x q else if gv_v C k y (q + (gv_v C k x q).toNat) < 0 then gv_v C k y (q + (gv_v C k x q).toNat) else gv_v C k x q + gv_v C k y (q + (gv_v C k x q).toNat) := if_pos n4
        have ec : gv_c C (k + 1) (.binary nm x y) q = if gv_v C k x q < 0 then gv_c C k x q else gv_c C k x q + gv_c C k y (q + (gv_v C k x q).toNat) := if_pos n4
        have es : gv_s C (k + 1) (.binary nm x y) q bb = if gv_v C k x q < 0 then (if gp_n1 nm = 1 then 3 else 0) + gv_s C k x q bb else (if gp_n1 nm = 1 then 3 else 0) + gv_s C k x q bb + gv_h (gv_c C k x q) bb (gv_s C k y (q + (gv_v C k x q).toNat) (bb - gv_c C k x q)) := if_pos n4
        have eD : gj_D em ph (.binary nm x y) = (if gp_n1 nm = 1 then 3 else 0) + gj_D em ph x + gj_D em ph y := if_pos n4
        have vx : gv_v C k x q ≠ -2 := by intro e; rw [ev, e] at hv; exact hv rfl
        have ix := ih x q bb wx hsx hq vx
        by_cases v0 : gv_v C k x q < 0
        · rw [if_pos v0] at ev ec es
          rw [ev, ec, es, eD]
          exact gj_add _ ix (fun a => absurd a (by omega)) (by omega)
        · rw [if_neg v0] at ev ec es
          have vy : gv_v C k y (q + (gv_v C k x q).toNat) ≠ -2 := by intro e; rw [if_pos (by omega), e] at ev; exact hv ev
          have iy := ih y (q + (gv_v C k x q).toNat) (bb - gv_c C k x q) wy hsy (by omega) vy
          have g2 := gv_v_ge C k y (q + (gv_v C k x q).toNat)
          have l2 := hle k y (q + (gv_v C k x q).toNat) (by omega)
          rw [ec, es, eD]
          have fin := gj_seq (pre := if gp_n1 nm = 1 then 3 else 0) (z := gj_Z em ph (.binary nm x y)) (d := (if gp_n1 nm = 1 then 3 else 0) + gj_D em ph x + gj_D em ph y) (g := gv_su (b (.binary nm x y)) W R) ix (by omega) l iy (by omega) l2 zd zdy (Nat.le_refl _) s1 gy (fun e0 => ?_)
          · rw [ev]; exact fin
          · have ex := z0 k x q wx e0
            refine ⟨gv_sg_2 hb W (fun _ => ex), ?_, fun ey => ?_⟩
            · refine if_neg (fun n1 => ?_)
              obtain ⟨-, eyy⟩ := wp n1
              rw [eyy] at wy
              exact wy.2.2.2 (Or.inl rfl) ex
            · have eZ : gj_Z em ph (.binary nm x y) = if em (.binary nm x y) = true then (if gp_n2 nm = 4 then gj_Z em ph x + gj_Z em ph y else (if em x = true then 0 else 1) + gj_Z em ph y) else 0 := rfl
              have ve : gv_v C (k + 1) (.binary nm x y) q = 0 := by
                rw [ev, if_neg (by omega)]; omega
              rw [eZ, if_pos ((hem _).mpr (z0e ve)), if_pos n4]
              exact Nat.le_refl _
      · have s2 := gv_sg_2 (nm := nm) (x := x) (y := y) hb W (fun h => absurd h n4)
        have ev : gv_v C (k + 1) (.binary nm x y) q = if C.2.2.2 x q = true then (if gv_v C k x q = -1 then gv_v C k y q else gv_v C k x q) else gv_v C k y q := if_neg n4
        have ec : gv_c C (k + 1) (.binary nm x y) q = if C.2.2.2 x q = true then (if gv_v C k x q = -1 then 1 + gv_c C k x q + gv_c C k y q else 1 + gv_c C k x q) else gv_c C k y q := if_neg n4
        have es : gv_s C (k + 1) (.binary nm x y) q bb = if C.2.2.2 x q = true then (if gv_v C k x q = -1 then 3 + gv_g bb (gv_s C k x q (bb - 1)) + gv_h (1 + gv_c C k x q) bb (gv_s C k y q (bb - (1 + gv_c C k x q))) else 3 + gv_g bb (gv_s C k x q (bb - 1))) else 1 + gv_s C k y q bb := if_neg n4
        have eD : gj_D em ph (.binary nm x y) = (if em x = true then 0 else 1) + gj_D em ph y := if_neg n4
        have eZ : gj_Z em ph (.binary nm x y) = if em (.binary nm x y) = true then (if gp_n2 nm = 4 then gj_Z em ph x + gj_Z em ph y else (if em x = true then 0 else 1) + gj_Z em ph y) else 0 := rfl
        rw [if_neg n4] at eZ
        by_cases z : C.2.2.2 x q = true
        · rw [if_pos z] at ev ec es
          by_cases v1 : gv_v C k x q = -1
          · rw [if_pos v1] at ev ec es
            rw [ev] at hv
            obtain ⟨t1, t2⟩ := gj_try (ih x q (bb - 1) wx hsx hq (by omega)) zd dx gx (by omega) l hq h10 hG
            have iy := ih y q (bb - (1 + gv_c C k x q)) wy hsy hq hv
            rw [ev, ec, es, eD]
            refine gj_then t1 t2 iy (Nat.le_refl _) (by omega) (by omega) (fun a => ⟨a, ?_⟩) (fun a => Or.inr ⟨a, Int.le_refl _⟩) (fun a => a)
            rw [eZ, if_pos ((hem _).mpr (z0e (ev.trans a)))]
            omega
          · rw [if_neg v1] at ev ec es
            rw [ev] at hv
            obtain ⟨t1, t2⟩ := gj_try (ih x q (bb - 1) wx hsx hq hv) zd dx gx (by omega) l hq h10 hG
            rw [ec, es]
            exact gj_cheap t1 t2
        · rw [if_neg z] at ev ec es
          have ne : ¬ em x = true := fun h => z (hlk x q h)
          rw [if_neg ne] at eD eZ
          rw [ev] at hv
          rw [ev, ec, es, eD]
          refine gj_add 1 (ih y q bb wy hsy hq hv) (fun a => ?_) (by omega)
          rw [eZ, if_pos ((hem _).mpr (z0e (ev.trans a)))]
          exact Nat.le_refl _
    | _ => exact absurd hwf (fun h => h)
