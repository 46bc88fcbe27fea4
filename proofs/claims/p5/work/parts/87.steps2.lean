/-- where the ways up stand, at part k: begins and both rows of heads, each bit -/
def gp_al (kd on tw M R : Nat → Int32) (em : Nat → Prop) (C : Nat → Int) (B k : Nat) (xb xl xh : Nat → Nat → Bool) (bg : Nat → Int32) (lo hi : Nat → Int64) : Prop :=
  (∀ q : Nat, q < 32 → gp_vb bg q B = gp_sw (gp_FB kd on tw M R em q B) k (xb q)) ∧
  (∀ q : Nat, q < 64 → gp_vl lo q B = gp_sw (gp_FH kd on tw M em (fun n => C n < 96 ∧ (q : Int) = C n - 32) B) k (xl q)) ∧
  (∀ q : Nat, q < 64 → gp_vl hi q B = gp_sw (gp_FH kd on tw M em (fun n => 96 ≤ C n ∧ (q : Int) = C n - 96) B) k (xh q))
theorem gp_h_step {kd on tw M : Nat → Int32} {em rw : Nat → Prop} {B k q : Nat} {x0 : Nat → Bool} {lo : Nat → Int64} {a : Int64} (hv : gp_vl lo q B = gp_sw (gp_FH kd on tw M em rw B) k x0) (h3 : (kd (B + k)).toInt = 3 → B ≤ Int32.toNatClampNeg (M (B + k))) (h4 : 4 ≤ (kd (B + k)).toInt → B ≤ Int32.toNatClampNeg (on (B + k))) (h5 : ((kd (B + k)).toInt = 4 ∨ (kd (B + k)).toInt = 5) → B ≤ Int32.toNatClampNeg (tw (B + k))) (ha : gp_bl a q = true ↔ (gp_bl (lo (B + k)) q = true ∨ gp_hF kd on tw M em (fun j => gp_bl (lo j) q = true) (rw (B + k)) (B + k))) : gp_vl (vp_updL lo (B + k) a) q B = gp_sw (gp_FH kd on tw M em rw B) (k + 1) x0 := by
  refine gp_sw_next hv (gp_bool_eq ?_) (fun j hj => ?_)
  · rw [gp_FH_iff]
    unfold gp_vl
    rw [gx_lus, ha, gp_hF_up h3 h4 h5]
    have e : ∀ j : Nat, (B ≤ j ∧ gp_bl (lo j) q = true) ↔ (B ≤ j ∧ gp_bl (lo (B + (j - B))) q = true) := fun j => ⟨fun t => ⟨t.1, by rw [show B + (j - B) = j by omega]; exact t.2⟩, fun t => ⟨t.1, by have := t.2; rw [show B + (j - B) = j by omega] at this; exact this⟩⟩
    exact ⟨fun t => t.imp id (gp_hF_mono (fun j => (e j).mp)), fun t => t.imp id (gp_hF_mono (fun j => (e j).mpr))⟩
  · unfold gp_vl
    rw [gx_lun _ _ _ (show B + j ≠ B + k by omega)]
theorem gp_b_step {kd on tw M R : Nat → Int32} {em : Nat → Prop} {B k q : Nat} {x0 : Nat → Bool} {bg : Nat → Int32} {a : Int32} (hv : gp_vb bg q B = gp_sw (gp_FB kd on tw M R em q B) k x0) (h3 : (kd (B + k)).toInt = 3 → B ≤ Int32.toNatClampNeg (M (B + k))) (h4 : 4 ≤ (kd (B + k)).toInt → B ≤ Int32.toNatClampNeg (on (B + k))) (h5 : ((kd (B + k)).toInt = 4 ∨ (kd (B + k)).toInt = 5) → B ≤ Int32.toNatClampNeg (tw (B + k))) (ha : gp_bt a q = true ↔ gp_bF kd on tw M R em (fun j => gp_bt (bg j) q = true) q (B + k)) : gp_vb (upd bg (B + k) a) q B = gp_sw (gp_FB kd on tw M R em q B) (k + 1) x0 := by
  refine gp_sw_next hv (gp_bool_eq ?_) (fun j hj => ?_)
  · rw [gp_FB_iff]
    unfold gp_vb
    rw [gx_us, ha, gp_bF_up h3 h4 h5]
    have e : ∀ j : Nat, (B ≤ j ∧ gp_bt (bg j) q = true) ↔ (B ≤ j ∧ gp_bt (bg (B + (j - B))) q = true) := fun j => ⟨fun t => ⟨t.1, by rw [show B + (j - B) = j by omega]; exact t.2⟩, fun t => ⟨t.1, by have := t.2; rw [show B + (j - B) = j by omega] at this; exact this⟩⟩
    exact ⟨gp_bF_mono (fun j => (e j).mp), gp_bF_mono (fun j => (e j).mpr)⟩
  · unfold gp_vb
    rw [gx_un _ _ _ (show B + j ≠ B + k by omega)]
theorem gp_al_step {ty fr : Int32} {rc nm wh pa kd on tw ow : Nat → Int32} (hU : gm_iU ty fr rc nm wh pa kd on tw ow) {em : Nat → Prop} {C : Nat → Int} {B k : Nat} {xb xl xh : Nat → Nat → Bool} {bg : Nat → Int32} {lo hi : Nat → Int64} {R : Nat → Int32} (hB : (B : Int) = 160 * fr.toInt) (hk : (k : Int) < (pa (Int32.toNatClampNeg fr)).toInt) (h : gp_al kd on tw (fun n => gp_mz rc nm wh fr (on n)) R em C B k xb xl xh bg lo hi) {r : Int32} (hr : ∀ q : Nat, q < 32 → (gp_bt r q = true ↔ gp_bF kd on tw (fun n => gp_mz rc nm wh fr (on n)) R em (fun j => gp_bt (bg j) q = true) q (B + k))) {a b : Int64}
    (ha : ∀ q : Nat, q < 64 → (gp_bl a q = true ↔ (gp_bl (lo (B + k)) q = true ∨ gp_hF kd on tw (fun n => gp_mz rc nm wh fr (on n)) em (fun j => gp_bl (lo j) q = true) (C (B + k) < 96 ∧ (q : Int) = C (B + k) - 32) (B + k))))
    (hb : ∀ q : Nat, q < 64 → (gp_bl b q = true ↔ (gp_bl (hi (B + k)) q = true ∨ gp_hF kd on tw (fun n => gp_mz rc nm wh fr (on n)) em (fun j => gp_bl (hi j) q = true) (96 ≤ C (B + k) ∧ (q : Int) = C (B + k) - 96) (B + k)))) :
    gp_al kd on tw (fun n => gp_mz rc nm wh fr (on n)) R em C B (k + 1) xb xl xh (upd bg (B + k) r) (vp_updL lo (B + k) a) (vp_updL hi (B + k) b) := by
  have nd := (hU.2.2.2.1.1 (B + k) (by omega) (by omega)).1
  unfold gp_node at nd
  obtain ⟨k0, k1, n4, n45, -, -⟩ := nd
  have ge : ∀ z : Int32, 160 * fr.toInt ≤ z.toInt → B ≤ Int32.toNatClampNeg z := fun z hz => by
    have := gx_cl z (by have := hU.1.1; omega)
    omega
  have g3 : (kd (B + k)).toInt = 3 → B ≤ Int32.toNatClampNeg (gp_mz rc nm wh fr (on (B + k))) := fun q => ge _ (gp_mz_in hU (by omega) (by omega) (Int32.toInt_inj.mp (q.trans (by decide)))).1
  have g4 : 4 ≤ (kd (B + k)).toInt → B ≤ Int32.toNatClampNeg (on (B + k)) := fun q => ge _ (n4 q).1
  have g5 : ((kd (B + k)).toInt = 4 ∨ (kd (B + k)).toInt = 5) → B ≤ Int32.toNatClampNeg (tw (B + k)) := fun q => ge _ (n45 q).1
  exact ⟨fun q hq => gp_b_step (h.1 q hq) g3 g4 g5 (hr q hq), fun q hq => gp_h_step (h.2.1 q hq) g3 g4 g5 (ha q hq), fun q hq => gp_h_step (h.2.2 q hq) g3 g4 g5 (hb q hq)⟩
