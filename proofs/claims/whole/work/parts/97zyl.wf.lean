/-! Expressions as they are in a grammar that was taken: small things. -/
theorem gv_wf_df {f : Nat → Int × Lean.ParserDescr} {R : Nat} : ∀ e : Lean.ParserDescr, gv_wf f R e → gv_df (fun c => gq_fx f (c : Int) R < R) e := by
  intro e
  induction e with
  | cat nm j =>
    intro h q
    obtain ⟨c, e1, e2⟩ := h.2.2 q
    subst e1
    exact e2
  | node nm j x ih => intro h; exact ih h.2.2.1
  | binary nm x y ih1 ih2 => intro h; exact ⟨ih1 h.1, ih2 h.2.1, fun n1 _ => (h.2.2.2 n1).2⟩
  | _ => intro h; exact h.elim
theorem gt_ws_su (W : Nat → Nat) : ∀ R, gt_ws W R = gv_su (fun _ => true) (fun r => 1 + W r) R := by
  intro R
  induction R with
  | zero => rfl
  | succ R ih =>
    rw [gt_ws, gv_su, if_pos rfl, ih]
    omega
/-- the frames are enough -/
theorem gv_d550 {C : gv_C} {f : Nat → Int × Lean.ParserDescr} {R fed : Nat} (hw : gs_no R (gq_wd f R)) (hC : ∀ c, C.1 c = (f (gq_fx f (c : Int) R)).2) (hf : ∀ r, r < R → gv_wf f R (f r).2) (hle : ∀ (k : Nat) (e : Lean.ParserDescr) (q : Nat), q ≤ fed → (q : Int) + gv_v C k e q ≤ fed) (h10 : fed ≤ 10) (h50 : gt_ws (fun r => gv_sd (f r).2) R ≤ 50) (k s : Nat) (hs : s < R) : 1 + gv_d C k (f s).2 0 ≤ 550 := by
  obtain ⟨b, hb⟩ := gv_pb_ex f R
  have d := gv_db hb hw hC hf hle k (f s).2 0 (hf s hs) (Nat.zero_le _)
  have p := gv_su_p (x := b (f s).2) (y := fun _ => true) (w := fun r => 1 + gv_sd (f r).2) (c := s) (fun h => gv_bg_no hw hs ((hb _ _).mp h)) rfl R hs (fun _ _ _ => rfl)
  rw [gt_ws_su] at h50
  generalize gv_su (fun _ => true) (fun r => 1 + gv_sd (f r).2) R = N at d p h50
  have m := Nat.mul_le_mul_left N (show fed - 0 ≤ 10 by omega)
  omega
