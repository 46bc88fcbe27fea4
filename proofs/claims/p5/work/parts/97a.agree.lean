/-! Both sides type and feed alike. -/
theorem gp_ty_eq (x : Int32) (s t : gm_S) (h : s.2.2 1 = t.2.2 2) (hW : gm_iW 50 (t.2.2 2) (t.1 3)) : (gm_f_Row_append 50 x s).1 = (gm_f_MD_type x t).1 ∧ (gm_f_Row_append 50 x s).2.2.2 1 = (gm_f_MD_type x t).2.2.2 2 := by
  have l := hW.1.2
  unfold gm_f_Row_append gm_f_MD_type
  by_cases a : x < 32
  · rw [if_pos a, if_pos a]
    exact ⟨rfl, h⟩
  rw [if_neg a, if_neg a]
  by_cases b : 126 < x
  · rw [if_pos b, if_pos b]
    exact ⟨rfl, h⟩
  rw [if_neg b, if_neg b]
  have o : (Int32.ofNat 50).toInt = 50 := gx_on 50 (by decide)
  by_cases c : t.2.2 2 = 50
  · have c1 := gx_eqr (k := 50) (gx_lit 50 (by decide)) c
    have n : ¬ s.2.2 1 < Int32.ofNat 50 := by rw [Int32.lt_iff_toInt_lt, h]; omega
    rw [if_neg n, if_pos c]
    exact ⟨rfl, h⟩
  · have c1 := gx_eqnr (k := 50) (gx_lit 50 (by decide)) c
    have n : s.2.2 1 < Int32.ofNat 50 := by rw [Int32.lt_iff_toInt_lt, h]; omega
    rw [if_pos n, if_neg c]
    refine ⟨rfl, ?_⟩
    show s.2.2 1 + 1 = t.2.2 2 + 1
    rw [h]
theorem gp_fd_eq (x : Int32) (s t : gm_S) (h : s.2.2 1 = t.2.2 32) (hW : gm_iW 10 (t.2.2 32) (t.1 33)) : (gm_f_Row_append 10 x s).1 = (gm_f_MD_feed x t).1 ∧ (gm_f_Row_append 10 x s).2.2.2 1 = (gm_f_MD_feed x t).2.2.2 32 := by
  have l := hW.1.2
  unfold gm_f_Row_append gm_f_MD_feed
  by_cases a : x < 32
  · rw [if_pos a, if_pos a]
    exact ⟨rfl, h⟩
  rw [if_neg a, if_neg a]
  by_cases b : 126 < x
  · rw [if_pos b, if_pos b]
    exact ⟨rfl, h⟩
  rw [if_neg b, if_neg b]
  have o : (Int32.ofNat 10).toInt = 10 := gx_on 10 (by decide)
  by_cases c : t.2.2 32 = 10
  · have c1 := gx_eqr (k := 10) (gx_lit 10 (by decide)) c
    have n : ¬ s.2.2 1 < Int32.ofNat 10 := by rw [Int32.lt_iff_toInt_lt, h]; omega
    rw [if_neg n, if_pos c]
    exact ⟨rfl, h⟩
  · have c1 := gx_eqnr (k := 10) (gx_lit 10 (by decide)) c
    have n : s.2.2 1 < Int32.ofNat 10 := by rw [Int32.lt_iff_toInt_lt, h]; omega
    rw [if_pos n, if_neg c]
    refine ⟨rfl, ?_⟩
    show s.2.2 1 + 1 = t.2.2 32 + 1
    rw [h]
