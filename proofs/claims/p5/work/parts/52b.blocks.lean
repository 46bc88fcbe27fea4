/-! A world of blocks: some of them looked at, the others left alone. -/
theorem gm_Pm {D : va_G} {cl : List vw_C} {ws : va_W} {H : Heap} : va_P D cl ws H ↔ ∀ q ∈ ws, va_at D cl q H :=
  ⟨fun h q hq => by obtain ⟨k, hk⟩ := List.mem_iff_getElem?.mp hq; exact h k q hk, fun h k q hk => h q (List.mem_iff_getElem?.mpr ⟨k, hk⟩)⟩
theorem gm_Dm {A : Nat → Prop} {ws : va_W} : va_D A ws ↔ ws.Pairwise (fun p q => p.1 ≠ q.1) ∧ ∀ q ∈ ws, A q.1 := by
  constructor
  · intro h
    refine ⟨List.pairwise_iff_getElem.mpr (fun i j hi hj hij e => ?_), fun q hq => ?_⟩
    · have := h.1 i j _ _ (List.getElem?_eq_getElem hi) (List.getElem?_eq_getElem hj) e
      omega
    · obtain ⟨k, hk⟩ := List.mem_iff_getElem?.mp hq
      exact h.2 k q hk
  · intro h
    refine ⟨fun i j p q hp hq e => ?_, fun k q hk => h.2 q (List.mem_iff_getElem?.mpr ⟨k, hk⟩)⟩
    obtain ⟨hi, rfl⟩ := List.getElem?_eq_some_iff.mp hp
    obtain ⟨hj, rfl⟩ := List.getElem?_eq_some_iff.mp hq
    apply Classical.byContradiction
    intro hne
    rcases Nat.lt_or_gt_of_ne hne with hl | hl
    · exact List.pairwise_iff_getElem.mp h.1 i j hi hj hl e
    · exact List.pairwise_iff_getElem.mp h.1 j i hj hi hl e.symm
def gm_R (D : va_G) (cl : List vw_C) (A : Nat → Prop) (X R : va_W) (H : Heap) : Prop := va_P D cl R H ∧ va_D A R ∧ ∀ p ∈ X, ∀ q ∈ R, p.1 ≠ q.1
theorem gm_memC {ws wc : va_W} (is : List Nat) (hC : is.map (fun i => ws[i]?) = wc.map some) : ∀ x ∈ wc, x ∈ ws := by
  intro x hx
  have h1 : some x ∈ is.map (fun i => ws[i]?) := by rw [hC]; exact List.mem_map_of_mem hx
  obtain ⟨i, -, hi⟩ := List.mem_map.mp h1
  exact List.mem_iff_getElem?.mpr ⟨i, hi⟩
theorem gm_R.call {D : va_G} {cl : List vw_C} {A : Nat → Prop} {ws wc wr w1 R : va_W} {H H1 : Heap} (hR : gm_R D cl A ws R H) (isC isR : List Nat) (hC : isC.map (fun i => ws[i]?) = wc.map some) (hr : isR.map (fun i => ws[i]?) = wr.map some) (hk : ∀ q : Nat, q < H.size → ¬ va_A wc H.size q → H1[q]? = H[q]?) (hD1 : va_D (va_A wc H.size) w1) : gm_R D cl A (wr ++ w1) R H1 := by
  obtain ⟨hP, hD, hX⟩ := hR
  have apart : ∀ q ∈ R, q.1 < H.size ∧ ¬ va_A wc H.size q.1 := by
    intro q hq
    have hl := (gm_Pm.mp hP q hq).lt
    refine ⟨hl, fun h => ?_⟩
    rcases h with ⟨k, e, h⟩ | h
    · exact hX (q.1, e) (gm_memC isC hC _ (List.mem_iff_getElem?.mpr ⟨k, h⟩)) q hq rfl
    · omega
  refine ⟨gm_Pm.mpr (fun q hq => (gm_Pm.mp hP q hq).kept (hk q.1 (apart q hq).1 (apart q hq).2)), hD, fun p hp q hq => ?_⟩
  rcases List.mem_append.mp hp with h | h
  · exact hX p (gm_memC isR hr p h) q hq
  · intro e
    have := (gm_Dm.mp hD1).2 p h
    rw [e] at this
    exact (apart q hq).2 this
theorem gm_R.sub {D : va_G} {cl : List vw_C} {A : Nat → Prop} {ws ws' R : va_W} {H : Heap} (hR : gm_R D cl A ws R H) (is : List Nat) (hs : is.filterMap (fun i => ws[i]?) = ws') : gm_R D cl A ws' R H := by
  refine ⟨hR.1, hR.2.1, fun p hp q hq => hR.2.2 p ?_ q hq⟩
  rw [← hs] at hp
  obtain ⟨i, -, hi⟩ := List.mem_filterMap.mp hp
  exact List.mem_iff_getElem?.mpr ⟨i, hi⟩
theorem gm_rng {α : Type} (Bs : List α) : (List.range Bs.length).map (fun i => Bs[i]?) = Bs.map some := by
  refine List.ext_getElem (by simp) (fun i h1 h2 => ?_)
  simp at h1 h2 ⊢
theorem gm_fid {α : Type} (l : List α) : (l.map some).filterMap id = l := by
  induction l with
  | nil => rfl
  | cons a l ih =>
    show (some a :: l.map some).filterMap id = a :: l
    rw [List.filterMap_cons]
    exact congrArg (a :: ·) ih
theorem gm_sel {Bs Xs Rs : List va_W} (sel rest : List Nat) (hp : (sel ++ rest).Perm (List.range Bs.length)) (hX : sel.map (fun i => Bs[i]?) = Xs.map some) (hR : rest.map (fun i => Bs[i]?) = Rs.map some) : (Xs.flatten ++ Rs.flatten).Perm Bs.flatten := by
  rw [← List.flatten_append]
  refine List.Perm.flatten ?_
  have h := (hp.map (fun i => Bs[i]?)).filterMap id
  rw [gm_rng, gm_fid, List.map_append, hX, hR, ← List.map_append, gm_fid] at h
  exact h
theorem gm_focus {D : va_G} {cl : List vw_C} {A : Nat → Prop} {H : Heap} {Bs Xs Rs : List va_W} (sel rest : List Nat) (hp : (sel ++ rest).Perm (List.range Bs.length)) (hX : sel.map (fun i => Bs[i]?) = Xs.map some) (hR : rest.map (fun i => Bs[i]?) = Rs.map some) (hP : va_P D cl Bs.flatten H) (hD : va_D A Bs.flatten) : va_P D cl Xs.flatten H ∧ va_D A Xs.flatten ∧ gm_R D cl A Xs.flatten Rs.flatten H := by
  have p := gm_sel sel rest hp hX hR
  have mP := gm_Pm.mp hP
  have mD := gm_Dm.mp hD
  have w := (List.Perm.pairwise_iff (R := fun (p q : Nat × va_E) => p.1 ≠ q.1) (fun h e => h e.symm) p).mpr mD.1
  rw [List.pairwise_append] at w
  obtain ⟨w1, w2, w3⟩ := w
  have m1 : ∀ q ∈ Xs.flatten, q ∈ Bs.flatten := fun q hq => p.mem_iff.mp (List.mem_append_left _ hq)
  have m2 : ∀ q ∈ Rs.flatten, q ∈ Bs.flatten := fun q hq => p.mem_iff.mp (List.mem_append_right _ hq)
  exact ⟨gm_Pm.mpr (fun q h => mP q (m1 q h)), gm_Dm.mpr ⟨w1, fun q h => mD.2 q (m1 q h)⟩, gm_Pm.mpr (fun q h => mP q (m2 q h)), gm_Dm.mpr ⟨w2, fun q h => mD.2 q (m2 q h)⟩, w3⟩
theorem gm_unfocus {D : va_G} {cl : List vw_C} {A : Nat → Prop} {H : Heap} {Bs Xs Rs : List va_W} (sel rest : List Nat) (hp : (sel ++ rest).Perm (List.range Bs.length)) (hX : sel.map (fun i => Bs[i]?) = Xs.map some) (hR : rest.map (fun i => Bs[i]?) = Rs.map some) (hP : va_P D cl Xs.flatten H) (hD : va_D A Xs.flatten) (hF : gm_R D cl A Xs.flatten Rs.flatten H) : va_P D cl Bs.flatten H ∧ va_D A Bs.flatten := by
  have p := gm_sel sel rest hp hX hR
  obtain ⟨f1, f2, f3⟩ := hF
  have mP := gm_Pm.mp hP
  have mD := gm_Dm.mp hD
  have mQ := gm_Pm.mp f1
  have mE := gm_Dm.mp f2
  have w := (List.Perm.pairwise_iff (R := fun (p q : Nat × va_E) => p.1 ≠ q.1) (fun h e => h e.symm) p).mp (List.pairwise_append.mpr ⟨mD.1, mE.1, f3⟩)
  refine ⟨gm_Pm.mpr (fun q h => ?_), gm_Dm.mpr ⟨w, fun q h => ?_⟩⟩
  · rcases List.mem_append.mp (p.mem_iff.mpr h) with h | h
    · exact mP q h
    · exact mQ q h
  · rcases List.mem_append.mp (p.mem_iff.mpr h) with h | h
    · exact mD.2 q h
    · exact mE.2 q h
