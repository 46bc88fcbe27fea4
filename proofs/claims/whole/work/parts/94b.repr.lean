/-! Parts of the reference that stand for an expression. -/
def gp_ch (B : Nat) (x : Int32) (n : Nat) : Prop := (B : Int) ≤ x.toInt ∧ x.toInt < n
def gp_rep (Pg : Nat → Nat → Nat → Prop) (B : Nat) (kd on tw : Nat → Int32) : Lean.ParserDescr → Nat → Prop
  | .cat nm k, n => k ≤ 3 ∧ (kd n).toInt = k ∧ (k = 1 → (on n).toInt = gp_n1 nm ∧ (tw n).toInt = gp_n2 nm) ∧ (k = 3 → (on n).toInt = gp_n1 nm) ∧ (k = 2 → Pg n (gp_n1 nm) (gp_n2 nm))
  | .node _ k e, n => (6 ≤ k ∧ k ≤ 10) ∧ (kd n).toInt = k ∧ gp_ch B (on n) n ∧ gp_rep Pg B kd on tw e (Int32.toNatClampNeg (on n))
  | .binary nm e f, n => (gp_n2 nm = 4 ∨ gp_n2 nm = 5) ∧ (kd n).toInt = gp_n2 nm ∧ gp_ch B (on n) n ∧ gp_ch B (tw n) n ∧ gp_rep Pg B kd on tw e (Int32.toNatClampNeg (on n)) ∧ gp_rep Pg B kd on tw f (Int32.toNatClampNeg (tw n))
  | _, _ => False
theorem gp_ch_cl {B : Nat} {x : Int32} {n : Nat} (h : gp_ch B x n) : B ≤ Int32.toNatClampNeg x ∧ Int32.toNatClampNeg x < n ∧ ((Int32.toNatClampNeg x : Nat) : Int) = x.toInt := by
  obtain ⟨h1, h2⟩ := h
  have c := gx_cl x (by omega)
  exact ⟨by omega, by omega, c⟩
/-- from lo on -/
theorem gp_ch_lo {B lo M : Nat} {x : Int32} {n : Nat} (h : gp_ch B x n) (h2 : Int32.toNatClampNeg x = M) (h3 : lo ≤ M) : gp_ch lo x n := by
  obtain ⟨a, b, c⟩ := gp_ch_cl h
  exact ⟨by omega, h.2⟩
theorem gp_ch_w {B : Nat} {x : Int32} {n m : Nat} (h : gp_ch B x n) (hm : n ≤ m) : gp_ch B x m := ⟨h.1, by have := h.2; omega⟩
theorem gp_ch_b {B B' : Nat} {x : Int32} {n : Nat} (hB : B ≤ B') (h : gp_ch B' x n) : gp_ch B x n := ⟨by have := h.1; omega, h.2⟩
theorem gp_rep_b {Pg : Nat → Nat → Nat → Prop} {B B' : Nat} {kd on tw : Nat → Int32} (hB : B ≤ B') : ∀ (e : Lean.ParserDescr) (n : Nat), gp_rep Pg B' kd on tw e n → gp_rep Pg B kd on tw e n := by
  intro e
  induction e with
  | cat nm k => intro n r; exact r
  | node nm k e ih => intro n r; exact ⟨r.1, r.2.1, gp_ch_b hB r.2.2.1, ih _ r.2.2.2⟩
  | binary nm e f ih1 ih2 => intro n r; exact ⟨r.1, r.2.1, gp_ch_b hB r.2.2.1, gp_ch_b hB r.2.2.2.1, ih1 _ r.2.2.2.2.1, ih2 _ r.2.2.2.2.2⟩
  | _ => intro n r; exact r
/-- parts that are the same below a place -/
def gp_sm (kd on tw kd' on' tw' : Nat → Int32) (M : Nat) : Prop := ∀ m, m < M → kd' m = kd m ∧ on' m = on m ∧ tw' m = tw m
theorem gp_rep_tr {Pg : Nat → Nat → Nat → Prop} {B N : Nat} {kd on tw kd' on' tw' : Nat → Int32} (h : gp_sm kd on tw kd' on' tw' N) : ∀ (e : Lean.ParserDescr) (n : Nat), n < N → gp_rep Pg B kd on tw e n → gp_rep Pg B kd' on' tw' e n := by
  intro e
  induction e with
  | cat nm k =>
    intro n hn r
    unfold gp_rep at r ⊢
    rw [(h n hn).1, (h n hn).2.1, (h n hn).2.2]
    exact r
  | node nm k e ih =>
    intro n hn r
    unfold gp_rep at r ⊢
    rw [(h n hn).1, (h n hn).2.1]
    have c := gp_ch_cl r.2.2.1
    exact ⟨r.1, r.2.1, r.2.2.1, ih _ (by omega) r.2.2.2⟩
  | binary nm e f ih1 ih2 =>
    intro n hn r
    unfold gp_rep at r ⊢
    rw [(h n hn).1, (h n hn).2.1, (h n hn).2.2]
    have c := gp_ch_cl r.2.2.1
    have c2 := gp_ch_cl r.2.2.2.1
    exact ⟨r.1, r.2.1, r.2.2.1, r.2.2.2.1, ih1 _ (by omega) r.2.2.2.2.1, ih2 _ (by omega) r.2.2.2.2.2⟩
  | _ =>
    intro n hn r
    unfold gp_rep at r
    exact r.elim
/-- a row of parts, the latest first, from lo to hi of an array -/
def gp_seg (Pg : Nat → Nat → Nat → Prop) (B M : Nat) (kd on tw it : Nat → Int32) : List Lean.ParserDescr → Nat → Nat → Prop
  | [], lo, hi => hi = lo
  | e :: r, lo, hi => ∃ h, hi = h + 1 ∧ gp_ch B (it h) M ∧ gp_rep Pg B kd on tw e (Int32.toNatClampNeg (it h)) ∧ gp_seg Pg B M kd on tw it r lo h
theorem gp_seg_le {Pg : Nat → Nat → Nat → Prop} {B M : Nat} {kd on tw it : Nat → Int32} : ∀ (r : List Lean.ParserDescr) (lo hi : Nat), gp_seg Pg B M kd on tw it r lo hi → hi = lo + r.length := by
  intro r
  induction r with
  | nil => intro lo hi h; exact h
  | cons e r ih =>
    intro lo hi h
    obtain ⟨k, h1, -, -, h4⟩ := h
    have := ih lo k h4
    rw [List.length_cons]
    omega
theorem gp_seg_tr {Pg : Nat → Nat → Nat → Prop} {B M M' : Nat} {kd on tw kd' on' tw' it it' : Nat → Int32} (hM : M ≤ M') (h : gp_sm kd on tw kd' on' tw' M) : ∀ (r : List Lean.ParserDescr) (lo hi : Nat), (∀ k, k < hi → it' k = it k) → gp_seg Pg B M kd on tw it r lo hi → gp_seg Pg B M' kd' on' tw' it' r lo hi := by
  intro r
  induction r with
  | nil => intro lo hi _ s; exact s
  | cons e r ih =>
    intro lo hi hk s
    obtain ⟨k, h1, h2, h3, h4⟩ := s
    have c := gp_ch_cl h2
    have e1 := hk k (by omega)
    refine ⟨k, h1, ?_, ?_, ih lo k (fun j hj => hk j (by omega)) h4⟩
    · rw [e1]; exact gp_ch_w h2 hM
    · rw [e1]; exact gp_rep_tr h e _ (by omega) h3
/-- the open brackets in the arrays -/
def gp_stk (Pg : Nat → Nat → Nat → Prop) (B M : Nat) (kd on tw bk bf ib ab it al : Nat → Int32) : List gp_Fm → Nat → Nat → Nat → Prop
  | [], _, _, _ => False
  | f :: fs, d, i, l => ∃ i' l' : Nat, (bk d).toInt = f.1 ∧ (ib d).toInt = i' ∧ (ab d).toInt = l' ∧ gp_seg Pg B M kd on tw it f.2.2.1 i' i ∧ gp_seg Pg B M kd on tw al f.2.2.2 l' l ∧ ((fs = [] ∧ d = 0 ∧ i' = 0 ∧ l' = 0) ∨ (∃ d', d = d' + 1 ∧ (bf d).toInt = f.2.1 ∧ gp_stk Pg B M kd on tw bk bf ib ab it al fs d' i' l'))
theorem gp_stk_len {Pg : Nat → Nat → Nat → Prop} {B M : Nat} {kd on tw bk bf ib ab it al : Nat → Int32} : ∀ (fs : List gp_Fm) (d i l : Nat), gp_stk Pg B M kd on tw bk bf ib ab it al fs d i l → fs.length = d + 1 := by
  intro fs
  induction fs with
  | nil => intro d i l h; exact h.elim
  | cons f fs ih =>
    intro d i l h
    obtain ⟨i', l', -, -, -, -, -, h6⟩ := h
    rw [List.length_cons]
    rcases h6 with ⟨e, e2, -⟩ | ⟨d', e, -, h7⟩
    · rw [e, e2]; rfl
    · have := ih d' i' l' h7
      omega
theorem gp_stk_tr {Pg : Nat → Nat → Nat → Prop} {B M M' : Nat} {kd on tw kd' on' tw' bk bf ib ab it al bk' bf' ib' ab' it' al' : Nat → Int32} (hM : M ≤ M') (h : gp_sm kd on tw kd' on' tw' M) : ∀ (fs : List gp_Fm) (d i l : Nat), (∀ k, k ≤ d → bk' k = bk k ∧ bf' k = bf k ∧ ib' k = ib k ∧ ab' k = ab k) → (∀ k, k < i → it' k = it k) → (∀ k, k < l → al' k = al k) → gp_stk Pg B M kd on tw bk bf ib ab it al fs d i l → gp_stk Pg B M' kd' on' tw' bk' bf' ib' ab' it' al' fs d i l := by
  intro fs
  induction fs with
  | nil => intro d i l _ _ _ s; exact s
  | cons f fs ih =>
    intro d i l hb hi hl s
    obtain ⟨i', l', h1, h2, h3, h4, h5, h6⟩ := s
    have b := hb d (Nat.le_refl d)
    have li := gp_seg_le _ _ _ h4
    have ll := gp_seg_le _ _ _ h5
    refine ⟨i', l', by rw [b.1]; exact h1, by rw [b.2.2.1]; exact h2, by rw [b.2.2.2]; exact h3, gp_seg_tr hM h _ _ _ hi h4, gp_seg_tr hM h _ _ _ hl h5, ?_⟩
    rcases h6 with q | ⟨d', e, h7, h8⟩
    · exact Or.inl q
    · refine Or.inr ⟨d', e, by rw [b.2.1]; exact h7, ih d' i' l' (fun k hk => hb k (by omega)) (fun k hk => hi k (by omega)) (fun k hk => hl k (by omega)) h8⟩
/-- an item more -/
theorem gp_stk_pi {Pg : Nat → Nat → Nat → Prop} {B M : Nat} {kd on tw bk bf ib ab it al : Nat → Int32} {fs : List gp_Fm} {d i l : Nat} (h : gp_stk Pg B M kd on tw bk bf ib ab it al fs d i l) {e : Lean.ParserDescr} {x : Int32} (hx : gp_ch B x M) (hr : gp_rep Pg B kd on tw e (Int32.toNatClampNeg x)) : gp_stk Pg B M kd on tw bk bf ib ab (upd it i x) al (gp_ps e fs) d (i + 1) l := by
  cases fs with
  | nil => exact h.elim
  | cons f fs =>
    have h' := gp_stk_tr (it' := upd it i x) (bk' := bk) (bf' := bf) (ib' := ib) (ab' := ab) (al' := al) (Nat.le_refl M) (kd' := kd) (on' := on) (tw' := tw) (fun m _ => ⟨rfl, rfl, rfl⟩) (f :: fs) d i l (fun k _ => ⟨rfl, rfl, rfl, rfl⟩) (fun k hk => gx_un _ _ _ (by omega)) (fun k _ => rfl) h
    obtain ⟨i', l', h1, h2, h3, h4, h5, h6⟩ := h'
    refine ⟨i', l', h1, h2, h3, ⟨i, rfl, ?_, ?_, h4⟩, h5, h6⟩
    · rw [gx_us]; exact hx
    · rw [gx_us]; exact hr
/-- how many pairs and stars, and how many captures, there are -/
def gp_ka (kd : Nat → Int32) (B P : Nat) : Nat := gp_c (fun k => decide ((kd (B + k)).toInt = 4 ∨ (kd (B + k)).toInt = 7)) P
def gp_kc (kd : Nat → Int32) (B P : Nat) : Nat := gp_c (fun k => decide ((kd (B + k)).toInt = 10)) P
theorem gp_c_ext {x y : Nat → Bool} : ∀ {n : Nat}, (∀ k, k < n → x k = y k) → gp_c x n = gp_c y n := by
  intro n
  induction n with
  | zero => intro _; rfl
  | succ n ih =>
    intro h
    unfold gp_c
    rw [ih (fun k hk => h k (by omega)), h n (by omega)]
theorem gp_ka_up (kd : Nat → Int32) (B P : Nat) (x : Int32) : gp_ka (upd kd (B + P) x) B (P + 1) = gp_ka kd B P + (if x.toInt = 4 ∨ x.toInt = 7 then 1 else 0) := by
  have e : gp_c (fun k => decide ((upd kd (B + P) x (B + k)).toInt = 4 ∨ (upd kd (B + P) x (B + k)).toInt = 7)) P = gp_ka kd B P := gp_c_ext (fun k hk => by rw [gx_un _ _ _ (show B + k ≠ B + P by omega)])
  show gp_c _ P + _ = _
  rw [e]
  have us : upd kd (B + P) x (B + P) = x := gx_us kd (B + P) x
  by_cases q : x.toInt = 4 ∨ x.toInt = 7
  · have q' : (upd kd (B + P) x (B + P)).toInt = 4 ∨ (upd kd (B + P) x (B + P)).toInt = 7 := by rw [us]; exact q
    rw [if_pos q, if_pos (decide_eq_true q')]
  · have q' : ¬ ((upd kd (B + P) x (B + P)).toInt = 4 ∨ (upd kd (B + P) x (B + P)).toInt = 7) := by rw [us]; exact q
    rw [if_neg q, if_neg (fun t => q' (of_decide_eq_true t))]
theorem gp_kc_up (kd : Nat → Int32) (B P : Nat) (x : Int32) : gp_kc (upd kd (B + P) x) B (P + 1) = gp_kc kd B P + (if x.toInt = 10 then 1 else 0) := by
  have e : gp_c (fun k => decide ((upd kd (B + P) x (B + k)).toInt = 10)) P = gp_kc kd B P := gp_c_ext (fun k hk => by rw [gx_un _ _ _ (show B + k ≠ B + P by omega)])
  show gp_c _ P + _ = _
  rw [e]
  have us : upd kd (B + P) x (B + P) = x := gx_us kd (B + P) x
  by_cases q : x.toInt = 10
  · have q' : (upd kd (B + P) x (B + P)).toInt = 10 := by rw [us]; exact q
    rw [if_pos q, if_pos (decide_eq_true q')]
  · have q' : ¬ (upd kd (B + P) x (B + P)).toInt = 10 := by rw [us]; exact q
    rw [if_neg q, if_neg (fun t => q' (of_decide_eq_true t))]
/-- each part from lo on, of the rule r, is inside one of these -/
def gp_cov (Pg : Nat → Nat → Nat → Prop) (B lo M : Nat) (kd on tw ow : Nat → Int32) (r : Int32) (L : List Lean.ParserDescr) : Prop := ∀ n, lo ≤ n → n < M → ow n = r ∧ ∃ e, e ∈ L ∧ ∃ e', e' ∈ gp_sb e ∧ gp_rep Pg B kd on tw e' n
theorem gp_cov_w {Pg : Nat → Nat → Nat → Prop} {B lo M : Nat} {kd on tw ow : Nat → Int32} {r : Int32} {L L' : List Lean.ParserDescr} (h : gp_cov Pg B lo M kd on tw ow r L) (hs : ∀ e, e ∈ L → ∃ g, g ∈ L' ∧ ∀ e', e' ∈ gp_sb e → e' ∈ gp_sb g) : gp_cov Pg B lo M kd on tw ow r L' := by
  intro n h1 h2
  obtain ⟨o, e, he, e', he', q⟩ := h n h1 h2
  obtain ⟨g, hg, hs⟩ := hs e he
  exact ⟨o, g, hg, e', hs e' he', q⟩
theorem gp_sb_me (e : Lean.ParserDescr) : e ∈ gp_sb e := by
  cases e <;> simp [gp_sb]
/-- all about the parts of the half: fr the half, M its end, the live expressions, counts; g.. the other half's -/
def gp_K (Pg : Nat → Nat → Nat → Prop) (fr : Int32) (rc pa kd on tw ow : Nat → Int32) (lo : Nat × Nat) (nA nC : Nat) (L : List Lean.ParserDescr) : Prop :=
  gp_cov Pg lo.2 lo.1 (160 * Int32.toNatClampNeg fr + Int32.toNatClampNeg (pa (Int32.toNatClampNeg fr))) kd on tw ow (rc (Int32.toNatClampNeg fr)) L ∧
  gp_ka kd (160 * Int32.toNatClampNeg fr) (Int32.toNatClampNeg (pa (Int32.toNatClampNeg fr))) = nA ∧ gp_kc kd (160 * Int32.toNatClampNeg fr) (Int32.toNatClampNeg (pa (Int32.toNatClampNeg fr))) = nC ∧ lo.1 ≤ 160 * Int32.toNatClampNeg fr + Int32.toNatClampNeg (pa (Int32.toNatClampNeg fr)) ∧ lo.2 ≤ 160 * Int32.toNatClampNeg fr + Int32.toNatClampNeg (pa (Int32.toNatClampNeg fr))
/-- the end of the half's parts -/
abbrev gp_M (fr : Int32) (pa : Nat → Int32) : Nat := 160 * Int32.toNatClampNeg fr + Int32.toNatClampNeg (pa (Int32.toNatClampNeg fr))
abbrev gp_B (fr : Int32) : Nat := 160 * Int32.toNatClampNeg fr
theorem gp_N {fr : Int32} {pa : Nat → Int32} (hf : 0 ≤ fr.toInt) (hf2 : fr.toInt ≤ 1) (hp : 0 ≤ (pa (Int32.toNatClampNeg fr)).toInt) (hp2 : (pa (Int32.toNatClampNeg fr)).toInt ≤ 150) : Int32.toNatClampNeg ((160 * fr) + pa (Int32.toNatClampNeg fr)) = gp_M fr pa ∧ ((160 * fr) + pa (Int32.toNatClampNeg fr)).toInt = (gp_M fr pa : Nat) ∧ Int32.toNatClampNeg (pa (Int32.toNatClampNeg fr) + 1) = Int32.toNatClampNeg (pa (Int32.toNatClampNeg fr)) + 1 := by
  have m := gx_mk 160 fr 160 (gx_lit 160 (by decide))
  have a := gx_ad (160 * fr) (pa (Int32.toNatClampNeg fr))
  have b := gx_ak (pa (Int32.toNatClampNeg fr)) 1 1 (by decide)
  have c1 := gx_cl fr hf
  have c2 := gx_cl (pa (Int32.toNatClampNeg fr)) hp
  have v : ((160 * fr) + pa (Int32.toNatClampNeg fr)).toInt = 160 * fr.toInt + (pa (Int32.toNatClampNeg fr)).toInt := by omega
  have v2 : (pa (Int32.toNatClampNeg fr) + 1).toInt = (pa (Int32.toNatClampNeg fr)).toInt + 1 := by omega
  have c3 := gx_cl ((160 * fr) + pa (Int32.toNatClampNeg fr)) (by omega)
  have c4 := gx_cl (pa (Int32.toNatClampNeg fr) + 1) (by omega)
  refine ⟨?_, ?_, ?_⟩
  · unfold gp_M; omega
  · unfold gp_M; omega
  · omega
theorem gp_M_up (fr : Int32) (pa : Nat → Int32) (hp : Int32.toNatClampNeg (pa (Int32.toNatClampNeg fr) + 1) = Int32.toNatClampNeg (pa (Int32.toNatClampNeg fr)) + 1) : gp_M fr (upd pa (Int32.toNatClampNeg fr) (pa (Int32.toNatClampNeg fr) + 1)) = gp_M fr pa + 1 := by
  unfold gp_M
  rw [gx_us, hp]
  omega
theorem gp_sm_up (kd on tw : Nat → Int32) (N : Nat) (x y w : Int32) : gp_sm kd on tw (upd kd N x) (upd on N y) (upd tw N w) N := fun m hm => ⟨gx_un _ _ _ (by omega), gx_un _ _ _ (by omega), gx_un _ _ _ (by omega)⟩
/-- a part is made: what it stands for is live now, in place of what it is made of -/
theorem gp_K_c {Pg : Nat → Nat → Nat → Prop} {fr : Int32} {rc pa kd on tw ow : Nat → Int32} {lo : Nat × Nat} {nA nC : Nat} {L L' : List Lean.ParserDescr} (h : gp_K Pg fr rc pa kd on tw ow lo nA nC L) (hp : Int32.toNatClampNeg (pa (Int32.toNatClampNeg fr) + 1) = Int32.toNatClampNeg (pa (Int32.toNatClampNeg fr)) + 1) {x y w : Int32} {e : Lean.ParserDescr} (hr : gp_rep Pg lo.2 (upd kd (gp_M fr pa) x) (upd on (gp_M fr pa) y) (upd tw (gp_M fr pa) w) e (gp_M fr pa)) (he : e ∈ L') (hs : ∀ e, e ∈ L → ∃ g, g ∈ L' ∧ ∀ e', e' ∈ gp_sb e → e' ∈ gp_sb g) {a c : Nat} (ha : (if x.toInt = 4 ∨ x.toInt = 7 then 1 else 0) = a) (hc : (if x.toInt = 10 then 1 else 0) = c) :
    gp_K Pg fr rc (upd pa (Int32.toNatClampNeg fr) (pa (Int32.toNatClampNeg fr) + 1)) (upd kd (gp_M fr pa) x) (upd on (gp_M fr pa) y) (upd tw (gp_M fr pa) w) (upd ow (gp_M fr pa) (rc (Int32.toNatClampNeg fr))) lo (nA + a) (nC + c) L' := by
  obtain ⟨h1, h2, h3, h4⟩ := h
  have eM := gp_M_up fr pa hp
  unfold gp_K
  rw [gx_us, hp]
  refine ⟨?_, ?_, ?_, by omega⟩
  · intro n hn hn2
    by_cases q : n = gp_M fr pa
    · rw [q, gx_us]
      exact ⟨rfl, e, he, e, gp_sb_me e, hr⟩
    · have hM : gp_M fr pa = 160 * Int32.toNatClampNeg fr + Int32.toNatClampNeg (pa (Int32.toNatClampNeg fr)) := rfl
      have hn2 : n < 160 * Int32.toNatClampNeg fr + (Int32.toNatClampNeg (pa (Int32.toNatClampNeg fr)) + 1) := hn2
      have hn3 : n < gp_M fr pa := by omega
      obtain ⟨o, g, hg, g', hg', t⟩ := h1 n hn hn3
      obtain ⟨g2, hg2, hs2⟩ := hs g hg
      rw [gx_un _ _ _ q]
      exact ⟨o, g2, hg2, g', hs2 g' hg', gp_rep_tr (gp_sm_up kd on tw _ x y w) g' n hn3 t⟩
  · rw [← h2, ← ha]
    exact gp_ka_up kd _ _ x
  · rw [← h3, ← hc]
    exact gp_kc_up kd _ _ x
