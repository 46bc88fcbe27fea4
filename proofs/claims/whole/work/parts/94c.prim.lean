/-! The reference's reader against the machine: a piece. -/
def gp_lv : List gp_Fm → List Lean.ParserDescr
  | f :: fs => f.2.2.1 ++ f.2.2.2 ++ gp_lv fs
  | [] => []
theorem gp_K_w {Pg : Nat → Nat → Nat → Prop} {fr : Int32} {rc pa kd on tw ow : Nat → Int32} {lo : Nat × Nat} {nA nC : Nat} {L L' : List Lean.ParserDescr} (h : gp_K Pg fr rc pa kd on tw ow lo nA nC L) (hs : ∀ e, e ∈ L → ∃ g, g ∈ L' ∧ ∀ e', e' ∈ gp_sb e → e' ∈ gp_sb g) : gp_K Pg fr rc pa kd on tw ow lo nA nC L' := ⟨gp_cov_w h.1 hs, h.2⟩
/-- brackets, items and parts; F what is in hand -/
def gp_P (Pg : Nat → Nat → Nat → Prop) (fr : Int32) (rc pa kd on tw ow bk bf ib ab it al : Nat → Int32) (d i l : Nat) (fs : List gp_Fm) (lo : Nat × Nat) (nA nC : Nat) (F : List Lean.ParserDescr) : Prop :=
  gp_stk Pg lo.2 (gp_M fr pa) kd on tw bk bf ib ab it al fs d i l ∧ gp_K Pg fr rc pa kd on tw ow lo nA nC (F ++ gp_lv fs)
/-- outside the half nothing changes -/
def gp_O (fr : Int32) (L : Nat) (pa kd on tw ow : Nat → Int32) (lw hg : Nat → Int64) (pa' kd' on' tw' ow' : Nat → Int32) (lw' hg' : Nat → Int64) : Prop :=
  (∀ n, n ≠ Int32.toNatClampNeg fr → pa' n = pa n) ∧ ∀ n, (n < L ∨ 160 * Int32.toNatClampNeg fr + 160 ≤ n) → kd' n = kd n ∧ on' n = on n ∧ tw' n = tw n ∧ ow' n = ow n ∧ lw' n = lw n ∧ hg' n = hg n
theorem gp_O_r (fr : Int32) (L : Nat) (pa kd on tw ow : Nat → Int32) (lw hg : Nat → Int64) : gp_O fr L pa kd on tw ow lw hg pa kd on tw ow lw hg := ⟨fun _ _ => rfl, fun _ _ => ⟨rfl, rfl, rfl, rfl, rfl, rfl⟩⟩
theorem gp_O_t {fr : Int32} {L : Nat} {pa kd on tw ow pa' kd' on' tw' ow' pa2 kd2 on2 tw2 ow2 : Nat → Int32} {lw hg lw' hg' lw2 hg2 : Nat → Int64} (h : gp_O fr L pa kd on tw ow lw hg pa' kd' on' tw' ow' lw' hg') (h2 : gp_O fr L pa' kd' on' tw' ow' lw' hg' pa2 kd2 on2 tw2 ow2 lw2 hg2) : gp_O fr L pa kd on tw ow lw hg pa2 kd2 on2 tw2 ow2 lw2 hg2 :=
  ⟨fun n hn => (h2.1 n hn).trans (h.1 n hn), fun n hn => by
    obtain ⟨a, b, c, d, e, f⟩ := h.2 n hn
    obtain ⟨a', b', c', d', e', f'⟩ := h2.2 n hn
    exact ⟨a'.trans a, b'.trans b, c'.trans c, d'.trans d, e'.trans e, f'.trans f⟩⟩
theorem gp_O_w {fr : Int32} {L L' : Nat} {pa kd on tw ow pa' kd' on' tw' ow' : Nat → Int32} {lw hg lw' hg' : Nat → Int64} (h : gp_O fr L pa kd on tw ow lw hg pa' kd' on' tw' ow' lw' hg') (hL : L' ≤ L) : gp_O fr L' pa kd on tw ow lw hg pa' kd' on' tw' ow' lw' hg' := ⟨h.1, fun n hn => h.2 n (by omega)⟩
theorem gp_uL (f : Nat → Int64) (k : Nat) (x : Int64) {j : Nat} (h : j ≠ k) : vp_updL f k x j = f j := if_neg h
theorem gp_O_c (fr : Int32) (L : Nat) (pa kd on tw ow : Nat → Int32) (lw hg : Nat → Int64) {N : Nat} (h1 : L ≤ N) (h2 : N < 160 * Int32.toNatClampNeg fr + 160) (p x y w o : Int32) (a b : Int64) : gp_O fr L pa kd on tw ow lw hg (upd pa (Int32.toNatClampNeg fr) p) (upd kd N x) (upd on N y) (upd tw N w) (upd ow N o) (vp_updL lw N a) (vp_updL hg N b) :=
  ⟨fun n hn => gx_un _ _ _ hn, fun n hn => ⟨gx_un _ _ _ (by omega), gx_un _ _ _ (by omega), gx_un _ _ _ (by omega), gx_un _ _ _ (by omega), gp_uL _ _ _ (by omega), gp_uL _ _ _ (by omega)⟩⟩
theorem gp_O_l (fr : Int32) (L : Nat) (pa kd on tw ow : Nat → Int32) (lw hg lw' hg' : Nat → Int64) {N : Nat} (h1 : L ≤ N) (h2 : N < 160 * Int32.toNatClampNeg fr + 160) (h : ∀ n, n ≠ N → lw' n = lw n ∧ hg' n = hg n) : gp_O fr L pa kd on tw ow lw hg pa kd on tw ow lw' hg' :=
  ⟨fun n hn => rfl, fun n hn => ⟨rfl, rfl, rfl, rfl, (h n (by omega)).1, (h n (by omega)).2⟩⟩
/-- calls whose answer is all that counts -/
theorem gf_ca {R S A : Type} {x : R × S} {f : R → S → A} {Q : A → Prop} (T : R × S → Prop) (hc : T x) (h : ∀ r u, T (r, u) → Q (f r u)) : Q (gm_bd x f) := h x.1 x.2 hc
theorem gf_if {A : Type} {c : Prop} [Decidable c] {a b : A} {Q : A → Prop} (h1 : c → Q a) (h2 : ¬ c → Q b) : Q (if c then a else b) := by
  by_cases h : c
  · rw [if_pos h]; exact h1 h
  · rw [if_neg h]; exact h2 h
/-- what a new part is -/
def gp_cQ (x y w : Int32) (S : gm_S) (z : Int32 × gm_S) : Prop :=
  (gp_ch (gp_B (S.2.2 5)) z.1 (gp_M (S.2.2 5) (S.1 9) + 1) ∧ Int32.toNatClampNeg z.1 = gp_M (S.2.2 5) (S.1 9) ∧ gp_M (S.2.2 5) (z.2.1 9) = gp_M (S.2.2 5) (S.1 9) + 1 ∧ Int32.toNatClampNeg ((S.1 9) (Int32.toNatClampNeg (S.2.2 5)) + 1) = Int32.toNatClampNeg ((S.1 9) (Int32.toNatClampNeg (S.2.2 5))) + 1) ∧
  z.2.1 9 = upd (S.1 9) (Int32.toNatClampNeg (S.2.2 5)) ((S.1 9) (Int32.toNatClampNeg (S.2.2 5)) + 1) ∧ z.2.1 10 = upd (S.1 10) (gp_M (S.2.2 5) (S.1 9)) x ∧ z.2.1 11 = upd (S.1 11) (gp_M (S.2.2 5) (S.1 9)) y ∧ z.2.1 12 = upd (S.1 12) (gp_M (S.2.2 5) (S.1 9)) w ∧ z.2.1 13 = upd (S.1 13) (gp_M (S.2.2 5) (S.1 9)) ((S.1 6) (Int32.toNatClampNeg (S.2.2 5))) ∧
  gp_O (S.2.2 5) (gp_M (S.2.2 5) (S.1 9)) (S.1 9) (S.1 10) (S.1 11) (S.1 12) (S.1 13) (S.2.1 17) (S.2.1 18) (z.2.1 9) (z.2.1 10) (z.2.1 11) (z.2.1 12) (z.2.1 13) (z.2.2.1 17) (z.2.2.1 18)
theorem gz_create (x y w : Int32) (S : gm_S) (hf : 0 ≤ (S.2.2 5).toInt) (hf2 : (S.2.2 5).toInt ≤ 1) (hp : 0 ≤ ((S.1 9) (Int32.toNatClampNeg (S.2.2 5))).toInt) (hp2 : ((S.1 9) (Int32.toNatClampNeg (S.2.2 5))).toInt ≤ 150) : gp_cQ x y w S (gm_f_MD_create x y w S) := by
  obtain ⟨n1, n2, n3⟩ := gp_N hf hf2 hp hp2
  have c2 := gx_cl _ hp
  have eM := gp_M_up (S.2.2 5) (S.1 9) n3
  have hM : gp_M (S.2.2 5) (S.1 9) = 160 * Int32.toNatClampNeg (S.2.2 5) + Int32.toNatClampNeg ((S.1 9) (Int32.toNatClampNeg (S.2.2 5))) := rfl
  unfold gm_f_MD_create
  rw [n1]
  refine ⟨⟨⟨?_, ?_⟩, n1, eM, n3⟩, rfl, rfl, rfl, rfl, rfl, ?_⟩
  · show ((gp_B (S.2.2 5) : Nat) : Int) ≤ ((160 * (S.2.2 5)) + (S.1 9) (Int32.toNatClampNeg (S.2.2 5))).toInt
    rw [n2, hM]
    unfold gp_B
    omega
  · show ((160 * (S.2.2 5)) + (S.1 9) (Int32.toNatClampNeg (S.2.2 5))).toInt < ((gp_M (S.2.2 5) (S.1 9) + 1 : Nat) : Int)
    rw [n2]
    omega
  · exact gp_O_c _ _ _ _ _ _ _ _ _ (Nat.le_refl _) (by omega) _ _ _ _ _ _ _
theorem gp_P_c {Pg : Nat → Nat → Nat → Prop} {fr : Int32} {rc pa kd on tw ow bk bf ib ab it al : Nat → Int32} {d i l : Nat} {fs : List gp_Fm} {lo : Nat × Nat} {nA nC : Nat} {F F' : List Lean.ParserDescr} (h : gp_P Pg fr rc pa kd on tw ow bk bf ib ab it al d i l fs lo nA nC F) (hp : Int32.toNatClampNeg (pa (Int32.toNatClampNeg fr) + 1) = Int32.toNatClampNeg (pa (Int32.toNatClampNeg fr)) + 1) {x y w : Int32} {e : Lean.ParserDescr} (hr : gp_rep Pg lo.2 (upd kd (gp_M fr pa) x) (upd on (gp_M fr pa) y) (upd tw (gp_M fr pa) w) e (gp_M fr pa)) (he : e ∈ F') (hF : ∀ f, f ∈ F → f ∈ F' ∨ ∀ e', e' ∈ gp_sb f → e' ∈ gp_sb e) {a c : Nat} (ha : (if x.toInt = 4 ∨ x.toInt = 7 then 1 else 0) = a) (hc : (if x.toInt = 10 then 1 else 0) = c) :
    gp_P Pg fr rc (upd pa (Int32.toNatClampNeg fr) (pa (Int32.toNatClampNeg fr) + 1)) (upd kd (gp_M fr pa) x) (upd on (gp_M fr pa) y) (upd tw (gp_M fr pa) w) (upd ow (gp_M fr pa) (rc (Int32.toNatClampNeg fr))) bk bf ib ab it al d i l fs lo (nA + a) (nC + c) F' := by
  have eM := gp_M_up fr pa hp
  refine ⟨?_, gp_K_c h.2 hp hr (List.mem_append.mpr (Or.inl he)) (fun g hg => ?_) ha hc⟩
  · rw [eM]
    exact gp_stk_tr (Nat.le_succ _) (gp_sm_up kd on tw _ x y w) fs d i l (fun _ _ => ⟨rfl, rfl, rfl, rfl⟩) (fun _ _ => rfl) (fun _ _ => rfl) h.1
  · rcases List.mem_append.mp hg with hg | hg
    · rcases hF g hg with q | q
      · exact ⟨g, List.mem_append.mpr (Or.inl q), fun _ t => t⟩
      · exact ⟨e, List.mem_append.mpr (Or.inl he), q⟩
    · exact ⟨g, List.mem_append.mpr (Or.inr hg), fun _ t => t⟩
theorem gp_rep_0 {Pg : Nat → Nat → Nat → Prop} {B N k a b : Nat} (kd on tw : Nat → Int32) {x y w : Int32} (hk : k ≤ 3) (hx : x.toInt = k) (h1 : k = 1 → y.toInt = a ∧ w.toInt = b) (h3 : k = 3 → y.toInt = a) (h2 : k = 2 → Pg N a b) : gp_rep Pg B (upd kd N x) (upd on N y) (upd tw N w) (gp_e0 k a b) N := by
  unfold gp_rep
  rw [gx_us, gx_us, gx_us]
  exact ⟨hk, hx, h1, h3, h2⟩
theorem gp_rep_1 {Pg : Nat → Nat → Nat → Prop} {B N k : Nat} {kd on tw : Nat → Int32} {x y w : Int32} {e : Lean.ParserDescr} (h6 : 6 ≤ k) (h10 : k ≤ 10) (hx : x.toInt = k) (hy : gp_ch B y N) (hr : gp_rep Pg B kd on tw e (Int32.toNatClampNeg y)) : gp_rep Pg B (upd kd N x) (upd on N y) (upd tw N w) (gp_e1 k e) N := by
  have c := gp_ch_cl hy
  unfold gp_rep
  rw [gx_us, gx_us]
  exact ⟨⟨h6, h10⟩, hx, hy, gp_rep_tr (gp_sm_up kd on tw N x y w) e _ c.2.1 hr⟩
theorem gp_rep_2n {nm : Lean.Name} {Pg : Nat → Nat → Nat → Prop} {B N k : Nat} {kd on tw : Nat → Int32} {x y w : Int32} {e f : Lean.ParserDescr} (hn : gp_n2 nm = k) (hk : k = 4 ∨ k = 5) (hx : x.toInt = k) (hy : gp_ch B y N) (hw : gp_ch B w N) (hr : gp_rep Pg B kd on tw e (Int32.toNatClampNeg y)) (hr2 : gp_rep Pg B kd on tw f (Int32.toNatClampNeg w)) : gp_rep Pg B (upd kd N x) (upd on N y) (upd tw N w) (.binary nm e f) N := by
  have c := gp_ch_cl hy
  have c2 := gp_ch_cl hw
  unfold gp_rep
  rw [hn]
  rw [gx_us, gx_us, gx_us]
  exact ⟨hk, hx, hy, hw, gp_rep_tr (gp_sm_up kd on tw N x y w) e _ c.2.1 hr, gp_rep_tr (gp_sm_up kd on tw N x y w) f _ c2.2.1 hr2⟩
theorem gp_rep_2 {Pg : Nat → Nat → Nat → Prop} {B N k : Nat} {kd on tw : Nat → Int32} {x y w : Int32} {e f : Lean.ParserDescr} (hk : k = 4 ∨ k = 5) (hx : x.toInt = k) (hy : gp_ch B y N) (hw : gp_ch B w N) (hr : gp_rep Pg B kd on tw e (Int32.toNatClampNeg y)) (hr2 : gp_rep Pg B kd on tw f (Int32.toNatClampNeg w)) : gp_rep Pg B (upd kd N x) (upd on N y) (upd tw N w) (gp_e2 k e f) N := gp_rep_2n rfl hk hx hy hw hr hr2
theorem gp_sb_1 (k : Nat) (e e' : Lean.ParserDescr) (h : e' ∈ gp_sb e) : e' ∈ gp_sb (gp_e1 k e) := List.mem_cons_of_mem _ h
theorem gp_sb_2n (nm : Lean.Name) (e f e' : Lean.ParserDescr) (h : e' ∈ gp_sb f) : e' ∈ gp_sb (.binary nm e f) := List.mem_cons_of_mem _ (List.mem_append.mpr (Or.inr h))
theorem gp_sb_2a (k : Nat) (e f e' : Lean.ParserDescr) (h : e' ∈ gp_sb e) : e' ∈ gp_sb (gp_e2 k e f) := List.mem_cons_of_mem _ (List.mem_append.mpr (Or.inl h))
theorem gp_sb_2b (k : Nat) (e f e' : Lean.ParserDescr) (h : e' ∈ gp_sb f) : e' ∈ gp_sb (gp_e2 k e f) := List.mem_cons_of_mem _ (List.mem_append.mpr (Or.inr h))
/-- the machine's state in the arrays -/
def gp_I (Pg : Nat → Nat → Nat → Prop) (fr : Int32) (rc pa kd on tw ow bk bf ib ab it al : Nat → Int32) (d i l px at' : Int32) (lo : Nat × Nat) (s : gp_Sg) : Prop :=
  gp_P Pg fr rc pa kd on tw ow bk bf ib ab it al (Int32.toNatClampNeg d) (Int32.toNatClampNeg i) (Int32.toNatClampNeg l) s.2.2.1 lo s.2.2.2.1 s.2.2.2.2 [] ∧ px.toInt = s.2.1 ∧ at'.toInt = s.1
/-- what a piece leaves -/
def gp_Qp (Pg : Nat → Nat → Nat → Prop) (S : gm_S) (lo : Nat × Nat) (s : gp_Sg) (z : Int32 × gm_S) : Prop :=
  gp_I Pg (S.2.2 5) (S.1 6) (z.2.1 9) (z.2.1 10) (z.2.1 11) (z.2.1 12) (z.2.1 13) (S.1 26) (S.1 27) (S.1 28) (S.1 29) (z.2.1 30) (S.1 31) (S.2.2 20) (z.2.2.2 21) (S.2.2 22) (z.2.2.2 23) (z.2.2.2 19) lo s ∧
  gp_O (S.2.2 5) lo.1 (S.1 9) (S.1 10) (S.1 11) (S.1 12) (S.1 13) (S.2.1 17) (S.2.1 18) (z.2.1 9) (z.2.1 10) (z.2.1 11) (z.2.1 12) (z.2.1 13) (z.2.2.1 17) (z.2.2.1 18)
/-- a piece in hand: U the state so far -/
def gp_H (Pg : Nat → Nat → Nat → Prop) (S U : gm_S) (lo : Nat × Nat) (fs : List gp_Fm) (nA nC : Nat) (e : Lean.ParserDescr) (v : Int32) : Prop :=
  gp_P Pg (S.2.2 5) (S.1 6) (U.1 9) (U.1 10) (U.1 11) (U.1 12) (U.1 13) (S.1 26) (S.1 27) (S.1 28) (S.1 29) (U.1 30) (S.1 31) (Int32.toNatClampNeg (S.2.2 20)) (Int32.toNatClampNeg (U.2.2 21)) (Int32.toNatClampNeg (S.2.2 22)) fs lo nA nC [e] ∧
  gp_ch lo.2 v (gp_M (S.2.2 5) (U.1 9)) ∧ gp_rep Pg lo.2 (U.1 10) (U.1 11) (U.1 12) e (Int32.toNatClampNeg v) ∧
  gp_O (S.2.2 5) lo.1 (S.1 9) (S.1 10) (S.1 11) (S.1 12) (S.1 13) (S.2.1 17) (S.2.1 18) (U.1 9) (U.1 10) (U.1 11) (U.1 12) (U.1 13) (U.2.1 17) (U.2.1 18)
theorem gz_pr106 {Pg : Nat → Nat → Nat → Prop} (x : Int32) (S : gm_S) (r3 : Int32) (u3 : gm_S) (v2 : Int32) (W : gm_S) (v : Int32) (U : gm_S) {lo : Nat × Nat} {nA nC a : Nat} {fs : List gp_Fm} {e : Lean.ParserDescr} (h : gp_H Pg S U lo fs nA nC e v) (hi : 0 ≤ (U.2.2 21).toInt) (hi2 : (U.2.2 21).toInt ≤ 60) (ha : (U.2.2 19).toInt = a) : gp_Qp Pg S lo (a, 0, gp_ps e fs, nA, nC) (gm_f_MD_primary_j106 x S r3 u3 v2 W v U) := by
  obtain ⟨⟨h1, h2⟩, hv, hr, hO⟩ := h
  have b := gx_ak (U.2.2 21) 1 1 (by decide)
  have c1 := gx_cl (U.2.2 21) hi
  have c2 := gx_cl ((U.2.2 21) + 1) (by omega)
  have ei : Int32.toNatClampNeg ((U.2.2 21) + 1) = Int32.toNatClampNeg (U.2.2 21) + 1 := by omega
  have p := gp_stk_pi h1 hv hr
  rw [← ei] at p
  refine ⟨⟨⟨p, gp_K_w h2 (fun g hg => ⟨g, ?_, fun _ t => t⟩)⟩, (by decide : (0 : Int32).toInt = 0), ha⟩, hO⟩
  cases fs with
  | nil => exact h1.elim
  | cons f fs =>
    have hg : g ∈ [e] ++ (f.2.2.1 ++ f.2.2.2 ++ gp_lv fs) := hg
    show g ∈ [] ++ ((e :: f.2.2.1) ++ f.2.2.2 ++ gp_lv fs)
    simp only [List.mem_append, List.mem_cons, List.not_mem_nil, or_false, false_or] at hg ⊢
    rcases hg with q | (q | q) | q
    · exact Or.inl (Or.inl (Or.inl q))
    · exact Or.inl (Or.inl (Or.inr q))
    · exact Or.inl (Or.inr q)
    · exact Or.inr q
/-- one part more, made of the piece in hand -/
theorem gp_H_1 {Pg : Nat → Nat → Nat → Prop} {S U U' : gm_S} {lo : Nat × Nat} {nA nC k : Nat} {fs : List gp_Fm} {e : Lean.ParserDescr} {v x w r : Int32} {z : Int32 × gm_S} (h : gp_H Pg S U lo fs nA nC e v) (hc : gp_cQ x v w U' z) (e5 : U'.2.2 5 = S.2.2 5) (e6 : U'.1 6 = S.1 6) (e9 : U'.1 9 = U.1 9) (e10 : U'.1 10 = U.1 10) (e11 : U'.1 11 = U.1 11) (e12 : U'.1 12 = U.1 12) (e13 : U'.1 13 = U.1 13) (e17 : U'.2.1 17 = U.2.1 17) (e18 : U'.2.1 18 = U.2.1 18) (h6 : 6 ≤ k) (h10 : k ≤ 10) (hx : x.toInt = k) {a c : Nat} (ha : (if x.toInt = 4 ∨ x.toInt = 7 then 1 else 0) = a) (hc2 : (if x.toInt = 10 then 1 else 0) = c) {V : gm_S} (f9 : V.1 9 = z.2.1 9) (f10 : V.1 10 = z.2.1 10) (f11 : V.1 11 = z.2.1 11) (f12 : V.1 12 = z.2.1 12) (f13 : V.1 13 = z.2.1 13) (f17 : V.2.1 17 = z.2.2.1 17) (f18 : V.2.1 18 = z.2.2.1 18) (f30 : V.1 30 = U.1 30) (f21 : V.2.2 21 = U.2.2 21) (hr : r = z.1) :
    gp_H Pg S V lo fs (nA + a) (nC + c) (gp_e1 k e) r := by
  obtain ⟨hP, hv, hre, hO⟩ := h
  unfold gp_cQ at hc
  rw [e5, e6, e9, e10, e11, e12, e13, e17, e18] at hc
  obtain ⟨⟨g1, g2, g3, g4⟩, g9, g10, g11, g12, g13, gO⟩ := hc
  unfold gp_H
  rw [f9, f10, f11, f12, f13, f17, f18, f30, f21, hr]
  have rep := gp_rep_1 (w := w) h6 h10 hx hv hre
  refine ⟨?_, ?_, ?_, gp_O_t hO (gp_O_w gO hP.2.2.2.2.1)⟩
  · rw [g9, g10, g11, g12, g13]
    exact gp_P_c hP g4 rep (List.mem_singleton.mpr rfl) (fun f hf => Or.inr (fun e' t => by rw [List.mem_singleton.mp hf] at t; exact gp_sb_1 k e e' t)) ha hc2
  · rw [g3]; exact gp_ch_lo g1 g2 hP.2.2.2.2.2
  · rw [g2, g10, g11, g12]; exact rep
theorem gz_pr76 {Pg : Nat → Nat → Nat → Prop} (x : Int32) (S : gm_S) (r3 : Int32) (u3 : gm_S) (v : Int32) (U : gm_S) {lo : Nat × Nat} {nA nC a : Nat} {p : Int} {fs : List gp_Fm} {e : Lean.ParserDescr} (h : gp_H Pg S U lo fs nA nC e v) (hf : 0 ≤ (S.2.2 5).toInt) (hf2 : (S.2.2 5).toInt ≤ 1) (hp : 0 ≤ ((U.1 9) (Int32.toNatClampNeg (S.2.2 5))).toInt) (hp2 : ((U.1 9) (Int32.toNatClampNeg (S.2.2 5))).toInt ≤ 150) (hi : 0 ≤ (U.2.2 21).toInt) (hi2 : (U.2.2 21).toInt ≤ 60) (ha : (U.2.2 19).toInt = a) (hpx : (U.2.2 23).toInt = p) : gp_Qp Pg S lo (a, 0, gp_ps (gp_sn p e) fs, nA, nC) (gm_f_MD_primary_j76 x S r3 u3 v U) := by
  have step : ∀ k0 : Int32, ∀ k : Nat, k0.toInt = k → (k = 8 ∨ k = 9) → gp_Qp Pg S lo (a, 0, gp_ps (gp_e1 k e) fs, nA, nC) (gm_f_MD_primary_j100 x S r3 u3 v U k0 ((va_up (va_up (va_up (va_up (va_up (va_up S.1 9 (U.1 9)) 10 (U.1 10)) 11 (U.1 11)) 12 (U.1 12)) 13 (U.1 13)) 30 (U.1 30)), (va_up (va_up S.2.1 17 (U.2.1 17)) 18 (U.2.1 18)), (va_up (va_up (va_up S.2.2 19 (U.2.2 19)) 21 (U.2.2 21)) 23 (U.2.2 23)))) := by
    intro k0 k hk hk2
    unfold gm_f_MD_primary_j100
    refine gf_ca (Q := gp_Qp Pg S lo (a, 0, gp_ps (gp_e1 k e) fs, nA, nC)) (gp_cQ k0 v (-1) ((va_up (va_up (va_up (va_up (va_up (va_up S.1 9 (U.1 9)) 10 (U.1 10)) 11 (U.1 11)) 12 (U.1 12)) 13 (U.1 13)) 30 (U.1 30)), (va_up (va_up S.2.1 17 (U.2.1 17)) 18 (U.2.1 18)), (va_up (va_up (va_up S.2.2 19 (U.2.2 19)) 21 (U.2.2 21)) 23 (U.2.2 23)))) (gz_create k0 v (-1) _ hf hf2 hp hp2) ?_
    intro r u hu
    exact gz_pr106 x S r3 u3 v U r _ (gp_H_1 h hu rfl rfl rfl rfl rfl rfl rfl rfl rfl (by omega) (by omega) hk (a := 0) (c := 0) (if_neg (by omega)) (if_neg (by omega)) rfl rfl rfl rfl rfl rfl rfl rfl rfl rfl) hi hi2 ha
  unfold gm_f_MD_primary_j76
  refine gf_if (Q := gp_Qp Pg S lo (a, 0, gp_ps (gp_sn p e) fs, nA, nC)) (fun q => ?_) (fun q => ?_)
  · have q1 := gx_eqr (k := 0) (by decide) q
    have e1 : gp_sn p e = e := if_pos (by omega)
    rw [e1]
    exact gz_pr106 x S r3 u3 v U v _ h hi hi2 ha
  · have q1 := gx_eqnr (k := 0) (by decide) q
    refine gf_if (Q := gp_Qp Pg S lo (a, 0, gp_ps (gp_sn p e) fs, nA, nC)) (fun t => ?_) (fun t => ?_)
    · have t1 := gx_eqr (k := 38) (gx_lit 38 (by decide)) t
      have e1 : gp_sn p e = gp_e1 8 e := (if_neg (by omega)).trans (if_pos (by omega))
      rw [e1]
      exact step 8 8 (gx_lit 8 (by decide)) (Or.inl rfl)
    · have t1 := gx_eqnr (k := 38) (gx_lit 38 (by decide)) t
      have e1 : gp_sn p e = gp_e1 9 e := (if_neg (by omega)).trans (if_neg (by omega))
      rw [e1]
      exact step 9 9 (gx_lit 9 (by decide)) (Or.inr rfl)
