/-! What an expression does at a place: how much it takes, how many tries it makes, its captures, how deep, how many steps. -/
/-- the rule behind a name; whether a row stands at a place; whether a class takes there; whether a look lets it in -/
abbrev gv_C : Type := (Nat → Lean.ParserDescr) × (Nat → Nat → Nat → Bool) × (Nat → Nat → Nat → Bool) × (Lean.ParserDescr → Nat → Bool)
/-- how much it takes: -1 it fails, -2 not known -/
def gv_v (C : gv_C) : Nat → Lean.ParserDescr → Nat → Int
  | 0, _, _ => -2
  | k + 1, .cat nm j, q => if j = 0 then 0 else if j = 1 then (if C.2.1 (gp_n1 nm) (gp_n2 nm) q = true then (gp_n2 nm : Int) else -1) else if j = 2 then (if C.2.2.1 (gp_n1 nm) (gp_n2 nm) q = true then 1 else -1) else gv_v C k (C.1 (gp_n1 nm)) q
  | k + 1, .node nm j x, q =>
    if j = 6 then (if C.2.2.2 x q = true then (if gv_v C k x q = -1 then 0 else gv_v C k x q) else 0)
    else if j = 7 then (if C.2.2.2 x q = true then (if gv_v C k x q = -1 then 0 else if gv_v C k x q = -2 then -2 else if gv_v C k (.node nm j x) (q + (gv_v C k x q).toNat) = -2 then -2 else gv_v C k x q + gv_v C k (.node nm j x) (q + (gv_v C k x q).toNat)) else 0)
    else if j = 8 then (if 0 ≤ gv_v C k x q then 0 else gv_v C k x q)
    else if j = 9 then (if 0 ≤ gv_v C k x q then -1 else if gv_v C k x q = -1 then 0 else -2)
    else gv_v C k x q
  | k + 1, .binary nm x y, q =>
    if gp_n2 nm = 4 then (if gv_v C k x q < 0 then gv_v C k x q else if gv_v C k y (q + (gv_v C k x q).toNat) < 0 then gv_v C k y (q + (gv_v C k x q).toNat) else gv_v C k x q + gv_v C k y (q + (gv_v C k x q).toNat))
    else if C.2.2.2 x q = true then (if gv_v C k x q = -1 then gv_v C k y q else gv_v C k x q) else gv_v C k y q
  | _ + 1, _, _ => -2
/-- how many tries -/
def gv_c (C : gv_C) : Nat → Lean.ParserDescr → Nat → Nat
  | 0, _, _ => 0
  | k + 1, .cat nm j, q => if j ≤ 2 then 0 else gv_c C k (C.1 (gp_n1 nm)) q
  | k + 1, .node nm j x, q =>
    if j = 6 then (if C.2.2.2 x q = true then 1 + gv_c C k x q else 0)
    else if j = 7 then (if C.2.2.2 x q = true then (if gv_v C k x q < 0 then 1 + gv_c C k x q else 1 + gv_c C k x q + gv_c C k (.node nm j x) (q + (gv_v C k x q).toNat)) else 0)
    else if j = 10 then gv_c C k x q else 1 + gv_c C k x q
  | k + 1, .binary nm x y, q =>
    if gp_n2 nm = 4 then (if gv_v C k x q < 0 then gv_c C k x q else gv_c C k x q + gv_c C k y (q + (gv_v C k x q).toNat))
    else if C.2.2.2 x q = true then (if gv_v C k x q = -1 then 1 + gv_c C k x q + gv_c C k y q else 1 + gv_c C k x q) else gv_c C k y q
  | _ + 1, _, _ => 0
/-- the captures of what it takes, in the order of their beginnings -/
def gv_L (C : gv_C) : Nat → Lean.ParserDescr → Nat → List (Nat × Nat)
  | 0, _, _ => []
  | k + 1, .cat nm j, q => if j ≤ 2 then [] else gv_L C k (C.1 (gp_n1 nm)) q
  | k + 1, .node nm j x, q =>
    if j = 6 then (if C.2.2.2 x q = true then (if gv_v C k x q = -1 then [] else gv_L C k x q) else [])
    else if j = 7 then (if C.2.2.2 x q = true then (if gv_v C k x q < 0 then [] else gv_L C k x q ++ gv_L C k (.node nm j x) (q + (gv_v C k x q).toNat)) else [])
    else if j = 10 then (q, q + (gv_v C k x q).toNat) :: gv_L C k x q else []
  | k + 1, .binary nm x y, q =>
    if gp_n2 nm = 4 then gv_L C k x q ++ gv_L C k y (q + (gv_v C k x q).toNat)
    else if C.2.2.2 x q = true then (if gv_v C k x q = -1 then gv_L C k y q else gv_L C k x q) else gv_L C k y q
  | _ + 1, _, _ => []
/-- how many frames it needs -/
def gv_d (C : gv_C) : Nat → Lean.ParserDescr → Nat → Nat
  | 0, _, _ => 0
  | k + 1, .cat nm j, q => if j ≤ 2 then 0 else 1 + gv_d C k (C.1 (gp_n1 nm)) q
  | k + 1, .node nm j x, q =>
    if j = 6 then (if C.2.2.2 x q = true then 1 + gv_d C k x q else 0)
    else if j = 7 then (if C.2.2.2 x q = true then (if gv_v C k x q < 0 then 1 + gv_d C k x q else max (1 + gv_d C k x q) (gv_d C k (.node nm j x) (q + (gv_v C k x q).toNat))) else 0)
    else if j = 10 then gv_d C k x q else 1 + gv_d C k x q
  | k + 1, .binary nm x y, q =>
    if gp_n2 nm = 4 then (if gv_v C k x q < 0 then (if gp_n1 nm = 1 then 1 else 0) + gv_d C k x q else max ((if gp_n1 nm = 1 then 1 else 0) + gv_d C k x q) (gv_d C k y (q + (gv_v C k x q).toNat)))
    else if C.2.2.2 x q = true then (if gv_v C k x q = -1 then max (1 + gv_d C k x q) (gv_d C k y q) else 1 + gv_d C k x q) else gv_d C k y q
  | _ + 1, _, _ => 0
/-- how many captures it needs room for -/
def gv_p (C : gv_C) : Nat → Lean.ParserDescr → Nat → Nat
  | 0, _, _ => 0
  | k + 1, .cat nm j, q => if j ≤ 2 then 0 else gv_p C k (C.1 (gp_n1 nm)) q
  | k + 1, .node nm j x, q =>
    if j = 6 then (if C.2.2.2 x q = true then gv_p C k x q else 0)
    else if j = 7 then (if C.2.2.2 x q = true then (if gv_v C k x q < 0 then gv_p C k x q else max (gv_p C k x q) ((gv_L C k x q).length + gv_p C k (.node nm j x) (q + (gv_v C k x q).toNat))) else 0)
    else if j = 10 then 1 + gv_p C k x q else gv_p C k x q
  | k + 1, .binary nm x y, q =>
    if gp_n2 nm = 4 then (if gv_v C k x q < 0 then gv_p C k x q else max (gv_p C k x q) ((gv_L C k x q).length + gv_p C k y (q + (gv_v C k x q).toNat)))
    else if C.2.2.2 x q = true then (if gv_v C k x q = -1 then max (gv_p C k x q) (gv_p C k y q) else gv_p C k x q) else gv_p C k y q
  | _ + 1, _, _ => 0
/-- n if a try may be made: b tries are left -/
def gv_g (b n : Nat) : Nat := if b = 0 then 0 else n
/-- n if t tries are no more than the b that are left -/
def gv_h (t b n : Nat) : Nat := if t ≤ b then n else 0
/-- at most so many steps, where b tries are left: up to the try that is one too many -/
def gv_s (C : gv_C) : Nat → Lean.ParserDescr → Nat → Nat → Nat
  | 0, _, _, _ => 0
  | k + 1, .cat nm j, q, b => if j = 0 then 0 else if j = 1 then gp_n2 nm else if j = 2 then 1 else 2 + gv_s C k (C.1 (gp_n1 nm)) q b
  | k + 1, .node nm j x, q, b =>
    if j = 6 then (if C.2.2.2 x q = true then 3 + gv_g b (gv_s C k x q (b - 1)) else 1)
    else if j = 7 then (if C.2.2.2 x q = true then (if gv_v C k x q < 0 then 3 + gv_g b (gv_s C k x q (b - 1)) else 3 + gv_g b (gv_s C k x q (b - 1)) + gv_h (1 + gv_c C k x q) b (gv_s C k (.node nm j x) (q + (gv_v C k x q).toNat) (b - (1 + gv_c C k x q)))) else 1)
    else if j = 10 then 2 + gv_s C k x q b else 2 + gv_g b (gv_s C k x q (b - 1))
  | k + 1, .binary nm x y, q, b =>
    if gp_n2 nm = 4 then (if gv_v C k x q < 0 then (if gp_n1 nm = 1 then 3 else 0) + gv_s C k x q b else (if gp_n1 nm = 1 then 3 else 0) + gv_s C k x q b + gv_h (gv_c C k x q) b (gv_s C k y (q + (gv_v C k x q).toNat) (b - gv_c C k x q)))
    else if C.2.2.2 x q = true then (if gv_v C k x q = -1 then 3 + gv_g b (gv_s C k x q (b - 1)) + gv_h (1 + gv_c C k x q) b (gv_s C k y q (b - (1 + gv_c C k x q))) else 3 + gv_g b (gv_s C k x q (b - 1))) else 1 + gv_s C k y q b
  | _ + 1, _, _, _ => 0
/-! The machine over lists. -/
/-- a frame: target, place, captures, rule -/
abbrev gv_Fr : Type := Int × Nat × Nat × Int
/-- the memory: what each rule did at each place, its captures (the latest first), how many are kept -/
abbrev gv_Mm : Type := (Int → Nat → Int) × (Int → Nat → List (Nat × Int)) × Nat
/-- at, place, frames, captures (the latest first), effort, memory -/
abbrev gv_Cf : Type := Int × Nat × List gv_Fr × List (Nat × Int) × Nat × gv_Mm
/-- 0 it runs, 1 matched, 2 failed, 3 gave up, 7 none of these -/
abbrev gv_Sx : Type := Nat × gv_Cf
/-- operations, operands, targets, starts; size, rules; whether a node holds what stands at a place; whether it looks -/
abbrev gv_A : Type := (Nat → Int32) × (Nat → Int32) × (Nat → Int32) × (Nat → Int32) × Nat × Nat × (Int32 → Nat → Bool) × Bool
def gv_ad (x : Nat × Int) (K : List (Nat × Int)) : List (Nat × Int) := if K.length < 275 then x :: K else K
def gv_cl : List (Nat × Int) → Int → List (Nat × Int)
  | [], _ => []
  | x :: r, y => if x.2 = -1 then (x.1, y) :: r else x :: gv_cl r y
def gv_cut (K : List (Nat × Int)) (m : Nat) : List (Nat × Int) := K.drop (K.length - m)
def gv_mf (M : gv_Mm) (r : Int) (p : Nat) : gv_Mm := (fun r' p' => if r' = r ∧ p' = p then -1 else M.1 r' p', M.2)
def gv_kp (n : Nat) (K : List (Nat × Int)) : List (Nat × Int) := K.drop (K.length - (5720 - n))
def gv_mk (M : gv_Mm) (r : Int) (p : Nat) (v : Int) (K : List (Nat × Int)) : gv_Mm := (fun r' p' => if r' = r ∧ p' = p then v else M.1 r' p', fun r' p' => if r' = r ∧ p' = p then gv_kp M.2.2 K else M.2.1 r' p', M.2.2 + (gv_kp M.2.2 K).length)
def gv_fl (lo : Bool) : List gv_Fr → List (Nat × Int) → Nat → gv_Mm → Int → Nat → gv_Sx
  | [], K, w, M, a, q => (2, a, q, [], K, w, M)
  | x :: fr, K, w, M, a, q => if x.2.2.2 = -1 then (if x.1 = -1 then gv_fl lo fr K w M a q else (0, x.1, x.2.1, fr, gv_cut K x.2.2.1, w, M)) else gv_fl lo fr K w (if lo = true then M else gv_mf M x.2.2.2 x.2.1) a q
def gv_pu (t r : Int) (a : Int) (q : Nat) (fr : List gv_Fr) (K : List (Nat × Int)) (w : Nat) (M : gv_Mm) : gv_Sx := if fr.length < 550 then (0, a, q, (t, q, K.length, r) :: fr, K, w, M) else (3, a, q, fr, K, w, M)
def gv_at (A : gv_A) (g : Nat → Int32) (z : Int32) (a : Int) : Int32 := if 0 ≤ a ∧ a < (A.2.2.2.2.1 : Nat) then g a.toNat else z
def gv_sta (A : gv_A) (r : Int) : Int := if 0 ≤ r ∧ r < (A.2.2.2.2.2.1 : Nat) then (A.2.2.2.1 r.toNat).toInt else -1
/-- one step: the operation, its operand, its target -/
def gv_sto (A : gv_A) (o x : Int32) (t : Int) (a : Int) (q : Nat) (fr : List gv_Fr) (K : List (Nat × Int)) (w : Nat) (M : gv_Mm) : gv_Sx :=
  if o = 0 then (if A.2.2.2.2.2.2.1 x q = true then (0, a + 1, q + 1, fr, K, w, M) else gv_fl A.2.2.2.2.2.2.2 fr K w M a q)
  else if o = 1 then (0, if A.2.2.2.2.2.2.2 = true ∧ A.2.2.2.2.2.2.1 x q = false then t else a + 1, q, fr, K, w, M)
  else if o = 2 then (if A.2.2.2.2.2.2.2 = true ∧ 1000 ≤ w then (3, a, q, fr, K, w, M) else gv_pu t (-1) (a + 1) q fr K (if A.2.2.2.2.2.2.2 = true then w + 1 else w) M)
  else if o = 3 then gv_pu (-1) (-1) (a + 1) q fr K w M
  else if o = 4 then (0, t, q, fr, K, w, M)
  else if o = 5 then (0, t, q, fr.tail, K, w, M)
  else if o = 6 then (match fr with
    | [] => (7, a, q, fr, K, w, M)
    | y :: r => (0, a + 1, y.2.1, r, gv_cut K y.2.2.1, w, M))
  else if o = 7 then gv_fl A.2.2.2.2.2.2.2 fr.tail K w M a q
  else if o = 8 then (if A.2.2.2.2.2.2.2 = true ∨ M.1 x.toInt q = -2 then gv_pu (a + 1) x.toInt (gv_sta A x.toInt) q fr K (if A.2.2.2.2.2.2.2 = true then w else w + 1) M
    else if M.1 x.toInt q = -1 then gv_fl A.2.2.2.2.2.2.2 fr K w M a q
    else (0, a + 1, (M.1 x.toInt q).toNat, fr, (M.2.1 x.toInt q).foldr gv_ad K, w, M))
  else if o = 9 then (match fr with
    | [] => (7, a, q, fr, K, w, M)
    | y :: r => if y.2.2.2 = -1 then (7, a, q, fr, K, w, M) else (0, y.1, q, r, K, w, if A.2.2.2.2.2.2.2 = true then M else gv_mk M y.2.2.2 y.2.1 q (K.take (K.length - y.2.2.1))))
  else if o = 10 then (0, a + 1, q, fr, gv_ad (q, -1) K, w, M)
  else if o = 11 then (0, a + 1, q, fr, gv_cl K q, w, M)
  else (1, a, q, fr, K, w, M)
def gv_st (A : gv_A) (c : gv_Cf) : gv_Sx := gv_sto A (gv_at A A.1 12 c.1) (gv_at A A.2.1 (-1) c.1) (gv_at A A.2.2.1 (-1) c.1).toInt c.1 c.2.1 c.2.2.1 c.2.2.2.1 c.2.2.2.2.1 c.2.2.2.2.2
def gv_run (A : gv_A) : Nat → gv_Sx → gv_Sx
  | 0, s => s
  | n + 1, s => gv_run A n (if s.1 = 0 then gv_st A s.2 else s)
theorem gv_run_t (A : gv_A) : ∀ (m n : Nat) (s : gv_Sx), gv_run A (m + n) s = gv_run A n (gv_run A m s) := by
  intro m
  induction m with
  | zero => intro n s; rw [Nat.zero_add]; rfl
  | succ m ih =>
    intro n s
    rw [show m + 1 + n = (m + n) + 1 by omega]
    exact ih n _
/-- it comes to s within N steps -/
def gv_to (A : gv_A) (c : gv_Cf) (N : Nat) (s : gv_Sx) : Prop := ∃ n, n ≤ N ∧ gv_run A n (0, c) = s
theorem gv_to_r (A : gv_A) (c : gv_Cf) (N : Nat) : gv_to A c N (0, c) := ⟨0, Nat.zero_le N, rfl⟩
theorem gv_to_1 {A : gv_A} {c : gv_Cf} {s : gv_Sx} (h : gv_st A c = s) : gv_to A c 1 s := ⟨1, Nat.le_refl 1, by show gv_run A 0 (gv_st A c) = s; exact h⟩
theorem gv_to_t {A : gv_A} {c c' : gv_Cf} {N N' : Nat} {s : gv_Sx} (h : gv_to A c N (0, c')) (h' : gv_to A c' N' s) : gv_to A c (N + N') s := by
  obtain ⟨n, h1, h2⟩ := h
  obtain ⟨n', h3, h4⟩ := h'
  exact ⟨n + n', by omega, by rw [gv_run_t, h2, h4]⟩
theorem gv_to_w {A : gv_A} {c : gv_Cf} {N N' : Nat} {s : gv_Sx} (h : gv_to A c N s) (hN : N ≤ N') : gv_to A c N' s := by
  obtain ⟨n, h1, h2⟩ := h
  exact ⟨n, by omega, h2⟩
theorem gv_at_n {A : gv_A} {g : Nat → Int32} {z : Int32} {a : Nat} (h : a < A.2.2.2.2.1) : gv_at A g z (a : Nat) = g a := by
  unfold gv_at
  rw [if_pos ⟨by omega, by omega⟩]
  rfl
theorem gv_st_n {A : gv_A} {a : Nat} (h : a < A.2.2.2.2.1) (q : Nat) (fr : List gv_Fr) (K : List (Nat × Int)) (w : Nat) (M : gv_Mm) : gv_st A ((a : Nat), q, fr, K, w, M) = gv_sto A (A.1 a) (A.2.1 a) (A.2.2.1 a).toInt (a : Nat) q fr K w M := by
  unfold gv_st
  rw [gv_at_n h, gv_at_n h, gv_at_n h]
theorem gv_s0 {A : gv_A} {a : Nat} (h : a < A.2.2.2.2.1) (ho : A.1 a = 0) (q : Nat) (fr : List gv_Fr) (K : List (Nat × Int)) (w : Nat) (M : gv_Mm) : gv_st A ((a : Nat), q, fr, K, w, M) = if A.2.2.2.2.2.2.1 (A.2.1 a) q = true then (0, (a : Int) + 1, q + 1, fr, K, w, M) else gv_fl A.2.2.2.2.2.2.2 fr K w M a q := by
  rw [gv_st_n h, ho]; rfl
theorem gv_s1 {A : gv_A} {a : Nat} (h : a < A.2.2.2.2.1) (ho : A.1 a = 1) (q : Nat) (fr : List gv_Fr) (K : List (Nat × Int)) (w : Nat) (M : gv_Mm) : gv_st A ((a : Nat), q, fr, K, w, M) = (0, if A.2.2.2.2.2.2.2 = true ∧ A.2.2.2.2.2.2.1 (A.2.1 a) q = false then (A.2.2.1 a).toInt else (a : Int) + 1, q, fr, K, w, M) := by
  rw [gv_st_n h, ho]; rfl
theorem gv_s2 {A : gv_A} {a : Nat} (h : a < A.2.2.2.2.1) (ho : A.1 a = 2) (q : Nat) (fr : List gv_Fr) (K : List (Nat × Int)) (w : Nat) (M : gv_Mm) : gv_st A ((a : Nat), q, fr, K, w, M) = if A.2.2.2.2.2.2.2 = true ∧ 1000 ≤ w then (3, (a : Int), q, fr, K, w, M) else gv_pu (A.2.2.1 a).toInt (-1) ((a : Int) + 1) q fr K (if A.2.2.2.2.2.2.2 = true then w + 1 else w) M := by
  rw [gv_st_n h, ho]; rfl
theorem gv_s3 {A : gv_A} {a : Nat} (h : a < A.2.2.2.2.1) (ho : A.1 a = 3) (q : Nat) (fr : List gv_Fr) (K : List (Nat × Int)) (w : Nat) (M : gv_Mm) : gv_st A ((a : Nat), q, fr, K, w, M) = gv_pu (-1) (-1) ((a : Int) + 1) q fr K w M := by
  rw [gv_st_n h, ho]; rfl
theorem gv_s4 {A : gv_A} {a : Nat} (h : a < A.2.2.2.2.1) (ho : A.1 a = 4) (q : Nat) (fr : List gv_Fr) (K : List (Nat × Int)) (w : Nat) (M : gv_Mm) : gv_st A ((a : Nat), q, fr, K, w, M) = (0, (A.2.2.1 a).toInt, q, fr, K, w, M) := by
  rw [gv_st_n h, ho]; rfl
theorem gv_s5 {A : gv_A} {a : Nat} (h : a < A.2.2.2.2.1) (ho : A.1 a = 5) (q : Nat) (fr : List gv_Fr) (K : List (Nat × Int)) (w : Nat) (M : gv_Mm) : gv_st A ((a : Nat), q, fr, K, w, M) = (0, (A.2.2.1 a).toInt, q, fr.tail, K, w, M) := by
  rw [gv_st_n h, ho]; rfl
theorem gv_s6 {A : gv_A} {a : Nat} (h : a < A.2.2.2.2.1) (ho : A.1 a = 6) (q : Nat) (y : gv_Fr) (fr : List gv_Fr) (K : List (Nat × Int)) (w : Nat) (M : gv_Mm) : gv_st A ((a : Nat), q, y :: fr, K, w, M) = (0, (a : Int) + 1, y.2.1, fr, gv_cut K y.2.2.1, w, M) := by
  rw [gv_st_n h, ho]; rfl
theorem gv_s7 {A : gv_A} {a : Nat} (h : a < A.2.2.2.2.1) (ho : A.1 a = 7) (q : Nat) (fr : List gv_Fr) (K : List (Nat × Int)) (w : Nat) (M : gv_Mm) : gv_st A ((a : Nat), q, fr, K, w, M) = gv_fl A.2.2.2.2.2.2.2 fr.tail K w M a q := by
  rw [gv_st_n h, ho]; rfl
theorem gv_s8 {A : gv_A} {a : Nat} (h : a < A.2.2.2.2.1) (ho : A.1 a = 8) (q : Nat) (fr : List gv_Fr) (K : List (Nat × Int)) (w : Nat) (M : gv_Mm) : gv_st A ((a : Nat), q, fr, K, w, M) = if A.2.2.2.2.2.2.2 = true ∨ M.1 (A.2.1 a).toInt q = -2 then gv_pu ((a : Int) + 1) (A.2.1 a).toInt (gv_sta A (A.2.1 a).toInt) q fr K (if A.2.2.2.2.2.2.2 = true then w else w + 1) M
    else if M.1 (A.2.1 a).toInt q = -1 then gv_fl A.2.2.2.2.2.2.2 fr K w M a q
    else (0, (a : Int) + 1, (M.1 (A.2.1 a).toInt q).toNat, fr, (M.2.1 (A.2.1 a).toInt q).foldr gv_ad K, w, M) := by
  rw [gv_st_n h, ho]; rfl
theorem gv_s9 {A : gv_A} {a : Nat} (h : a < A.2.2.2.2.1) (ho : A.1 a = 9) (q : Nat) (y : gv_Fr) (hy : ¬ y.2.2.2 = -1) (fr : List gv_Fr) (K : List (Nat × Int)) (w : Nat) (M : gv_Mm) : gv_st A ((a : Nat), q, y :: fr, K, w, M) = (0, y.1, q, fr, K, w, if A.2.2.2.2.2.2.2 = true then M else gv_mk M y.2.2.2 y.2.1 q (K.take (K.length - y.2.2.1))) := by
  rw [gv_st_n h, ho]
  exact if_neg hy
theorem gv_s10 {A : gv_A} {a : Nat} (h : a < A.2.2.2.2.1) (ho : A.1 a = 10) (q : Nat) (fr : List gv_Fr) (K : List (Nat × Int)) (w : Nat) (M : gv_Mm) : gv_st A ((a : Nat), q, fr, K, w, M) = (0, (a : Int) + 1, q, fr, gv_ad (q, -1) K, w, M) := by
  rw [gv_st_n h, ho]; rfl
theorem gv_s11 {A : gv_A} {a : Nat} (h : a < A.2.2.2.2.1) (ho : A.1 a = 11) (q : Nat) (fr : List gv_Fr) (K : List (Nat × Int)) (w : Nat) (M : gv_Mm) : gv_st A ((a : Nat), q, fr, K, w, M) = (0, (a : Int) + 1, q, fr, gv_cl K q, w, M) := by
  rw [gv_st_n h, ho]; rfl
theorem gv_s12 {A : gv_A} {a : Nat} (h : a < A.2.2.2.2.1) (ho : A.1 a = 12) (q : Nat) (fr : List gv_Fr) (K : List (Nat × Int)) (w : Nat) (M : gv_Mm) : gv_st A ((a : Nat), q, fr, K, w, M) = (1, (a : Int), q, fr, K, w, M) := by
  rw [gv_st_n h, ho]; rfl
