theorem gm_all (xs : Nat → Int32) (L : Nat) (hL : L ≤ 1536) : gm_good xs L := by
  unfold gm_good
  have z0 : (0 : Int32).toInt = 0 := by decide
  have p : ∀ k : Int, 0 ≤ k → 0 ≤ (0 : Int32).toInt ∧ (0 : Int32).toInt ≤ k := fun k hk => by rw [z0]; exact ⟨Int.le_refl 0, hk⟩
  have T : gm_iT 0 0 0 (fun _ => 0) (fun _ => 0) (fun _ => 0) (fun _ => 0) (fun _ => 0) := ⟨p 75 (by decide), p 75 (by decide), p 8 (by decide), fun _ => p 75 (by decide), fun _ => p 75 (by decide), fun _ => p 74 (by decide), fun _ => Or.inl rfl, fun _ => p 74 (by decide)⟩
  have N : ∀ n : Nat, gm_iN n 0 := fun n => ⟨by omega, by omega⟩
  have R : gp_RI gm_s_MD := ⟨gx_w0 50 _, gx_w0 10 _, N 200, fun _ => Or.inl rfl, Or.inl rfl⟩
  exact gl_law xs L hL 600 0 _ _ _ _ _ _ _ _ _ _ _ _ _ _ _ _ _ _ _ ⟨gx_w0 50 _, gx_w0 10 _, T, N 200, N 75, T, N 200, N 75, N 550, N 275, N 5720, R, gs_TK_0 rfl rfl, gs_SK_0 rfl rfl, rfl, Or.inl ⟨rfl, rfl⟩, Or.inl ⟨rfl, rfl⟩⟩ (by omega) (by omega) (by omega)
theorem whole_start {p : Program} {e : Env} {s : State} {m : MethodId} {below : List Frame} {meth : Method} {c : Code} (l : Launch) (hst : l.stackTraces = false) {b L : Nat} {xs : Nat → Int32} (hL : L ≤ 1536) (C0 : lw_At p s m meth c b L xs) : W p l e room_1 s m #[Value.ref b] below meth c s.heap [] 0 0 (lw_Z below #[Value.ref b] s) (entryFrame m ([Value.ref b] : List Value).toArray 7) := whole_start0 l hst (gm_all xs L hL) C0
