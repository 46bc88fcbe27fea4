set_option maxHeartbeats 40000000 in
set_option maxRecDepth 100000 in
theorem gm_lawloop {p : Program} {e : Env} {s : State} {m : MethodId} {below : List Frame} {meth : Method} {c : Code} (l : Launch) (hst : l.stackTraces = false) {b L : Nat} {xs : Nat → Int32} (C0 : lw_At p s m meth c b L xs) (D : va_G) (cI cJ cC cZ : ClassId) (hK : va_K D gm_cl (gm_T cI cJ cC cZ) s) {A : Nat → Prop} (hE : gm_E A s) (hN : gm_N s) (hA : ∀ q : Nat, s.heap.size ≤ q → A q) (hSA : ∀ q, A q → s.heap.size ≤ q) (m0 d0 o0 : Nat) (n : Nat) : ∀ (i : Int32) (qm qt qw qa qaT qaJ qaC qaD qb qbT qbJ qbC qbD qr qk qv qn qd qo : Nat → Nat) (s0 s1 s2 s3 s4 s5 s6 s7 s8 s9 s10 s11 s12 s13 s14 s15 s16 s17 s18 : gm_S) (cells slots : Nat) (H : Heap) (locs : List Loc) (ls : Array Slot), cells + n + 2 ≤ 601024 → slots + 6 * n + 12 ≤ 7293034 → lv_has ls 7 [(0, .ref b), (1, .ref m0), (2, .ref d0), (3, .ref o0), (4, .int i)] → va_P D gm_cl [(m0, .inr (0, [.ref (qm 0), .ref (qm 1), .ref (qm 2), .ref (qm 3), .ref (qm 4), .int (s0.2.2 5), .int (s0.2.2 6), .int (s0.2.2 7)])), ((qm 0), .inr (1, [.ref (qt 0), .int (s1.2.2 1)])), ((qt 0), .inl (cC, 50, .inl (s1.1 0))), ((qm 1), .inr (1, [.ref (qw 0), .int (s2.2.2 1)])), ((qw 0), .inl (cC, 10, .inl (s2.1 0))), ((qm 2), .inr (2, [.ref (qa 0), .ref (qa 1), .ref (qa 2), .ref (qa 3)])), ((qa 0), .inr (3, [.ref (qaT 0), .ref (qaT 1), .ref (qaT 2), .ref (qaT 3), .ref (qaT 4), .ref (qaT 5), .ref (qaT 6), .ref (qaT 7), .ref (qaT 8), .ref (qaT 9), .ref (qaT 10), .int (s4.2.2 11), .int (s4.2.2 12), .int (s4.2.2 13)])), ((qaT 0), .inl (cI, 75, .inl (s4.1 0))), ((qaT 1), .inl (cI, 75, .inl (s4.1 1))), ((qaT 2), .inl (cI, 75, .inl (s4.1 2))), ((qaT 3), .inl (cI, 75, .inl (s4.1 3))), ((qaT 4), .inl (cI, 75, .inl (s4.1 4))), ((qaT 5), .inl (cZ, 75, .inl (s4.1 5))), ((qaT 6), .inl (cI, 75, .inl (s4.1 6))), ((qaT 7), .inl (cJ, 75, .inr (.inl (s4.2.1 7)))), ((qaT 8), .inl (cJ, 75, .inr (.inl (s4.2.1 8)))), ((qaT 9), .inl (cI, 8, .inl (s4.1 9))), ((qaT 10), .inl (cI, 8, .inl (s4.1 10))), ((qa 1), .inr (4, [.ref (qa 0)])), ((qa 2), .inr (5, [.ref (qa 0), .ref (qaC 1), .ref (qaC 2), .ref (qaC 3), .ref (qaC 4), .int (s6.2.2 5)])), ((qaC 1), .inl (cI, 200, .inl (s6.1 1))), ((qaC 2), .inl (cI, 200, .inl (s6.1 2))), ((qaC 3), .inl (cI, 200, .inl (s6.1 3))), ((qaC 4), .inl (cI, 8, .inl (s6.1 4))), ((qa 3), .inr (6, [.ref (qm 0), .ref (qa 0), .ref (qaD 2), .int (s7.2.2 3), .int (s7.2.2 4), .int (s7.2.2 5)])), ((qaD 2), .inl (cI, 75, .inl (s7.1 2))), ((qm 3), .inr (2, [.ref (qb 0), .ref (qb 1), .ref (qb 2), .ref (qb 3)])), ((qb 0), .inr (3, [.ref (qbT 0), .ref (qbT 1), .ref (qbT 2), .ref (qbT 3), .ref (qbT 4), .ref (qbT 5), .ref (qbT 6), .ref (qbT 7), .ref (qbT 8), .ref (qbT 9), .ref (qbT 10), .int (s9.2.2 11), .int (s9.2.2 12), .int (s9.2.2 13)])), ((qbT 0), .inl (cI, 75, .inl (s9.1 0))), ((qbT 1), .inl (cI, 75, .inl (s9.1 1))), ((qbT 2), .inl (cI, 75, .inl (s9.1 2))), ((qbT 3), .inl (cI, 75, .inl (s9.1 3))), ((qbT 4), .inl (cI, 75, .inl (s9.1 4))), ((qbT 5), .inl (cZ, 75, .inl (s9.1 5))), ((qbT 6), .inl (cI, 75, .inl (s9.1 6))), ((qbT 7), .inl (cJ, 75, .inr (.inl (s9.2.1 7)))), ((qbT 8), .inl (cJ, 75, .inr (.inl (s9.2.1 8)))), ((qbT 9), .inl (cI, 8, .inl (s9.1 9))), ((qbT 10), .inl (cI, 8, .inl (s9.1 10))), ((qb 1), .inr (4, [.ref (qb 0)])), ((qb 2), .inr (5, [.ref (qb 0), .ref (qbC 1), .ref (qbC 2), .ref (qbC 3), .ref (qbC 4), .int (s11.2.2 5)])), ((qbC 1), .inl (cI, 200, .inl (s11.1 1))), ((qbC 2), .inl (cI, 200, .inl (s11.1 2))), ((qbC 3), .inl (cI, 200, .inl (s11.1 3))), ((qbC 4), .inl (cI, 8, .inl (s11.1 4))), ((qb 3), .inr (6, [.ref (qm 0), .ref (qb 0), .ref (qbD 2), .int (s12.2.2 3), .int (s12.2.2 4), .int (s12.2.2 5)])), ((qbD 2), .inl (cI, 75, .inl (s12.1 2))), ((qm 4), .inr (7, [.ref (qm 1), .ref (qr 1), .ref (qr 2), .ref (qr 3), .ref (qr 4), .ref (qr 5), .ref (qr 6), .int (s13.2.2 7), .ref (qr 8), .ref (qr 9), .int (s13.2.2 10), .int (s13.2.2 11), .int (s13.2.2 12), .int (s13.2.2 13), .int (s13.2.2 14)])), ((qr 3), .inl (cI, 550, .inl (s13.1 3))), ((qr 4), .inl (cI, 550, .inl (s13.1 4))), ((qr 5), .inl (cI, 550, .inl (s13.1 5))), ((qr 6), .inl (cI, 550, .inl (s13.1 6))), ((qr 1), .inr (8, [.ref (qk 0), .ref (qk 1), .int (s14.2.2 2)])), ((qk 0), .inl (cI, 275, .inl (s14.1 0))), ((qk 1), .inl (cI, 275, .inl (s14.1 1))), ((qr 2), .inr (9, [.ref (qv 0), .ref (qv 1), .ref (qv 2), .ref (qv 3)])), ((qv 0), .inl (cI, 88, .inl (s15.1 0))), ((qv 1), .inl (cI, 88, .inl (s15.1 1))), ((qv 2), .inl (cI, 88, .inl (s15.1 2))), ((qv 3), .inr (8, [.ref (qn 0), .ref (qn 1), .int (s16.2.2 2)])), ((qn 0), .inl (cI, 5720, .inl (s16.1 0))), ((qn 1), .inl (cI, 5720, .inl (s16.1 1))), (d0, .inr (10, [.int (s17.2.2 0), .int (s17.2.2 1), .int (s17.2.2 2), .ref (qd 3), .int (s17.2.2 4), .int (s17.2.2 5), .ref (qd 6), .ref (qd 7), .ref (qd 8), .ref (qd 9), .ref (qd 10), .ref (qd 11), .ref (qd 12), .ref (qd 13), .ref (qd 14), .ref (qd 15), .ref (qd 16), .ref (qd 17), .ref (qd 18), .int (s17.2.2 19), .int (s17.2.2 20), .int (s17.2.2 21), .int (s17.2.2 22), .int (s17.2.2 23), .int (s17.2.2 24), .int (s17.2.2 25), .ref (qd 26), .ref (qd 27), .ref (qd 28), .ref (qd 29), .ref (qd 30), .ref (qd 31), .int (s17.2.2 32), .ref (qd 33), .ref (qd 34), .ref (qd 35), .ref (qd 36), .ref (qd 37), .int (s17.2.2 38), .int (s17.2.2 39), .int (s17.2.2 40), .int (s17.2.2 41), .ref (qd 42), .ref (qd 43), .ref (qd 44)])), ((qd 3), .inl (cI, 50, .inl (s17.1 3))), ((qd 6), .inl (cI, 2, .inl (s17.1 6))), ((qd 7), .inl (cI, 16, .inl (s17.1 7))), ((qd 8), .inl (cI, 16, .inl (s17.1 8))), ((qd 9), .inl (cI, 2, .inl (s17.1 9))), ((qd 10), .inl (cI, 320, .inl (s17.1 10))), ((qd 11), .inl (cI, 320, .inl (s17.1 11))), ((qd 12), .inl (cI, 320, .inl (s17.1 12))), ((qd 13), .inl (cI, 320, .inl (s17.1 13))), ((qd 14), .inl (cI, 100, .inl (s17.1 14))), ((qd 15), .inl (cZ, 320, .inl (s17.1 15))), ((qd 16), .inl (cI, 320, .inl (s17.1 16))), ((qd 17), .inl (cJ, 320, .inr (.inl (s17.2.1 17)))), ((qd 18), .inl (cJ, 320, .inr (.inl (s17.2.1 18)))), ((qd 26), .inl (cI, 8, .inl (s17.1 26))), ((qd 27), .inl (cI, 8, .inl (s17.1 27))), ((qd 28), .inl (cI, 8, .inl (s17.1 28))), ((qd 29), .inl (cI, 8, .inl (s17.1 29))), ((qd 30), .inl (cI, 60, .inl (s17.1 30))), ((qd 31), .inl (cI, 60, .inl (s17.1 31))), ((qd 33), .inl (cI, 10, .inl (s17.1 33))), ((qd 34), .inl (cI, 1760, .inl (s17.1 34))), ((qd 35), .inl (cI, 1760, .inl (s17.1 35))), ((qd 36), .inl (cZ, 1760, .inl (s17.1 36))), ((qd 37), .inl (cI, 1760, .inl (s17.1 37))), ((qd 42), .inl (cI, 200, .inl (s17.1 42))), ((qd 43), .inl (cI, 200, .inl (s17.1 43))), ((qd 44), .inl (cI, 200, .inl (s17.1 44))), (o0, .inl (cJ, 1, .inr (.inl (s18.2.1 0))))] H → va_D A [(m0, .inr (0, [.ref (qm 0), .ref (qm 1), .ref (qm 2), .ref (qm 3), .ref (qm 4), .int (s0.2.2 5), .int (s0.2.2 6), .int (s0.2.2 7)])), ((qm 0), .inr (1, [.ref (qt 0), .int (s1.2.2 1)])), ((qt 0), .inl (cC, 50, .inl (s1.1 0))), ((qm 1), .inr (1, [.ref (qw 0), .int (s2.2.2 1)])), ((qw 0), .inl (cC, 10, .inl (s2.1 0))), ((qm 2), .inr (2, [.ref (qa 0), .ref (qa 1), .ref (qa 2), .ref (qa 3)])), ((qa 0), .inr (3, [.ref (qaT 0), .ref (qaT 1), .ref (qaT 2), .ref (qaT 3), .ref (qaT 4), .ref (qaT 5), .ref (qaT 6), .ref (qaT 7), .ref (qaT 8), .ref (qaT 9), .ref (qaT 10), .int (s4.2.2 11), .int (s4.2.2 12), .int (s4.2.2 13)])), ((qaT 0), .inl (cI, 75, .inl (s4.1 0))), ((qaT 1), .inl (cI, 75, .inl (s4.1 1))), ((qaT 2), .inl (cI, 75, .inl (s4.1 2))), ((qaT 3), .inl (cI, 75, .inl (s4.1 3))), ((qaT 4), .inl (cI, 75, .inl (s4.1 4))), ((qaT 5), .inl (cZ, 75, .inl (s4.1 5))), ((qaT 6), .inl (cI, 75, .inl (s4.1 6))), ((qaT 7), .inl (cJ, 75, .inr (.inl (s4.2.1 7)))), ((qaT 8), .inl (cJ, 75, .inr (.inl (s4.2.1 8)))), ((qaT 9), .inl (cI, 8, .inl (s4.1 9))), ((qaT 10), .inl (cI, 8, .inl (s4.1 10))), ((qa 1), .inr (4, [.ref (qa 0)])), ((qa 2), .inr (5, [.ref (qa 0), .ref (qaC 1), .ref (qaC 2), .ref (qaC 3), .ref (qaC 4), .int (s6.2.2 5)])), ((qaC 1), .inl (cI, 200, .inl (s6.1 1))), ((qaC 2), .inl (cI, 200, .inl (s6.1 2))), ((qaC 3), .inl (cI, 200, .inl (s6.1 3))), ((qaC 4), .inl (cI, 8, .inl (s6.1 4))), ((qa 3), .inr (6, [.ref (qm 0), .ref (qa 0), .ref (qaD 2), .int (s7.2.2 3), .int (s7.2.2 4), .int (s7.2.2 5)])), ((qaD 2), .inl (cI, 75, .inl (s7.1 2))), ((qm 3), .inr (2, [.ref (qb 0), .ref (qb 1), .ref (qb 2), .ref (qb 3)])), ((qb 0), .inr (3, [.ref (qbT 0), .ref (qbT 1), .ref (qbT 2), .ref (qbT 3), .ref (qbT 4), .ref (qbT 5), .ref (qbT 6), .ref (qbT 7), .ref (qbT 8), .ref (qbT 9), .ref (qbT 10), .int (s9.2.2 11), .int (s9.2.2 12), .int (s9.2.2 13)])), ((qbT 0), .inl (cI, 75, .inl (s9.1 0))), ((qbT 1), .inl (cI, 75, .inl (s9.1 1))), ((qbT 2), .inl (cI, 75, .inl (s9.1 2))), ((qbT 3), .inl (cI, 75, .inl (s9.1 3))), ((qbT 4), .inl (cI, 75, .inl (s9.1 4))), ((qbT 5), .inl (cZ, 75, .inl (s9.1 5))), ((qbT 6), .inl (cI, 75, .inl (s9.1 6))), ((qbT 7), .inl (cJ, 75, .inr (.inl (s9.2.1 7)))), ((qbT 8), .inl (cJ, 75, .inr (.inl (s9.2.1 8)))), ((qbT 9), .inl (cI, 8, .inl (s9.1 9))), ((qbT 10), .inl (cI, 8, .inl (s9.1 10))), ((qb 1), .inr (4, [.ref (qb 0)])), ((qb 2), .inr (5, [.ref (qb 0), .ref (qbC 1), .ref (qbC 2), .ref (qbC 3), .ref (qbC 4), .int (s11.2.2 5)])), ((qbC 1), .inl (cI, 200, .inl (s11.1 1))), ((qbC 2), .inl (cI, 200, .inl (s11.1 2))), ((qbC 3), .inl (cI, 200, .inl (s11.1 3))), ((qbC 4), .inl (cI, 8, .inl (s11.1 4))), ((qb 3), .inr (6, [.ref (qm 0), .ref (qb 0), .ref (qbD 2), .int (s12.2.2 3), .int (s12.2.2 4), .int (s12.2.2 5)])), ((qbD 2), .inl (cI, 75, .inl (s12.1 2))), ((qm 4), .inr (7, [.ref (qm 1), .ref (qr 1), .ref (qr 2), .ref (qr 3), .ref (qr 4), .ref (qr 5), .ref (qr 6), .int (s13.2.2 7), .ref (qr 8), .ref (qr 9), .int (s13.2.2 10), .int (s13.2.2 11), .int (s13.2.2 12), .int (s13.2.2 13), .int (s13.2.2 14)])), ((qr 3), .inl (cI, 550, .inl (s13.1 3))), ((qr 4), .inl (cI, 550, .inl (s13.1 4))), ((qr 5), .inl (cI, 550, .inl (s13.1 5))), ((qr 6), .inl (cI, 550, .inl (s13.1 6))), ((qr 1), .inr (8, [.ref (qk 0), .ref (qk 1), .int (s14.2.2 2)])), ((qk 0), .inl (cI, 275, .inl (s14.1 0))), ((qk 1), .inl (cI, 275, .inl (s14.1 1))), ((qr 2), .inr (9, [.ref (qv 0), .ref (qv 1), .ref (qv 2), .ref (qv 3)])), ((qv 0), .inl (cI, 88, .inl (s15.1 0))), ((qv 1), .inl (cI, 88, .inl (s15.1 1))), ((qv 2), .inl (cI, 88, .inl (s15.1 2))), ((qv 3), .inr (8, [.ref (qn 0), .ref (qn 1), .int (s16.2.2 2)])), ((qn 0), .inl (cI, 5720, .inl (s16.1 0))), ((qn 1), .inl (cI, 5720, .inl (s16.1 1))), (d0, .inr (10, [.int (s17.2.2 0), .int (s17.2.2 1), .int (s17.2.2 2), .ref (qd 3), .int (s17.2.2 4), .int (s17.2.2 5), .ref (qd 6), .ref (qd 7), .ref (qd 8), .ref (qd 9), .ref (qd 10), .ref (qd 11), .ref (qd 12), .ref (qd 13), .ref (qd 14), .ref (qd 15), .ref (qd 16), .ref (qd 17), .ref (qd 18), .int (s17.2.2 19), .int (s17.2.2 20), .int (s17.2.2 21), .int (s17.2.2 22), .int (s17.2.2 23), .int (s17.2.2 24), .int (s17.2.2 25), .ref (qd 26), .ref (qd 27), .ref (qd 28), .ref (qd 29), .ref (qd 30), .ref (qd 31), .int (s17.2.2 32), .ref (qd 33), .ref (qd 34), .ref (qd 35), .ref (qd 36), .ref (qd 37), .int (s17.2.2 38), .int (s17.2.2 39), .int (s17.2.2 40), .int (s17.2.2 41), .ref (qd 42), .ref (qd 43), .ref (qd 44)])), ((qd 3), .inl (cI, 50, .inl (s17.1 3))), ((qd 6), .inl (cI, 2, .inl (s17.1 6))), ((qd 7), .inl (cI, 16, .inl (s17.1 7))), ((qd 8), .inl (cI, 16, .inl (s17.1 8))), ((qd 9), .inl (cI, 2, .inl (s17.1 9))), ((qd 10), .inl (cI, 320, .inl (s17.1 10))), ((qd 11), .inl (cI, 320, .inl (s17.1 11))), ((qd 12), .inl (cI, 320, .inl (s17.1 12))), ((qd 13), .inl (cI, 320, .inl (s17.1 13))), ((qd 14), .inl (cI, 100, .inl (s17.1 14))), ((qd 15), .inl (cZ, 320, .inl (s17.1 15))), ((qd 16), .inl (cI, 320, .inl (s17.1 16))), ((qd 17), .inl (cJ, 320, .inr (.inl (s17.2.1 17)))), ((qd 18), .inl (cJ, 320, .inr (.inl (s17.2.1 18)))), ((qd 26), .inl (cI, 8, .inl (s17.1 26))), ((qd 27), .inl (cI, 8, .inl (s17.1 27))), ((qd 28), .inl (cI, 8, .inl (s17.1 28))), ((qd 29), .inl (cI, 8, .inl (s17.1 29))), ((qd 30), .inl (cI, 60, .inl (s17.1 30))), ((qd 31), .inl (cI, 60, .inl (s17.1 31))), ((qd 33), .inl (cI, 10, .inl (s17.1 33))), ((qd 34), .inl (cI, 1760, .inl (s17.1 34))), ((qd 35), .inl (cI, 1760, .inl (s17.1 35))), ((qd 36), .inl (cZ, 1760, .inl (s17.1 36))), ((qd 37), .inl (cI, 1760, .inl (s17.1 37))), ((qd 42), .inl (cI, 200, .inl (s17.1 42))), ((qd 43), .inl (cI, 200, .inl (s17.1 43))), ((qd 44), .inl (cI, 200, .inl (s17.1 44))), (o0, .inl (cJ, 1, .inr (.inl (s18.2.1 0))))] → va_S A s.heap H locs → gm_p_law xs L n i s0 s1 s2 s3 s4 s5 s6 s7 s8 s9 s10 s11 s12 s13 s14 s15 s16 s17 s18 → W p l e room_1 s m #[Value.ref b] below meth c H locs cells slots (lw_Z below #[Value.ref b] s) (F0 m 23 ls []) := by
  have C1 := C0
  obtain ⟨hx, hb, hr, hml, hown0, hts, hX, hbl, hlocks, hgv⟩ := C0
  have hown : s.vm.findClass gm_R_LW = some m.cls := hown0
  have hw : ∀ w ∈ gm_W, w.before #[Value.ref b] s = true := fun w h => hts w (gm_tb h)
  have hbA : ¬ A b := fun h => Nat.not_le.mpr hbl (hSA b h)
  induction n with
  | zero => intro i qm qt qw qa qaT qaJ qaC qaD qb qbT qbJ qbC qbD qr qk qv qn qd qo s0 s1 s2 s3 s4 s5 s6 s7 s8 s9 s10 s11 s12 s13 s14 s15 s16 s17 s18 cells slots H locs ls hc hs hl hP hD hS hok; exact hok.elim
  | succ n ih =>
    intro i qm qt qw qa qaT qaJ qaC qaD qb qbT qbJ qbC qbD qr qk qv qn qd qo s0 s1 s2 s3 s4 s5 s6 s7 s8 s9 s10 s11 s12 s13 s14 s15 s16 s17 s18 cells slots H locs ls hc hs hl hP hD hS hok
    have hcn : cells + 2 ≤ 601024 := by omega
    have hsn : slots + 12 ≤ 7293034 := by omega
    rw [gm_p_law] at hok
    refine lv_iload hx hb gm_d_LW_law_23 (lv_at hl 4 rfl) ?_
    refine lv_aload_n hx hb gm_d_LW_law_25 rfl (lv_at hl 0 rfl) ?_
    refine va_slen hx hb hX hbl hbA hS gm_d_LW_law_26 ?_
    refine lv_iconst (v := 3) hx hb gm_d_LW_law_27 (by decide) ?_
    refine lv_isub hx hb gm_d_LW_law_28 ?_
    refine lv_icmp_gt (tgt := 549) hx hb gm_d_LW_law_29 (by decide) (fun c29 => ?_) (fun c29 => ?_)
    · skip
      have hok := hok.1 c29
      refine lv_iconst (v := 1) hx hb gm_d_LW_law_549 (by decide) ?_
      refine va_forget (fun q hq => hSA _ (hS.2.2 q hq)) ?_
      refine W.widen (k := 601024) (n := 7293034) (show cells ≤ 601024 by omega) (show slots ≤ 7293034 by omega) ?_
      exact lw_ret hx hb hr hlocks gm_d_LW_law_550
    · skip
      have hok := hok.2 c29
      refine lv_aload_n hx hb gm_d_LW_law_32 rfl (lv_at hl 0 rfl) ?_
      refine lv_iload hx hb gm_d_LW_law_33 (lv_at hl 4 rfl) ?_
      have i35 := hok.1
      have hok := hok.2
      refine va_sld hx hb hX hbl hbA hS i35 gm_d_LW_law_35 ?_
      refine lv_bipush (v := 15) hx hb gm_d_LW_law_36 (by decide) ?_
      refine lv_iand hx hb gm_d_LW_law_38 ?_
      by_cases c39_0 : ((xs i.toNatClampNeg) &&& 15) = 0
      · skip
        have hok := hok.1 c39_0
        refine lv_tableIn (tgt := 100) hx hb gm_d_LW_law_39 (by rw [c39_0]; decide) (by rw [c39_0]; decide) (by rw [c39_0]; rfl) (by decide) ?_
        exact gm_law_100 l hst C1 D cI cJ cC cZ hK hE hN hA hSA m0 d0 o0 n ih i qm qt qw qa qaT qaJ qaC qaD qb qbT qbJ qbC qbD qr qk qv qn qd qo s0 s1 s2 s3 s4 s5 s6 s7 s8 s9 s10 s11 s12 s13 s14 s15 s16 s17 s18 cells slots _ _ _ hc hs hl hP hD hS hok
      · skip
        have hok := hok.2 c39_0
        by_cases c39_1 : ((xs i.toNatClampNeg) &&& 15) = 1
        · skip
          have hok := hok.1 c39_1
          refine lv_tableIn (tgt := 127) hx hb gm_d_LW_law_39 (by rw [c39_1]; decide) (by rw [c39_1]; decide) (by rw [c39_1]; rfl) (by decide) ?_
          exact gm_law_127 l hst C1 D cI cJ cC cZ hK hE hN hA hSA m0 d0 o0 n ih i qm qt qw qa qaT qaJ qaC qaD qb qbT qbJ qbC qbD qr qk qv qn qd qo s0 s1 s2 s3 s4 s5 s6 s7 s8 s9 s10 s11 s12 s13 s14 s15 s16 s17 s18 cells slots _ _ _ hc hs hl hP hD hS hok
        · skip
          have hok := hok.2 c39_1
          by_cases c39_2 : ((xs i.toNatClampNeg) &&& 15) = 2
          · skip
            have hok := hok.1 c39_2
            refine lv_tableIn (tgt := 138) hx hb gm_d_LW_law_39 (by rw [c39_2]; decide) (by rw [c39_2]; decide) (by rw [c39_2]; rfl) (by decide) ?_
            exact gm_law_138 l hst C1 D cI cJ cC cZ hK hE hN hA hSA m0 d0 o0 n ih i qm qt qw qa qaT qaJ qaC qaD qb qbT qbJ qbC qbD qr qk qv qn qd qo s0 s1 s2 s3 s4 s5 s6 s7 s8 s9 s10 s11 s12 s13 s14 s15 s16 s17 s18 cells slots _ _ _ hc hs hl hP hD hS hok
          · skip
            have hok := hok.2 c39_2
            by_cases c39_3 : ((xs i.toNatClampNeg) &&& 15) = 3
            · skip
              have hok := hok.1 c39_3
              refine lv_tableIn (tgt := 182) hx hb gm_d_LW_law_39 (by rw [c39_3]; decide) (by rw [c39_3]; decide) (by rw [c39_3]; rfl) (by decide) ?_
              exact gm_law_182 l hst C1 D cI cJ cC cZ hK hE hN hA hSA m0 d0 o0 n ih i qm qt qw qa qaT qaJ qaC qaD qb qbT qbJ qbC qbD qr qk qv qn qd qo s0 s1 s2 s3 s4 s5 s6 s7 s8 s9 s10 s11 s12 s13 s14 s15 s16 s17 s18 cells slots _ _ _ hc hs hl hP hD hS hok
            · skip
              have hok := hok.2 c39_3
              by_cases c39_4 : ((xs i.toNatClampNeg) &&& 15) = 4
              · skip
                have hok := hok.1 c39_4
                refine lv_tableIn (tgt := 195) hx hb gm_d_LW_law_39 (by rw [c39_4]; decide) (by rw [c39_4]; decide) (by rw [c39_4]; rfl) (by decide) ?_
                exact gm_law_195 l hst C1 D cI cJ cC cZ hK hE hN hA hSA m0 d0 o0 n ih i qm qt qw qa qaT qaJ qaC qaD qb qbT qbJ qbC qbD qr qk qv qn qd qo s0 s1 s2 s3 s4 s5 s6 s7 s8 s9 s10 s11 s12 s13 s14 s15 s16 s17 s18 cells slots _ _ _ hc hs hl hP hD hS hok
              · skip
                have hok := hok.2 c39_4
                by_cases c39_5 : ((xs i.toNatClampNeg) &&& 15) = 5
                · skip
                  have hok := hok.1 c39_5
                  refine lv_tableIn (tgt := 260) hx hb gm_d_LW_law_39 (by rw [c39_5]; decide) (by rw [c39_5]; decide) (by rw [c39_5]; rfl) (by decide) ?_
                  exact gm_law_260 l hst C1 D cI cJ cC cZ hK hE hN hA hSA m0 d0 o0 n ih i qm qt qw qa qaT qaJ qaC qaD qb qbT qbJ qbC qbD qr qk qv qn qd qo s0 s1 s2 s3 s4 s5 s6 s7 s8 s9 s10 s11 s12 s13 s14 s15 s16 s17 s18 cells slots _ _ _ hc hs hl hP hD hS hok
                · skip
                  have hok := hok.2 c39_5
                  by_cases c39_6 : ((xs i.toNatClampNeg) &&& 15) = 6
                  · skip
                    have hok := hok.1 c39_6
                    refine lv_tableIn (tgt := 339) hx hb gm_d_LW_law_39 (by rw [c39_6]; decide) (by rw [c39_6]; decide) (by rw [c39_6]; rfl) (by decide) ?_
                    exact gm_law_339 l hst C1 D cI cJ cC cZ hK hE hN hA hSA m0 d0 o0 n ih i qm qt qw qa qaT qaJ qaC qaD qb qbT qbJ qbC qbD qr qk qv qn qd qo s0 s1 s2 s3 s4 s5 s6 s7 s8 s9 s10 s11 s12 s13 s14 s15 s16 s17 s18 cells slots _ _ _ hc hs hl hP hD hS hok
                  · skip
                    have hok := hok.2 c39_6
                    by_cases c39_7 : ((xs i.toNatClampNeg) &&& 15) = 7
                    · skip
                      have hok := hok.1 c39_7
                      refine lv_tableIn (tgt := 366) hx hb gm_d_LW_law_39 (by rw [c39_7]; decide) (by rw [c39_7]; decide) (by rw [c39_7]; rfl) (by decide) ?_
                      exact gm_law_366 l hst C1 D cI cJ cC cZ hK hE hN hA hSA m0 d0 o0 n ih i qm qt qw qa qaT qaJ qaC qaD qb qbT qbJ qbC qbD qr qk qv qn qd qo s0 s1 s2 s3 s4 s5 s6 s7 s8 s9 s10 s11 s12 s13 s14 s15 s16 s17 s18 cells slots _ _ _ hc hs hl hP hD hS hok
                    · skip
                      have hok := hok.2 c39_7
                      by_cases c39_8 : ((xs i.toNatClampNeg) &&& 15) = 8
                      · skip
                        have hok := hok.1 c39_8
                        refine lv_tableIn (tgt := 377) hx hb gm_d_LW_law_39 (by rw [c39_8]; decide) (by rw [c39_8]; decide) (by rw [c39_8]; rfl) (by decide) ?_
                        exact gm_law_377 l hst C1 D cI cJ cC cZ hK hE hN hA hSA m0 d0 o0 n ih i qm qt qw qa qaT qaJ qaC qaD qb qbT qbJ qbC qbD qr qk qv qn qd qo s0 s1 s2 s3 s4 s5 s6 s7 s8 s9 s10 s11 s12 s13 s14 s15 s16 s17 s18 cells slots _ _ _ hc hs hl hP hD hS hok
                      · skip
                        have hok := hok.2 c39_8
                        by_cases c39_9 : ((xs i.toNatClampNeg) &&& 15) = 9
                        · skip
                          have hok := hok.1 c39_9
                          refine lv_tableIn (tgt := 449) hx hb gm_d_LW_law_39 (by rw [c39_9]; decide) (by rw [c39_9]; decide) (by rw [c39_9]; rfl) (by decide) ?_
                          exact gm_law_449 l hst C1 D cI cJ cC cZ hK hE hN hA hSA m0 d0 o0 n ih i qm qt qw qa qaT qaJ qaC qaD qb qbT qbJ qbC qbD qr qk qv qn qd qo s0 s1 s2 s3 s4 s5 s6 s7 s8 s9 s10 s11 s12 s13 s14 s15 s16 s17 s18 cells slots _ _ _ hc hs hl hP hD hS hok
                        · skip
                          have hok := hok.2 c39_9
                          by_cases c39_10 : ((xs i.toNatClampNeg) &&& 15) = 10
                          · skip
                            have hok := hok.1 c39_10
                            refine lv_tableIn (tgt := 462) hx hb gm_d_LW_law_39 (by rw [c39_10]; decide) (by rw [c39_10]; decide) (by rw [c39_10]; rfl) (by decide) ?_
                            exact gm_law_462 l hst C1 D cI cJ cC cZ hK hE hN hA hSA m0 d0 o0 n ih i qm qt qw qa qaT qaJ qaC qaD qb qbT qbJ qbC qbD qr qk qv qn qd qo s0 s1 s2 s3 s4 s5 s6 s7 s8 s9 s10 s11 s12 s13 s14 s15 s16 s17 s18 cells slots _ _ _ hc hs hl hP hD hS hok
                          · skip
                            have hok := hok.2 c39_10
                            by_cases c39_11 : ((xs i.toNatClampNeg) &&& 15) = 11
                            · skip
                              have hok := hok.1 c39_11
                              refine lv_tableIn (tgt := 475) hx hb gm_d_LW_law_39 (by rw [c39_11]; decide) (by rw [c39_11]; decide) (by rw [c39_11]; rfl) (by decide) ?_
                              exact gm_law_475 l hst C1 D cI cJ cC cZ hK hE hN hA hSA m0 d0 o0 n ih i qm qt qw qa qaT qaJ qaC qaD qb qbT qbJ qbC qbD qr qk qv qn qd qo s0 s1 s2 s3 s4 s5 s6 s7 s8 s9 s10 s11 s12 s13 s14 s15 s16 s17 s18 cells slots _ _ _ hc hs hl hP hD hS hok
                            · skip
                              have hok := hok.2 c39_11
                              refine lv_tableOut (tgt := 543) hx hb gm_d_LW_law_39 (by have n0 := lv_neT c39_0 (a := 0) (by decide); have n1 := lv_neT c39_1 (a := 1) (by decide); have n2 := lv_neT c39_2 (a := 2) (by decide); have n3 := lv_neT c39_3 (a := 3) (by decide); have n4 := lv_neT c39_4 (a := 4) (by decide); have n5 := lv_neT c39_5 (a := 5) (by decide); have n6 := lv_neT c39_6 (a := 6) (by decide); have n7 := lv_neT c39_7 (a := 7) (by decide); have n8 := lv_neT c39_8 (a := 8) (by decide); have n9 := lv_neT c39_9 (a := 9) (by decide); have n10 := lv_neT c39_10 (a := 10) (by decide); have n11 := lv_neT c39_11 (a := 11) (by decide); omega) (by decide) ?_
                              exact gm_law_543 l hst C1 D cI cJ cC cZ hK hE hN hA hSA m0 d0 o0 n ih i qm qt qw qa qaT qaJ qaC qaD qb qbT qbJ qbC qbD qr qk qv qn qd qo s0 s1 s2 s3 s4 s5 s6 s7 s8 s9 s10 s11 s12 s13 s14 s15 s16 s17 s18 cells slots _ _ _ hc hs hl hP hD hS hok
