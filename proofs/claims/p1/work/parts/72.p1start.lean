/-! The law on a script of at most five ints: its loop, and the claim. -/
section P1
variable {xs : Nat → Int32}
set_option maxRecDepth 100000 in
theorem p1_sw (m : Nat) (hm : m < 32) : Zs (5, xs) 900 pm_237 (32, [(0, .retAddr 0), (1, .ref 0), (2, .ref 73), (3, .int 0)], [.int (nI m)]) (HH I_0 J_0 R_1 []) P1e := by
  rcases (show m = 0 ∨ m = 1 ∨ m = 2 ∨ m = 3 ∨ m = 4 ∨ m = 5 ∨ m = 6 ∨ m = 7 ∨ m = 8 ∨ m = 9 ∨ m = 10 ∨ m = 11 ∨ m = 12 ∨ m = 13 ∨ m = 14 ∨ m = 15 ∨ m = 16 ∨ m = 17 ∨ m = 18 ∨ m = 19 ∨ m = 20 ∨ m = 21 ∨ m = 22 ∨ m = 23 ∨ m = 24 ∨ m = 25 ∨ m = 26 ∨ m = 27 ∨ m = 28 ∨ m = 29 ∨ m = 30 ∨ m = 31 by omega) with rfl | rfl | rfl | rfl | rfl | rfl | rfl | rfl | rfl | rfl | rfl | rfl | rfl | rfl | rfl | rfl | rfl | rfl | rfl | rfl | rfl | rfl | rfl | rfl | rfl | rfl | rfl | rfl | rfl | rfl | rfl | rfl
  · refine Z_jump 1 rfl ?_
    exact p1_c0
  · refine Z_jump 1 rfl ?_
    exact p1_c1
  · refine Z_jump 1 rfl ?_
    exact p1_c2
  · refine Z_jump 1 rfl ?_
    exact p1_c3
  · refine Z_jump 1 rfl ?_
    exact p1_c4
  · refine Z_jump 1 rfl ?_
    exact p1_c5
  · refine Z_jump 1 rfl ?_
    exact p1_c6
  · refine Z_jump 1 rfl ?_
    exact p1_c7
  · refine Z_jump 1 rfl ?_
    exact p1_c8
  · refine Z_jump 1 rfl ?_
    exact p1_c9
  · refine Z_jump 1 rfl ?_
    exact p1_c10
  · refine Z_jump 1 rfl ?_
    exact p1_c11
  · refine Z_jump 1 rfl ?_
    exact p1_c12
  · refine Z_jump 1 rfl ?_
    exact p1_c13
  · refine Z_jump 1 rfl ?_
    exact p1_c14
  · refine Z_jump 1 rfl ?_
    exact p1_c15
  · refine Z_jump 1 rfl ?_
    exact p1_c16
  · refine Z_jump 1 rfl ?_
    exact p1_c17
  · refine Z_jump 1 rfl ?_
    exact p1_c18
  · refine Z_jump 1 rfl ?_
    exact p1_c19
  · refine Z_jump 1 rfl ?_
    exact p1_c20
  · refine Z_jump 1 rfl ?_
    exact p1_c21
  · refine Z_jump 1 rfl ?_
    exact p1_c22
  · refine Z_jump 1 rfl ?_
    exact p1_c23
  · refine Z_jump 1 rfl ?_
    exact p1_c24
  · refine Z_jump 1 rfl ?_
    exact p1_c25
  · refine Z_jump 1 rfl ?_
    exact p1_c26
  · refine Z_jump 1 rfl ?_
    exact p1_end
  · refine Z_jump 1 rfl ?_
    exact p1_end
  · refine Z_jump 1 rfl ?_
    exact p1_end
  · refine Z_jump 1 rfl ?_
    exact p1_end
  · refine Z_jump 1 rfl ?_
    exact p1_end
set_option maxRecDepth 100000 in
theorem p1_head {L : Nat} (hL : L ≤ 5) : Zs (L, xs) 900 pm_237 (18, [(0, .retAddr 0), (1, .ref 0), (2, .ref 73), (3, .int 0)], []) (HH I_0 J_0 R_1 []) P1e := by
  rcases (show L = 0 ∨ L = 1 ∨ L = 2 ∨ L = 3 ∨ L = 4 ∨ L = 5 by omega) with rfl | rfl | rfl | rfl | rfl | rfl
  · refine Z_jump 3 rfl ?_
    show Zs _ _ pm_237 (21, [(0, .retAddr 0), (1, .ref 0), (2, .ref 73), (3, .int (0 : Int32))], [.int (0 : Int32), .int (0 : Int32)]) (HH I_0 J_0 R_1 []) _
    refine Z_jump 4 rfl ?_
    show Zs _ _ pm_237 (877, [(0, .retAddr 0), (1, .ref 0), (2, .ref 73), (3, .int (0 : Int32))], [.int (1 : Int32)]) (HH I_0 J_0 R_1 []) _
    refine Z_rI rfl (by first | exact am_nw0 _ | exact am_nw01 | rfl | assumption) ?_
    exact ⟨rfl, I_0, J_0, R_1, rfl⟩
  · refine Z_jump 3 rfl ?_
    show Zs _ _ pm_237 (21, [(0, .retAddr 0), (1, .ref 0), (2, .ref 73), (3, .int (0 : Int32))], [.int (1 : Int32), .int (0 : Int32)]) (HH I_0 J_0 R_1 []) _
    refine Z_jump 4 rfl ?_
    show Zs _ _ pm_237 (877, [(0, .retAddr 0), (1, .ref 0), (2, .ref 73), (3, .int (0 : Int32))], [.int (1 : Int32)]) (HH I_0 J_0 R_1 []) _
    refine Z_rI rfl (by first | exact am_nw0 _ | exact am_nw01 | rfl | assumption) ?_
    exact ⟨rfl, I_0, J_0, R_1, rfl⟩
  · refine Z_jump 3 rfl ?_
    show Zs _ _ pm_237 (21, [(0, .retAddr 0), (1, .ref 0), (2, .ref 73), (3, .int (0 : Int32))], [.int (2 : Int32), .int (0 : Int32)]) (HH I_0 J_0 R_1 []) _
    refine Z_jump 4 rfl ?_
    show Zs _ _ pm_237 (877, [(0, .retAddr 0), (1, .ref 0), (2, .ref 73), (3, .int (0 : Int32))], [.int (1 : Int32)]) (HH I_0 J_0 R_1 []) _
    refine Z_rI rfl (by first | exact am_nw0 _ | exact am_nw01 | rfl | assumption) ?_
    exact ⟨rfl, I_0, J_0, R_1, rfl⟩
  · refine Z_jump 3 rfl ?_
    show Zs _ _ pm_237 (21, [(0, .retAddr 0), (1, .ref 0), (2, .ref 73), (3, .int (0 : Int32))], [.int (3 : Int32), .int (0 : Int32)]) (HH I_0 J_0 R_1 []) _
    refine Z_jump 4 rfl ?_
    show Zs _ _ pm_237 (877, [(0, .retAddr 0), (1, .ref 0), (2, .ref 73), (3, .int (0 : Int32))], [.int (1 : Int32)]) (HH I_0 J_0 R_1 []) _
    refine Z_rI rfl (by first | exact am_nw0 _ | exact am_nw01 | rfl | assumption) ?_
    exact ⟨rfl, I_0, J_0, R_1, rfl⟩
  · refine Z_jump 3 rfl ?_
    show Zs _ _ pm_237 (21, [(0, .retAddr 0), (1, .ref 0), (2, .ref 73), (3, .int (0 : Int32))], [.int (4 : Int32), .int (0 : Int32)]) (HH I_0 J_0 R_1 []) _
    refine Z_jump 4 rfl ?_
    show Zs _ _ pm_237 (877, [(0, .retAddr 0), (1, .ref 0), (2, .ref 73), (3, .int (0 : Int32))], [.int (1 : Int32)]) (HH I_0 J_0 R_1 []) _
    refine Z_rI rfl (by first | exact am_nw0 _ | exact am_nw01 | rfl | assumption) ?_
    exact ⟨rfl, I_0, J_0, R_1, rfl⟩
  · obtain ⟨m, hm, e⟩ := and31 (xs 0)
    refine Z_jump 3 rfl ?_
    show Zs _ _ pm_237 (21, [(0, .retAddr 0), (1, .ref 0), (2, .ref 73), (3, .int (0 : Int32))], [.int (5 : Int32), .int (0 : Int32)]) (HH I_0 J_0 R_1 []) _
    refine Z_jump 8 rfl ?_
    show Zs _ _ pm_237 (32, [(0, .retAddr 0), (1, .ref 0), (2, .ref 73), (3, .int (0 : Int32))], [.int ((xs 0) &&& (31 : Int32))]) (HH I_0 J_0 R_1 []) _
    -- switch
    refine Z_eqI e ?_
    exact p1_sw m hm
set_option maxRecDepth 100000 in
theorem p1_all {L : Nat} (hL : L ≤ 5) : Zs (L, xs) 900 pm_237 (0, [(0, .retAddr 0)], []) [] P1e := by
  refine Z_jump 2 rfl ?_
  refine Z_c0 (h1 := (HH I_0 J_0 R_1 []).take 73) rfl rfl rfl (k_initB (d := 892)) ?_
  refine Z_jump 3 rfl ?_
  refine Z_c0 (h1 := HH I_0 J_0 R_1 []) rfl rfl rfl (k_initM (d := 892)) ?_
  refine Z_jump 3 rfl ?_
  exact p1_head hL
end P1
set_option maxRecDepth 100000 in
theorem whole_start {p : Program} {e : Env} {s : State} {m : MethodId} {below : List Frame} {meth : Method} {c : Code} (l : Launch) {b L : Nat} {xs : Nat → Int32} (hL : L ≤ 5) (C0 : lw_At p s m meth c b L xs) : W p l e room_1 s m #[Value.ref b] below meth c s.heap [] 0 0 (lw_Z below #[Value.ref b] s) (entryFrame m ([Value.ref b] : List Value).toArray 4) := by
  obtain ⟨r, h', ⟨n0, hn⟩, rfl, I, J, R, rfl⟩ := p1_all (xs := xs) hL
  exact am_top l C0 (d := 900) (by omega) (hn n0 n0 (Nat.le_refl _) (Nat.le_refl _)) (by rw [HH_ln]; show 99 + 0 ≤ 600000; omega) (by rw [HH_sl]; show 4930 + 0 ≤ 7302250; omega)

