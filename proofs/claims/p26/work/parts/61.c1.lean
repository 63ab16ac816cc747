/-! The class without rods: what is asked of numbers. -/
section C1
variable {sc : Nat × (Nat → Int32)} {d : Nat} {I : hI} {J : hJ} {R : hR} {T : am_H} {Q : Option Value → am_H → Prop}
/-- refused: no such rod -/
theorem c_rod_no {n : Nat} {a0 a1 : Int32} (hn : I 18 1 = nI n) (h6 : n ≤ 6) (hr : ¬ M_rod n a0) : am_E sc (d + 2) 96 [.ref 0, .int a0, .int a1] (HH I J R T) (some (.int (-2))) (HH I J R T) := by
  refine E_Z (Ze_of (Nat.le_of_ble_eq_true rfl) ?_)
  refine Z_jump 3 rfl ?_
  show Zs _ _ (am_P 96).2 (5, [(0, .ref 0), (1, .int a0), (2, .int a1)], [.int a0, .ref 18]) (HH I J R T) _
  refine Z_c1 rfl rfl rfl (c_rodAt_no hn h6 hr) ?_
  show Zs _ _ (am_P 96).2 (8, [(0, .ref 0), (1, .int a0), (2, .int a1)], [.null]) (HH I J R T) _
  refine Z_jump 4 rfl ?_
  show Zs _ _ (am_P 96).2 (15, [(0, .ref 0), (1, .int a0), (2, .int a1), (3, .null)], [.int (-2 : Int32)]) (HH I J R T) _
  refine Z_rI rfl (by first | exact am_nw0 _ | exact am_nw01 | rfl | assumption) ?_
  exact ⟨rfl, rfl⟩
theorem c_as_no {n : Nat} {a0 a1 : Int32} (hn : I 18 1 = nI n) (h6 : n ≤ 6) (hr : ¬ M_rod n a0) : am_E sc (d + 2) 98 [.ref 0, .int a0, .int a1] (HH I J R T) (some (.int (-2))) (HH I J R T) := by
  refine E_Z (Ze_of (Nat.le_of_ble_eq_true rfl) ?_)
  refine Z_jump 3 rfl ?_
  show Zs _ _ (am_P 98).2 (5, [(0, .ref 0), (1, .int a0), (2, .int a1)], [.int a0, .ref 18]) (HH I J R T) _
  refine Z_c1 rfl rfl rfl (c_rodAt_no hn h6 hr) ?_
  show Zs _ _ (am_P 98).2 (8, [(0, .ref 0), (1, .int a0), (2, .int a1)], [.null]) (HH I J R T) _
  refine Z_jump 4 rfl ?_
  show Zs _ _ (am_P 98).2 (15, [(0, .ref 0), (1, .int a0), (2, .int a1), (3, .null)], [.int (-2 : Int32)]) (HH I J R T) _
  refine Z_rI rfl (by first | exact am_nw0 _ | exact am_nw01 | rfl | assumption) ?_
  exact ⟨rfl, rfl⟩
theorem c_push_no {n : Nat} {a0 a1 a2 : Int32} (hn : I 18 1 = nI n) (h6 : n ≤ 6) (hr : ¬ M_rod n a0) : am_E sc (d + 2) 99 [.ref 0, .int a0, .int a1, .int a2] (HH I J R T) (some (.int (-2))) (HH I J R T) := by
  refine E_Z (Ze_of (Nat.le_of_ble_eq_true rfl) ?_)
  refine Z_jump 3 rfl ?_
  show Zs _ _ (am_P 99).2 (5, [(0, .ref 0), (1, .int a0), (2, .int a1), (3, .int a2)], [.int a0, .ref 18]) (HH I J R T) _
  refine Z_c1 rfl rfl rfl (c_rodAt_no hn h6 hr) ?_
  show Zs _ _ (am_P 99).2 (8, [(0, .ref 0), (1, .int a0), (2, .int a1), (3, .int a2)], [.null]) (HH I J R T) _
  refine Z_jump 4 rfl ?_
  show Zs _ _ (am_P 99).2 (24, [(0, .ref 0), (1, .int a0), (2, .int a1), (3, .int a2), (4, .null)], [.int (-2 : Int32)]) (HH I J R T) _
  refine Z_rI rfl (by first | exact am_nw0 _ | exact am_nw01 | rfl | assumption) ?_
  exact ⟨rfl, rfl⟩
theorem c_stick_no {n : Nat} {a0 a1 : Int32} (hn : I 18 1 = nI n) (h6 : n ≤ 6) (hr : ¬ M_rod n a0) : am_E sc (d + 2) 100 [.ref 0, .int a0, .int a1] (HH I J R T) (some (.int (-2))) (HH I J R T) := by
  refine E_Z (Ze_of (Nat.le_of_ble_eq_true rfl) ?_)
  refine Z_jump 3 rfl ?_
  show Zs _ _ (am_P 100).2 (5, [(0, .ref 0), (1, .int a0), (2, .int a1)], [.int a0, .ref 18]) (HH I J R T) _
  refine Z_c1 rfl rfl rfl (c_rodAt_no hn h6 hr) ?_
  show Zs _ _ (am_P 100).2 (8, [(0, .ref 0), (1, .int a0), (2, .int a1)], [.null]) (HH I J R T) _
  refine Z_jump 2 rfl ?_
  show Zs _ _ (am_P 100).2 (20, [(0, .ref 0), (1, .int a0), (2, .int a1)], [.int (-2 : Int32)]) (HH I J R T) _
  refine Z_rI rfl (by first | exact am_nw0 _ | exact am_nw01 | rfl | assumption) ?_
  exact ⟨rfl, rfl⟩
theorem c_carry_no {n : Nat} {a0 : Int32} (hn : I 18 1 = nI n) (h6 : n ≤ 6) (hr : ¬ M_rod n a0) : am_E sc (d + 2) 102 [.ref 0, .int a0] (HH I J R T) (some (.int (-2))) (HH I J R T) := by
  refine E_Z (Ze_of (Nat.le_of_ble_eq_true rfl) ?_)
  refine Z_jump 3 rfl ?_
  show Zs _ _ (am_P 102).2 (5, [(0, .ref 0), (1, .int a0)], [.int a0, .ref 18]) (HH I J R T) _
  refine Z_c1 rfl rfl rfl (c_rodAt_no hn h6 hr) ?_
  show Zs _ _ (am_P 102).2 (8, [(0, .ref 0), (1, .int a0)], [.null]) (HH I J R T) _
  refine Z_jump 2 rfl ?_
  show Zs _ _ (am_P 102).2 (13, [(0, .ref 0), (1, .int a0)], [.int (-2 : Int32)]) (HH I J R T) _
  refine Z_rI rfl (by first | exact am_nw0 _ | exact am_nw01 | rfl | assumption) ?_
  exact ⟨rfl, rfl⟩
theorem c_seen_no {n : Nat} {a0 a1 a2 : Int32} (hn : I 18 1 = nI n) (h6 : n ≤ 6) (hr : ¬ M_rod n a0) : am_E sc (d + 2) 113 [.ref 0, .int a0, .int a1, .int a2] (HH I J R T) (some (.int (-2))) (HH I J R T) := by
  refine E_Z (Ze_of (Nat.le_of_ble_eq_true rfl) ?_)
  refine Z_jump 3 rfl ?_
  show Zs _ _ (am_P 113).2 (5, [(0, .ref 0), (1, .int a0), (2, .int a1), (3, .int a2)], [.int a0, .ref 18]) (HH I J R T) _
  refine Z_c1 rfl rfl rfl (c_rodAt_no hn h6 hr) ?_
  show Zs _ _ (am_P 113).2 (8, [(0, .ref 0), (1, .int a0), (2, .int a1), (3, .int a2)], [.null]) (HH I J R T) _
  refine Z_jump 2 rfl ?_
  show Zs _ _ (am_P 113).2 (13, [(0, .ref 0), (1, .int a0), (2, .int a1), (3, .int a2)], [.int (-2 : Int32)]) (HH I J R T) _
  refine Z_rI rfl (by first | exact am_nw0 _ | exact am_nw01 | rfl | assumption) ?_
  exact ⟨rfl, rfl⟩
theorem c_kinds_no {n : Nat} {a0 : Int32} (hn : I 18 1 = nI n) (h6 : n ≤ 6) (hr : ¬ M_rod n a0) : am_E sc (d + 2) 115 [.ref 0, .int a0] (HH I J R T) (some (.int (-2))) (HH I J R T) := by
  refine E_Z (Ze_of (Nat.le_of_ble_eq_true rfl) ?_)
  refine Z_jump 3 rfl ?_
  show Zs _ _ (am_P 115).2 (5, [(0, .ref 0), (1, .int a0)], [.int a0, .ref 18]) (HH I J R T) _
  refine Z_c1 rfl rfl rfl (c_rodAt_no hn h6 hr) ?_
  show Zs _ _ (am_P 115).2 (8, [(0, .ref 0), (1, .int a0)], [.null]) (HH I J R T) _
  refine Z_jump 4 rfl ?_
  show Zs _ _ (am_P 115).2 (15, [(0, .ref 0), (1, .int a0), (2, .null)], [.int (-2 : Int32)]) (HH I J R T) _
  refine Z_rI rfl (by first | exact am_nw0 _ | exact am_nw01 | rfl | assumption) ?_
  exact ⟨rfl, rfl⟩
theorem c_slips_no {n : Nat} {a0 a1 a2 a3 : Int32} (hn : I 18 1 = nI n) (h6 : n ≤ 6) (hr : ¬ M_rod n a0) : am_E sc (d + 2) 116 [.ref 0, .int a0, .int a1, .int a2, .int a3] (HH I J R T) (some (.long (-2))) (HH I J R T) := by
  refine E_Z (Ze_of (Nat.le_of_ble_eq_true rfl) ?_)
  refine Z_jump 3 rfl ?_
  show Zs _ _ (am_P 116).2 (5, [(0, .ref 0), (1, .int a0), (2, .int a1), (3, .int a2), (4, .int a3)], [.int a0, .ref 18]) (HH I J R T) _
  refine Z_c1 rfl rfl rfl (c_rodAt_no hn h6 hr) ?_
  show Zs _ _ (am_P 116).2 (8, [(0, .ref 0), (1, .int a0), (2, .int a1), (3, .int a2), (4, .int a3)], [.null]) (HH I J R T) _
  refine Z_jump 4 rfl ?_
  show Zs _ _ (am_P 116).2 (26, [(0, .ref 0), (1, .int a0), (2, .int a1), (3, .int a2), (4, .int a3), (5, .null)], [.long (-2 : Int64)]) (HH I J R T) _
  refine Z_ret rfl rfl rfl ?_
  exact ⟨rfl, rfl⟩
theorem c_pushed_no {n : Nat} {a0 a1 a2 : Int32} (hn : I 18 1 = nI n) (h6 : n ≤ 6) (hr : ¬ M_rod n a1) : am_E sc (d + 2) 108 [.ref 0, .int a0, .int a1, .int a2] (HH I J R T) (some (.int (-2))) (HH I J R T) := by
  refine E_Z (Ze_of (Nat.le_of_ble_eq_true rfl) ?_)
  refine Z_jump 3 rfl ?_
  show Zs _ _ (am_P 108).2 (5, [(0, .ref 0), (1, .int a0), (2, .int a1), (3, .int a2)], [.int a1, .ref 18]) (HH I J R T) _
  refine Z_c1 rfl rfl rfl (c_rodAt_no hn h6 hr) ?_
  show Zs _ _ (am_P 108).2 (8, [(0, .ref 0), (1, .int a0), (2, .int a1), (3, .int a2)], [.null]) (HH I J R T) _
  refine Z_jump 2 rfl ?_
  show Zs _ _ (am_P 108).2 (20, [(0, .ref 0), (1, .int a0), (2, .int a1), (3, .int a2)], [.int (-2 : Int32)]) (HH I J R T) _
  refine Z_rI rfl (by first | exact am_nw0 _ | exact am_nw01 | rfl | assumption) ?_
  exact ⟨rfl, rfl⟩
theorem c_few {i : Int32} : am_E sc (d + 2) 73 [.ref 4, .int i] (HH I J R T) (some (.int (am_rd 7 (I 11) i))) (HH I J R T) := by
  refine E_Z (Ze_of (Nat.le_of_ble_eq_true rfl) ?_)
  refine Z_jump 3 rfl ?_
  show Zs _ _ (am_P 73).2 (5, [(0, .ref 4), (1, .int i)], [.int i, .ref 11]) (HH I J R T) _
  refine Z_c1 rfl rfl rfl (k_at (a := 11) (L := 7) (f := I 11) rfl (by decide)) ?_
  show Zs _ _ (am_P 73).2 (8, [(0, .ref 4), (1, .int i)], [.int (am_rd 7 (I 11) i)]) (HH I J R T) _
  show Zs _ _ (am_P 73).2 (8, [(0, .ref 4), (1, .int i)], [.int (am_rd 7 (I 11) i)]) (HH I J R T) _
  refine Z_rI rfl (by first | exact am_nw0 _ | exact am_nw01 | rfl | assumption) ?_
  exact ⟨rfl, rfl⟩
theorem c_most {i : Int32} : am_E sc (d + 2) 72 [.ref 4, .int i] (HH I J R T) (some (.int (am_rd 7 (I 10) i))) (HH I J R T) := by
  refine E_Z (Ze_of (Nat.le_of_ble_eq_true rfl) ?_)
  refine Z_jump 3 rfl ?_
  show Zs _ _ (am_P 72).2 (5, [(0, .ref 4), (1, .int i)], [.int i, .ref 10]) (HH I J R T) _
  refine Z_c1 rfl rfl rfl (k_at (a := 10) (L := 7) (f := I 10) rfl (by decide)) ?_
  show Zs _ _ (am_P 72).2 (8, [(0, .ref 4), (1, .int i)], [.int (am_rd 7 (I 10) i)]) (HH I J R T) _
  show Zs _ _ (am_P 72).2 (8, [(0, .ref 4), (1, .int i)], [.int (am_rd 7 (I 10) i)]) (HH I J R T) _
  refine Z_rI rfl (by first | exact am_nw0 _ | exact am_nw01 | rfl | assumption) ?_
  exact ⟨rfl, rfl⟩
theorem c_few0 (h : I 11 0 = 0) : am_E sc (d + 2) 73 [.ref 4, .int 0] (HH I J R T) (some (.int 0)) (HH I J R T) := by
  have w := c_few (sc := sc) (d := d) (I := I) (J := J) (R := R) (T := T) (i := 0)
  rw [show am_rd 7 (I 11) 0 = I 11 0 from rfl, h] at w
  exact w
theorem c_most0 (h : I 10 0 = 0) : am_E sc (d + 2) 72 [.ref 4, .int 0] (HH I J R T) (some (.int 0)) (HH I J R T) := by
  have w := c_most (sc := sc) (d := d) (I := I) (J := J) (R := R) (T := T) (i := 0)
  rw [show am_rd 7 (I 10) 0 = I 10 0 from rfl, h] at w
  exact w
/-- what load makes without rods -/
def L0 (I I' : hI) : Prop := (∀ c, c ≠ 4 → c ≠ 5 → c ≠ 7 → c ≠ 10 → c ≠ 11 → I' c = I c) ∧ I' 4 13 = 0 ∧ I' 10 0 = 0 ∧ I' 11 0 = 0
theorem c_load0 {s : Nat} {b : Int32} (hn : I 18 1 = 0) : Ze sc (d + 2) 65 [.ref 4, .ref 18, .ref s, .int b] (HH I J R T) (fun r h => r = none ∧ ∃ I', h = HH I' J R T ∧ L0 I I') := by
  refine Ze_of (Nat.le_of_ble_eq_true rfl) ?_
  refine Z_jump 3 rfl ?_
  show Zs _ _ (am_P 65).2 (5, [(0, .ref 4), (1, .ref 18), (2, .ref s), (3, .int b)], [.int (I 18 1), .ref 4]) (HH I J R T) _
  refine Z_eqI (hn) ?_
  show Zs _ _ (am_P 65).2 (5, [(0, .ref 4), (1, .ref 18), (2, .ref s), (3, .int b)], [.int (0 : Int32), .ref 4]) (HH I J R T) _
  refine Z_jump 3 rfl ?_
  show Zs _ _ (am_P 65).2 (13, [(0, .ref 4), (1, .ref 18), (2, .ref s), (3, .int b)], []) (HH (sf I 4 13 (0 : Int32)) J R T) _
  refine Z_jump 3 rfl ?_
  show Zs _ _ (am_P 65).2 (19, [(0, .ref 4), (1, .ref 18), (2, .ref s), (3, .int b)], [.int (1048576 : Int32), .ref 5]) (HH (sf I 4 13 (0 : Int32)) J R T) _
  refine Z_c0 rfl rfl rfl (k_fill (a := 5) (n := 240) (f := (sf I 4 13 (0 : Int32)) 5) (by decide) rfl) ?_
  show Zs _ _ (am_P 65).2 (22, [(0, .ref 4), (1, .ref 18), (2, .ref s), (3, .int b)], []) (HH (va_up (sf I 4 13 (0 : Int32)) 5 (am_fill 240 ((sf I 4 13 (0 : Int32)) 5) 1048576 240)) J R T) _
  refine Z_jump 3 rfl ?_
  show Zs _ _ (am_P 65).2 (27, [(0, .ref 4), (1, .ref 18), (2, .ref s), (3, .int b)], [.int (0 : Int32), .ref 7]) (HH (va_up (sf I 4 13 (0 : Int32)) 5 (am_fill 240 ((sf I 4 13 (0 : Int32)) 5) 1048576 240)) J R T) _
  refine Z_c0 rfl rfl rfl (k_fill (a := 7) (n := 240) (f := (va_up (sf I 4 13 (0 : Int32)) 5 (am_fill 240 ((sf I 4 13 (0 : Int32)) 5) 1048576 240)) 7) (by decide) rfl) ?_
  show Zs _ _ (am_P 65).2 (30, [(0, .ref 4), (1, .ref 18), (2, .ref s), (3, .int b)], []) (HH (va_up (va_up (sf I 4 13 (0 : Int32)) 5 (am_fill 240 ((sf I 4 13 (0 : Int32)) 5) 1048576 240)) 7 (am_fill 240 ((va_up (sf I 4 13 (0 : Int32)) 5 (am_fill 240 ((sf I 4 13 (0 : Int32)) 5) 1048576 240)) 7) 0 240)) J R T) _
  refine Z_jump 4 rfl ?_
  show Zs _ _ (am_P 65).2 (38, [(0, .ref 4), (1, .ref 18), (2, .ref s), (3, .int b)], [.int ((va_up (va_up (sf I 4 13 (0 : Int32)) 5 (am_fill 240 ((sf I 4 13 (0 : Int32)) 5) 1048576 240)) 7 (am_fill 240 ((va_up (sf I 4 13 (0 : Int32)) 5 (am_fill 240 ((sf I 4 13 (0 : Int32)) 5) 1048576 240)) 7) 0 240)) 4 13), .ref 10]) (HH (va_up (va_up (sf I 4 13 (0 : Int32)) 5 (am_fill 240 ((sf I 4 13 (0 : Int32)) 5) 1048576 240)) 7 (am_fill 240 ((va_up (sf I 4 13 (0 : Int32)) 5 (am_fill 240 ((sf I 4 13 (0 : Int32)) 5) 1048576 240)) 7) 0 240)) J R T) _
  refine Z_eqI (rfl) ?_
  show Zs _ _ (am_P 65).2 (38, [(0, .ref 4), (1, .ref 18), (2, .ref s), (3, .int b)], [.int (0 : Int32), .ref 10]) (HH (va_up (va_up (sf I 4 13 (0 : Int32)) 5 (am_fill 240 ((sf I 4 13 (0 : Int32)) 5) 1048576 240)) 7 (am_fill 240 ((va_up (sf I 4 13 (0 : Int32)) 5 (am_fill 240 ((sf I 4 13 (0 : Int32)) 5) 1048576 240)) 7) 0 240)) J R T) _
  refine Z_jump 1 rfl ?_
  show Zs _ _ (am_P 65).2 (39, [(0, .ref 4), (1, .ref 18), (2, .ref s), (3, .int b)], [.int (0 : Int32), .int (0 : Int32), .ref 10]) (HH (va_up (va_up (sf I 4 13 (0 : Int32)) 5 (am_fill 240 ((sf I 4 13 (0 : Int32)) 5) 1048576 240)) 7 (am_fill 240 ((va_up (sf I 4 13 (0 : Int32)) 5 (am_fill 240 ((sf I 4 13 (0 : Int32)) 5) 1048576 240)) 7) 0 240)) J R T) _
  refine Z_c0 rfl rfl rfl (k_put (a := 10) (L := 7) (f := (va_up (va_up (sf I 4 13 (0 : Int32)) 5 (am_fill 240 ((sf I 4 13 (0 : Int32)) 5) 1048576 240)) 7 (am_fill 240 ((va_up (sf I 4 13 (0 : Int32)) 5 (am_fill 240 ((sf I 4 13 (0 : Int32)) 5) 1048576 240)) 7) 0 240)) 10) rfl (by decide)) ?_
  show Zs _ _ (am_P 65).2 (42, [(0, .ref 4), (1, .ref 18), (2, .ref s), (3, .int b)], []) (HH (sf (va_up (va_up (sf I 4 13 (0 : Int32)) 5 (am_fill 240 ((sf I 4 13 (0 : Int32)) 5) 1048576 240)) 7 (am_fill 240 ((va_up (sf I 4 13 (0 : Int32)) 5 (am_fill 240 ((sf I 4 13 (0 : Int32)) 5) 1048576 240)) 7) 0 240)) 10 0 0) J R T) _
  refine Z_jump 4 rfl ?_
  show Zs _ _ (am_P 65).2 (50, [(0, .ref 4), (1, .ref 18), (2, .ref s), (3, .int b)], [.int ((sf (va_up (va_up (sf I 4 13 (0 : Int32)) 5 (am_fill 240 ((sf I 4 13 (0 : Int32)) 5) 1048576 240)) 7 (am_fill 240 ((va_up (sf I 4 13 (0 : Int32)) 5 (am_fill 240 ((sf I 4 13 (0 : Int32)) 5) 1048576 240)) 7) 0 240)) 10 0 0) 4 13), .ref 11]) (HH (sf (va_up (va_up (sf I 4 13 (0 : Int32)) 5 (am_fill 240 ((sf I 4 13 (0 : Int32)) 5) 1048576 240)) 7 (am_fill 240 ((va_up (sf I 4 13 (0 : Int32)) 5 (am_fill 240 ((sf I 4 13 (0 : Int32)) 5) 1048576 240)) 7) 0 240)) 10 0 0) J R T) _
  refine Z_eqI (rfl) ?_
  show Zs _ _ (am_P 65).2 (50, [(0, .ref 4), (1, .ref 18), (2, .ref s), (3, .int b)], [.int (0 : Int32), .ref 11]) (HH (sf (va_up (va_up (sf I 4 13 (0 : Int32)) 5 (am_fill 240 ((sf I 4 13 (0 : Int32)) 5) 1048576 240)) 7 (am_fill 240 ((va_up (sf I 4 13 (0 : Int32)) 5 (am_fill 240 ((sf I 4 13 (0 : Int32)) 5) 1048576 240)) 7) 0 240)) 10 0 0) J R T) _
  refine Z_jump 1 rfl ?_
  show Zs _ _ (am_P 65).2 (51, [(0, .ref 4), (1, .ref 18), (2, .ref s), (3, .int b)], [.int (0 : Int32), .int (0 : Int32), .ref 11]) (HH (sf (va_up (va_up (sf I 4 13 (0 : Int32)) 5 (am_fill 240 ((sf I 4 13 (0 : Int32)) 5) 1048576 240)) 7 (am_fill 240 ((va_up (sf I 4 13 (0 : Int32)) 5 (am_fill 240 ((sf I 4 13 (0 : Int32)) 5) 1048576 240)) 7) 0 240)) 10 0 0) J R T) _
  refine Z_c0 rfl rfl rfl (k_put (a := 11) (L := 7) (f := (sf (va_up (va_up (sf I 4 13 (0 : Int32)) 5 (am_fill 240 ((sf I 4 13 (0 : Int32)) 5) 1048576 240)) 7 (am_fill 240 ((va_up (sf I 4 13 (0 : Int32)) 5 (am_fill 240 ((sf I 4 13 (0 : Int32)) 5) 1048576 240)) 7) 0 240)) 10 0 0) 11) rfl (by decide)) ?_
  show Zs _ _ (am_P 65).2 (54, [(0, .ref 4), (1, .ref 18), (2, .ref s), (3, .int b)], []) (HH (sf (sf (va_up (va_up (sf I 4 13 (0 : Int32)) 5 (am_fill 240 ((sf I 4 13 (0 : Int32)) 5) 1048576 240)) 7 (am_fill 240 ((va_up (sf I 4 13 (0 : Int32)) 5 (am_fill 240 ((sf I 4 13 (0 : Int32)) 5) 1048576 240)) 7) 0 240)) 10 0 0) 11 0 0) J R T) _
  refine Z_jump 2 rfl ?_
  show Zs _ _ (am_P 65).2 (58, [(0, .ref 4), (1, .ref 18), (2, .ref s), (3, .int b)], [.int ((sf (sf (va_up (va_up (sf I 4 13 (0 : Int32)) 5 (am_fill 240 ((sf I 4 13 (0 : Int32)) 5) 1048576 240)) 7 (am_fill 240 ((va_up (sf I 4 13 (0 : Int32)) 5 (am_fill 240 ((sf I 4 13 (0 : Int32)) 5) 1048576 240)) 7) 0 240)) 10 0 0) 11 0 0) 4 13)]) (HH (sf (sf (va_up (va_up (sf I 4 13 (0 : Int32)) 5 (am_fill 240 ((sf I 4 13 (0 : Int32)) 5) 1048576 240)) 7 (am_fill 240 ((va_up (sf I 4 13 (0 : Int32)) 5 (am_fill 240 ((sf I 4 13 (0 : Int32)) 5) 1048576 240)) 7) 0 240)) 10 0 0) 11 0 0) J R T) _
  refine Z_eqI (rfl) ?_
  show Zs _ _ (am_P 65).2 (58, [(0, .ref 4), (1, .ref 18), (2, .ref s), (3, .int b)], [.int (0 : Int32)]) (HH (sf (sf (va_up (va_up (sf I 4 13 (0 : Int32)) 5 (am_fill 240 ((sf I 4 13 (0 : Int32)) 5) 1048576 240)) 7 (am_fill 240 ((va_up (sf I 4 13 (0 : Int32)) 5 (am_fill 240 ((sf I 4 13 (0 : Int32)) 5) 1048576 240)) 7) 0 240)) 10 0 0) 11 0 0) J R T) _
  refine Z_jump 5 rfl ?_
  show Zs _ _ (am_P 65).2 (107, [(0, .ref 4), (1, .ref 18), (2, .ref s), (3, .int b), (4, .int (-1 : Int32))], []) (HH (sf (sf (va_up (va_up (sf I 4 13 (0 : Int32)) 5 (am_fill 240 ((sf I 4 13 (0 : Int32)) 5) 1048576 240)) 7 (am_fill 240 ((va_up (sf I 4 13 (0 : Int32)) 5 (am_fill 240 ((sf I 4 13 (0 : Int32)) 5) 1048576 240)) 7) 0 240)) 10 0 0) 11 0 0) J R T) _
  refine Z_ret rfl rfl rfl ?_
  refine ⟨rfl, _, rfl, fun c h1 h2 h3 h4 h5 => ?_, rfl, rfl, rfl⟩
  rw [sf_c h5, sf_c h4, up_ne h3, up_ne h2, sf_c h1]
theorem c_aim0 {v : Int32} (h13 : I 4 13 = 0) : Ze sc (d + 2) 77 [.ref 4, .int v] (HH I J R T) (fun r h => r = none ∧ ∃ I', h = HH I' J R T ∧ (∀ c, c ≠ 12 → I' c = I c)) := by
  refine Ze_of (Nat.le_of_ble_eq_true rfl) ?_
  refine Z_jump 3 rfl ?_
  show Zs _ _ (am_P 77).2 (5, [(0, .ref 4), (1, .int v)], [.int (-1 : Int32), .ref 12]) (HH I J R T) _
  refine Z_c0 rfl rfl rfl (k_fill (a := 12) (n := 240) (f := I 12) (by decide) rfl) ?_
  show Zs _ _ (am_P 77).2 (8, [(0, .ref 4), (1, .int v)], []) (HH (va_up I 12 (am_fill 240 (I 12) (-1) 240)) J R T) _
  refine Z_jump 7 rfl ?_
  show Zs _ _ (am_P 77).2 (17, [(0, .ref 4), (1, .int v), (2, .int v), (3, .int (0 : Int32))], [.int ((va_up I 12 (am_fill 240 (I 12) (-1) 240)) 4 13), .int (0 : Int32)]) (HH (va_up I 12 (am_fill 240 (I 12) (-1) 240)) J R T) _
  refine Z_eqI (h13) ?_
  show Zs _ _ (am_P 77).2 (17, [(0, .ref 4), (1, .int v), (2, .int v), (3, .int (0 : Int32))], [.int (0 : Int32), .int (0 : Int32)]) (HH (va_up I 12 (am_fill 240 (I 12) (-1) 240)) J R T) _
  refine Z_jump 1 rfl ?_
  show Zs _ _ (am_P 77).2 (43, [(0, .ref 4), (1, .int v), (2, .int v), (3, .int (0 : Int32))], []) (HH (va_up I 12 (am_fill 240 (I 12) (-1) 240)) J R T) _
  refine Z_ret rfl rfl rfl ?_
  exact ⟨rfl, _, rfl, fun c hc => up_ne hc⟩
theorem c_lf0 (h13 : I 4 13 = 0) : am_E sc (d + 1) 79 [.ref 4, .int 0, .int 0] (HH I J R T) (some (.int 0)) (HH I J R T) := by
  refine E_Z (Ze_of (Nat.le_of_ble_eq_true rfl) ?_)
  refine Z_jump 3 rfl ?_
  show Zs _ _ (am_P 79).2 (5, [(0, .ref 4), (1, .int (0 : Int32)), (2, .int (0 : Int32))], [.int (I 4 13), .int (0 : Int32)]) (HH I J R T) _
  refine Z_eqI (h13) ?_
  show Zs _ _ (am_P 79).2 (5, [(0, .ref 4), (1, .int (0 : Int32)), (2, .int (0 : Int32))], [.int (0 : Int32), .int (0 : Int32)]) (HH I J R T) _
  refine Z_jump 4 rfl ?_
  show Zs _ _ (am_P 79).2 (22, [(0, .ref 4), (1, .int (0 : Int32)), (2, .int (0 : Int32))], [.int (I 4 13), .int (0 : Int32)]) (HH I J R T) _
  refine Z_eqI (h13) ?_
  show Zs _ _ (am_P 79).2 (22, [(0, .ref 4), (1, .int (0 : Int32)), (2, .int (0 : Int32))], [.int (0 : Int32), .int (0 : Int32)]) (HH I J R T) _
  refine Z_jump 5 rfl ?_
  show Zs _ _ (am_P 79).2 (35, [(0, .ref 4), (1, .int (0 : Int32)), (2, .int (0 : Int32))], [.int (0 : Int32)]) (HH I J R T) _
  refine Z_rI rfl (by first | exact am_nw0 _ | exact am_nw01 | rfl | assumption) ?_
  exact ⟨rfl, rfl⟩
theorem c_hm0 (h13 : I 4 13 = 0) : am_E sc (d + 1) 80 [.ref 4, .int 0, .int 0] (HH I J R T) (some (.int 1)) (HH I J R T) := by
  refine E_Z (Ze_of (Nat.le_of_ble_eq_true rfl) ?_)
  refine Z_jump 3 rfl ?_
  show Zs _ _ (am_P 80).2 (5, [(0, .ref 4), (1, .int (0 : Int32)), (2, .int (0 : Int32))], [.int (I 4 13), .int (0 : Int32)]) (HH I J R T) _
  refine Z_eqI (h13) ?_
  show Zs _ _ (am_P 80).2 (5, [(0, .ref 4), (1, .int (0 : Int32)), (2, .int (0 : Int32))], [.int (0 : Int32), .int (0 : Int32)]) (HH I J R T) _
  refine Z_jump 4 rfl ?_
  show Zs _ _ (am_P 80).2 (22, [(0, .ref 4), (1, .int (0 : Int32)), (2, .int (0 : Int32))], [.int (I 4 13), .int (0 : Int32)]) (HH I J R T) _
  refine Z_eqI (h13) ?_
  show Zs _ _ (am_P 80).2 (22, [(0, .ref 4), (1, .int (0 : Int32)), (2, .int (0 : Int32))], [.int (0 : Int32), .int (0 : Int32)]) (HH I J R T) _
  refine Z_jump 5 rfl ?_
  show Zs _ _ (am_P 80).2 (34, [(0, .ref 4), (1, .int (0 : Int32)), (2, .int (0 : Int32))], [.int (1 : Int32)]) (HH I J R T) _
  refine Z_rI rfl (by first | exact am_nw0 _ | exact am_nw01 | rfl | assumption) ?_
  exact ⟨rfl, rfl⟩
theorem c_least0 {v : Int64} (h13 : I 4 13 = 0) (h10 : I 10 0 = 0) (h11 : I 11 0 = 0) : Ze sc (d + 3) 75 [.ref 4, .long v] (HH I J R T) (fun r h => r = some (.int (if v = 0 then 0 else 1048576)) ∧ ∃ I', h = HH I' J R T ∧ (∀ c, c ≠ 12 → I' c = I c)) := by
  refine Ze_of (Nat.le_of_ble_eq_true rfl) ?_
  by_cases hv : v = 0
  · subst hv
    refine Z_jump 3 rfl ?_
    show Zs _ _ (am_P 75).2 (3, [(0, .ref 4), (1, .long (0 : Int64))], [.int (0 : Int32), .ref 4, .long (0 : Int64)]) (HH I J R T) _
    refine Z_c1 rfl rfl rfl (c_few0 h11) ?_
    show Zs _ _ (am_P 75).2 (6, [(0, .ref 4), (1, .long (0 : Int64))], [.int (0 : Int32), .long (0 : Int64)]) (HH I J R T) _
    refine Z_jump 3 rfl ?_
    refine Z_bd (fun c8 => absurd c8 ((by decide))) (fun c8 => ?_)
    refine Z_jump 3 rfl ?_
    show Zs _ _ (am_P 75).2 (14, [(0, .ref 4), (1, .long (0 : Int64))], [.int (0 : Int32), .ref 4, .long (0 : Int64)]) (HH I J R T) _
    refine Z_c1 rfl rfl rfl (c_most0 h10) ?_
    show Zs _ _ (am_P 75).2 (17, [(0, .ref 4), (1, .long (0 : Int64))], [.int (0 : Int32), .long (0 : Int64)]) (HH I J R T) _
    refine Z_jump 3 rfl ?_
    refine Z_bd (fun c19 => ?_) (fun c19 => absurd ((by decide)) c19)
    refine Z_jump 3 rfl ?_
    show Zs _ _ (am_P 75).2 (28, [(0, .ref 4), (1, .long (0 : Int64))], [.int (Int64.toInt32 (0 : Int64)), .ref 4]) (HH I J R T) _
    refine Z_cQ rfl rfl rfl (c_aim0 h13) (fun v h1 hq => ?_)
    obtain ⟨rfl, I', rfl, hI⟩ := hq
    show Zs _ _ (am_P 75).2 (31, [(0, .ref 4), (1, .long (0 : Int64))], []) (HH I' J R T) _
    refine Z_jump 4 rfl ?_
    show Zs _ _ (am_P 75).2 (35, [(0, .ref 4), (1, .long (0 : Int64))], [.int (Int64.toInt32 (0 : Int64)), .int (0 : Int32), .ref 4]) (HH I' J R T) _
    refine Z_c1 rfl rfl rfl (c_lf0 ((congrFun (hI 4 (by decide)) 13).trans h13)) ?_
    show Zs _ _ (am_P 75).2 (38, [(0, .ref 4), (1, .long (0 : Int64))], [.int (0 : Int32)]) (HH I' J R T) _
    show Zs _ _ (am_P 75).2 (38, [(0, .ref 4), (1, .long (0 : Int64))], [.int (0 : Int32)]) (HH I' J R T) _
    refine Z_rI rfl (by first | exact am_nw0 _ | exact am_nw01 | rfl | assumption) ?_
    exact ⟨rfl, I', rfl, hI⟩
  · rw [if_neg hv]
    refine Z_jump 3 rfl ?_
    show Zs _ _ (am_P 75).2 (3, [(0, .ref 4), (1, .long v)], [.int (0 : Int32), .ref 4, .long v]) (HH I J R T) _
    refine Z_c1 rfl rfl rfl (c_few0 h11) ?_
    show Zs _ _ (am_P 75).2 (6, [(0, .ref 4), (1, .long v)], [.int (0 : Int32), .long v]) (HH I J R T) _
    refine Z_jump 3 rfl ?_
    refine Z_bd (fun (c8 : (lg_cmp v (0 : Int64)) < (0 : Int32)) => ?_) (fun (c8 : ¬ ((lg_cmp v (0 : Int64)) < (0 : Int32))) => ?_)
    · rw [lc_lt] at c8
      refine Z_jump 1 rfl ?_
      show Zs _ _ (am_P 75).2 (24, [(0, .ref 4), (1, .long v)], [.int (1048576 : Int32)]) (HH I J R T) _
      refine Z_rI rfl (by first | exact am_nw0 _ | exact am_nw01 | rfl | assumption) ?_
      exact ⟨rfl, I, rfl, fun _ _ => rfl⟩
    · rw [lc_lt] at c8
      refine Z_jump 3 rfl ?_
      show Zs _ _ (am_P 75).2 (14, [(0, .ref 4), (1, .long v)], [.int (0 : Int32), .ref 4, .long v]) (HH I J R T) _
      refine Z_c1 rfl rfl rfl (c_most0 h10) ?_
      show Zs _ _ (am_P 75).2 (17, [(0, .ref 4), (1, .long v)], [.int (0 : Int32), .long v]) (HH I J R T) _
      refine Z_jump 3 rfl ?_
      refine Z_bd (fun c19 => absurd c19 ((by rw [lc_le]; intro z; rw [fi_ltL] at c8; rw [fi_leL] at z; exact hv ((fi_eqL _ _).mpr (by have z0 : (0 : Int64).toInt = 0 := rfl; have z1 : (Int32.toInt64 0).toInt = 0 := rfl; omega))))) (fun c19 => ?_)
      refine Z_jump 1 rfl ?_
      show Zs _ _ (am_P 75).2 (24, [(0, .ref 4), (1, .long v)], [.int (1048576 : Int32)]) (HH I J R T) _
      refine Z_rI rfl (by first | exact am_nw0 _ | exact am_nw01 | rfl | assumption) ?_
      exact ⟨rfl, I, rfl, fun _ _ => rfl⟩
theorem c_howMany0 {v : Int64} (h13 : I 4 13 = 0) (h10 : I 10 0 = 0) (h11 : I 11 0 = 0) : Ze sc (d + 3) 76 [.ref 4, .long v] (HH I J R T) (fun r h => r = some (.int (if v = 0 then 1 else 0)) ∧ ∃ I', h = HH I' J R T ∧ (∀ c, c ≠ 12 → I' c = I c)) := by
  refine Ze_of (Nat.le_of_ble_eq_true rfl) ?_
  by_cases hv : v = 0
  · subst hv
    refine Z_jump 3 rfl ?_
    show Zs _ _ (am_P 76).2 (3, [(0, .ref 4), (1, .long (0 : Int64))], [.int (0 : Int32), .ref 4, .long (0 : Int64)]) (HH I J R T) _
    refine Z_c1 rfl rfl rfl (c_few0 h11) ?_
    show Zs _ _ (am_P 76).2 (6, [(0, .ref 4), (1, .long (0 : Int64))], [.int (0 : Int32), .long (0 : Int64)]) (HH I J R T) _
    refine Z_jump 3 rfl ?_
    refine Z_bd (fun c8 => absurd c8 ((by decide))) (fun c8 => ?_)
    refine Z_jump 3 rfl ?_
    show Zs _ _ (am_P 76).2 (14, [(0, .ref 4), (1, .long (0 : Int64))], [.int (0 : Int32), .ref 4, .long (0 : Int64)]) (HH I J R T) _
    refine Z_c1 rfl rfl rfl (c_most0 h10) ?_
    show Zs _ _ (am_P 76).2 (17, [(0, .ref 4), (1, .long (0 : Int64))], [.int (0 : Int32), .long (0 : Int64)]) (HH I J R T) _
    refine Z_jump 3 rfl ?_
    refine Z_bd (fun c19 => ?_) (fun c19 => absurd ((by decide)) c19)
    refine Z_jump 3 rfl ?_
    show Zs _ _ (am_P 76).2 (27, [(0, .ref 4), (1, .long (0 : Int64))], [.int (Int64.toInt32 (0 : Int64)), .ref 4]) (HH I J R T) _
    refine Z_cQ rfl rfl rfl (c_aim0 h13) (fun v h1 hq => ?_)
    obtain ⟨rfl, I', rfl, hI⟩ := hq
    show Zs _ _ (am_P 76).2 (30, [(0, .ref 4), (1, .long (0 : Int64))], []) (HH I' J R T) _
    refine Z_jump 4 rfl ?_
    show Zs _ _ (am_P 76).2 (34, [(0, .ref 4), (1, .long (0 : Int64))], [.int (Int64.toInt32 (0 : Int64)), .int (0 : Int32), .ref 4]) (HH I' J R T) _
    refine Z_c1 rfl rfl rfl (c_hm0 ((congrFun (hI 4 (by decide)) 13).trans h13)) ?_
    show Zs _ _ (am_P 76).2 (37, [(0, .ref 4), (1, .long (0 : Int64))], [.int (1 : Int32)]) (HH I' J R T) _
    show Zs _ _ (am_P 76).2 (37, [(0, .ref 4), (1, .long (0 : Int64))], [.int (1 : Int32)]) (HH I' J R T) _
    refine Z_rI rfl (by first | exact am_nw0 _ | exact am_nw01 | rfl | assumption) ?_
    exact ⟨rfl, I', rfl, hI⟩
  · rw [if_neg hv]
    refine Z_jump 3 rfl ?_
    show Zs _ _ (am_P 76).2 (3, [(0, .ref 4), (1, .long v)], [.int (0 : Int32), .ref 4, .long v]) (HH I J R T) _
    refine Z_c1 rfl rfl rfl (c_few0 h11) ?_
    show Zs _ _ (am_P 76).2 (6, [(0, .ref 4), (1, .long v)], [.int (0 : Int32), .long v]) (HH I J R T) _
    refine Z_jump 3 rfl ?_
    refine Z_bd (fun (c8 : (lg_cmp v (0 : Int64)) < (0 : Int32)) => ?_) (fun (c8 : ¬ ((lg_cmp v (0 : Int64)) < (0 : Int32))) => ?_)
    · rw [lc_lt] at c8
      refine Z_jump 1 rfl ?_
      show Zs _ _ (am_P 76).2 (23, [(0, .ref 4), (1, .long v)], [.int (0 : Int32)]) (HH I J R T) _
      refine Z_rI rfl (by first | exact am_nw0 _ | exact am_nw01 | rfl | assumption) ?_
      exact ⟨rfl, I, rfl, fun _ _ => rfl⟩
    · rw [lc_lt] at c8
      refine Z_jump 3 rfl ?_
      show Zs _ _ (am_P 76).2 (14, [(0, .ref 4), (1, .long v)], [.int (0 : Int32), .ref 4, .long v]) (HH I J R T) _
      refine Z_c1 rfl rfl rfl (c_most0 h10) ?_
      show Zs _ _ (am_P 76).2 (17, [(0, .ref 4), (1, .long v)], [.int (0 : Int32), .long v]) (HH I J R T) _
      refine Z_jump 3 rfl ?_
      refine Z_bd (fun c19 => absurd c19 ((by rw [lc_le]; intro z; rw [fi_ltL] at c8; rw [fi_leL] at z; exact hv ((fi_eqL _ _).mpr (by have z0 : (0 : Int64).toInt = 0 := rfl; have z1 : (Int32.toInt64 0).toInt = 0 := rfl; omega))))) (fun c19 => ?_)
      refine Z_jump 1 rfl ?_
      show Zs _ _ (am_P 76).2 (23, [(0, .ref 4), (1, .long v)], [.int (0 : Int32)]) (HH I J R T) _
      refine Z_rI rfl (by first | exact am_nw0 _ | exact am_nw01 | rfl | assumption) ?_
      exact ⟨rfl, I, rfl, fun _ _ => rfl⟩
theorem c_placeAll0 {s : Nat} (h13 : I 4 13 = 0) : am_E sc (d + 1) 81 [.ref 4, .ref s] (HH I J R T) none (HH I J R T) := by
  refine E_Z (Ze_of (Nat.le_of_ble_eq_true rfl) ?_)
  refine Z_jump 2 rfl ?_
  show Zs _ _ (am_P 81).2 (4, [(0, .ref 4), (1, .ref s)], [.int (I 4 13)]) (HH I J R T) _
  refine Z_eqI (h13) ?_
  show Zs _ _ (am_P 81).2 (4, [(0, .ref 4), (1, .ref s)], [.int (0 : Int32)]) (HH I J R T) _
  refine Z_jump 8 rfl ?_
  show Zs _ _ (am_P 81).2 (27, [(0, .ref 4), (1, .ref s), (2, .int (0 : Int32)), (3, .int (0 : Int32))], [.int (I 4 13), .int (0 : Int32)]) (HH I J R T) _
  refine Z_eqI (h13) ?_
  show Zs _ _ (am_P 81).2 (27, [(0, .ref 4), (1, .ref s), (2, .int (0 : Int32)), (3, .int (0 : Int32))], [.int (0 : Int32), .int (0 : Int32)]) (HH I J R T) _
  refine Z_jump 1 rfl ?_
  show Zs _ _ (am_P 81).2 (63, [(0, .ref 4), (1, .ref s), (2, .int (0 : Int32)), (3, .int (0 : Int32))], []) (HH I J R T) _
  refine Z_ret rfl rfl rfl ?_
  exact ⟨rfl, rfl⟩
theorem c_settle0 {s : Nat} {v : Int64} (hs : isSt s) (hn : I 18 1 = 0) : Ze sc (d + 4) 129 [.ref 0, .ref s, .long v] (HH I J R T) (fun r h => r = some (.int (if v = 0 then 0 else -1)) ∧ ∃ I', h = HH I' J R T ∧ (∀ c, c ≠ 4 → c ≠ 5 → c ≠ 7 → c ≠ 10 → c ≠ 11 → c ≠ 12 → c ≠ s → I' c = I c) ∧ (v = 0 → I' s 3 = if (1000000 : Int32) < I s 3 + 0 then 1000000 else I s 3 + 0)) := by
  refine Ze_of (Nat.le_of_ble_eq_true rfl) ?_
  have hs4 : 12 < s := by rcases isSt_c hs with rfl | rfl | rfl | rfl | rfl | rfl | rfl | rfl | rfl | rfl | rfl | rfl | rfl | rfl | rfl <;> decide
  by_cases hv : v = 0
  · subst hv
    refine Z_jump 6 rfl ?_
    show Zs _ _ (am_P 129).2 (10, [(0, .ref 0), (1, .ref s), (2, .long (0 : Int64))], [.int (0 : Int32), .ref s, .ref 18, .ref 4]) (HH I J R T) _
    refine Z_cQ rfl rfl rfl (Ze_deep (d := 2) (by omega) (c_load0 (d := 0) hn)) (fun v h1 hq => ?_)
    obtain ⟨rfl, I1, rfl, hI1, h13, h10, h11⟩ := hq
    show Zs _ _ (am_P 129).2 (13, [(0, .ref 0), (1, .ref s), (2, .long (0 : Int64))], []) (HH I1 J R T) _
    refine Z_jump 3 rfl ?_
    show Zs _ _ (am_P 129).2 (18, [(0, .ref 0), (1, .ref s), (2, .long (0 : Int64))], [.long (0 : Int64), .ref 4]) (HH I1 J R T) _
    refine Z_cQ rfl rfl rfl (c_least0 (v := 0) h13 h10 h11) (fun v h1 hq => ?_)
    obtain ⟨rfl, I2, rfl, hI2⟩ := hq
    show Zs _ _ (am_P 129).2 (21, [(0, .ref 0), (1, .ref s), (2, .long (0 : Int64))], [.int (0 : Int32)]) (HH I2 J R T) _
    refine Z_jump 7 rfl ?_
    show Zs _ _ (am_P 129).2 (37, [(0, .ref 0), (1, .ref s), (2, .long (0 : Int64)), (4, .int (0 : Int32))], [.ref s, .ref 4]) (HH I2 J R T) _
    refine Z_c0 rfl rfl rfl (c_placeAll0 ((congrFun (hI2 4 (by decide)) 13).trans h13)) ?_
    show Zs _ _ (am_P 129).2 (40, [(0, .ref 0), (1, .ref s), (2, .long (0 : Int64)), (4, .int (0 : Int32))], []) (HH I2 J R T) _
    refine Z_jump 2 rfl ?_
    show Zs _ _ (am_P 129).2 (43, [(0, .ref 0), (1, .ref s), (2, .long (0 : Int64)), (4, .int (0 : Int32))], [.int (0 : Int32), .ref s]) (HH I2 J R T) _
    refine Z_c0 rfl (am_do_inv (st_0 hs) rfl rfl (Nat.le_of_ble_eq_true rfl)) rfl (c_spend hs) ?_
    show Zs _ _ (am_P 129).2 (46, [(0, .ref 0), (1, .ref s), (2, .long (0 : Int64)), (4, .int (0 : Int32))], []) (HH (sf I2 s 3 (if (1000000 : Int32) < I2 s 3 + 0 then 1000000 else I2 s 3 + 0)) J R T) _
    refine Z_jump 1 rfl ?_
    show Zs _ _ (am_P 129).2 (48, [(0, .ref 0), (1, .ref s), (2, .long (0 : Int64)), (4, .int (0 : Int32))], [.int (0 : Int32)]) (HH (sf I2 s 3 (if (1000000 : Int32) < I2 s 3 + 0 then 1000000 else I2 s 3 + 0)) J R T) _
    refine Z_rI rfl (by first | exact am_nw0 _ | exact am_nw01 | rfl | assumption) ?_
    refine ⟨rfl, _, rfl, fun c h4 h5 h7 h10 h11 h12 hs => ?_, fun _ => ?_⟩
    · rw [sf_c hs, hI2 c h12, hI1 c h4 h5 h7 h10 h11]
    · rw [sf_s, hI2 s (by omega), hI1 s (by omega) (by omega) (by omega) (by omega) (by omega)]
  · rw [if_neg hv]
    refine Z_jump 6 rfl ?_
    show Zs _ _ (am_P 129).2 (10, [(0, .ref 0), (1, .ref s), (2, .long v)], [.int (0 : Int32), .ref s, .ref 18, .ref 4]) (HH I J R T) _
    refine Z_cQ rfl rfl rfl (Ze_deep (d := 2) (by omega) (c_load0 (d := 0) hn)) (fun v h1 hq => ?_)
    obtain ⟨rfl, I1, rfl, hI1, h13, h10, h11⟩ := hq
    show Zs _ _ (am_P 129).2 (13, [(0, .ref 0), (1, .ref s), (2, .long v)], []) (HH I1 J R T) _
    refine Z_jump 3 rfl ?_
    show Zs _ _ (am_P 129).2 (18, [(0, .ref 0), (1, .ref s), (2, .long v)], [.long v, .ref 4]) (HH I1 J R T) _
    refine Z_cQ rfl rfl rfl (c_least0 (v := v) h13 h10 h11) (fun v h1 hq => ?_)
    rw [if_neg hv] at hq
    obtain ⟨rfl, I2, rfl, hI2⟩ := hq
    show Zs _ _ (am_P 129).2 (21, [(0, .ref 0), (1, .ref s), (2, .long v)], [.int (1048576 : Int32)]) (HH I2 J R T) _
    refine Z_jump 5 rfl ?_
    show Zs _ _ (am_P 129).2 (31, [(0, .ref 0), (1, .ref s), (2, .long v), (4, .int (1048576 : Int32))], [.int (-1 : Int32)]) (HH I2 J R T) _
    refine Z_rI rfl (by first | exact am_nw0 _ | exact am_nw01 | rfl | assumption) ?_
    exact ⟨rfl, I2, rfl, fun c h4 h5 h7 h10 h11 h12 hs => by rw [hI2 c h12, hI1 c h4 h5 h7 h10 h11], fun z => absurd z hv⟩
end C1

