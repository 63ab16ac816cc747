/-! The class: an empty text, no rods. -/
section C5
variable {sc : Nat × (Nat → Int32)} {d : Nat} {I : hI} {J : hJ} {R : hR} {T : am_H} {h : am_H} {Q : Option Value → am_H → Prop} {code : List am_I}
theorem k_len1 : am_E sc (d + 3) 229 [.retAddr 1] h (some (.int 5)) h := E_run 20 rfl
theorem k_len2 : am_E sc (d + 3) 229 [.retAddr 2] h (some (.int 5)) h := E_run 20 rfl
theorem k_len3 : am_E sc (d + 3) 229 [.retAddr 3] h (some (.int 5)) h := E_run 20 rfl
theorem k_len4 : am_E sc (d + 3) 229 [.retAddr 4] h (some (.int 4)) h := E_run 20 rfl
theorem k_len5 : am_E sc (d + 3) 229 [.retAddr 5] h (some (.int 4)) h := E_run 20 rfl
theorem k_len6 : am_E sc (d + 3) 229 [.retAddr 6] h (some (.int 4)) h := E_run 20 rfl
theorem k_len7 : am_E sc (d + 3) 229 [.retAddr 7] h (some (.int 3)) h := E_run 20 rfl
theorem k_len8 : am_E sc (d + 3) 229 [.retAddr 8] h (some (.int 3)) h := E_run 20 rfl
theorem k_len9 : am_E sc (d + 3) 229 [.retAddr 9] h (some (.int 3)) h := E_run 20 rfl
theorem k_len10 : am_E sc (d + 3) 229 [.retAddr 10] h (some (.int 5)) h := E_run 20 rfl
theorem k_len11 : am_E sc (d + 3) 229 [.retAddr 11] h (some (.int 5)) h := E_run 20 rfl
theorem c_isWord0_1 (h3 : I 1 3 = 0) (h4 : I 1 4 = 0) : am_E sc (d + 4) 61 [.ref 1, .retAddr 1] (HH I J R T) (some (.int 0)) (HH I J R T) := by
  refine E_Z (Ze_of (Nat.le_of_ble_eq_true rfl) ?_)
  refine Z_jump 2 rfl ?_
  show Zs _ _ (am_P 61).2 (4, [(0, .ref 1), (1, .retAddr 1)], [.int (I 1 4)]) (HH I J R T) _
  refine Z_eqI (h4) ?_
  show Zs _ _ (am_P 61).2 (4, [(0, .ref 1), (1, .retAddr 1)], [.int (0 : Int32)]) (HH I J R T) _
  refine Z_jump 2 rfl ?_
  show Zs _ _ (am_P 61).2 (8, [(0, .ref 1), (1, .retAddr 1)], [.int (I 1 3), .int (0 : Int32)]) (HH I J R T) _
  refine Z_eqI (h3) ?_
  show Zs _ _ (am_P 61).2 (8, [(0, .ref 1), (1, .retAddr 1)], [.int (0 : Int32), .int (0 : Int32)]) (HH I J R T) _
  refine Z_jump 2 rfl ?_
  show Zs _ _ (am_P 61).2 (10, [(0, .ref 1), (1, .retAddr 1)], [.retAddr 1, .int (0 : Int32)]) (HH I J R T) _
  refine Z_c1 rfl rfl rfl (k_len1) ?_
  show Zs _ _ (am_P 61).2 (13, [(0, .ref 1), (1, .retAddr 1)], [.int (5 : Int32), .int (0 : Int32)]) (HH I J R T) _
  refine Z_jump 2 rfl ?_
  show Zs _ _ (am_P 61).2 (17, [(0, .ref 1), (1, .retAddr 1)], [.int (0 : Int32)]) (HH I J R T) _
  refine Z_rI rfl (by first | exact am_nw0 _ | exact am_nw01 | rfl | assumption) ?_
  exact ⟨rfl, rfl⟩
theorem c_isWord0_2 (h3 : I 1 3 = 0) (h4 : I 1 4 = 0) : am_E sc (d + 4) 61 [.ref 1, .retAddr 2] (HH I J R T) (some (.int 0)) (HH I J R T) := by
  refine E_Z (Ze_of (Nat.le_of_ble_eq_true rfl) ?_)
  refine Z_jump 2 rfl ?_
  show Zs _ _ (am_P 61).2 (4, [(0, .ref 1), (1, .retAddr 2)], [.int (I 1 4)]) (HH I J R T) _
  refine Z_eqI (h4) ?_
  show Zs _ _ (am_P 61).2 (4, [(0, .ref 1), (1, .retAddr 2)], [.int (0 : Int32)]) (HH I J R T) _
  refine Z_jump 2 rfl ?_
  show Zs _ _ (am_P 61).2 (8, [(0, .ref 1), (1, .retAddr 2)], [.int (I 1 3), .int (0 : Int32)]) (HH I J R T) _
  refine Z_eqI (h3) ?_
  show Zs _ _ (am_P 61).2 (8, [(0, .ref 1), (1, .retAddr 2)], [.int (0 : Int32), .int (0 : Int32)]) (HH I J R T) _
  refine Z_jump 2 rfl ?_
  show Zs _ _ (am_P 61).2 (10, [(0, .ref 1), (1, .retAddr 2)], [.retAddr 2, .int (0 : Int32)]) (HH I J R T) _
  refine Z_c1 rfl rfl rfl (k_len2) ?_
  show Zs _ _ (am_P 61).2 (13, [(0, .ref 1), (1, .retAddr 2)], [.int (5 : Int32), .int (0 : Int32)]) (HH I J R T) _
  refine Z_jump 2 rfl ?_
  show Zs _ _ (am_P 61).2 (17, [(0, .ref 1), (1, .retAddr 2)], [.int (0 : Int32)]) (HH I J R T) _
  refine Z_rI rfl (by first | exact am_nw0 _ | exact am_nw01 | rfl | assumption) ?_
  exact ⟨rfl, rfl⟩
theorem c_isWord0_3 (h3 : I 1 3 = 0) (h4 : I 1 4 = 0) : am_E sc (d + 4) 61 [.ref 1, .retAddr 3] (HH I J R T) (some (.int 0)) (HH I J R T) := by
  refine E_Z (Ze_of (Nat.le_of_ble_eq_true rfl) ?_)
  refine Z_jump 2 rfl ?_
  show Zs _ _ (am_P 61).2 (4, [(0, .ref 1), (1, .retAddr 3)], [.int (I 1 4)]) (HH I J R T) _
  refine Z_eqI (h4) ?_
  show Zs _ _ (am_P 61).2 (4, [(0, .ref 1), (1, .retAddr 3)], [.int (0 : Int32)]) (HH I J R T) _
  refine Z_jump 2 rfl ?_
  show Zs _ _ (am_P 61).2 (8, [(0, .ref 1), (1, .retAddr 3)], [.int (I 1 3), .int (0 : Int32)]) (HH I J R T) _
  refine Z_eqI (h3) ?_
  show Zs _ _ (am_P 61).2 (8, [(0, .ref 1), (1, .retAddr 3)], [.int (0 : Int32), .int (0 : Int32)]) (HH I J R T) _
  refine Z_jump 2 rfl ?_
  show Zs _ _ (am_P 61).2 (10, [(0, .ref 1), (1, .retAddr 3)], [.retAddr 3, .int (0 : Int32)]) (HH I J R T) _
  refine Z_c1 rfl rfl rfl (k_len3) ?_
  show Zs _ _ (am_P 61).2 (13, [(0, .ref 1), (1, .retAddr 3)], [.int (5 : Int32), .int (0 : Int32)]) (HH I J R T) _
  refine Z_jump 2 rfl ?_
  show Zs _ _ (am_P 61).2 (17, [(0, .ref 1), (1, .retAddr 3)], [.int (0 : Int32)]) (HH I J R T) _
  refine Z_rI rfl (by first | exact am_nw0 _ | exact am_nw01 | rfl | assumption) ?_
  exact ⟨rfl, rfl⟩
theorem c_isWord0_4 (h3 : I 1 3 = 0) (h4 : I 1 4 = 0) : am_E sc (d + 4) 61 [.ref 1, .retAddr 4] (HH I J R T) (some (.int 0)) (HH I J R T) := by
  refine E_Z (Ze_of (Nat.le_of_ble_eq_true rfl) ?_)
  refine Z_jump 2 rfl ?_
  show Zs _ _ (am_P 61).2 (4, [(0, .ref 1), (1, .retAddr 4)], [.int (I 1 4)]) (HH I J R T) _
  refine Z_eqI (h4) ?_
  show Zs _ _ (am_P 61).2 (4, [(0, .ref 1), (1, .retAddr 4)], [.int (0 : Int32)]) (HH I J R T) _
  refine Z_jump 2 rfl ?_
  show Zs _ _ (am_P 61).2 (8, [(0, .ref 1), (1, .retAddr 4)], [.int (I 1 3), .int (0 : Int32)]) (HH I J R T) _
  refine Z_eqI (h3) ?_
  show Zs _ _ (am_P 61).2 (8, [(0, .ref 1), (1, .retAddr 4)], [.int (0 : Int32), .int (0 : Int32)]) (HH I J R T) _
  refine Z_jump 2 rfl ?_
  show Zs _ _ (am_P 61).2 (10, [(0, .ref 1), (1, .retAddr 4)], [.retAddr 4, .int (0 : Int32)]) (HH I J R T) _
  refine Z_c1 rfl rfl rfl (k_len4) ?_
  show Zs _ _ (am_P 61).2 (13, [(0, .ref 1), (1, .retAddr 4)], [.int (4 : Int32), .int (0 : Int32)]) (HH I J R T) _
  refine Z_jump 2 rfl ?_
  show Zs _ _ (am_P 61).2 (17, [(0, .ref 1), (1, .retAddr 4)], [.int (0 : Int32)]) (HH I J R T) _
  refine Z_rI rfl (by first | exact am_nw0 _ | exact am_nw01 | rfl | assumption) ?_
  exact ⟨rfl, rfl⟩
theorem c_isWord0_5 (h3 : I 1 3 = 0) (h4 : I 1 4 = 0) : am_E sc (d + 4) 61 [.ref 1, .retAddr 5] (HH I J R T) (some (.int 0)) (HH I J R T) := by
  refine E_Z (Ze_of (Nat.le_of_ble_eq_true rfl) ?_)
  refine Z_jump 2 rfl ?_
  show Zs _ _ (am_P 61).2 (4, [(0, .ref 1), (1, .retAddr 5)], [.int (I 1 4)]) (HH I J R T) _
  refine Z_eqI (h4) ?_
  show Zs _ _ (am_P 61).2 (4, [(0, .ref 1), (1, .retAddr 5)], [.int (0 : Int32)]) (HH I J R T) _
  refine Z_jump 2 rfl ?_
  show Zs _ _ (am_P 61).2 (8, [(0, .ref 1), (1, .retAddr 5)], [.int (I 1 3), .int (0 : Int32)]) (HH I J R T) _
  refine Z_eqI (h3) ?_
  show Zs _ _ (am_P 61).2 (8, [(0, .ref 1), (1, .retAddr 5)], [.int (0 : Int32), .int (0 : Int32)]) (HH I J R T) _
  refine Z_jump 2 rfl ?_
  show Zs _ _ (am_P 61).2 (10, [(0, .ref 1), (1, .retAddr 5)], [.retAddr 5, .int (0 : Int32)]) (HH I J R T) _
  refine Z_c1 rfl rfl rfl (k_len5) ?_
  show Zs _ _ (am_P 61).2 (13, [(0, .ref 1), (1, .retAddr 5)], [.int (4 : Int32), .int (0 : Int32)]) (HH I J R T) _
  refine Z_jump 2 rfl ?_
  show Zs _ _ (am_P 61).2 (17, [(0, .ref 1), (1, .retAddr 5)], [.int (0 : Int32)]) (HH I J R T) _
  refine Z_rI rfl (by first | exact am_nw0 _ | exact am_nw01 | rfl | assumption) ?_
  exact ⟨rfl, rfl⟩
theorem c_isWord0_6 (h3 : I 1 3 = 0) (h4 : I 1 4 = 0) : am_E sc (d + 4) 61 [.ref 1, .retAddr 6] (HH I J R T) (some (.int 0)) (HH I J R T) := by
  refine E_Z (Ze_of (Nat.le_of_ble_eq_true rfl) ?_)
  refine Z_jump 2 rfl ?_
  show Zs _ _ (am_P 61).2 (4, [(0, .ref 1), (1, .retAddr 6)], [.int (I 1 4)]) (HH I J R T) _
  refine Z_eqI (h4) ?_
  show Zs _ _ (am_P 61).2 (4, [(0, .ref 1), (1, .retAddr 6)], [.int (0 : Int32)]) (HH I J R T) _
  refine Z_jump 2 rfl ?_
  show Zs _ _ (am_P 61).2 (8, [(0, .ref 1), (1, .retAddr 6)], [.int (I 1 3), .int (0 : Int32)]) (HH I J R T) _
  refine Z_eqI (h3) ?_
  show Zs _ _ (am_P 61).2 (8, [(0, .ref 1), (1, .retAddr 6)], [.int (0 : Int32), .int (0 : Int32)]) (HH I J R T) _
  refine Z_jump 2 rfl ?_
  show Zs _ _ (am_P 61).2 (10, [(0, .ref 1), (1, .retAddr 6)], [.retAddr 6, .int (0 : Int32)]) (HH I J R T) _
  refine Z_c1 rfl rfl rfl (k_len6) ?_
  show Zs _ _ (am_P 61).2 (13, [(0, .ref 1), (1, .retAddr 6)], [.int (4 : Int32), .int (0 : Int32)]) (HH I J R T) _
  refine Z_jump 2 rfl ?_
  show Zs _ _ (am_P 61).2 (17, [(0, .ref 1), (1, .retAddr 6)], [.int (0 : Int32)]) (HH I J R T) _
  refine Z_rI rfl (by first | exact am_nw0 _ | exact am_nw01 | rfl | assumption) ?_
  exact ⟨rfl, rfl⟩
theorem c_isWord0_7 (h3 : I 1 3 = 0) (h4 : I 1 4 = 0) : am_E sc (d + 4) 61 [.ref 1, .retAddr 7] (HH I J R T) (some (.int 0)) (HH I J R T) := by
  refine E_Z (Ze_of (Nat.le_of_ble_eq_true rfl) ?_)
  refine Z_jump 2 rfl ?_
  show Zs _ _ (am_P 61).2 (4, [(0, .ref 1), (1, .retAddr 7)], [.int (I 1 4)]) (HH I J R T) _
  refine Z_eqI (h4) ?_
  show Zs _ _ (am_P 61).2 (4, [(0, .ref 1), (1, .retAddr 7)], [.int (0 : Int32)]) (HH I J R T) _
  refine Z_jump 2 rfl ?_
  show Zs _ _ (am_P 61).2 (8, [(0, .ref 1), (1, .retAddr 7)], [.int (I 1 3), .int (0 : Int32)]) (HH I J R T) _
  refine Z_eqI (h3) ?_
  show Zs _ _ (am_P 61).2 (8, [(0, .ref 1), (1, .retAddr 7)], [.int (0 : Int32), .int (0 : Int32)]) (HH I J R T) _
  refine Z_jump 2 rfl ?_
  show Zs _ _ (am_P 61).2 (10, [(0, .ref 1), (1, .retAddr 7)], [.retAddr 7, .int (0 : Int32)]) (HH I J R T) _
  refine Z_c1 rfl rfl rfl (k_len7) ?_
  show Zs _ _ (am_P 61).2 (13, [(0, .ref 1), (1, .retAddr 7)], [.int (3 : Int32), .int (0 : Int32)]) (HH I J R T) _
  refine Z_jump 2 rfl ?_
  show Zs _ _ (am_P 61).2 (17, [(0, .ref 1), (1, .retAddr 7)], [.int (0 : Int32)]) (HH I J R T) _
  refine Z_rI rfl (by first | exact am_nw0 _ | exact am_nw01 | rfl | assumption) ?_
  exact ⟨rfl, rfl⟩
theorem c_isWord0_8 (h3 : I 1 3 = 0) (h4 : I 1 4 = 0) : am_E sc (d + 4) 61 [.ref 1, .retAddr 8] (HH I J R T) (some (.int 0)) (HH I J R T) := by
  refine E_Z (Ze_of (Nat.le_of_ble_eq_true rfl) ?_)
  refine Z_jump 2 rfl ?_
  show Zs _ _ (am_P 61).2 (4, [(0, .ref 1), (1, .retAddr 8)], [.int (I 1 4)]) (HH I J R T) _
  refine Z_eqI (h4) ?_
  show Zs _ _ (am_P 61).2 (4, [(0, .ref 1), (1, .retAddr 8)], [.int (0 : Int32)]) (HH I J R T) _
  refine Z_jump 2 rfl ?_
  show Zs _ _ (am_P 61).2 (8, [(0, .ref 1), (1, .retAddr 8)], [.int (I 1 3), .int (0 : Int32)]) (HH I J R T) _
  refine Z_eqI (h3) ?_
  show Zs _ _ (am_P 61).2 (8, [(0, .ref 1), (1, .retAddr 8)], [.int (0 : Int32), .int (0 : Int32)]) (HH I J R T) _
  refine Z_jump 2 rfl ?_
  show Zs _ _ (am_P 61).2 (10, [(0, .ref 1), (1, .retAddr 8)], [.retAddr 8, .int (0 : Int32)]) (HH I J R T) _
  refine Z_c1 rfl rfl rfl (k_len8) ?_
  show Zs _ _ (am_P 61).2 (13, [(0, .ref 1), (1, .retAddr 8)], [.int (3 : Int32), .int (0 : Int32)]) (HH I J R T) _
  refine Z_jump 2 rfl ?_
  show Zs _ _ (am_P 61).2 (17, [(0, .ref 1), (1, .retAddr 8)], [.int (0 : Int32)]) (HH I J R T) _
  refine Z_rI rfl (by first | exact am_nw0 _ | exact am_nw01 | rfl | assumption) ?_
  exact ⟨rfl, rfl⟩
theorem c_isWord0_9 (h3 : I 1 3 = 0) (h4 : I 1 4 = 0) : am_E sc (d + 4) 61 [.ref 1, .retAddr 9] (HH I J R T) (some (.int 0)) (HH I J R T) := by
  refine E_Z (Ze_of (Nat.le_of_ble_eq_true rfl) ?_)
  refine Z_jump 2 rfl ?_
  show Zs _ _ (am_P 61).2 (4, [(0, .ref 1), (1, .retAddr 9)], [.int (I 1 4)]) (HH I J R T) _
  refine Z_eqI (h4) ?_
  show Zs _ _ (am_P 61).2 (4, [(0, .ref 1), (1, .retAddr 9)], [.int (0 : Int32)]) (HH I J R T) _
  refine Z_jump 2 rfl ?_
  show Zs _ _ (am_P 61).2 (8, [(0, .ref 1), (1, .retAddr 9)], [.int (I 1 3), .int (0 : Int32)]) (HH I J R T) _
  refine Z_eqI (h3) ?_
  show Zs _ _ (am_P 61).2 (8, [(0, .ref 1), (1, .retAddr 9)], [.int (0 : Int32), .int (0 : Int32)]) (HH I J R T) _
  refine Z_jump 2 rfl ?_
  show Zs _ _ (am_P 61).2 (10, [(0, .ref 1), (1, .retAddr 9)], [.retAddr 9, .int (0 : Int32)]) (HH I J R T) _
  refine Z_c1 rfl rfl rfl (k_len9) ?_
  show Zs _ _ (am_P 61).2 (13, [(0, .ref 1), (1, .retAddr 9)], [.int (3 : Int32), .int (0 : Int32)]) (HH I J R T) _
  refine Z_jump 2 rfl ?_
  show Zs _ _ (am_P 61).2 (17, [(0, .ref 1), (1, .retAddr 9)], [.int (0 : Int32)]) (HH I J R T) _
  refine Z_rI rfl (by first | exact am_nw0 _ | exact am_nw01 | rfl | assumption) ?_
  exact ⟨rfl, rfl⟩
theorem c_isWord0_10 (h3 : I 1 3 = 0) (h4 : I 1 4 = 0) : am_E sc (d + 4) 61 [.ref 1, .retAddr 10] (HH I J R T) (some (.int 0)) (HH I J R T) := by
  refine E_Z (Ze_of (Nat.le_of_ble_eq_true rfl) ?_)
  refine Z_jump 2 rfl ?_
  show Zs _ _ (am_P 61).2 (4, [(0, .ref 1), (1, .retAddr 10)], [.int (I 1 4)]) (HH I J R T) _
  refine Z_eqI (h4) ?_
  show Zs _ _ (am_P 61).2 (4, [(0, .ref 1), (1, .retAddr 10)], [.int (0 : Int32)]) (HH I J R T) _
  refine Z_jump 2 rfl ?_
  show Zs _ _ (am_P 61).2 (8, [(0, .ref 1), (1, .retAddr 10)], [.int (I 1 3), .int (0 : Int32)]) (HH I J R T) _
  refine Z_eqI (h3) ?_
  show Zs _ _ (am_P 61).2 (8, [(0, .ref 1), (1, .retAddr 10)], [.int (0 : Int32), .int (0 : Int32)]) (HH I J R T) _
  refine Z_jump 2 rfl ?_
  show Zs _ _ (am_P 61).2 (10, [(0, .ref 1), (1, .retAddr 10)], [.retAddr 10, .int (0 : Int32)]) (HH I J R T) _
  refine Z_c1 rfl rfl rfl (k_len10) ?_
  show Zs _ _ (am_P 61).2 (13, [(0, .ref 1), (1, .retAddr 10)], [.int (5 : Int32), .int (0 : Int32)]) (HH I J R T) _
  refine Z_jump 2 rfl ?_
  show Zs _ _ (am_P 61).2 (17, [(0, .ref 1), (1, .retAddr 10)], [.int (0 : Int32)]) (HH I J R T) _
  refine Z_rI rfl (by first | exact am_nw0 _ | exact am_nw01 | rfl | assumption) ?_
  exact ⟨rfl, rfl⟩
theorem c_isWord0_11 (h3 : I 1 3 = 0) (h4 : I 1 4 = 0) : am_E sc (d + 4) 61 [.ref 1, .retAddr 11] (HH I J R T) (some (.int 0)) (HH I J R T) := by
  refine E_Z (Ze_of (Nat.le_of_ble_eq_true rfl) ?_)
  refine Z_jump 2 rfl ?_
  show Zs _ _ (am_P 61).2 (4, [(0, .ref 1), (1, .retAddr 11)], [.int (I 1 4)]) (HH I J R T) _
  refine Z_eqI (h4) ?_
  show Zs _ _ (am_P 61).2 (4, [(0, .ref 1), (1, .retAddr 11)], [.int (0 : Int32)]) (HH I J R T) _
  refine Z_jump 2 rfl ?_
  show Zs _ _ (am_P 61).2 (8, [(0, .ref 1), (1, .retAddr 11)], [.int (I 1 3), .int (0 : Int32)]) (HH I J R T) _
  refine Z_eqI (h3) ?_
  show Zs _ _ (am_P 61).2 (8, [(0, .ref 1), (1, .retAddr 11)], [.int (0 : Int32), .int (0 : Int32)]) (HH I J R T) _
  refine Z_jump 2 rfl ?_
  show Zs _ _ (am_P 61).2 (10, [(0, .ref 1), (1, .retAddr 11)], [.retAddr 11, .int (0 : Int32)]) (HH I J R T) _
  refine Z_c1 rfl rfl rfl (k_len11) ?_
  show Zs _ _ (am_P 61).2 (13, [(0, .ref 1), (1, .retAddr 11)], [.int (5 : Int32), .int (0 : Int32)]) (HH I J R T) _
  refine Z_jump 2 rfl ?_
  show Zs _ _ (am_P 61).2 (17, [(0, .ref 1), (1, .retAddr 11)], [.int (0 : Int32)]) (HH I J R T) _
  refine Z_rI rfl (by first | exact am_nw0 _ | exact am_nw01 | rfl | assumption) ?_
  exact ⟨rfl, rfl⟩
/-- the text's own numbers behind a step at its end -/
theorem c_step0 (h1 : I 1 1 = 0) (h4 : I 1 4 = 0) : am_E sc (d + 1) 53 [.ref 1] (HH I J R T) none (HH (sf (sf (sf I 1 3 0) 1 5 0) 1 4 0) J R T) := by
  refine E_Z (Ze_of (Nat.le_of_ble_eq_true rfl) ?_)
  refine Z_jump 2 rfl ?_
  show Zs _ _ (am_P 53).2 (4, [(0, .ref 1)], [.int (I 1 4)]) (HH I J R T) _
  refine Z_eqI (h4) ?_
  show Zs _ _ (am_P 53).2 (4, [(0, .ref 1)], [.int (0 : Int32)]) (HH I J R T) _
  refine Z_jump 4 rfl ?_
  show Zs _ _ (am_P 53).2 (10, [(0, .ref 1), (1, .int (0 : Int32))], [.int (I 1 1), .int (0 : Int32)]) (HH I J R T) _
  refine Z_eqI (h1) ?_
  show Zs _ _ (am_P 53).2 (10, [(0, .ref 1), (1, .int (0 : Int32))], [.int (0 : Int32), .int (0 : Int32)]) (HH I J R T) _
  refine Z_jump 4 rfl ?_
  show Zs _ _ (am_P 53).2 (34, [(0, .ref 1), (1, .int (0 : Int32))], []) (HH (sf I 1 3 (0 : Int32)) J R T) _
  refine Z_jump 4 rfl ?_
  show Zs _ _ (am_P 53).2 (40, [(0, .ref 1), (1, .int (0 : Int32))], [.int (I 1 1), .int (0 : Int32), .ref 1]) (HH (sf I 1 3 (0 : Int32)) J R T) _
  refine Z_eqI (h1) ?_
  show Zs _ _ (am_P 53).2 (40, [(0, .ref 1), (1, .int (0 : Int32))], [.int (0 : Int32), .int (0 : Int32), .ref 1]) (HH (sf I 1 3 (0 : Int32)) J R T) _
  refine Z_jump 3 rfl ?_
  show Zs _ _ (am_P 53).2 (62, [(0, .ref 1), (1, .int (0 : Int32))], []) (HH (sf (sf I 1 3 (0 : Int32)) 1 5 (0 : Int32)) J R T) _
  refine Z_jump 3 rfl ?_
  show Zs _ _ (am_P 53).2 (67, [(0, .ref 1), (1, .int (0 : Int32))], [.int (I 1 1), .int (0 : Int32)]) (HH (sf (sf I 1 3 (0 : Int32)) 1 5 (0 : Int32)) J R T) _
  refine Z_eqI (h1) ?_
  show Zs _ _ (am_P 53).2 (67, [(0, .ref 1), (1, .int (0 : Int32))], [.int (0 : Int32), .int (0 : Int32)]) (HH (sf (sf I 1 3 (0 : Int32)) 1 5 (0 : Int32)) J R T) _
  refine Z_jump 8 rfl ?_
  show Zs _ _ (am_P 53).2 (94, [(0, .ref 1), (1, .int (0 : Int32)), (2, .int (0 : Int32))], [.int (I 1 1), .int (1 : Int32)]) (HH (sf (sf I 1 3 (0 : Int32)) 1 5 (0 : Int32)) J R T) _
  refine Z_eqI (h1) ?_
  show Zs _ _ (am_P 53).2 (94, [(0, .ref 1), (1, .int (0 : Int32)), (2, .int (0 : Int32))], [.int (0 : Int32), .int (1 : Int32)]) (HH (sf (sf I 1 3 (0 : Int32)) 1 5 (0 : Int32)) J R T) _
  refine Z_jump 5 rfl ?_
  show Zs _ _ (am_P 53).2 (103, [(0, .ref 1), (1, .int (0 : Int32)), (2, .int (0 : Int32))], [.int (I 1 1), .int (0 : Int32)]) (HH (sf (sf I 1 3 (0 : Int32)) 1 5 (0 : Int32)) J R T) _
  refine Z_eqI (h1) ?_
  show Zs _ _ (am_P 53).2 (103, [(0, .ref 1), (1, .int (0 : Int32)), (2, .int (0 : Int32))], [.int (0 : Int32), .int (0 : Int32)]) (HH (sf (sf I 1 3 (0 : Int32)) 1 5 (0 : Int32)) J R T) _
  refine Z_jump 4 rfl ?_
  show Zs _ _ (am_P 53).2 (150, [(0, .ref 1), (1, .int (0 : Int32)), (2, .int (0 : Int32))], []) (HH (sf (sf (sf I 1 3 (0 : Int32)) 1 5 (0 : Int32)) 1 4 (0 : Int32)) J R T) _
  show Zs _ _ (am_P 53).2 (150, [(0, .ref 1), (1, .int (0 : Int32)), (2, .int (0 : Int32))], []) (HH (sf (sf (sf I 1 3 (0 : Int32)) 1 5 (0 : Int32)) 1 4 (0 : Int32)) J R T) _
  refine Z_ret rfl rfl rfl ?_
  exact ⟨rfl, rfl⟩
theorem c_begin0 (h1 : I 1 1 = 0) : am_E sc (d + 2) 52 [.ref 1] (HH I J R T) none (HH (sf (sf (sf (sf (sf I 1 2 (-1)) 1 4 0) 1 3 0) 1 5 0) 1 4 0) J R T) := by
  refine E_Z (Ze_of (Nat.le_of_ble_eq_true rfl) ?_)
  refine Z_jump 3 rfl ?_
  show Zs _ _ (am_P 52).2 (5, [(0, .ref 1)], []) (HH (sf I 1 2 (-1 : Int32)) J R T) _
  refine Z_jump 3 rfl ?_
  show Zs _ _ (am_P 52).2 (10, [(0, .ref 1)], []) (HH (sf (sf I 1 2 (-1 : Int32)) 1 4 (0 : Int32)) J R T) _
  refine Z_jump 1 rfl ?_
  show Zs _ _ (am_P 52).2 (11, [(0, .ref 1)], [.ref 1]) (HH (sf (sf I 1 2 (-1 : Int32)) 1 4 (0 : Int32)) J R T) _
  refine Z_c0 rfl rfl rfl (c_step0 h1 rfl) ?_
  show Zs _ _ (am_P 52).2 (14, [(0, .ref 1)], []) (HH (sf (sf (sf (sf (sf I 1 2 (-1 : Int32)) 1 4 (0 : Int32)) 1 3 0) 1 5 0) 1 4 0) J R T) _
  show Zs _ _ (am_P 52).2 (14, [(0, .ref 1)], []) (HH (sf (sf (sf (sf (sf I 1 2 (-1 : Int32)) 1 4 (0 : Int32)) 1 3 0) 1 5 0) 1 4 0) J R T) _
  refine Z_ret rfl rfl rfl ?_
  exact ⟨rfl, rfl⟩
theorem c_fail0 (h2 : I 1 2 = -1) (h3 : I 1 3 = 0) : am_E sc (d + 1) 58 [.ref 1] (HH I J R T) none (HH (sf I 1 2 0) J R T) := by
  refine E_Z (Ze_of (Nat.le_of_ble_eq_true rfl) ?_)
  refine Z_jump 2 rfl ?_
  show Zs _ _ (am_P 58).2 (4, [(0, .ref 1)], [.int (I 1 2)]) (HH I J R T) _
  refine Z_eqI (h2) ?_
  show Zs _ _ (am_P 58).2 (4, [(0, .ref 1)], [.int (-1 : Int32)]) (HH I J R T) _
  refine Z_jump 5 rfl ?_
  show Zs _ _ (am_P 58).2 (13, [(0, .ref 1)], [.int (I 1 3), .ref 1]) (HH I J R T) _
  refine Z_eqI (h3) ?_
  show Zs _ _ (am_P 58).2 (13, [(0, .ref 1)], [.int (0 : Int32), .ref 1]) (HH I J R T) _
  refine Z_jump 1 rfl ?_
  show Zs _ _ (am_P 58).2 (16, [(0, .ref 1)], []) (HH (sf I 1 2 (0 : Int32)) J R T) _
  show Zs _ _ (am_P 58).2 (16, [(0, .ref 1)], []) (HH (sf I 1 2 (0 : Int32)) J R T) _
  refine Z_ret rfl rfl rfl ?_
  exact ⟨rfl, rfl⟩
theorem c_isSound0 (h2 : I 1 2 = 0) : am_E sc (d + 1) 57 [.ref 1] (HH I J R T) (some (.int 0)) (HH I J R T) := by
  refine E_Z (Ze_of (Nat.le_of_ble_eq_true rfl) ?_)
  refine Z_jump 2 rfl ?_
  show Zs _ _ (am_P 57).2 (4, [(0, .ref 1)], [.int (I 1 2)]) (HH I J R T) _
  refine Z_eqI (h2) ?_
  show Zs _ _ (am_P 57).2 (4, [(0, .ref 1)], [.int (0 : Int32)]) (HH I J R T) _
  refine Z_jump 3 rfl ?_
  show Zs _ _ (am_P 57).2 (13, [(0, .ref 1)], [.int (0 : Int32)]) (HH I J R T) _
  refine Z_rI rfl (by first | exact am_nw0 _ | exact am_nw01 | rfl | assumption) ?_
  exact ⟨rfl, rfl⟩
theorem c_another0 {s : Int32} (h2 : I 1 2 = 0) : am_E sc (d + 2) 63 [.ref 1, .int s] (HH I J R T) (some (.int 0)) (HH I J R T) := by
  refine E_Z (Ze_of (Nat.le_of_ble_eq_true rfl) ?_)
  refine Z_jump 1 rfl ?_
  show Zs _ _ (am_P 63).2 (1, [(0, .ref 1), (1, .int s)], [.ref 1]) (HH I J R T) _
  refine Z_c1 rfl rfl rfl (c_isSound0 h2) ?_
  show Zs _ _ (am_P 63).2 (4, [(0, .ref 1), (1, .int s)], [.int (0 : Int32)]) (HH I J R T) _
  refine Z_jump 2 rfl ?_
  show Zs _ _ (am_P 63).2 (15, [(0, .ref 1), (1, .int s)], [.int (0 : Int32)]) (HH I J R T) _
  refine Z_rI rfl (by first | exact am_nw0 _ | exact am_nw01 | rfl | assumption) ?_
  exact ⟨rfl, rfl⟩
theorem c_kindTold0 (h3 : I 1 3 = 0) (h4 : I 1 4 = 0) : am_E sc (d + 5) 8 [.ref 1] (HH I J R T) (some (.int (-1))) (HH I J R T) := by
  refine E_Z (Ze_of (Nat.le_of_ble_eq_true rfl) ?_)
  refine Z_jump 2 rfl ?_
  show Zs _ _ (am_P 8).2 (3, [(0, .ref 1)], [.retAddr 3, .ref 1]) (HH I J R T) _
  refine Z_c1 rfl rfl rfl (c_isWord0_3 h3 h4) ?_
  show Zs _ _ (am_P 8).2 (6, [(0, .ref 1)], [.int (0 : Int32)]) (HH I J R T) _
  refine Z_jump 3 rfl ?_
  show Zs _ _ (am_P 8).2 (14, [(0, .ref 1)], [.retAddr 4, .ref 1]) (HH I J R T) _
  refine Z_c1 rfl rfl rfl (c_isWord0_4 h3 h4) ?_
  show Zs _ _ (am_P 8).2 (17, [(0, .ref 1)], [.int (0 : Int32)]) (HH I J R T) _
  refine Z_jump 3 rfl ?_
  show Zs _ _ (am_P 8).2 (25, [(0, .ref 1)], [.retAddr 5, .ref 1]) (HH I J R T) _
  refine Z_c1 rfl rfl rfl (c_isWord0_5 h3 h4) ?_
  show Zs _ _ (am_P 8).2 (28, [(0, .ref 1)], [.int (0 : Int32)]) (HH I J R T) _
  refine Z_jump 3 rfl ?_
  show Zs _ _ (am_P 8).2 (36, [(0, .ref 1)], [.retAddr 6, .ref 1]) (HH I J R T) _
  refine Z_c1 rfl rfl rfl (c_isWord0_6 h3 h4) ?_
  show Zs _ _ (am_P 8).2 (39, [(0, .ref 1)], [.int (0 : Int32)]) (HH I J R T) _
  refine Z_jump 2 rfl ?_
  show Zs _ _ (am_P 8).2 (47, [(0, .ref 1)], [.int (-1 : Int32)]) (HH I J R T) _
  refine Z_rI rfl (by first | exact am_nw0 _ | exact am_nw01 | rfl | assumption) ?_
  exact ⟨rfl, rfl⟩
theorem c_verbTold0 (h3 : I 1 3 = 0) (h4 : I 1 4 = 0) : am_E sc (d + 5) 44 [.ref 1] (HH I J R T) (some (.int (-1))) (HH I J R T) := by
  refine E_Z (Ze_of (Nat.le_of_ble_eq_true rfl) ?_)
  refine Z_jump 2 rfl ?_
  show Zs _ _ (am_P 44).2 (3, [(0, .ref 1)], [.retAddr 7, .ref 1]) (HH I J R T) _
  refine Z_c1 rfl rfl rfl (c_isWord0_7 h3 h4) ?_
  show Zs _ _ (am_P 44).2 (6, [(0, .ref 1)], [.int (0 : Int32)]) (HH I J R T) _
  refine Z_jump 3 rfl ?_
  show Zs _ _ (am_P 44).2 (14, [(0, .ref 1)], [.retAddr 8, .ref 1]) (HH I J R T) _
  refine Z_c1 rfl rfl rfl (c_isWord0_8 h3 h4) ?_
  show Zs _ _ (am_P 44).2 (17, [(0, .ref 1)], [.int (0 : Int32)]) (HH I J R T) _
  refine Z_jump 3 rfl ?_
  show Zs _ _ (am_P 44).2 (25, [(0, .ref 1)], [.retAddr 9, .ref 1]) (HH I J R T) _
  refine Z_c1 rfl rfl rfl (c_isWord0_9 h3 h4) ?_
  show Zs _ _ (am_P 44).2 (28, [(0, .ref 1)], [.int (0 : Int32)]) (HH I J R T) _
  refine Z_jump 3 rfl ?_
  show Zs _ _ (am_P 44).2 (36, [(0, .ref 1)], [.retAddr 10, .ref 1]) (HH I J R T) _
  refine Z_c1 rfl rfl rfl (c_isWord0_10 h3 h4) ?_
  show Zs _ _ (am_P 44).2 (39, [(0, .ref 1)], [.int (0 : Int32)]) (HH I J R T) _
  refine Z_jump 3 rfl ?_
  show Zs _ _ (am_P 44).2 (47, [(0, .ref 1)], [.retAddr 11, .ref 1]) (HH I J R T) _
  refine Z_c1 rfl rfl rfl (c_isWord0_11 h3 h4) ?_
  show Zs _ _ (am_P 44).2 (50, [(0, .ref 1)], [.int (0 : Int32)]) (HH I J R T) _
  refine Z_jump 2 rfl ?_
  show Zs _ _ (am_P 44).2 (58, [(0, .ref 1)], [.int (-1 : Int32)]) (HH I J R T) _
  refine Z_rI rfl (by first | exact am_nw0 _ | exact am_nw01 | rfl | assumption) ?_
  exact ⟨rfl, rfl⟩
theorem c_readRod0 (h2 : I 1 2 = -1) (h3 : I 1 3 = 0) : am_E sc (d + 2) 9 [.ref 20, .ref 1, .int (-1)] (HH I J R T) none (HH (sf I 1 2 0) J R T) := by
  refine E_Z (Ze_of (Nat.le_of_ble_eq_true rfl) ?_)
  refine Z_jump 4 rfl ?_
  show Zs _ _ (am_P 9).2 (18, [(0, .ref 20), (1, .ref 1), (2, .int (-1 : Int32))], [.ref 1]) (HH I J R T) _
  refine Z_c0 rfl rfl rfl (c_fail0 h2 h3) ?_
  show Zs _ _ (am_P 9).2 (21, [(0, .ref 20), (1, .ref 1), (2, .int (-1 : Int32))], []) (HH (sf I 1 2 0) J R T) _
  show Zs _ _ (am_P 9).2 (21, [(0, .ref 20), (1, .ref 1), (2, .int (-1 : Int32))], []) (HH (sf I 1 2 0) J R T) _
  refine Z_ret rfl rfl rfl ?_
  exact ⟨rfl, rfl⟩
theorem c_readClause0 (h2 : I 1 2 = -1) (h3 : I 1 3 = 0) (h4 : I 1 4 = 0) : am_E sc (d + 6) 7 [.ref 20, .ref 1] (HH I J R T) none (HH (sf I 1 2 0) J R T) := by
  refine E_Z (Ze_of (Nat.le_of_ble_eq_true rfl) ?_)
  refine Z_jump 2 rfl ?_
  show Zs _ _ (am_P 7).2 (3, [(0, .ref 20), (1, .ref 1)], [.retAddr 1, .ref 1]) (HH I J R T) _
  refine Z_c1 rfl rfl rfl (c_isWord0_1 h3 h4) ?_
  show Zs _ _ (am_P 7).2 (6, [(0, .ref 20), (1, .ref 1)], [.int (0 : Int32)]) (HH I J R T) _
  refine Z_jump 3 rfl ?_
  show Zs _ _ (am_P 7).2 (29, [(0, .ref 20), (1, .ref 1)], [.retAddr 2, .ref 1]) (HH I J R T) _
  refine Z_c1 rfl rfl rfl (c_isWord0_2 h3 h4) ?_
  show Zs _ _ (am_P 7).2 (32, [(0, .ref 20), (1, .ref 1)], [.int (0 : Int32)]) (HH I J R T) _
  refine Z_jump 4 rfl ?_
  show Zs _ _ (am_P 7).2 (87, [(0, .ref 20), (1, .ref 1)], [.ref 1, .ref 1, .ref 20]) (HH I J R T) _
  refine Z_c1 rfl rfl rfl (c_kindTold0 h3 h4) ?_
  show Zs _ _ (am_P 7).2 (90, [(0, .ref 20), (1, .ref 1)], [.int (-1 : Int32), .ref 1, .ref 20]) (HH I J R T) _
  show Zs _ _ (am_P 7).2 (90, [(0, .ref 20), (1, .ref 1)], [.int (-1 : Int32), .ref 1, .ref 20]) (HH I J R T) _
  refine Z_c0 rfl rfl rfl (c_readRod0 h2 h3) ?_
  show Zs _ _ (am_P 7).2 (93, [(0, .ref 20), (1, .ref 1)], []) (HH (sf I 1 2 0) J R T) _
  show Zs _ _ (am_P 7).2 (93, [(0, .ref 20), (1, .ref 1)], []) (HH (sf I 1 2 0) J R T) _
  refine Z_ret rfl rfl rfl ?_
  exact ⟨rfl, rfl⟩
def C_bg (I : hI) : hI := sf (sf (sf (sf (sf I 1 2 (-1)) 1 4 0) 1 3 0) 1 5 0) 1 4 0
theorem c_read0 (h1 : I 1 1 = 0) : am_E sc (d + 7) 6 [.ref 20, .ref 1] (HH I J R T) (some (.int 1)) (HH (sf (C_bg I) 1 2 0) J R T) := by
  refine E_Z (Ze_of (Nat.le_of_ble_eq_true rfl) ?_)
  refine Z_jump 1 rfl ?_
  show Zs _ _ (am_P 6).2 (1, [(0, .ref 20), (1, .ref 1)], [.ref 1]) (HH I J R T) _
  refine Z_c0 rfl rfl rfl (c_begin0 h1) ?_
  show Zs _ _ (am_P 6).2 (4, [(0, .ref 20), (1, .ref 1)], []) (HH (C_bg I) J R T) _
  refine Z_jump 11 rfl ?_
  show Zs _ _ (am_P 6).2 (20, [(0, .ref 20), (1, .ref 1), (2, .int (0 : Int32)), (3, .int (1 : Int32))], [.ref 1, .ref 20]) (HH (C_bg I) J R T) _
  refine Z_c0 rfl rfl rfl (c_readClause0 rfl rfl rfl) ?_
  show Zs _ _ (am_P 6).2 (23, [(0, .ref 20), (1, .ref 1), (2, .int (0 : Int32)), (3, .int (1 : Int32))], []) (HH (sf (C_bg I) 1 2 0) J R T) _
  refine Z_jump 3 rfl ?_
  show Zs _ _ (am_P 6).2 (28, [(0, .ref 20), (1, .ref 1), (2, .int (1 : Int32)), (3, .int (1 : Int32))], [.int (1 : Int32), .ref 1]) (HH (sf (C_bg I) 1 2 0) J R T) _
  refine Z_c1 rfl rfl rfl (c_another0 rfl) ?_
  show Zs _ _ (am_P 6).2 (31, [(0, .ref 20), (1, .ref 1), (2, .int (1 : Int32)), (3, .int (1 : Int32))], [.int (0 : Int32)]) (HH (sf (C_bg I) 1 2 0) J R T) _
  refine Z_jump 5 rfl ?_
  show Zs _ _ (am_P 6).2 (36, [(0, .ref 20), (1, .ref 1), (2, .int (1 : Int32)), (3, .int (0 : Int32))], [.int (1 : Int32)]) (HH (sf (C_bg I) 1 2 0) J R T) _
  refine Z_rI rfl (by first | exact am_nw0 _ | exact am_nw01 | rfl | assumption) ?_
  exact ⟨rfl, rfl⟩
theorem c_frameCopy0 (hn : I 18 1 = 0) : Ze sc (d + 2) 5 [.ref 20, .ref 18] (HH I J R T) (fun r h => r = none ∧ ∃ I' R', h = HH I' J R' T ∧ ∀ c, c ≠ 20 → I' c = I c) := by
  refine Ze_of (Nat.le_of_ble_eq_true rfl) ?_
  refine Z_jump 6 rfl ?_
  show Zs _ _ (am_P 5).2 (8, [(0, .ref 20), (1, .ref 18), (2, .int (0 : Int32))], [.int (6 : Int32), .int (0 : Int32)]) (HH I J R T) _
  refine Z_jump 6 rfl ?_
  show Zs _ _ (am_P 5).2 (18, [(0, .ref 20), (1, .ref 18), (2, .int (0 : Int32))], [.int (0 : Int32), .ref 18, .int (0 : Int32), .ref 21]) (HH I J R T) _
  refine Z_c1 rfl rfl rfl (c_rodAt_no (n := 0) hn (by omega) (by omega)) ?_
  show Zs _ _ (am_P 5).2 (21, [(0, .ref 20), (1, .ref 18), (2, .int (0 : Int32))], [.null, .int (0 : Int32), .ref 21]) (HH I J R T) _
  show Zs _ _ (am_P 5).2 (21, [(0, .ref 20), (1, .ref 18), (2, .int (0 : Int32))], [.null, .int (0 : Int32), .ref 21]) (HH I J R T) _
  refine Z_aasN (0) rfl rfl (by decide) (rfl) (by omega) (by decide) ?_
  show Zs _ _ (am_P 5).2 (22, [(0, .ref 20), (1, .ref 18), (2, .int (0 : Int32))], []) (HH I J (sr R 21 0 none) T) _
  refine Z_jump 6 rfl ?_
  show Zs _ _ (am_P 5).2 (8, [(0, .ref 20), (1, .ref 18), (2, .int (1 : Int32))], [.int (6 : Int32), .int (1 : Int32)]) (HH I J (sr R 21 0 none) T) _
  refine Z_jump 6 rfl ?_
  show Zs _ _ (am_P 5).2 (18, [(0, .ref 20), (1, .ref 18), (2, .int (1 : Int32))], [.int (1 : Int32), .ref 18, .int (1 : Int32), .ref 21]) (HH I J (sr R 21 0 none) T) _
  refine Z_c1 rfl rfl rfl (c_rodAt_no (n := 0) hn (by omega) (by omega)) ?_
  show Zs _ _ (am_P 5).2 (21, [(0, .ref 20), (1, .ref 18), (2, .int (1 : Int32))], [.null, .int (1 : Int32), .ref 21]) (HH I J (sr R 21 0 none) T) _
  show Zs _ _ (am_P 5).2 (21, [(0, .ref 20), (1, .ref 18), (2, .int (1 : Int32))], [.null, .int (1 : Int32), .ref 21]) (HH I J (sr R 21 0 none) T) _
  refine Z_aasN (1) rfl rfl (by decide) (rfl) (by omega) (by decide) ?_
  show Zs _ _ (am_P 5).2 (22, [(0, .ref 20), (1, .ref 18), (2, .int (1 : Int32))], []) (HH I J (sr (sr R 21 0 none) 21 1 none) T) _
  refine Z_jump 6 rfl ?_
  show Zs _ _ (am_P 5).2 (8, [(0, .ref 20), (1, .ref 18), (2, .int (2 : Int32))], [.int (6 : Int32), .int (2 : Int32)]) (HH I J (sr (sr R 21 0 none) 21 1 none) T) _
  refine Z_jump 6 rfl ?_
  show Zs _ _ (am_P 5).2 (18, [(0, .ref 20), (1, .ref 18), (2, .int (2 : Int32))], [.int (2 : Int32), .ref 18, .int (2 : Int32), .ref 21]) (HH I J (sr (sr R 21 0 none) 21 1 none) T) _
  refine Z_c1 rfl rfl rfl (c_rodAt_no (n := 0) hn (by omega) (by omega)) ?_
  show Zs _ _ (am_P 5).2 (21, [(0, .ref 20), (1, .ref 18), (2, .int (2 : Int32))], [.null, .int (2 : Int32), .ref 21]) (HH I J (sr (sr R 21 0 none) 21 1 none) T) _
  show Zs _ _ (am_P 5).2 (21, [(0, .ref 20), (1, .ref 18), (2, .int (2 : Int32))], [.null, .int (2 : Int32), .ref 21]) (HH I J (sr (sr R 21 0 none) 21 1 none) T) _
  refine Z_aasN (2) rfl rfl (by decide) (rfl) (by omega) (by decide) ?_
  show Zs _ _ (am_P 5).2 (22, [(0, .ref 20), (1, .ref 18), (2, .int (2 : Int32))], []) (HH I J (sr (sr (sr R 21 0 none) 21 1 none) 21 2 none) T) _
  refine Z_jump 6 rfl ?_
  show Zs _ _ (am_P 5).2 (8, [(0, .ref 20), (1, .ref 18), (2, .int (3 : Int32))], [.int (6 : Int32), .int (3 : Int32)]) (HH I J (sr (sr (sr R 21 0 none) 21 1 none) 21 2 none) T) _
  refine Z_jump 6 rfl ?_
  show Zs _ _ (am_P 5).2 (18, [(0, .ref 20), (1, .ref 18), (2, .int (3 : Int32))], [.int (3 : Int32), .ref 18, .int (3 : Int32), .ref 21]) (HH I J (sr (sr (sr R 21 0 none) 21 1 none) 21 2 none) T) _
  refine Z_c1 rfl rfl rfl (c_rodAt_no (n := 0) hn (by omega) (by omega)) ?_
  show Zs _ _ (am_P 5).2 (21, [(0, .ref 20), (1, .ref 18), (2, .int (3 : Int32))], [.null, .int (3 : Int32), .ref 21]) (HH I J (sr (sr (sr R 21 0 none) 21 1 none) 21 2 none) T) _
  show Zs _ _ (am_P 5).2 (21, [(0, .ref 20), (1, .ref 18), (2, .int (3 : Int32))], [.null, .int (3 : Int32), .ref 21]) (HH I J (sr (sr (sr R 21 0 none) 21 1 none) 21 2 none) T) _
  refine Z_aasN (3) rfl rfl (by decide) (rfl) (by omega) (by decide) ?_
  show Zs _ _ (am_P 5).2 (22, [(0, .ref 20), (1, .ref 18), (2, .int (3 : Int32))], []) (HH I J (sr (sr (sr (sr R 21 0 none) 21 1 none) 21 2 none) 21 3 none) T) _
  refine Z_jump 6 rfl ?_
  show Zs _ _ (am_P 5).2 (8, [(0, .ref 20), (1, .ref 18), (2, .int (4 : Int32))], [.int (6 : Int32), .int (4 : Int32)]) (HH I J (sr (sr (sr (sr R 21 0 none) 21 1 none) 21 2 none) 21 3 none) T) _
  refine Z_jump 6 rfl ?_
  show Zs _ _ (am_P 5).2 (18, [(0, .ref 20), (1, .ref 18), (2, .int (4 : Int32))], [.int (4 : Int32), .ref 18, .int (4 : Int32), .ref 21]) (HH I J (sr (sr (sr (sr R 21 0 none) 21 1 none) 21 2 none) 21 3 none) T) _
  refine Z_c1 rfl rfl rfl (c_rodAt_no (n := 0) hn (by omega) (by omega)) ?_
  show Zs _ _ (am_P 5).2 (21, [(0, .ref 20), (1, .ref 18), (2, .int (4 : Int32))], [.null, .int (4 : Int32), .ref 21]) (HH I J (sr (sr (sr (sr R 21 0 none) 21 1 none) 21 2 none) 21 3 none) T) _
  show Zs _ _ (am_P 5).2 (21, [(0, .ref 20), (1, .ref 18), (2, .int (4 : Int32))], [.null, .int (4 : Int32), .ref 21]) (HH I J (sr (sr (sr (sr R 21 0 none) 21 1 none) 21 2 none) 21 3 none) T) _
  refine Z_aasN (4) rfl rfl (by decide) (rfl) (by omega) (by decide) ?_
  show Zs _ _ (am_P 5).2 (22, [(0, .ref 20), (1, .ref 18), (2, .int (4 : Int32))], []) (HH I J (sr (sr (sr (sr (sr R 21 0 none) 21 1 none) 21 2 none) 21 3 none) 21 4 none) T) _
  refine Z_jump 6 rfl ?_
  show Zs _ _ (am_P 5).2 (8, [(0, .ref 20), (1, .ref 18), (2, .int (5 : Int32))], [.int (6 : Int32), .int (5 : Int32)]) (HH I J (sr (sr (sr (sr (sr R 21 0 none) 21 1 none) 21 2 none) 21 3 none) 21 4 none) T) _
  refine Z_jump 6 rfl ?_
  show Zs _ _ (am_P 5).2 (18, [(0, .ref 20), (1, .ref 18), (2, .int (5 : Int32))], [.int (5 : Int32), .ref 18, .int (5 : Int32), .ref 21]) (HH I J (sr (sr (sr (sr (sr R 21 0 none) 21 1 none) 21 2 none) 21 3 none) 21 4 none) T) _
  refine Z_c1 rfl rfl rfl (c_rodAt_no (n := 0) hn (by omega) (by omega)) ?_
  show Zs _ _ (am_P 5).2 (21, [(0, .ref 20), (1, .ref 18), (2, .int (5 : Int32))], [.null, .int (5 : Int32), .ref 21]) (HH I J (sr (sr (sr (sr (sr R 21 0 none) 21 1 none) 21 2 none) 21 3 none) 21 4 none) T) _
  show Zs _ _ (am_P 5).2 (21, [(0, .ref 20), (1, .ref 18), (2, .int (5 : Int32))], [.null, .int (5 : Int32), .ref 21]) (HH I J (sr (sr (sr (sr (sr R 21 0 none) 21 1 none) 21 2 none) 21 3 none) 21 4 none) T) _
  refine Z_aasN (5) rfl rfl (by decide) (rfl) (by omega) (by decide) ?_
  show Zs _ _ (am_P 5).2 (22, [(0, .ref 20), (1, .ref 18), (2, .int (5 : Int32))], []) (HH I J (sr (sr (sr (sr (sr (sr R 21 0 none) 21 1 none) 21 2 none) 21 3 none) 21 4 none) 21 5 none) T) _
  refine Z_jump 6 rfl ?_
  show Zs _ _ (am_P 5).2 (8, [(0, .ref 20), (1, .ref 18), (2, .int (6 : Int32))], [.int (6 : Int32), .int (6 : Int32)]) (HH I J (sr (sr (sr (sr (sr (sr R 21 0 none) 21 1 none) 21 2 none) 21 3 none) 21 4 none) 21 5 none) T) _
  refine Z_jump 5 rfl ?_
  show Zs _ _ (am_P 5).2 (36, [(0, .ref 20), (1, .ref 18), (2, .int (6 : Int32))], []) (HH (sf I 20 1 (I 18 1)) J (sr (sr (sr (sr (sr (sr R 21 0 none) 21 1 none) 21 2 none) 21 3 none) 21 4 none) 21 5 none) T) _
  refine Z_jump 4 rfl ?_
  show Zs _ _ (am_P 5).2 (44, [(0, .ref 20), (1, .ref 18), (2, .int (6 : Int32))], []) (HH (sf (sf I 20 1 (I 18 1)) 20 2 (I 18 2)) J (sr (sr (sr (sr (sr (sr R 21 0 none) 21 1 none) 21 2 none) 21 3 none) 21 4 none) 21 5 none) T) _
  show Zs _ _ (am_P 5).2 (44, [(0, .ref 20), (1, .ref 18), (2, .int (6 : Int32))], []) (HH (sf (sf I 20 1 (I 18 1)) 20 2 (I 18 2)) J (sr (sr (sr (sr (sr (sr R 21 0 none) 21 1 none) 21 2 none) 21 3 none) 21 4 none) 21 5 none) T) _
  refine Z_ret rfl rfl rfl ?_
  exact ⟨rfl, _, _, rfl, fun c hc => by rw [sf_c hc, sf_c hc]⟩
theorem c_readDraft0 (hn : I 18 1 = 0) (h1 : I 1 1 = 0) : Ze sc (d + 8) 124 [.ref 0] (HH I J R T) (fun r h => r = some (.int 1) ∧ ∃ I' R', h = HH I' J R' T ∧ I' 1 2 = 0 ∧ ∀ c, 73 ≤ c → I' c = I c) := by
  refine Ze_of (Nat.le_of_ble_eq_true rfl) ?_
  refine Z_jump 4 rfl ?_
  show Zs _ _ (am_P 124).2 (8, [(0, .ref 0)], [.ref 18, .ref 20]) (HH I J R T) _
  refine Z_cQ rfl rfl rfl (Ze_deep (d := 2) (by omega) (c_frameCopy0 (d := 0) hn)) (fun v h1 hq => ?_)
  obtain ⟨rfl, I1, R1, rfl, hI1⟩ := hq
  show Zs _ _ (am_P 124).2 (11, [(0, .ref 0)], []) (HH I1 J R1 T) _
  refine Z_jump 4 rfl ?_
  show Zs _ _ (am_P 124).2 (19, [(0, .ref 0)], [.ref 1, .ref 20]) (HH I1 J R1 T) _
  refine Z_c1 rfl rfl rfl (c_read0 ((congrFun (hI1 1 (by decide)) 1).trans h1)) ?_
  show Zs _ _ (am_P 124).2 (22, [(0, .ref 0)], [.int (1 : Int32)]) (HH (sf (C_bg I1) 1 2 0) J R1 T) _
  show Zs _ _ (am_P 124).2 (22, [(0, .ref 0)], [.int (1 : Int32)]) (HH (sf (C_bg I1) 1 2 0) J R1 T) _
  refine Z_rI rfl (by first | exact am_nw0 _ | exact am_nw01 | rfl | assumption) ?_
  refine ⟨rfl, _, R1, rfl, rfl, fun c hc => ?_⟩
  unfold C_bg
  rw [sf_c (by omega), sf_c (by omega), sf_c (by omega), sf_c (by omega), sf_c (by omega), sf_c (by omega), hI1 c (by omega)]
theorem c_readStatement0 {n : Int32} (h2 : I 1 2 = -1) (h3 : I 1 3 = 0) (h4 : I 1 4 = 0) : am_E sc (d + 6) 43 [.ref 3, .ref 1, .int n, .long 0] (HH I J R T) none (HH (sf (sf (sf I 3 2 1) 3 0 (-1)) 1 2 0) (sl (sl J 3 3 0) 3 1 0) R T) := by
  refine E_Z (Ze_of (Nat.le_of_ble_eq_true rfl) ?_)
  refine Z_jump 3 rfl ?_
  show Zs _ _ (am_P 43).2 (5, [(0, .ref 3), (1, .ref 1), (2, .int n), (3, .long (0 : Int64))], []) (HH I (sl J 3 3 (0 : Int64)) R T) _
  refine Z_jump 3 rfl ?_
  show Zs _ _ (am_P 43).2 (10, [(0, .ref 3), (1, .ref 1), (2, .int n), (3, .long (0 : Int64))], []) (HH I (sl (sl J 3 3 (0 : Int64)) 3 1 (0 : Int64)) R T) _
  refine Z_jump 3 rfl ?_
  show Zs _ _ (am_P 43).2 (15, [(0, .ref 3), (1, .ref 1), (2, .int n), (3, .long (0 : Int64))], []) (HH (sf I 3 2 (1 : Int32)) (sl (sl J 3 3 (0 : Int64)) 3 1 (0 : Int64)) R T) _
  refine Z_jump 2 rfl ?_
  show Zs _ _ (am_P 43).2 (17, [(0, .ref 3), (1, .ref 1), (2, .int n), (3, .long (0 : Int64))], [.ref 1, .ref 3]) (HH (sf I 3 2 (1 : Int32)) (sl (sl J 3 3 (0 : Int64)) 3 1 (0 : Int64)) R T) _
  refine Z_c1 rfl rfl rfl (c_verbTold0 h3 h4) ?_
  show Zs _ _ (am_P 43).2 (20, [(0, .ref 3), (1, .ref 1), (2, .int n), (3, .long (0 : Int64))], [.int (-1 : Int32), .ref 3]) (HH (sf I 3 2 (1 : Int32)) (sl (sl J 3 3 (0 : Int64)) 3 1 (0 : Int64)) R T) _
  refine Z_jump 1 rfl ?_
  show Zs _ _ (am_P 43).2 (23, [(0, .ref 3), (1, .ref 1), (2, .int n), (3, .long (0 : Int64))], []) (HH (sf (sf I 3 2 (1 : Int32)) 3 0 (-1 : Int32)) (sl (sl J 3 3 (0 : Int64)) 3 1 (0 : Int64)) R T) _
  refine Z_jump 5 rfl ?_
  show Zs _ _ (am_P 43).2 (32, [(0, .ref 3), (1, .ref 1), (2, .int n), (3, .long (0 : Int64))], [.ref 1]) (HH (sf (sf I 3 2 (1 : Int32)) 3 0 (-1 : Int32)) (sl (sl J 3 3 (0 : Int64)) 3 1 (0 : Int64)) R T) _
  refine Z_c0 rfl rfl rfl (c_fail0 h2 h3) ?_
  show Zs _ _ (am_P 43).2 (35, [(0, .ref 3), (1, .ref 1), (2, .int n), (3, .long (0 : Int64))], []) (HH (sf (sf (sf I 3 2 (1 : Int32)) 3 0 (-1 : Int32)) 1 2 0) (sl (sl J 3 3 (0 : Int64)) 3 1 (0 : Int64)) R T) _
  show Zs _ _ (am_P 43).2 (35, [(0, .ref 3), (1, .ref 1), (2, .int n), (3, .long (0 : Int64))], []) (HH (sf (sf (sf I 3 2 (1 : Int32)) 3 0 (-1 : Int32)) 1 2 0) (sl (sl J 3 3 (0 : Int64)) 3 1 (0 : Int64)) R T) _
  refine Z_ret rfl rfl rfl ?_
  exact ⟨rfl, rfl⟩
theorem c_check0 {n : Int32} (h1 : I 1 1 = 0) : Ze sc (d + 7) 42 [.ref 3, .ref 1, .int n] (HH I J R T) (C0p (.int 0) I J T) := by
  refine Ze_of (Nat.le_of_ble_eq_true rfl) ?_
  refine Z_jump 1 rfl ?_
  show Zs _ _ (am_P 42).2 (1, [(0, .ref 3), (1, .ref 1), (2, .int n)], [.ref 1]) (HH I J R T) _
  refine Z_c0 rfl rfl rfl (c_begin0 h1) ?_
  show Zs _ _ (am_P 42).2 (4, [(0, .ref 3), (1, .ref 1), (2, .int n)], []) (HH (C_bg I) J R T) _
  refine Z_jump 13 rfl ?_
  show Zs _ _ (am_P 42).2 (24, [(0, .ref 3), (1, .ref 1), (2, .int n), (3, .int (0 : Int32)), (4, .int (1 : Int32))], [.long (0 : Int64), .int n, .ref 1, .ref 3]) (HH (C_bg I) J R T) _
  refine Z_c0 rfl rfl rfl (c_readStatement0 (I := C_bg I) rfl rfl rfl) ?_
  show Zs _ _ (am_P 42).2 (27, [(0, .ref 3), (1, .ref 1), (2, .int n), (3, .int (0 : Int32)), (4, .int (1 : Int32))], []) (HH (sf (sf (sf (C_bg I) 3 2 1) 3 0 (-1)) 1 2 0) (sl (sl J 3 3 0) 3 1 0) R T) _
  refine Z_jump 3 rfl ?_
  show Zs _ _ (am_P 42).2 (32, [(0, .ref 3), (1, .ref 1), (2, .int n), (3, .int (1 : Int32)), (4, .int (1 : Int32))], [.int (1 : Int32), .ref 1]) (HH (sf (sf (sf (C_bg I) 3 2 1) 3 0 (-1)) 1 2 0) (sl (sl J 3 3 0) 3 1 0) R T) _
  refine Z_c1 rfl rfl rfl (c_another0 rfl) ?_
  show Zs _ _ (am_P 42).2 (35, [(0, .ref 3), (1, .ref 1), (2, .int n), (3, .int (1 : Int32)), (4, .int (1 : Int32))], [.int (0 : Int32)]) (HH (sf (sf (sf (C_bg I) 3 2 1) 3 0 (-1)) 1 2 0) (sl (sl J 3 3 0) 3 1 0) R T) _
  refine Z_jump 6 rfl ?_
  show Zs _ _ (am_P 42).2 (44, [(0, .ref 3), (1, .ref 1), (2, .int n), (3, .int (1 : Int32)), (4, .int (0 : Int32))], [.int ((sf (sf (sf (C_bg I) 3 2 1) 3 0 (-1)) 1 2 0) 1 2)]) (HH (sf (sf (sf (C_bg I) 3 2 1) 3 0 (-1)) 1 2 0) (sl (sl J 3 3 0) 3 1 0) R T) _
  refine Z_rI rfl (by first | exact am_nw0 _ | exact am_nw01 | rfl | assumption) ?_
  refine ⟨rfl, _, _, R, rfl, fun c hc => ?_, fun c hc => by rw [sl_c (by omega), sl_c (by omega)]⟩
  unfold C_bg
  rw [sf_c (by omega), sf_c (by omega), sf_c (by omega), sf_c (by omega), sf_c (by omega), sf_c (by omega), sf_c (by omega), sf_c (by omega)]
theorem c_fault0 {w : Int32} (hn : I 18 1 = 0) (h1 : I 1 1 = 0) : Ze sc (d + 9) 93 [.ref 0, .int w] (HH I J R T) (C0p (.int (if M_01 w then 0 else -3)) I J T) := by
  refine Ze_of (Nat.le_of_ble_eq_true rfl) ?_
  by_cases hb : M_01 w
  · rw [if_pos hb]
    rcases bit_c hb with rfl | rfl
    · refine Z_jump 3 rfl ?_
      show Zs _ _ (am_P 93).2 (5, [(0, .ref 0), (1, .int (0 : Int32))], [.ref 0]) (HH I J R T) _
      refine Z_cQ rfl rfl rfl (c_readDraft0 hn h1) (fun v h1 hq => ?_)
      obtain ⟨rfl, I1, R1, rfl, h2, hI1⟩ := hq
      show Zs _ _ (am_P 93).2 (8, [(0, .ref 0), (1, .int (0 : Int32))], [.int (1 : Int32)]) (HH I1 J R1 T) _
      refine Z_jump 4 rfl ?_
      show Zs _ _ (am_P 93).2 (16, [(0, .ref 0), (1, .int (0 : Int32))], [.int (I1 1 2)]) (HH I1 J R1 T) _
      refine Z_rI rfl (by first | exact am_nw0 _ | exact am_nw01 | rfl | assumption) ?_
      exact ⟨am_ii h2, I1, J, R1, rfl, hI1, fun _ _ => rfl⟩
    · refine Z_jump 12 rfl ?_
      show Zs _ _ (am_P 93).2 (37, [(0, .ref 0), (1, .int (1 : Int32))], [.int (I 18 1), .ref 1, .ref 3]) (HH I J R T) _
      refine Z_cQ rfl rfl rfl (Ze_deep (d := 7) (by omega) (c_check0 (d := 0) h1)) (fun v h1 hq => ?_)
      obtain ⟨rfl, I1, J1, R1, rfl, hI1, hJ1⟩ := hq
      show Zs _ _ (am_P 93).2 (40, [(0, .ref 0), (1, .int (1 : Int32))], [.int (0 : Int32)]) (HH I1 J1 R1 T) _
      refine Z_jump 1 rfl ?_
      show Zs _ _ (am_P 93).2 (45, [(0, .ref 0), (1, .int (1 : Int32))], [.int (0 : Int32)]) (HH I1 J1 R1 T) _
      refine Z_rI rfl (by first | exact am_nw0 _ | exact am_nw01 | rfl | assumption) ?_
      exact ⟨rfl, I1, J1, R1, rfl, hI1, hJ1⟩
  · rw [if_neg hb]
    have z0 : (0 : Int32).toInt = 0 := rfl
    have z1 : (1 : Int32).toInt = 1 := rfl
    refine Z_jump 2 rfl ?_
    refine Z_bn (fun c1 => ?_) (fun c1 => absurd c1 ((show ¬ w = 0 from fun z => by subst z; exact hb ⟨by decide, by decide⟩)))
    refine Z_jump 3 rfl ?_
    refine Z_bn (fun c19 => ?_) (fun c19 => absurd c19 ((show ¬ w = 1 from fun z => by subst z; exact hb ⟨by decide, by decide⟩)))
    refine Z_jump 1 rfl ?_
    show Zs _ _ (am_P 93).2 (45, [(0, .ref 0), (1, .int w)], [.int (-3 : Int32)]) (HH I J R T) _
    refine Z_rI rfl (by first | exact am_nw0 _ | exact am_nw01 | rfl | assumption) ?_
    exact C0p_c (fun _ _ => rfl)
theorem c_frame0 (hn : I 18 1 = 0) (h1 : I 1 1 = 0) : Ze sc (d + 9) 94 [.ref 0] (HH I J R T) (C0p (.int (-4)) I J T) := by
  refine Ze_of (Nat.le_of_ble_eq_true rfl) ?_
  refine Z_jump 1 rfl ?_
  show Zs _ _ (am_P 94).2 (1, [(0, .ref 0)], [.ref 0]) (HH I J R T) _
  refine Z_cQ rfl rfl rfl (c_readDraft0 hn h1) (fun v h1 hq => ?_)
  obtain ⟨rfl, I1, R1, rfl, h2, hI1⟩ := hq
  show Zs _ _ (am_P 94).2 (4, [(0, .ref 0)], [.int (1 : Int32)]) (HH I1 J R1 T) _
  refine Z_jump 4 rfl ?_
  show Zs _ _ (am_P 94).2 (12, [(0, .ref 0), (1, .int (1 : Int32))], [.int (I1 1 2)]) (HH I1 J R1 T) _
  refine Z_eqI (h2) ?_
  show Zs _ _ (am_P 94).2 (12, [(0, .ref 0), (1, .int (1 : Int32))], [.int (0 : Int32)]) (HH I1 J R1 T) _
  refine Z_jump 3 rfl ?_
  show Zs _ _ (am_P 94).2 (18, [(0, .ref 0), (1, .int (1 : Int32))], [.int (-4 : Int32)]) (HH I1 J R1 T) _
  refine Z_rI rfl (by first | exact am_nw0 _ | exact am_nw01 | rfl | assumption) ?_
  exact ⟨rfl, I1, J, R1, rfl, hI1, fun _ _ => rfl⟩
theorem c_run0 (h1 : I 1 1 = 0) : Ze sc (d + 8) 95 [.ref 0] (HH I J R T) (C0p (.int (-4)) I J T) := by
  refine Ze_of (Nat.le_of_ble_eq_true rfl) ?_
  refine Z_jump 7 rfl ?_
  show Zs _ _ (am_P 95).2 (15, [(0, .ref 0)], [.int (I 18 1), .ref 1, .ref 3]) (HH I J R T) _
  refine Z_cQ rfl rfl rfl (c_check0 h1) (fun v h1 hq => ?_)
  obtain ⟨rfl, I1, J1, R1, rfl, hI1, hJ1⟩ := hq
  show Zs _ _ (am_P 95).2 (18, [(0, .ref 0)], [.int (0 : Int32)]) (HH I1 J1 R1 T) _
  refine Z_jump 3 rfl ?_
  show Zs _ _ (am_P 95).2 (24, [(0, .ref 0)], [.int (-4 : Int32)]) (HH I1 J1 R1 T) _
  refine Z_rI rfl (by first | exact am_nw0 _ | exact am_nw01 | rfl | assumption) ?_
  exact ⟨rfl, I1, J1, R1, rfl, hI1, hJ1⟩
end C5

