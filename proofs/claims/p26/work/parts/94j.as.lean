/-! as, seen: the class and the reference. -/
abbrev und (kd kind : Nat) : Prop := kind = 0 ∨ (kind = 1 ∧ kd = 0) ∨ (kind = 2 ∧ kd ≠ 0) ∨ (kind = 3 ∧ kd = 2) ∨ (kind = 4 ∧ kd = 3)
/-- as(): what both answer -/
def asv (D : FD) (x k : Int32) : Int32 := if ¬ M_rod D.1 x then -2 else if ¬ (0 ≤ k.toInt ∧ k.toInt ≤ 4) then -3 else if und (D.2.1 x.toNatClampNeg).1 k.toNatClampNeg then nI (hwv (D.2.1 x.toNatClampNeg)) else -4
section ASS
variable {sc : Nat × (Nat → Int32)} {d : Nat} {I : hI} {J : hJ} {R : hR} {T : am_H} {h : am_H} {Q : Option Value → am_H → Prop} {code : List am_I}
theorem Z_ins {pc a ci idx len : Nat} {rs : List Nat} {cv : Value} {l : am_L} {st fs : List Value} (ha : am_at code pc = some (pc, .instanceof idx, len, rs, cv)) (hh : h[a]? = some (.inr (ci, fs))) (hc : ci = 0 ∨ ci = 2 ∨ ci = 3 ∨ ci = 4) (k : Zs sc d code (pc + 3, l, .int (bif rs.contains ci then 1 else 0) :: st) h Q) : Zs sc d code (pc, l, .ref a :: st) h Q := by
  refine Z_lift (fun _ _ => S_go ha ?_) k
  show am_ins pc rs l (.ref a :: st) h = _
  unfold am_ins
  dsimp only
  rw [hh]
  exact if_pos hc
theorem clsR {kd : Nat} (h : kd ≤ 3) : clsOf kd = 0 ∨ clsOf kd = 2 ∨ clsOf kd = 3 ∨ clsOf kd = 4 := by
  rcases kd_c h with rfl | rfl | rfl | rfl <;> decide
theorem k5_c {k : Int32} (h : 0 ≤ k.toInt ∧ k.toInt ≤ 4) : k = 0 ∨ k = 1 ∨ k = 2 ∨ k = 3 ∨ k = 4 := by
  obtain ⟨j, hj, e⟩ := nI_of (x := k) (by rw [fi_lt]; have := h.1; have z : (0 : Int32).toInt = 0 := rfl; omega)
  have h2 := h.2
  rw [e, nI_toInt hj] at h2
  rcases (show j = 0 ∨ j = 1 ∨ j = 2 ∨ j = 3 ∨ j = 4 by omega) with rfl | rfl | rfl | rfl | rfl
  · exact Or.inl e
  · exact Or.inr (Or.inl e)
  · exact Or.inr (Or.inr (Or.inl e))
  · exact Or.inr (Or.inr (Or.inr (Or.inl e)))
  · exact Or.inr (Or.inr (Or.inr (Or.inr e)))
theorem c_under0_0 {b l g r : Nat} (hL : (HH I J R T)[r]? = some (rodC (0, b, l, g))) : am_E sc (d + 1) 123 [.ref r, .int 0] (HH I J R T) (some (.int 1)) (HH I J R T) := by
  refine E_Z (Ze_of (Nat.le_of_ble_eq_true rfl) ?_)
  refine Z_jump 3 rfl ?_
  show Zs _ _ (am_P 123).2 (37, [(0, .ref r), (1, .int (0 : Int32))], [.int (1 : Int32)]) (HH I J R T) _
  refine Z_rI rfl (by first | exact am_nw0 _ | exact am_nw01 | rfl | assumption) ?_
  exact ⟨rfl, rfl⟩
theorem c_under0_1 {b l g r : Nat} (hL : (HH I J R T)[r]? = some (rodC (0, b, l, g))) : am_E sc (d + 1) 123 [.ref r, .int 1] (HH I J R T) (some (.int 1)) (HH I J R T) := by
  refine E_Z (Ze_of (Nat.le_of_ble_eq_true rfl) ?_)
  refine Z_jump 3 rfl ?_
  show Zs _ _ (am_P 123).2 (39, [(0, .ref r), (1, .int (1 : Int32))], [.ref r]) (HH I J R T) _
  refine Z_ins rfl (hL) (clsR (Nat.le_of_ble_eq_true rfl)) ?_
  show Zs _ _ (am_P 123).2 (42, [(0, .ref r), (1, .int (1 : Int32))], [.int (1 : Int32)]) (HH I J R T) _
  show Zs _ _ (am_P 123).2 (42, [(0, .ref r), (1, .int (1 : Int32))], [.int (1 : Int32)]) (HH I J R T) _
  refine Z_rI rfl (by first | exact am_nw0 _ | exact am_nw01 | rfl | assumption) ?_
  exact ⟨rfl, rfl⟩
theorem c_under0_2 {b l g r : Nat} (hL : (HH I J R T)[r]? = some (rodC (0, b, l, g))) : am_E sc (d + 1) 123 [.ref r, .int 2] (HH I J R T) (some (.int 0)) (HH I J R T) := by
  refine E_Z (Ze_of (Nat.le_of_ble_eq_true rfl) ?_)
  refine Z_jump 3 rfl ?_
  show Zs _ _ (am_P 123).2 (44, [(0, .ref r), (1, .int (2 : Int32))], [.ref r]) (HH I J R T) _
  refine Z_ins rfl (hL) (clsR (Nat.le_of_ble_eq_true rfl)) ?_
  show Zs _ _ (am_P 123).2 (47, [(0, .ref r), (1, .int (2 : Int32))], [.int (0 : Int32)]) (HH I J R T) _
  show Zs _ _ (am_P 123).2 (47, [(0, .ref r), (1, .int (2 : Int32))], [.int (0 : Int32)]) (HH I J R T) _
  refine Z_rI rfl (by first | exact am_nw0 _ | exact am_nw01 | rfl | assumption) ?_
  exact ⟨rfl, rfl⟩
theorem c_under0_3 {b l g r : Nat} (hL : (HH I J R T)[r]? = some (rodC (0, b, l, g))) : am_E sc (d + 1) 123 [.ref r, .int 3] (HH I J R T) (some (.int 0)) (HH I J R T) := by
  refine E_Z (Ze_of (Nat.le_of_ble_eq_true rfl) ?_)
  refine Z_jump 3 rfl ?_
  show Zs _ _ (am_P 123).2 (49, [(0, .ref r), (1, .int (3 : Int32))], [.ref r]) (HH I J R T) _
  refine Z_ins rfl (hL) (clsR (Nat.le_of_ble_eq_true rfl)) ?_
  show Zs _ _ (am_P 123).2 (52, [(0, .ref r), (1, .int (3 : Int32))], [.int (0 : Int32)]) (HH I J R T) _
  show Zs _ _ (am_P 123).2 (52, [(0, .ref r), (1, .int (3 : Int32))], [.int (0 : Int32)]) (HH I J R T) _
  refine Z_rI rfl (by first | exact am_nw0 _ | exact am_nw01 | rfl | assumption) ?_
  exact ⟨rfl, rfl⟩
theorem c_under0_4 {b l g r : Nat} (hL : (HH I J R T)[r]? = some (rodC (0, b, l, g))) : am_E sc (d + 1) 123 [.ref r, .int 4] (HH I J R T) (some (.int 0)) (HH I J R T) := by
  refine E_Z (Ze_of (Nat.le_of_ble_eq_true rfl) ?_)
  refine Z_jump 3 rfl ?_
  show Zs _ _ (am_P 123).2 (54, [(0, .ref r), (1, .int (4 : Int32))], [.ref r]) (HH I J R T) _
  refine Z_ins rfl (hL) (clsR (Nat.le_of_ble_eq_true rfl)) ?_
  show Zs _ _ (am_P 123).2 (57, [(0, .ref r), (1, .int (4 : Int32))], [.int (0 : Int32)]) (HH I J R T) _
  show Zs _ _ (am_P 123).2 (57, [(0, .ref r), (1, .int (4 : Int32))], [.int (0 : Int32)]) (HH I J R T) _
  refine Z_rI rfl (by first | exact am_nw0 _ | exact am_nw01 | rfl | assumption) ?_
  exact ⟨rfl, rfl⟩
theorem c_under1_0 {b l g r : Nat} (hL : (HH I J R T)[r]? = some (rodC (1, b, l, g))) : am_E sc (d + 1) 123 [.ref r, .int 0] (HH I J R T) (some (.int 1)) (HH I J R T) := by
  refine E_Z (Ze_of (Nat.le_of_ble_eq_true rfl) ?_)
  refine Z_jump 3 rfl ?_
  show Zs _ _ (am_P 123).2 (37, [(0, .ref r), (1, .int (0 : Int32))], [.int (1 : Int32)]) (HH I J R T) _
  refine Z_rI rfl (by first | exact am_nw0 _ | exact am_nw01 | rfl | assumption) ?_
  exact ⟨rfl, rfl⟩
theorem c_under1_1 {b l g r : Nat} (hL : (HH I J R T)[r]? = some (rodC (1, b, l, g))) : am_E sc (d + 1) 123 [.ref r, .int 1] (HH I J R T) (some (.int 0)) (HH I J R T) := by
  refine E_Z (Ze_of (Nat.le_of_ble_eq_true rfl) ?_)
  refine Z_jump 3 rfl ?_
  show Zs _ _ (am_P 123).2 (39, [(0, .ref r), (1, .int (1 : Int32))], [.ref r]) (HH I J R T) _
  refine Z_ins rfl (hL) (clsR (Nat.le_of_ble_eq_true rfl)) ?_
  show Zs _ _ (am_P 123).2 (42, [(0, .ref r), (1, .int (1 : Int32))], [.int (0 : Int32)]) (HH I J R T) _
  show Zs _ _ (am_P 123).2 (42, [(0, .ref r), (1, .int (1 : Int32))], [.int (0 : Int32)]) (HH I J R T) _
  refine Z_rI rfl (by first | exact am_nw0 _ | exact am_nw01 | rfl | assumption) ?_
  exact ⟨rfl, rfl⟩
theorem c_under1_2 {b l g r : Nat} (hL : (HH I J R T)[r]? = some (rodC (1, b, l, g))) : am_E sc (d + 1) 123 [.ref r, .int 2] (HH I J R T) (some (.int 1)) (HH I J R T) := by
  refine E_Z (Ze_of (Nat.le_of_ble_eq_true rfl) ?_)
  refine Z_jump 3 rfl ?_
  show Zs _ _ (am_P 123).2 (44, [(0, .ref r), (1, .int (2 : Int32))], [.ref r]) (HH I J R T) _
  refine Z_ins rfl (hL) (clsR (Nat.le_of_ble_eq_true rfl)) ?_
  show Zs _ _ (am_P 123).2 (47, [(0, .ref r), (1, .int (2 : Int32))], [.int (1 : Int32)]) (HH I J R T) _
  show Zs _ _ (am_P 123).2 (47, [(0, .ref r), (1, .int (2 : Int32))], [.int (1 : Int32)]) (HH I J R T) _
  refine Z_rI rfl (by first | exact am_nw0 _ | exact am_nw01 | rfl | assumption) ?_
  exact ⟨rfl, rfl⟩
theorem c_under1_3 {b l g r : Nat} (hL : (HH I J R T)[r]? = some (rodC (1, b, l, g))) : am_E sc (d + 1) 123 [.ref r, .int 3] (HH I J R T) (some (.int 0)) (HH I J R T) := by
  refine E_Z (Ze_of (Nat.le_of_ble_eq_true rfl) ?_)
  refine Z_jump 3 rfl ?_
  show Zs _ _ (am_P 123).2 (49, [(0, .ref r), (1, .int (3 : Int32))], [.ref r]) (HH I J R T) _
  refine Z_ins rfl (hL) (clsR (Nat.le_of_ble_eq_true rfl)) ?_
  show Zs _ _ (am_P 123).2 (52, [(0, .ref r), (1, .int (3 : Int32))], [.int (0 : Int32)]) (HH I J R T) _
  show Zs _ _ (am_P 123).2 (52, [(0, .ref r), (1, .int (3 : Int32))], [.int (0 : Int32)]) (HH I J R T) _
  refine Z_rI rfl (by first | exact am_nw0 _ | exact am_nw01 | rfl | assumption) ?_
  exact ⟨rfl, rfl⟩
theorem c_under1_4 {b l g r : Nat} (hL : (HH I J R T)[r]? = some (rodC (1, b, l, g))) : am_E sc (d + 1) 123 [.ref r, .int 4] (HH I J R T) (some (.int 0)) (HH I J R T) := by
  refine E_Z (Ze_of (Nat.le_of_ble_eq_true rfl) ?_)
  refine Z_jump 3 rfl ?_
  show Zs _ _ (am_P 123).2 (54, [(0, .ref r), (1, .int (4 : Int32))], [.ref r]) (HH I J R T) _
  refine Z_ins rfl (hL) (clsR (Nat.le_of_ble_eq_true rfl)) ?_
  show Zs _ _ (am_P 123).2 (57, [(0, .ref r), (1, .int (4 : Int32))], [.int (0 : Int32)]) (HH I J R T) _
  show Zs _ _ (am_P 123).2 (57, [(0, .ref r), (1, .int (4 : Int32))], [.int (0 : Int32)]) (HH I J R T) _
  refine Z_rI rfl (by first | exact am_nw0 _ | exact am_nw01 | rfl | assumption) ?_
  exact ⟨rfl, rfl⟩
theorem c_under2_0 {b l g r : Nat} (hL : (HH I J R T)[r]? = some (rodC (2, b, l, g))) : am_E sc (d + 1) 123 [.ref r, .int 0] (HH I J R T) (some (.int 1)) (HH I J R T) := by
  refine E_Z (Ze_of (Nat.le_of_ble_eq_true rfl) ?_)
  refine Z_jump 3 rfl ?_
  show Zs _ _ (am_P 123).2 (37, [(0, .ref r), (1, .int (0 : Int32))], [.int (1 : Int32)]) (HH I J R T) _
  refine Z_rI rfl (by first | exact am_nw0 _ | exact am_nw01 | rfl | assumption) ?_
  exact ⟨rfl, rfl⟩
theorem c_under2_1 {b l g r : Nat} (hL : (HH I J R T)[r]? = some (rodC (2, b, l, g))) : am_E sc (d + 1) 123 [.ref r, .int 1] (HH I J R T) (some (.int 0)) (HH I J R T) := by
  refine E_Z (Ze_of (Nat.le_of_ble_eq_true rfl) ?_)
  refine Z_jump 3 rfl ?_
  show Zs _ _ (am_P 123).2 (39, [(0, .ref r), (1, .int (1 : Int32))], [.ref r]) (HH I J R T) _
  refine Z_ins rfl (hL) (clsR (Nat.le_of_ble_eq_true rfl)) ?_
  show Zs _ _ (am_P 123).2 (42, [(0, .ref r), (1, .int (1 : Int32))], [.int (0 : Int32)]) (HH I J R T) _
  show Zs _ _ (am_P 123).2 (42, [(0, .ref r), (1, .int (1 : Int32))], [.int (0 : Int32)]) (HH I J R T) _
  refine Z_rI rfl (by first | exact am_nw0 _ | exact am_nw01 | rfl | assumption) ?_
  exact ⟨rfl, rfl⟩
theorem c_under2_2 {b l g r : Nat} (hL : (HH I J R T)[r]? = some (rodC (2, b, l, g))) : am_E sc (d + 1) 123 [.ref r, .int 2] (HH I J R T) (some (.int 1)) (HH I J R T) := by
  refine E_Z (Ze_of (Nat.le_of_ble_eq_true rfl) ?_)
  refine Z_jump 3 rfl ?_
  show Zs _ _ (am_P 123).2 (44, [(0, .ref r), (1, .int (2 : Int32))], [.ref r]) (HH I J R T) _
  refine Z_ins rfl (hL) (clsR (Nat.le_of_ble_eq_true rfl)) ?_
  show Zs _ _ (am_P 123).2 (47, [(0, .ref r), (1, .int (2 : Int32))], [.int (1 : Int32)]) (HH I J R T) _
  show Zs _ _ (am_P 123).2 (47, [(0, .ref r), (1, .int (2 : Int32))], [.int (1 : Int32)]) (HH I J R T) _
  refine Z_rI rfl (by first | exact am_nw0 _ | exact am_nw01 | rfl | assumption) ?_
  exact ⟨rfl, rfl⟩
theorem c_under2_3 {b l g r : Nat} (hL : (HH I J R T)[r]? = some (rodC (2, b, l, g))) : am_E sc (d + 1) 123 [.ref r, .int 3] (HH I J R T) (some (.int 1)) (HH I J R T) := by
  refine E_Z (Ze_of (Nat.le_of_ble_eq_true rfl) ?_)
  refine Z_jump 3 rfl ?_
  show Zs _ _ (am_P 123).2 (49, [(0, .ref r), (1, .int (3 : Int32))], [.ref r]) (HH I J R T) _
  refine Z_ins rfl (hL) (clsR (Nat.le_of_ble_eq_true rfl)) ?_
  show Zs _ _ (am_P 123).2 (52, [(0, .ref r), (1, .int (3 : Int32))], [.int (1 : Int32)]) (HH I J R T) _
  show Zs _ _ (am_P 123).2 (52, [(0, .ref r), (1, .int (3 : Int32))], [.int (1 : Int32)]) (HH I J R T) _
  refine Z_rI rfl (by first | exact am_nw0 _ | exact am_nw01 | rfl | assumption) ?_
  exact ⟨rfl, rfl⟩
theorem c_under2_4 {b l g r : Nat} (hL : (HH I J R T)[r]? = some (rodC (2, b, l, g))) : am_E sc (d + 1) 123 [.ref r, .int 4] (HH I J R T) (some (.int 0)) (HH I J R T) := by
  refine E_Z (Ze_of (Nat.le_of_ble_eq_true rfl) ?_)
  refine Z_jump 3 rfl ?_
  show Zs _ _ (am_P 123).2 (54, [(0, .ref r), (1, .int (4 : Int32))], [.ref r]) (HH I J R T) _
  refine Z_ins rfl (hL) (clsR (Nat.le_of_ble_eq_true rfl)) ?_
  show Zs _ _ (am_P 123).2 (57, [(0, .ref r), (1, .int (4 : Int32))], [.int (0 : Int32)]) (HH I J R T) _
  show Zs _ _ (am_P 123).2 (57, [(0, .ref r), (1, .int (4 : Int32))], [.int (0 : Int32)]) (HH I J R T) _
  refine Z_rI rfl (by first | exact am_nw0 _ | exact am_nw01 | rfl | assumption) ?_
  exact ⟨rfl, rfl⟩
theorem c_under3_0 {b l g r : Nat} (hL : (HH I J R T)[r]? = some (rodC (3, b, l, g))) : am_E sc (d + 1) 123 [.ref r, .int 0] (HH I J R T) (some (.int 1)) (HH I J R T) := by
  refine E_Z (Ze_of (Nat.le_of_ble_eq_true rfl) ?_)
  refine Z_jump 3 rfl ?_
  show Zs _ _ (am_P 123).2 (37, [(0, .ref r), (1, .int (0 : Int32))], [.int (1 : Int32)]) (HH I J R T) _
  refine Z_rI rfl (by first | exact am_nw0 _ | exact am_nw01 | rfl | assumption) ?_
  exact ⟨rfl, rfl⟩
theorem c_under3_1 {b l g r : Nat} (hL : (HH I J R T)[r]? = some (rodC (3, b, l, g))) : am_E sc (d + 1) 123 [.ref r, .int 1] (HH I J R T) (some (.int 0)) (HH I J R T) := by
  refine E_Z (Ze_of (Nat.le_of_ble_eq_true rfl) ?_)
  refine Z_jump 3 rfl ?_
  show Zs _ _ (am_P 123).2 (39, [(0, .ref r), (1, .int (1 : Int32))], [.ref r]) (HH I J R T) _
  refine Z_ins rfl (hL) (clsR (Nat.le_of_ble_eq_true rfl)) ?_
  show Zs _ _ (am_P 123).2 (42, [(0, .ref r), (1, .int (1 : Int32))], [.int (0 : Int32)]) (HH I J R T) _
  show Zs _ _ (am_P 123).2 (42, [(0, .ref r), (1, .int (1 : Int32))], [.int (0 : Int32)]) (HH I J R T) _
  refine Z_rI rfl (by first | exact am_nw0 _ | exact am_nw01 | rfl | assumption) ?_
  exact ⟨rfl, rfl⟩
theorem c_under3_2 {b l g r : Nat} (hL : (HH I J R T)[r]? = some (rodC (3, b, l, g))) : am_E sc (d + 1) 123 [.ref r, .int 2] (HH I J R T) (some (.int 1)) (HH I J R T) := by
  refine E_Z (Ze_of (Nat.le_of_ble_eq_true rfl) ?_)
  refine Z_jump 3 rfl ?_
  show Zs _ _ (am_P 123).2 (44, [(0, .ref r), (1, .int (2 : Int32))], [.ref r]) (HH I J R T) _
  refine Z_ins rfl (hL) (clsR (Nat.le_of_ble_eq_true rfl)) ?_
  show Zs _ _ (am_P 123).2 (47, [(0, .ref r), (1, .int (2 : Int32))], [.int (1 : Int32)]) (HH I J R T) _
  show Zs _ _ (am_P 123).2 (47, [(0, .ref r), (1, .int (2 : Int32))], [.int (1 : Int32)]) (HH I J R T) _
  refine Z_rI rfl (by first | exact am_nw0 _ | exact am_nw01 | rfl | assumption) ?_
  exact ⟨rfl, rfl⟩
theorem c_under3_3 {b l g r : Nat} (hL : (HH I J R T)[r]? = some (rodC (3, b, l, g))) : am_E sc (d + 1) 123 [.ref r, .int 3] (HH I J R T) (some (.int 0)) (HH I J R T) := by
  refine E_Z (Ze_of (Nat.le_of_ble_eq_true rfl) ?_)
  refine Z_jump 3 rfl ?_
  show Zs _ _ (am_P 123).2 (49, [(0, .ref r), (1, .int (3 : Int32))], [.ref r]) (HH I J R T) _
  refine Z_ins rfl (hL) (clsR (Nat.le_of_ble_eq_true rfl)) ?_
  show Zs _ _ (am_P 123).2 (52, [(0, .ref r), (1, .int (3 : Int32))], [.int (0 : Int32)]) (HH I J R T) _
  show Zs _ _ (am_P 123).2 (52, [(0, .ref r), (1, .int (3 : Int32))], [.int (0 : Int32)]) (HH I J R T) _
  refine Z_rI rfl (by first | exact am_nw0 _ | exact am_nw01 | rfl | assumption) ?_
  exact ⟨rfl, rfl⟩
theorem c_under3_4 {b l g r : Nat} (hL : (HH I J R T)[r]? = some (rodC (3, b, l, g))) : am_E sc (d + 1) 123 [.ref r, .int 4] (HH I J R T) (some (.int 1)) (HH I J R T) := by
  refine E_Z (Ze_of (Nat.le_of_ble_eq_true rfl) ?_)
  refine Z_jump 3 rfl ?_
  show Zs _ _ (am_P 123).2 (54, [(0, .ref r), (1, .int (4 : Int32))], [.ref r]) (HH I J R T) _
  refine Z_ins rfl (hL) (clsR (Nat.le_of_ble_eq_true rfl)) ?_
  show Zs _ _ (am_P 123).2 (57, [(0, .ref r), (1, .int (4 : Int32))], [.int (1 : Int32)]) (HH I J R T) _
  show Zs _ _ (am_P 123).2 (57, [(0, .ref r), (1, .int (4 : Int32))], [.int (1 : Int32)]) (HH I J R T) _
  refine Z_rI rfl (by first | exact am_nw0 _ | exact am_nw01 | rfl | assumption) ?_
  exact ⟨rfl, rfl⟩
theorem c_as {D : FD} {x k : Int32} (hD : DC 18 D I R T) : am_E sc (d + 3) 98 [.ref 0, .int x, .int k] (HH I J R T) (some (.int (asv D x k))) (HH I J R T) := by
  refine E_Z (Ze_of (Nat.le_of_ble_eq_true rfl) ?_)
  have h6 := hD.2.1
  unfold asv
  by_cases hr : M_rod D.1 x
  · rw [if_neg (fun z => z hr)]
    obtain ⟨j, hj, hx⟩ := rod_n hr
    obtain ⟨hq, a, hR, hT⟩ := hD.2.2.2 j hj
    have hxc : x.toNatClampNeg = j := by rw [hx]; exact nI_clamp (by omega)
    rw [hxc]
    have hL : (HH I J R T)[99 + a]? = some (rodC (D.2.1 j)) := HH_at a hT
    have hq1 := hq.1
    generalize D.2.1 j = q at hL hq1 ⊢
    obtain ⟨kd, b, l, g⟩ := q
    by_cases hk : 0 ≤ k.toInt ∧ k.toInt ≤ 4
    · rw [if_neg (fun z => z hk)]
      rcases kd_c hq1 with rfl | rfl | rfl | rfl
      · rcases k5_c hk with rfl | rfl | rfl | rfl | rfl
        · refine Z_jump 3 rfl ?_
          show Zs _ _ (am_P 98).2 (5, [(0, .ref 0), (1, .int x), (2, .int (0 : Int32))], [.int x, .ref 18]) (HH I J R T) _
          refine Z_c1 rfl rfl rfl (c_rodAt18 hD hx hj hR) ?_
          show Zs _ _ (am_P 98).2 (8, [(0, .ref 0), (1, .int x), (2, .int (0 : Int32))], [.ref (99 + a)]) (HH I J R T) _
          refine Z_jump 10 rfl ?_
          show Zs _ _ (am_P 98).2 (30, [(0, .ref 0), (1, .int x), (2, .int (0 : Int32)), (3, .ref (99 + a))], [.int (0 : Int32), .ref (99 + a)]) (HH I J R T) _
          refine Z_c1 rfl rfl rfl (c_under0_0 hL) ?_
          show Zs _ _ (am_P 98).2 (33, [(0, .ref 0), (1, .int x), (2, .int (0 : Int32)), (3, .ref (99 + a))], [.int (1 : Int32)]) (HH I J R T) _
          refine Z_jump 2 rfl ?_
          show Zs _ _ (am_P 98).2 (37, [(0, .ref 0), (1, .int x), (2, .int (0 : Int32)), (3, .ref (99 + a))], [.ref (99 + a)]) (HH I J R T) _
          refine Z_c1 rfl (am_do_inv (hL) rfl (rfl) (Nat.le_of_ble_eq_true rfl)) rfl (c_hw0 hL) ?_
          show Zs _ _ (am_P 98).2 (40, [(0, .ref 0), (1, .int x), (2, .int (0 : Int32)), (3, .ref (99 + a))], [.int (0 : Int32)]) (HH I J R T) _
          refine Z_jump 1 rfl ?_
          show Zs _ _ (am_P 98).2 (45, [(0, .ref 0), (1, .int x), (2, .int (0 : Int32)), (3, .ref (99 + a))], [.int (0 : Int32)]) (HH I J R T) _
          refine Z_rI rfl (by first | exact am_nw0 _ | exact am_nw01 | rfl | assumption) ?_
          exact ⟨am_ii (show _ = (if und 0 0 then nI (hwv (0, b, l, g)) else -4) from (by rw [if_pos (by decide)]; rfl)), rfl⟩
        · refine Z_jump 3 rfl ?_
          show Zs _ _ (am_P 98).2 (5, [(0, .ref 0), (1, .int x), (2, .int (1 : Int32))], [.int x, .ref 18]) (HH I J R T) _
          refine Z_c1 rfl rfl rfl (c_rodAt18 hD hx hj hR) ?_
          show Zs _ _ (am_P 98).2 (8, [(0, .ref 0), (1, .int x), (2, .int (1 : Int32))], [.ref (99 + a)]) (HH I J R T) _
          refine Z_jump 10 rfl ?_
          show Zs _ _ (am_P 98).2 (30, [(0, .ref 0), (1, .int x), (2, .int (1 : Int32)), (3, .ref (99 + a))], [.int (1 : Int32), .ref (99 + a)]) (HH I J R T) _
          refine Z_c1 rfl rfl rfl (c_under0_1 hL) ?_
          show Zs _ _ (am_P 98).2 (33, [(0, .ref 0), (1, .int x), (2, .int (1 : Int32)), (3, .ref (99 + a))], [.int (1 : Int32)]) (HH I J R T) _
          refine Z_jump 2 rfl ?_
          show Zs _ _ (am_P 98).2 (37, [(0, .ref 0), (1, .int x), (2, .int (1 : Int32)), (3, .ref (99 + a))], [.ref (99 + a)]) (HH I J R T) _
          refine Z_c1 rfl (am_do_inv (hL) rfl (rfl) (Nat.le_of_ble_eq_true rfl)) rfl (c_hw0 hL) ?_
          show Zs _ _ (am_P 98).2 (40, [(0, .ref 0), (1, .int x), (2, .int (1 : Int32)), (3, .ref (99 + a))], [.int (0 : Int32)]) (HH I J R T) _
          refine Z_jump 1 rfl ?_
          show Zs _ _ (am_P 98).2 (45, [(0, .ref 0), (1, .int x), (2, .int (1 : Int32)), (3, .ref (99 + a))], [.int (0 : Int32)]) (HH I J R T) _
          refine Z_rI rfl (by first | exact am_nw0 _ | exact am_nw01 | rfl | assumption) ?_
          exact ⟨am_ii (show _ = (if und 0 1 then nI (hwv (0, b, l, g)) else -4) from (by rw [if_pos (by decide)]; rfl)), rfl⟩
        · refine Z_jump 3 rfl ?_
          show Zs _ _ (am_P 98).2 (5, [(0, .ref 0), (1, .int x), (2, .int (2 : Int32))], [.int x, .ref 18]) (HH I J R T) _
          refine Z_c1 rfl rfl rfl (c_rodAt18 hD hx hj hR) ?_
          show Zs _ _ (am_P 98).2 (8, [(0, .ref 0), (1, .int x), (2, .int (2 : Int32))], [.ref (99 + a)]) (HH I J R T) _
          refine Z_jump 10 rfl ?_
          show Zs _ _ (am_P 98).2 (30, [(0, .ref 0), (1, .int x), (2, .int (2 : Int32)), (3, .ref (99 + a))], [.int (2 : Int32), .ref (99 + a)]) (HH I J R T) _
          refine Z_c1 rfl rfl rfl (c_under0_2 hL) ?_
          show Zs _ _ (am_P 98).2 (33, [(0, .ref 0), (1, .int x), (2, .int (2 : Int32)), (3, .ref (99 + a))], [.int (0 : Int32)]) (HH I J R T) _
          refine Z_jump 2 rfl ?_
          show Zs _ _ (am_P 98).2 (45, [(0, .ref 0), (1, .int x), (2, .int (2 : Int32)), (3, .ref (99 + a))], [.int (-4 : Int32)]) (HH I J R T) _
          refine Z_rI rfl (by first | exact am_nw0 _ | exact am_nw01 | rfl | assumption) ?_
          exact ⟨am_ii (show _ = (if und 0 2 then nI (hwv (0, b, l, g)) else -4) from (by rw [if_neg (by decide)])), rfl⟩
        · refine Z_jump 3 rfl ?_
          show Zs _ _ (am_P 98).2 (5, [(0, .ref 0), (1, .int x), (2, .int (3 : Int32))], [.int x, .ref 18]) (HH I J R T) _
          refine Z_c1 rfl rfl rfl (c_rodAt18 hD hx hj hR) ?_
          show Zs _ _ (am_P 98).2 (8, [(0, .ref 0), (1, .int x), (2, .int (3 : Int32))], [.ref (99 + a)]) (HH I J R T) _
          refine Z_jump 10 rfl ?_
          show Zs _ _ (am_P 98).2 (30, [(0, .ref 0), (1, .int x), (2, .int (3 : Int32)), (3, .ref (99 + a))], [.int (3 : Int32), .ref (99 + a)]) (HH I J R T) _
          refine Z_c1 rfl rfl rfl (c_under0_3 hL) ?_
          show Zs _ _ (am_P 98).2 (33, [(0, .ref 0), (1, .int x), (2, .int (3 : Int32)), (3, .ref (99 + a))], [.int (0 : Int32)]) (HH I J R T) _
          refine Z_jump 2 rfl ?_
          show Zs _ _ (am_P 98).2 (45, [(0, .ref 0), (1, .int x), (2, .int (3 : Int32)), (3, .ref (99 + a))], [.int (-4 : Int32)]) (HH I J R T) _
          refine Z_rI rfl (by first | exact am_nw0 _ | exact am_nw01 | rfl | assumption) ?_
          exact ⟨am_ii (show _ = (if und 0 3 then nI (hwv (0, b, l, g)) else -4) from (by rw [if_neg (by decide)])), rfl⟩
        · refine Z_jump 3 rfl ?_
          show Zs _ _ (am_P 98).2 (5, [(0, .ref 0), (1, .int x), (2, .int (4 : Int32))], [.int x, .ref 18]) (HH I J R T) _
          refine Z_c1 rfl rfl rfl (c_rodAt18 hD hx hj hR) ?_
          show Zs _ _ (am_P 98).2 (8, [(0, .ref 0), (1, .int x), (2, .int (4 : Int32))], [.ref (99 + a)]) (HH I J R T) _
          refine Z_jump 10 rfl ?_
          show Zs _ _ (am_P 98).2 (30, [(0, .ref 0), (1, .int x), (2, .int (4 : Int32)), (3, .ref (99 + a))], [.int (4 : Int32), .ref (99 + a)]) (HH I J R T) _
          refine Z_c1 rfl rfl rfl (c_under0_4 hL) ?_
          show Zs _ _ (am_P 98).2 (33, [(0, .ref 0), (1, .int x), (2, .int (4 : Int32)), (3, .ref (99 + a))], [.int (0 : Int32)]) (HH I J R T) _
          refine Z_jump 2 rfl ?_
          show Zs _ _ (am_P 98).2 (45, [(0, .ref 0), (1, .int x), (2, .int (4 : Int32)), (3, .ref (99 + a))], [.int (-4 : Int32)]) (HH I J R T) _
          refine Z_rI rfl (by first | exact am_nw0 _ | exact am_nw01 | rfl | assumption) ?_
          exact ⟨am_ii (show _ = (if und 0 4 then nI (hwv (0, b, l, g)) else -4) from (by rw [if_neg (by decide)])), rfl⟩
      · rcases k5_c hk with rfl | rfl | rfl | rfl | rfl
        · refine Z_jump 3 rfl ?_
          show Zs _ _ (am_P 98).2 (5, [(0, .ref 0), (1, .int x), (2, .int (0 : Int32))], [.int x, .ref 18]) (HH I J R T) _
          refine Z_c1 rfl rfl rfl (c_rodAt18 hD hx hj hR) ?_
          show Zs _ _ (am_P 98).2 (8, [(0, .ref 0), (1, .int x), (2, .int (0 : Int32))], [.ref (99 + a)]) (HH I J R T) _
          refine Z_jump 10 rfl ?_
          show Zs _ _ (am_P 98).2 (30, [(0, .ref 0), (1, .int x), (2, .int (0 : Int32)), (3, .ref (99 + a))], [.int (0 : Int32), .ref (99 + a)]) (HH I J R T) _
          refine Z_c1 rfl rfl rfl (c_under1_0 hL) ?_
          show Zs _ _ (am_P 98).2 (33, [(0, .ref 0), (1, .int x), (2, .int (0 : Int32)), (3, .ref (99 + a))], [.int (1 : Int32)]) (HH I J R T) _
          refine Z_jump 2 rfl ?_
          show Zs _ _ (am_P 98).2 (37, [(0, .ref 0), (1, .int x), (2, .int (0 : Int32)), (3, .ref (99 + a))], [.ref (99 + a)]) (HH I J R T) _
          refine Z_c1 rfl (am_do_inv (hL) rfl (rfl) (Nat.le_of_ble_eq_true rfl)) rfl (c_hw1 hL) ?_
          show Zs _ _ (am_P 98).2 (40, [(0, .ref 0), (1, .int x), (2, .int (0 : Int32)), (3, .ref (99 + a))], [.int (5 : Int32)]) (HH I J R T) _
          refine Z_jump 1 rfl ?_
          show Zs _ _ (am_P 98).2 (45, [(0, .ref 0), (1, .int x), (2, .int (0 : Int32)), (3, .ref (99 + a))], [.int (5 : Int32)]) (HH I J R T) _
          refine Z_rI rfl (by first | exact am_nw0 _ | exact am_nw01 | rfl | assumption) ?_
          exact ⟨am_ii (show _ = (if und 1 0 then nI (hwv (1, b, l, g)) else -4) from (by rw [if_pos (by decide)]; rfl)), rfl⟩
        · refine Z_jump 3 rfl ?_
          show Zs _ _ (am_P 98).2 (5, [(0, .ref 0), (1, .int x), (2, .int (1 : Int32))], [.int x, .ref 18]) (HH I J R T) _
          refine Z_c1 rfl rfl rfl (c_rodAt18 hD hx hj hR) ?_
          show Zs _ _ (am_P 98).2 (8, [(0, .ref 0), (1, .int x), (2, .int (1 : Int32))], [.ref (99 + a)]) (HH I J R T) _
          refine Z_jump 10 rfl ?_
          show Zs _ _ (am_P 98).2 (30, [(0, .ref 0), (1, .int x), (2, .int (1 : Int32)), (3, .ref (99 + a))], [.int (1 : Int32), .ref (99 + a)]) (HH I J R T) _
          refine Z_c1 rfl rfl rfl (c_under1_1 hL) ?_
          show Zs _ _ (am_P 98).2 (33, [(0, .ref 0), (1, .int x), (2, .int (1 : Int32)), (3, .ref (99 + a))], [.int (0 : Int32)]) (HH I J R T) _
          refine Z_jump 2 rfl ?_
          show Zs _ _ (am_P 98).2 (45, [(0, .ref 0), (1, .int x), (2, .int (1 : Int32)), (3, .ref (99 + a))], [.int (-4 : Int32)]) (HH I J R T) _
          refine Z_rI rfl (by first | exact am_nw0 _ | exact am_nw01 | rfl | assumption) ?_
          exact ⟨am_ii (show _ = (if und 1 1 then nI (hwv (1, b, l, g)) else -4) from (by rw [if_neg (by decide)])), rfl⟩
        · refine Z_jump 3 rfl ?_
          show Zs _ _ (am_P 98).2 (5, [(0, .ref 0), (1, .int x), (2, .int (2 : Int32))], [.int x, .ref 18]) (HH I J R T) _
          refine Z_c1 rfl rfl rfl (c_rodAt18 hD hx hj hR) ?_
          show Zs _ _ (am_P 98).2 (8, [(0, .ref 0), (1, .int x), (2, .int (2 : Int32))], [.ref (99 + a)]) (HH I J R T) _
          refine Z_jump 10 rfl ?_
          show Zs _ _ (am_P 98).2 (30, [(0, .ref 0), (1, .int x), (2, .int (2 : Int32)), (3, .ref (99 + a))], [.int (2 : Int32), .ref (99 + a)]) (HH I J R T) _
          refine Z_c1 rfl rfl rfl (c_under1_2 hL) ?_
          show Zs _ _ (am_P 98).2 (33, [(0, .ref 0), (1, .int x), (2, .int (2 : Int32)), (3, .ref (99 + a))], [.int (1 : Int32)]) (HH I J R T) _
          refine Z_jump 2 rfl ?_
          show Zs _ _ (am_P 98).2 (37, [(0, .ref 0), (1, .int x), (2, .int (2 : Int32)), (3, .ref (99 + a))], [.ref (99 + a)]) (HH I J R T) _
          refine Z_c1 rfl (am_do_inv (hL) rfl (rfl) (Nat.le_of_ble_eq_true rfl)) rfl (c_hw1 hL) ?_
          show Zs _ _ (am_P 98).2 (40, [(0, .ref 0), (1, .int x), (2, .int (2 : Int32)), (3, .ref (99 + a))], [.int (5 : Int32)]) (HH I J R T) _
          refine Z_jump 1 rfl ?_
          show Zs _ _ (am_P 98).2 (45, [(0, .ref 0), (1, .int x), (2, .int (2 : Int32)), (3, .ref (99 + a))], [.int (5 : Int32)]) (HH I J R T) _
          refine Z_rI rfl (by first | exact am_nw0 _ | exact am_nw01 | rfl | assumption) ?_
          exact ⟨am_ii (show _ = (if und 1 2 then nI (hwv (1, b, l, g)) else -4) from (by rw [if_pos (by decide)]; rfl)), rfl⟩
        · refine Z_jump 3 rfl ?_
          show Zs _ _ (am_P 98).2 (5, [(0, .ref 0), (1, .int x), (2, .int (3 : Int32))], [.int x, .ref 18]) (HH I J R T) _
          refine Z_c1 rfl rfl rfl (c_rodAt18 hD hx hj hR) ?_
          show Zs _ _ (am_P 98).2 (8, [(0, .ref 0), (1, .int x), (2, .int (3 : Int32))], [.ref (99 + a)]) (HH I J R T) _
          refine Z_jump 10 rfl ?_
          show Zs _ _ (am_P 98).2 (30, [(0, .ref 0), (1, .int x), (2, .int (3 : Int32)), (3, .ref (99 + a))], [.int (3 : Int32), .ref (99 + a)]) (HH I J R T) _
          refine Z_c1 rfl rfl rfl (c_under1_3 hL) ?_
          show Zs _ _ (am_P 98).2 (33, [(0, .ref 0), (1, .int x), (2, .int (3 : Int32)), (3, .ref (99 + a))], [.int (0 : Int32)]) (HH I J R T) _
          refine Z_jump 2 rfl ?_
          show Zs _ _ (am_P 98).2 (45, [(0, .ref 0), (1, .int x), (2, .int (3 : Int32)), (3, .ref (99 + a))], [.int (-4 : Int32)]) (HH I J R T) _
          refine Z_rI rfl (by first | exact am_nw0 _ | exact am_nw01 | rfl | assumption) ?_
          exact ⟨am_ii (show _ = (if und 1 3 then nI (hwv (1, b, l, g)) else -4) from (by rw [if_neg (by decide)])), rfl⟩
        · refine Z_jump 3 rfl ?_
          show Zs _ _ (am_P 98).2 (5, [(0, .ref 0), (1, .int x), (2, .int (4 : Int32))], [.int x, .ref 18]) (HH I J R T) _
          refine Z_c1 rfl rfl rfl (c_rodAt18 hD hx hj hR) ?_
          show Zs _ _ (am_P 98).2 (8, [(0, .ref 0), (1, .int x), (2, .int (4 : Int32))], [.ref (99 + a)]) (HH I J R T) _
          refine Z_jump 10 rfl ?_
          show Zs _ _ (am_P 98).2 (30, [(0, .ref 0), (1, .int x), (2, .int (4 : Int32)), (3, .ref (99 + a))], [.int (4 : Int32), .ref (99 + a)]) (HH I J R T) _
          refine Z_c1 rfl rfl rfl (c_under1_4 hL) ?_
          show Zs _ _ (am_P 98).2 (33, [(0, .ref 0), (1, .int x), (2, .int (4 : Int32)), (3, .ref (99 + a))], [.int (0 : Int32)]) (HH I J R T) _
          refine Z_jump 2 rfl ?_
          show Zs _ _ (am_P 98).2 (45, [(0, .ref 0), (1, .int x), (2, .int (4 : Int32)), (3, .ref (99 + a))], [.int (-4 : Int32)]) (HH I J R T) _
          refine Z_rI rfl (by first | exact am_nw0 _ | exact am_nw01 | rfl | assumption) ?_
          exact ⟨am_ii (show _ = (if und 1 4 then nI (hwv (1, b, l, g)) else -4) from (by rw [if_neg (by decide)])), rfl⟩
      · rcases k5_c hk with rfl | rfl | rfl | rfl | rfl
        · refine Z_jump 3 rfl ?_
          show Zs _ _ (am_P 98).2 (5, [(0, .ref 0), (1, .int x), (2, .int (0 : Int32))], [.int x, .ref 18]) (HH I J R T) _
          refine Z_c1 rfl rfl rfl (c_rodAt18 hD hx hj hR) ?_
          show Zs _ _ (am_P 98).2 (8, [(0, .ref 0), (1, .int x), (2, .int (0 : Int32))], [.ref (99 + a)]) (HH I J R T) _
          refine Z_jump 10 rfl ?_
          show Zs _ _ (am_P 98).2 (30, [(0, .ref 0), (1, .int x), (2, .int (0 : Int32)), (3, .ref (99 + a))], [.int (0 : Int32), .ref (99 + a)]) (HH I J R T) _
          refine Z_c1 rfl rfl rfl (c_under2_0 hL) ?_
          show Zs _ _ (am_P 98).2 (33, [(0, .ref 0), (1, .int x), (2, .int (0 : Int32)), (3, .ref (99 + a))], [.int (1 : Int32)]) (HH I J R T) _
          refine Z_jump 2 rfl ?_
          show Zs _ _ (am_P 98).2 (37, [(0, .ref 0), (1, .int x), (2, .int (0 : Int32)), (3, .ref (99 + a))], [.ref (99 + a)]) (HH I J R T) _
          refine Z_c1 rfl (am_do_inv (hL) rfl (rfl) (Nat.le_of_ble_eq_true rfl)) rfl (c_hw2 hL) ?_
          show Zs _ _ (am_P 98).2 (40, [(0, .ref 0), (1, .int x), (2, .int (0 : Int32)), (3, .ref (99 + a))], [.int (5 : Int32)]) (HH I J R T) _
          refine Z_jump 1 rfl ?_
          show Zs _ _ (am_P 98).2 (45, [(0, .ref 0), (1, .int x), (2, .int (0 : Int32)), (3, .ref (99 + a))], [.int (5 : Int32)]) (HH I J R T) _
          refine Z_rI rfl (by first | exact am_nw0 _ | exact am_nw01 | rfl | assumption) ?_
          exact ⟨am_ii (show _ = (if und 2 0 then nI (hwv (2, b, l, g)) else -4) from (by rw [if_pos (by decide)]; rfl)), rfl⟩
        · refine Z_jump 3 rfl ?_
          show Zs _ _ (am_P 98).2 (5, [(0, .ref 0), (1, .int x), (2, .int (1 : Int32))], [.int x, .ref 18]) (HH I J R T) _
          refine Z_c1 rfl rfl rfl (c_rodAt18 hD hx hj hR) ?_
          show Zs _ _ (am_P 98).2 (8, [(0, .ref 0), (1, .int x), (2, .int (1 : Int32))], [.ref (99 + a)]) (HH I J R T) _
          refine Z_jump 10 rfl ?_
          show Zs _ _ (am_P 98).2 (30, [(0, .ref 0), (1, .int x), (2, .int (1 : Int32)), (3, .ref (99 + a))], [.int (1 : Int32), .ref (99 + a)]) (HH I J R T) _
          refine Z_c1 rfl rfl rfl (c_under2_1 hL) ?_
          show Zs _ _ (am_P 98).2 (33, [(0, .ref 0), (1, .int x), (2, .int (1 : Int32)), (3, .ref (99 + a))], [.int (0 : Int32)]) (HH I J R T) _
          refine Z_jump 2 rfl ?_
          show Zs _ _ (am_P 98).2 (45, [(0, .ref 0), (1, .int x), (2, .int (1 : Int32)), (3, .ref (99 + a))], [.int (-4 : Int32)]) (HH I J R T) _
          refine Z_rI rfl (by first | exact am_nw0 _ | exact am_nw01 | rfl | assumption) ?_
          exact ⟨am_ii (show _ = (if und 2 1 then nI (hwv (2, b, l, g)) else -4) from (by rw [if_neg (by decide)])), rfl⟩
        · refine Z_jump 3 rfl ?_
          show Zs _ _ (am_P 98).2 (5, [(0, .ref 0), (1, .int x), (2, .int (2 : Int32))], [.int x, .ref 18]) (HH I J R T) _
          refine Z_c1 rfl rfl rfl (c_rodAt18 hD hx hj hR) ?_
          show Zs _ _ (am_P 98).2 (8, [(0, .ref 0), (1, .int x), (2, .int (2 : Int32))], [.ref (99 + a)]) (HH I J R T) _
          refine Z_jump 10 rfl ?_
          show Zs _ _ (am_P 98).2 (30, [(0, .ref 0), (1, .int x), (2, .int (2 : Int32)), (3, .ref (99 + a))], [.int (2 : Int32), .ref (99 + a)]) (HH I J R T) _
          refine Z_c1 rfl rfl rfl (c_under2_2 hL) ?_
          show Zs _ _ (am_P 98).2 (33, [(0, .ref 0), (1, .int x), (2, .int (2 : Int32)), (3, .ref (99 + a))], [.int (1 : Int32)]) (HH I J R T) _
          refine Z_jump 2 rfl ?_
          show Zs _ _ (am_P 98).2 (37, [(0, .ref 0), (1, .int x), (2, .int (2 : Int32)), (3, .ref (99 + a))], [.ref (99 + a)]) (HH I J R T) _
          refine Z_c1 rfl (am_do_inv (hL) rfl (rfl) (Nat.le_of_ble_eq_true rfl)) rfl (c_hw2 hL) ?_
          show Zs _ _ (am_P 98).2 (40, [(0, .ref 0), (1, .int x), (2, .int (2 : Int32)), (3, .ref (99 + a))], [.int (5 : Int32)]) (HH I J R T) _
          refine Z_jump 1 rfl ?_
          show Zs _ _ (am_P 98).2 (45, [(0, .ref 0), (1, .int x), (2, .int (2 : Int32)), (3, .ref (99 + a))], [.int (5 : Int32)]) (HH I J R T) _
          refine Z_rI rfl (by first | exact am_nw0 _ | exact am_nw01 | rfl | assumption) ?_
          exact ⟨am_ii (show _ = (if und 2 2 then nI (hwv (2, b, l, g)) else -4) from (by rw [if_pos (by decide)]; rfl)), rfl⟩
        · refine Z_jump 3 rfl ?_
          show Zs _ _ (am_P 98).2 (5, [(0, .ref 0), (1, .int x), (2, .int (3 : Int32))], [.int x, .ref 18]) (HH I J R T) _
          refine Z_c1 rfl rfl rfl (c_rodAt18 hD hx hj hR) ?_
          show Zs _ _ (am_P 98).2 (8, [(0, .ref 0), (1, .int x), (2, .int (3 : Int32))], [.ref (99 + a)]) (HH I J R T) _
          refine Z_jump 10 rfl ?_
          show Zs _ _ (am_P 98).2 (30, [(0, .ref 0), (1, .int x), (2, .int (3 : Int32)), (3, .ref (99 + a))], [.int (3 : Int32), .ref (99 + a)]) (HH I J R T) _
          refine Z_c1 rfl rfl rfl (c_under2_3 hL) ?_
          show Zs _ _ (am_P 98).2 (33, [(0, .ref 0), (1, .int x), (2, .int (3 : Int32)), (3, .ref (99 + a))], [.int (1 : Int32)]) (HH I J R T) _
          refine Z_jump 2 rfl ?_
          show Zs _ _ (am_P 98).2 (37, [(0, .ref 0), (1, .int x), (2, .int (3 : Int32)), (3, .ref (99 + a))], [.ref (99 + a)]) (HH I J R T) _
          refine Z_c1 rfl (am_do_inv (hL) rfl (rfl) (Nat.le_of_ble_eq_true rfl)) rfl (c_hw2 hL) ?_
          show Zs _ _ (am_P 98).2 (40, [(0, .ref 0), (1, .int x), (2, .int (3 : Int32)), (3, .ref (99 + a))], [.int (5 : Int32)]) (HH I J R T) _
          refine Z_jump 1 rfl ?_
          show Zs _ _ (am_P 98).2 (45, [(0, .ref 0), (1, .int x), (2, .int (3 : Int32)), (3, .ref (99 + a))], [.int (5 : Int32)]) (HH I J R T) _
          refine Z_rI rfl (by first | exact am_nw0 _ | exact am_nw01 | rfl | assumption) ?_
          exact ⟨am_ii (show _ = (if und 2 3 then nI (hwv (2, b, l, g)) else -4) from (by rw [if_pos (by decide)]; rfl)), rfl⟩
        · refine Z_jump 3 rfl ?_
          show Zs _ _ (am_P 98).2 (5, [(0, .ref 0), (1, .int x), (2, .int (4 : Int32))], [.int x, .ref 18]) (HH I J R T) _
          refine Z_c1 rfl rfl rfl (c_rodAt18 hD hx hj hR) ?_
          show Zs _ _ (am_P 98).2 (8, [(0, .ref 0), (1, .int x), (2, .int (4 : Int32))], [.ref (99 + a)]) (HH I J R T) _
          refine Z_jump 10 rfl ?_
          show Zs _ _ (am_P 98).2 (30, [(0, .ref 0), (1, .int x), (2, .int (4 : Int32)), (3, .ref (99 + a))], [.int (4 : Int32), .ref (99 + a)]) (HH I J R T) _
          refine Z_c1 rfl rfl rfl (c_under2_4 hL) ?_
          show Zs _ _ (am_P 98).2 (33, [(0, .ref 0), (1, .int x), (2, .int (4 : Int32)), (3, .ref (99 + a))], [.int (0 : Int32)]) (HH I J R T) _
          refine Z_jump 2 rfl ?_
          show Zs _ _ (am_P 98).2 (45, [(0, .ref 0), (1, .int x), (2, .int (4 : Int32)), (3, .ref (99 + a))], [.int (-4 : Int32)]) (HH I J R T) _
          refine Z_rI rfl (by first | exact am_nw0 _ | exact am_nw01 | rfl | assumption) ?_
          exact ⟨am_ii (show _ = (if und 2 4 then nI (hwv (2, b, l, g)) else -4) from (by rw [if_neg (by decide)])), rfl⟩
      · rcases k5_c hk with rfl | rfl | rfl | rfl | rfl
        · refine Z_jump 3 rfl ?_
          show Zs _ _ (am_P 98).2 (5, [(0, .ref 0), (1, .int x), (2, .int (0 : Int32))], [.int x, .ref 18]) (HH I J R T) _
          refine Z_c1 rfl rfl rfl (c_rodAt18 hD hx hj hR) ?_
          show Zs _ _ (am_P 98).2 (8, [(0, .ref 0), (1, .int x), (2, .int (0 : Int32))], [.ref (99 + a)]) (HH I J R T) _
          refine Z_jump 10 rfl ?_
          show Zs _ _ (am_P 98).2 (30, [(0, .ref 0), (1, .int x), (2, .int (0 : Int32)), (3, .ref (99 + a))], [.int (0 : Int32), .ref (99 + a)]) (HH I J R T) _
          refine Z_c1 rfl rfl rfl (c_under3_0 hL) ?_
          show Zs _ _ (am_P 98).2 (33, [(0, .ref 0), (1, .int x), (2, .int (0 : Int32)), (3, .ref (99 + a))], [.int (1 : Int32)]) (HH I J R T) _
          refine Z_jump 2 rfl ?_
          show Zs _ _ (am_P 98).2 (37, [(0, .ref 0), (1, .int x), (2, .int (0 : Int32)), (3, .ref (99 + a))], [.ref (99 + a)]) (HH I J R T) _
          refine Z_c1 rfl (am_do_inv (hL) rfl (rfl) (Nat.le_of_ble_eq_true rfl)) rfl (c_hw3 hL) ?_
          show Zs _ _ (am_P 98).2 (40, [(0, .ref 0), (1, .int x), (2, .int (0 : Int32)), (3, .ref (99 + a))], [.int (nI l + 1)]) (HH I J R T) _
          refine Z_jump 1 rfl ?_
          show Zs _ _ (am_P 98).2 (45, [(0, .ref 0), (1, .int x), (2, .int (0 : Int32)), (3, .ref (99 + a))], [.int (nI l + 1)]) (HH I J R T) _
          refine Z_rI rfl (by first | exact am_nw0 _ | exact am_nw01 | rfl | assumption) ?_
          exact ⟨am_ii (show _ = (if und 3 0 then nI (hwv (3, b, l, g)) else -4) from (by rw [if_pos (by decide)]; exact nI_1 l)), rfl⟩
        · refine Z_jump 3 rfl ?_
          show Zs _ _ (am_P 98).2 (5, [(0, .ref 0), (1, .int x), (2, .int (1 : Int32))], [.int x, .ref 18]) (HH I J R T) _
          refine Z_c1 rfl rfl rfl (c_rodAt18 hD hx hj hR) ?_
          show Zs _ _ (am_P 98).2 (8, [(0, .ref 0), (1, .int x), (2, .int (1 : Int32))], [.ref (99 + a)]) (HH I J R T) _
          refine Z_jump 10 rfl ?_
          show Zs _ _ (am_P 98).2 (30, [(0, .ref 0), (1, .int x), (2, .int (1 : Int32)), (3, .ref (99 + a))], [.int (1 : Int32), .ref (99 + a)]) (HH I J R T) _
          refine Z_c1 rfl rfl rfl (c_under3_1 hL) ?_
          show Zs _ _ (am_P 98).2 (33, [(0, .ref 0), (1, .int x), (2, .int (1 : Int32)), (3, .ref (99 + a))], [.int (0 : Int32)]) (HH I J R T) _
          refine Z_jump 2 rfl ?_
          show Zs _ _ (am_P 98).2 (45, [(0, .ref 0), (1, .int x), (2, .int (1 : Int32)), (3, .ref (99 + a))], [.int (-4 : Int32)]) (HH I J R T) _
          refine Z_rI rfl (by first | exact am_nw0 _ | exact am_nw01 | rfl | assumption) ?_
          exact ⟨am_ii (show _ = (if und 3 1 then nI (hwv (3, b, l, g)) else -4) from (by rw [if_neg (by decide)])), rfl⟩
        · refine Z_jump 3 rfl ?_
          show Zs _ _ (am_P 98).2 (5, [(0, .ref 0), (1, .int x), (2, .int (2 : Int32))], [.int x, .ref 18]) (HH I J R T) _
          refine Z_c1 rfl rfl rfl (c_rodAt18 hD hx hj hR) ?_
          show Zs _ _ (am_P 98).2 (8, [(0, .ref 0), (1, .int x), (2, .int (2 : Int32))], [.ref (99 + a)]) (HH I J R T) _
          refine Z_jump 10 rfl ?_
          show Zs _ _ (am_P 98).2 (30, [(0, .ref 0), (1, .int x), (2, .int (2 : Int32)), (3, .ref (99 + a))], [.int (2 : Int32), .ref (99 + a)]) (HH I J R T) _
          refine Z_c1 rfl rfl rfl (c_under3_2 hL) ?_
          show Zs _ _ (am_P 98).2 (33, [(0, .ref 0), (1, .int x), (2, .int (2 : Int32)), (3, .ref (99 + a))], [.int (1 : Int32)]) (HH I J R T) _
          refine Z_jump 2 rfl ?_
          show Zs _ _ (am_P 98).2 (37, [(0, .ref 0), (1, .int x), (2, .int (2 : Int32)), (3, .ref (99 + a))], [.ref (99 + a)]) (HH I J R T) _
          refine Z_c1 rfl (am_do_inv (hL) rfl (rfl) (Nat.le_of_ble_eq_true rfl)) rfl (c_hw3 hL) ?_
          show Zs _ _ (am_P 98).2 (40, [(0, .ref 0), (1, .int x), (2, .int (2 : Int32)), (3, .ref (99 + a))], [.int (nI l + 1)]) (HH I J R T) _
          refine Z_jump 1 rfl ?_
          show Zs _ _ (am_P 98).2 (45, [(0, .ref 0), (1, .int x), (2, .int (2 : Int32)), (3, .ref (99 + a))], [.int (nI l + 1)]) (HH I J R T) _
          refine Z_rI rfl (by first | exact am_nw0 _ | exact am_nw01 | rfl | assumption) ?_
          exact ⟨am_ii (show _ = (if und 3 2 then nI (hwv (3, b, l, g)) else -4) from (by rw [if_pos (by decide)]; exact nI_1 l)), rfl⟩
        · refine Z_jump 3 rfl ?_
          show Zs _ _ (am_P 98).2 (5, [(0, .ref 0), (1, .int x), (2, .int (3 : Int32))], [.int x, .ref 18]) (HH I J R T) _
          refine Z_c1 rfl rfl rfl (c_rodAt18 hD hx hj hR) ?_
          show Zs _ _ (am_P 98).2 (8, [(0, .ref 0), (1, .int x), (2, .int (3 : Int32))], [.ref (99 + a)]) (HH I J R T) _
          refine Z_jump 10 rfl ?_
          show Zs _ _ (am_P 98).2 (30, [(0, .ref 0), (1, .int x), (2, .int (3 : Int32)), (3, .ref (99 + a))], [.int (3 : Int32), .ref (99 + a)]) (HH I J R T) _
          refine Z_c1 rfl rfl rfl (c_under3_3 hL) ?_
          show Zs _ _ (am_P 98).2 (33, [(0, .ref 0), (1, .int x), (2, .int (3 : Int32)), (3, .ref (99 + a))], [.int (0 : Int32)]) (HH I J R T) _
          refine Z_jump 2 rfl ?_
          show Zs _ _ (am_P 98).2 (45, [(0, .ref 0), (1, .int x), (2, .int (3 : Int32)), (3, .ref (99 + a))], [.int (-4 : Int32)]) (HH I J R T) _
          refine Z_rI rfl (by first | exact am_nw0 _ | exact am_nw01 | rfl | assumption) ?_
          exact ⟨am_ii (show _ = (if und 3 3 then nI (hwv (3, b, l, g)) else -4) from (by rw [if_neg (by decide)])), rfl⟩
        · refine Z_jump 3 rfl ?_
          show Zs _ _ (am_P 98).2 (5, [(0, .ref 0), (1, .int x), (2, .int (4 : Int32))], [.int x, .ref 18]) (HH I J R T) _
          refine Z_c1 rfl rfl rfl (c_rodAt18 hD hx hj hR) ?_
          show Zs _ _ (am_P 98).2 (8, [(0, .ref 0), (1, .int x), (2, .int (4 : Int32))], [.ref (99 + a)]) (HH I J R T) _
          refine Z_jump 10 rfl ?_
          show Zs _ _ (am_P 98).2 (30, [(0, .ref 0), (1, .int x), (2, .int (4 : Int32)), (3, .ref (99 + a))], [.int (4 : Int32), .ref (99 + a)]) (HH I J R T) _
          refine Z_c1 rfl rfl rfl (c_under3_4 hL) ?_
          show Zs _ _ (am_P 98).2 (33, [(0, .ref 0), (1, .int x), (2, .int (4 : Int32)), (3, .ref (99 + a))], [.int (1 : Int32)]) (HH I J R T) _
          refine Z_jump 2 rfl ?_
          show Zs _ _ (am_P 98).2 (37, [(0, .ref 0), (1, .int x), (2, .int (4 : Int32)), (3, .ref (99 + a))], [.ref (99 + a)]) (HH I J R T) _
          refine Z_c1 rfl (am_do_inv (hL) rfl (rfl) (Nat.le_of_ble_eq_true rfl)) rfl (c_hw3 hL) ?_
          show Zs _ _ (am_P 98).2 (40, [(0, .ref 0), (1, .int x), (2, .int (4 : Int32)), (3, .ref (99 + a))], [.int (nI l + 1)]) (HH I J R T) _
          refine Z_jump 1 rfl ?_
          show Zs _ _ (am_P 98).2 (45, [(0, .ref 0), (1, .int x), (2, .int (4 : Int32)), (3, .ref (99 + a))], [.int (nI l + 1)]) (HH I J R T) _
          refine Z_rI rfl (by first | exact am_nw0 _ | exact am_nw01 | rfl | assumption) ?_
          exact ⟨am_ii (show _ = (if und 3 4 then nI (hwv (3, b, l, g)) else -4) from (by rw [if_pos (by decide)]; exact nI_1 l)), rfl⟩
    · rw [if_pos hk]
      have z0 : (0 : Int32).toInt = 0 := rfl
      have z4 : (4 : Int32).toInt = 4 := rfl
      refine Z_jump 3 rfl ?_
      show Zs _ _ (am_P 98).2 (5, [(0, .ref 0), (1, .int x), (2, .int k)], [.int x, .ref 18]) (HH I J R T) _
      refine Z_c1 rfl rfl rfl (c_rodAt18 hD hx hj hR) ?_
      show Zs _ _ (am_P 98).2 (8, [(0, .ref 0), (1, .int x), (2, .int k)], [.ref (99 + a)]) (HH I J R T) _
      refine Z_jump 5 rfl ?_
      refine Z_bd (fun (c17 : k < (0 : Int32)) => ?_) (fun (c17 : ¬ (k < (0 : Int32))) => ?_)
      · refine Z_jump 1 rfl ?_
        show Zs _ _ (am_P 98).2 (27, [(0, .ref 0), (1, .int x), (2, .int k), (3, .ref (99 + a))], [.int (-3 : Int32)]) (HH I J R T) _
        refine Z_rI rfl (by first | exact am_nw0 _ | exact am_nw01 | rfl | assumption) ?_
        exact ⟨rfl, rfl⟩
      · refine Z_jump 3 rfl ?_
        refine Z_bd (fun c22 => absurd c22 ((show ¬ k ≤ 4 from fun z => by rw [fi_lt] at c17; rw [fi_le] at z; exact hk ⟨by omega, by omega⟩))) (fun c22 => ?_)
        refine Z_jump 1 rfl ?_
        show Zs _ _ (am_P 98).2 (27, [(0, .ref 0), (1, .int x), (2, .int k), (3, .ref (99 + a))], [.int (-3 : Int32)]) (HH I J R T) _
        refine Z_rI rfl (by first | exact am_nw0 _ | exact am_nw01 | rfl | assumption) ?_
        exact ⟨rfl, rfl⟩
  · rw [if_pos hr]
    refine Z_jump 3 rfl ?_
    show Zs _ _ (am_P 98).2 (5, [(0, .ref 0), (1, .int x), (2, .int k)], [.int x, .ref 18]) (HH I J R T) _
    refine Z_c1 rfl rfl rfl (c_rodAt18n hD hr) ?_
    show Zs _ _ (am_P 98).2 (8, [(0, .ref 0), (1, .int x), (2, .int k)], [.null]) (HH I J R T) _
    refine Z_jump 4 rfl ?_
    show Zs _ _ (am_P 98).2 (15, [(0, .ref 0), (1, .int x), (2, .int k), (3, .null)], [.int (-2 : Int32)]) (HH I J R T) _
    refine Z_rI rfl (by first | exact am_nw0 _ | exact am_nw01 | rfl | assumption) ?_
    exact ⟨rfl, rfl⟩
theorem m_seen {n m : Nat} {x v t : Int32} (hn : I 73 0 = nI n) (hn6 : n ≤ 6) (hm : I 73 40 = nI m) (hm6 : m ≤ 6) : am_E sc (d + 3) 221 [.ref 73, .int x, .int v, .int t] (HH I J R T) (some (.int (if ¬ M_rod n x then -2 else if ¬ seenOk v t then -3 else if m = 6 then -5 else nI (m + 1)))) (HH (if M_rod n x ∧ seenOk v t ∧ m ≠ 6 then sf (sf (sf (sf I 96 m x) 97 m v) 98 m t) 73 40 (nI (m + 1)) else I) J R T) := by
  refine E_Z (Ze_of (Nat.le_of_ble_eq_true rfl) ?_)
  have e44 : I 73 40 = 6 ↔ m = 6 := by rw [hm]; exact nI_eq (b := 6) (by omega) (by omega)
  have e1 : I 73 40 + 1 = nI (m + 1) := by rw [hm]; exact nI_1 m
  by_cases hr : M_rod n x
  · rw [if_neg (fun z => z hr)]
    by_cases hv : 0 ≤ v.toInt ∧ v.toInt ≤ 40
    · by_cases ht : 0 ≤ t.toInt ∧ t.toInt ≤ 99
      · rw [if_neg (fun z => z ⟨hv, ht⟩)]
        by_cases h6 : m = 6
        · rw [if_pos h6, if_neg (fun z => z.2.2 h6)]
          refine Z_jump 2 rfl ?_
          show Zs _ _ (am_P 221).2 (2, [(0, .ref 73), (1, .int x), (2, .int v), (3, .int t)], [.int x, .ref 73]) (HH I J R T) _
          refine Z_c1 rfl rfl rfl (m_isRodN hn hn6) ?_
          show Zs _ _ (am_P 221).2 (5, [(0, .ref 73), (1, .int x), (2, .int v), (3, .int t)], [.int (if M_rod n x then 1 else 0)]) (HH I J R T) _
          refine Z_jump 1 rfl ?_
          refine Z_bn (fun c5 => ?_) (fun c5 => absurd c5 ((fun z => if10.mp z hr)))
          refine Z_jump 4 rfl ?_
          show Zs _ _ (am_P 221).2 (17, [(0, .ref 73), (1, .int x), (2, .int v), (3, .int t)], [.long (40 : Int64), .long (0 : Int64), .long (Int32.toInt64 v)]) (HH I J R T) _
          refine Z_c1 rfl rfl rfl (m_inI (a := 0) (b := 40) rfl rfl) ?_
          show Zs _ _ (am_P 221).2 (20, [(0, .ref 73), (1, .int x), (2, .int v), (3, .int t)], [.int (if 0 ≤ v.toInt ∧ v.toInt ≤ 40 then 1 else 0)]) (HH I J R T) _
          refine Z_jump 1 rfl ?_
          refine Z_bd (fun c20 => absurd c20 ((fun z => if10.mp z hv))) (fun c20 => ?_)
          refine Z_jump 4 rfl ?_
          show Zs _ _ (am_P 221).2 (29, [(0, .ref 73), (1, .int x), (2, .int v), (3, .int t)], [.long (99 : Int64), .long (0 : Int64), .long (Int32.toInt64 t)]) (HH I J R T) _
          refine Z_c1 rfl rfl rfl (m_inI (a := 0) (b := 99) rfl rfl) ?_
          show Zs _ _ (am_P 221).2 (32, [(0, .ref 73), (1, .int x), (2, .int v), (3, .int t)], [.int (if 0 ≤ t.toInt ∧ t.toInt ≤ 99 then 1 else 0)]) (HH I J R T) _
          refine Z_jump 1 rfl ?_
          refine Z_bn (fun c32 => ?_) (fun c32 => absurd c32 ((fun z => if10.mp z ht)))
          refine Z_jump 4 rfl ?_
          refine Z_bn (fun c44 => absurd ((e44.mpr h6)) c44) (fun c44 => ?_)
          refine Z_jump 1 rfl ?_
          show Zs _ _ (am_P 221).2 (49, [(0, .ref 73), (1, .int x), (2, .int v), (3, .int t)], [.int (-5 : Int32)]) (HH I J R T) _
          refine Z_rI rfl (by first | exact am_nw0 _ | exact am_nw01 | rfl | assumption) ?_
          exact ⟨rfl, rfl⟩
        · rw [if_neg h6, if_pos ⟨hr, ⟨hv, ht⟩, h6⟩]
          refine Z_jump 2 rfl ?_
          show Zs _ _ (am_P 221).2 (2, [(0, .ref 73), (1, .int x), (2, .int v), (3, .int t)], [.int x, .ref 73]) (HH I J R T) _
          refine Z_c1 rfl rfl rfl (m_isRodN hn hn6) ?_
          show Zs _ _ (am_P 221).2 (5, [(0, .ref 73), (1, .int x), (2, .int v), (3, .int t)], [.int (if M_rod n x then 1 else 0)]) (HH I J R T) _
          refine Z_jump 1 rfl ?_
          refine Z_bn (fun c5 => ?_) (fun c5 => absurd c5 ((fun z => if10.mp z hr)))
          refine Z_jump 4 rfl ?_
          show Zs _ _ (am_P 221).2 (17, [(0, .ref 73), (1, .int x), (2, .int v), (3, .int t)], [.long (40 : Int64), .long (0 : Int64), .long (Int32.toInt64 v)]) (HH I J R T) _
          refine Z_c1 rfl rfl rfl (m_inI (a := 0) (b := 40) rfl rfl) ?_
          show Zs _ _ (am_P 221).2 (20, [(0, .ref 73), (1, .int x), (2, .int v), (3, .int t)], [.int (if 0 ≤ v.toInt ∧ v.toInt ≤ 40 then 1 else 0)]) (HH I J R T) _
          refine Z_jump 1 rfl ?_
          refine Z_bd (fun c20 => absurd c20 ((fun z => if10.mp z hv))) (fun c20 => ?_)
          refine Z_jump 4 rfl ?_
          show Zs _ _ (am_P 221).2 (29, [(0, .ref 73), (1, .int x), (2, .int v), (3, .int t)], [.long (99 : Int64), .long (0 : Int64), .long (Int32.toInt64 t)]) (HH I J R T) _
          refine Z_c1 rfl rfl rfl (m_inI (a := 0) (b := 99) rfl rfl) ?_
          show Zs _ _ (am_P 221).2 (32, [(0, .ref 73), (1, .int x), (2, .int v), (3, .int t)], [.int (if 0 ≤ t.toInt ∧ t.toInt ≤ 99 then 1 else 0)]) (HH I J R T) _
          refine Z_jump 1 rfl ?_
          refine Z_bn (fun c32 => ?_) (fun c32 => absurd c32 ((fun z => if10.mp z ht)))
          refine Z_jump 4 rfl ?_
          refine Z_bn (fun c44 => ?_) (fun c44 => absurd c44 ((fun z => h6 (e44.mp z))))
          refine Z_jump 5 rfl ?_
          show Zs _ _ (am_P 221).2 (59, [(0, .ref 73), (1, .int x), (2, .int v), (3, .int t)], [.int x, .int (I 73 40), .ref 96]) (HH I J R T) _
          refine Z_iasK (m) rfl rfl (hm) (by omega) (by decide) ?_
          show Zs _ _ (am_P 221).2 (60, [(0, .ref 73), (1, .int x), (2, .int v), (3, .int t)], []) (HH (sf I 96 m x) J R T) _
          refine Z_jump 5 rfl ?_
          show Zs _ _ (am_P 221).2 (69, [(0, .ref 73), (1, .int x), (2, .int v), (3, .int t)], [.int v, .int (I 73 40), .ref 97]) (HH (sf I 96 m x) J R T) _
          refine Z_iasK (m) rfl rfl (hm) (by omega) (by decide) ?_
          show Zs _ _ (am_P 221).2 (70, [(0, .ref 73), (1, .int x), (2, .int v), (3, .int t)], []) (HH (sf (sf I 96 m x) 97 m v) J R T) _
          refine Z_jump 5 rfl ?_
          show Zs _ _ (am_P 221).2 (79, [(0, .ref 73), (1, .int x), (2, .int v), (3, .int t)], [.int t, .int (I 73 40), .ref 98]) (HH (sf (sf I 96 m x) 97 m v) J R T) _
          refine Z_iasK (m) rfl rfl (hm) (by omega) (by decide) ?_
          show Zs _ _ (am_P 221).2 (80, [(0, .ref 73), (1, .int x), (2, .int v), (3, .int t)], []) (HH (sf (sf (sf I 96 m x) 97 m v) 98 m t) J R T) _
          refine Z_jump 5 rfl ?_
          show Zs _ _ (am_P 221).2 (87, [(0, .ref 73), (1, .int x), (2, .int v), (3, .int t)], [.int ((I 73 40) + (1 : Int32)), .ref 73]) (HH (sf (sf (sf I 96 m x) 97 m v) 98 m t) J R T) _
          refine Z_eqI (y := (nI (m + 1))) (e1) ?_
          show Zs _ _ (am_P 221).2 (87, [(0, .ref 73), (1, .int x), (2, .int v), (3, .int t)], [.int (nI (m + 1)), .ref 73]) (HH (sf (sf (sf I 96 m x) 97 m v) 98 m t) J R T) _
          refine Z_jump 1 rfl ?_
          show Zs _ _ (am_P 221).2 (90, [(0, .ref 73), (1, .int x), (2, .int v), (3, .int t)], []) (HH (sf (sf (sf (sf I 96 m x) 97 m v) 98 m t) 73 40 (nI (m + 1))) J R T) _
          refine Z_jump 2 rfl ?_
          show Zs _ _ (am_P 221).2 (94, [(0, .ref 73), (1, .int x), (2, .int v), (3, .int t)], [.int (nI (m + 1))]) (HH (sf (sf (sf (sf I 96 m x) 97 m v) 98 m t) 73 40 (nI (m + 1))) J R T) _
          refine Z_rI rfl (by first | exact am_nw0 _ | exact am_nw01 | rfl | assumption) ?_
          exact ⟨rfl, rfl⟩
      · rw [if_pos (fun z => ht z.2), if_neg (fun z => ht z.2.1.2)]
        refine Z_jump 2 rfl ?_
        show Zs _ _ (am_P 221).2 (2, [(0, .ref 73), (1, .int x), (2, .int v), (3, .int t)], [.int x, .ref 73]) (HH I J R T) _
        refine Z_c1 rfl rfl rfl (m_isRodN hn hn6) ?_
        show Zs _ _ (am_P 221).2 (5, [(0, .ref 73), (1, .int x), (2, .int v), (3, .int t)], [.int (if M_rod n x then 1 else 0)]) (HH I J R T) _
        refine Z_jump 1 rfl ?_
        refine Z_bn (fun c5 => ?_) (fun c5 => absurd c5 ((fun z => if10.mp z hr)))
        refine Z_jump 4 rfl ?_
        show Zs _ _ (am_P 221).2 (17, [(0, .ref 73), (1, .int x), (2, .int v), (3, .int t)], [.long (40 : Int64), .long (0 : Int64), .long (Int32.toInt64 v)]) (HH I J R T) _
        refine Z_c1 rfl rfl rfl (m_inI (a := 0) (b := 40) rfl rfl) ?_
        show Zs _ _ (am_P 221).2 (20, [(0, .ref 73), (1, .int x), (2, .int v), (3, .int t)], [.int (if 0 ≤ v.toInt ∧ v.toInt ≤ 40 then 1 else 0)]) (HH I J R T) _
        refine Z_jump 1 rfl ?_
        refine Z_bd (fun c20 => absurd c20 ((fun z => if10.mp z hv))) (fun c20 => ?_)
        refine Z_jump 4 rfl ?_
        show Zs _ _ (am_P 221).2 (29, [(0, .ref 73), (1, .int x), (2, .int v), (3, .int t)], [.long (99 : Int64), .long (0 : Int64), .long (Int32.toInt64 t)]) (HH I J R T) _
        refine Z_c1 rfl rfl rfl (m_inI (a := 0) (b := 99) rfl rfl) ?_
        show Zs _ _ (am_P 221).2 (32, [(0, .ref 73), (1, .int x), (2, .int v), (3, .int t)], [.int (if 0 ≤ t.toInt ∧ t.toInt ≤ 99 then 1 else 0)]) (HH I J R T) _
        refine Z_jump 1 rfl ?_
        refine Z_bn (fun c32 => absurd (if10.mpr ht) c32) (fun c32 => ?_)
        refine Z_jump 1 rfl ?_
        show Zs _ _ (am_P 221).2 (37, [(0, .ref 73), (1, .int x), (2, .int v), (3, .int t)], [.int (-3 : Int32)]) (HH I J R T) _
        refine Z_rI rfl (by first | exact am_nw0 _ | exact am_nw01 | rfl | assumption) ?_
        exact ⟨rfl, rfl⟩
    · rw [if_pos (fun z => hv z.1), if_neg (fun z => hv z.2.1.1)]
      refine Z_jump 2 rfl ?_
      show Zs _ _ (am_P 221).2 (2, [(0, .ref 73), (1, .int x), (2, .int v), (3, .int t)], [.int x, .ref 73]) (HH I J R T) _
      refine Z_c1 rfl rfl rfl (m_isRodN hn hn6) ?_
      show Zs _ _ (am_P 221).2 (5, [(0, .ref 73), (1, .int x), (2, .int v), (3, .int t)], [.int (if M_rod n x then 1 else 0)]) (HH I J R T) _
      refine Z_jump 1 rfl ?_
      refine Z_bn (fun c5 => ?_) (fun c5 => absurd c5 ((fun z => if10.mp z hr)))
      refine Z_jump 4 rfl ?_
      show Zs _ _ (am_P 221).2 (17, [(0, .ref 73), (1, .int x), (2, .int v), (3, .int t)], [.long (40 : Int64), .long (0 : Int64), .long (Int32.toInt64 v)]) (HH I J R T) _
      refine Z_c1 rfl rfl rfl (m_inI (a := 0) (b := 40) rfl rfl) ?_
      show Zs _ _ (am_P 221).2 (20, [(0, .ref 73), (1, .int x), (2, .int v), (3, .int t)], [.int (if 0 ≤ v.toInt ∧ v.toInt ≤ 40 then 1 else 0)]) (HH I J R T) _
      refine Z_jump 1 rfl ?_
      refine Z_bd (fun c20 => ?_) (fun c20 => absurd (if10.mpr hv) c20)
      refine Z_jump 1 rfl ?_
      show Zs _ _ (am_P 221).2 (37, [(0, .ref 73), (1, .int x), (2, .int v), (3, .int t)], [.int (-3 : Int32)]) (HH I J R T) _
      refine Z_rI rfl (by first | exact am_nw0 _ | exact am_nw01 | rfl | assumption) ?_
      exact ⟨rfl, rfl⟩
  · rw [if_pos hr, if_neg (fun z => hr z.1)]
    refine Z_jump 2 rfl ?_
    show Zs _ _ (am_P 221).2 (2, [(0, .ref 73), (1, .int x), (2, .int v), (3, .int t)], [.int x, .ref 73]) (HH I J R T) _
    refine Z_c1 rfl rfl rfl (m_isRodN hn hn6) ?_
    show Zs _ _ (am_P 221).2 (5, [(0, .ref 73), (1, .int x), (2, .int v), (3, .int t)], [.int (if M_rod n x then 1 else 0)]) (HH I J R T) _
    refine Z_jump 1 rfl ?_
    refine Z_bn (fun c5 => absurd (if10.mpr hr) c5) (fun c5 => ?_)
    refine Z_jump 1 rfl ?_
    show Zs _ _ (am_P 221).2 (10, [(0, .ref 73), (1, .int x), (2, .int v), (3, .int t)], [.int (-2 : Int32)]) (HH I J R T) _
    refine Z_rI rfl (by first | exact am_nw0 _ | exact am_nw01 | rfl | assumption) ?_
    exact ⟨rfl, rfl⟩
end ASS

