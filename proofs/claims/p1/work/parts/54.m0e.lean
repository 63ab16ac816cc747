/-! The reference: an empty text, no rods. -/
section M0e
variable {sc : Nat × (Nat → Int32)} {d : Nat} {I : hI} {J : hJ} {R : hR} {T : am_H} {Q : Option Value → am_H → Prop}
theorem m_reads0 (hc : I 73 12 = 0) (h14 : I 73 14 = 0) : am_E sc (d + 2) 179 [.ref 73] (HH I J R T) none (HH (sf (sf I 73 15 (I 73 14)) 73 16 (-1)) J R T) := by
  refine E_Z (Ze_of (Nat.le_of_ble_eq_true rfl) ?_)
  refine Z_jump 3 rfl ?_
  show Zs _ _ (am_P 179).2 (5, [(0, .ref 73)], [.int (I 73 14), .ref 73]) (HH I J R T) _
  refine Z_c1 rfl rfl rfl (m_letterAt (c := 0) (j := 0) hc (by omega) h14 (by omega)) ?_
  show Zs _ _ (am_P 179).2 (8, [(0, .ref 73)], [.int (-1 : Int32)]) (HH I J R T) _
  refine Z_jump 6 rfl ?_
  show Zs _ _ (am_P 179).2 (34, [(0, .ref 73)], []) (HH (sf I 73 15 (I 73 14)) J R T) _
  refine Z_jump 3 rfl ?_
  show Zs _ _ (am_P 179).2 (39, [(0, .ref 73)], [.int (I 73 14), .ref 73]) (HH (sf I 73 15 (I 73 14)) J R T) _
  refine Z_c1 rfl rfl rfl (m_letterAt (c := 0) (j := 0) hc (by omega) h14 (by omega)) ?_
  show Zs _ _ (am_P 179).2 (42, [(0, .ref 73)], [.int (-1 : Int32)]) (HH (sf I 73 15 (I 73 14)) J R T) _
  refine Z_jump 6 rfl ?_
  show Zs _ _ (am_P 179).2 (52, [(0, .ref 73), (1, .int (-1 : Int32))], []) (HH (sf (sf I 73 15 (I 73 14)) 73 16 (-1 : Int32)) J R T) _
  refine Z_jump 1 rfl ?_
  show Zs _ _ (am_P 179).2 (148, [(0, .ref 73), (1, .int (-1 : Int32))], []) (HH (sf (sf I 73 15 (I 73 14)) 73 16 (-1 : Int32)) J R T) _
  refine Z_ret rfl rfl rfl ?_
  exact ⟨rfl, rfl⟩
theorem m_readsClause0 (h16 : I 73 16 = -1) : am_E sc (d + 1) 186 [.ref 73] (HH I J R T) (some (.int 0)) (HH I J R T) := by
  refine E_Z (Ze_of (Nat.le_of_ble_eq_true rfl) ?_)
  refine Z_jump 4 rfl ?_
  refine Z_bd (fun c6 => absurd c6 ((show ¬ I 73 16 = -2 by rw [h16]; decide))) (fun c6 => ?_)
  refine Z_jump 1 rfl ?_
  show Zs _ _ (am_P 186).2 (10, [(0, .ref 73)], [.int (0 : Int32)]) (HH I J R T) _
  refine Z_rI rfl (by first | exact am_nw0 _ | exact am_nw01 | rfl | assumption) ?_
  exact ⟨rfl, rfl⟩
theorem m_readsStatement0 {o : Nat} (h16 : I 73 16 = -1) : am_E sc (d + 1) 195 [.ref 73, .ref o] (HH I J R T) (some (.int 0)) (HH I J R T) := by
  refine E_Z (Ze_of (Nat.le_of_ble_eq_true rfl) ?_)
  refine Z_jump 4 rfl ?_
  refine Z_bn (fun c6 => ?_) (fun c6 => absurd c6 ((show ¬ I 73 16 = -2 by rw [h16]; decide)))
  refine Z_jump 18 rfl ?_
  show Zs _ _ (am_P 195).2 (164, [(0, .ref 73), (1, .ref o), (2, .int (0 : Int32))], [.int (0 : Int32)]) (HH I J R T) _
  refine Z_rI rfl (by first | exact am_nw0 _ | exact am_nw01 | rfl | assumption) ?_
  exact ⟨rfl, rfl⟩
/-- behind a reading that finds nothing -/
def M0q (v : Value) (R : hR) (T : am_H) (r : Option Value) (h : am_H) : Prop := r = some v ∧ ∃ I' J', h = HH I' J' R T ∧ I' 73 0 = 0 ∧ I' 73 15 = 0
theorem m_readsFrame0 (hn : I 73 0 = 0) (hc : I 73 12 = 0) : Ze sc (d + 3) 187 [.ref 73] (HH I J R T) (M0q (.int 0) R T) := by
  refine Ze_of (Nat.le_of_ble_eq_true rfl) ?_
  refine Z_jump 3 rfl ?_
  show Zs _ _ (am_P 187).2 (5, [(0, .ref 73)], []) (HH (sf I 73 14 (0 : Int32)) J R T) _
  refine Z_jump 3 rfl ?_
  show Zs _ _ (am_P 187).2 (10, [(0, .ref 73)], []) (HH (sf (sf I 73 14 (0 : Int32)) 73 22 (0 : Int32)) J R T) _
  refine Z_jump 4 rfl ?_
  show Zs _ _ (am_P 187).2 (18, [(0, .ref 73)], []) (HH (sf (sf (sf I 73 14 (0 : Int32)) 73 22 (0 : Int32)) 73 20 (I 73 0)) J R T) _
  refine Z_jump 4 rfl ?_
  show Zs _ _ (am_P 187).2 (26, [(0, .ref 73)], []) (HH (sf (sf (sf (sf I 73 14 (0 : Int32)) 73 22 (0 : Int32)) 73 20 (I 73 0)) 73 21 (I 73 7)) J R T) _
  refine Z_jump 6 rfl ?_
  refine Z_bd (fun c33 => ?_) (fun c33 => absurd ((show I 73 0 ≤ (0 : Int32) by rw [hn]; decide)) c33)
  refine Z_jump 5 rfl ?_
  show Zs _ _ (am_P 187).2 (97, [(0, .ref 73), (1, .int (1 : Int32))], [.ref 73]) (HH (sf (sf (sf (sf I 73 14 (0 : Int32)) 73 22 (0 : Int32)) 73 20 (I 73 0)) 73 21 (I 73 7)) J R T) _
  refine Z_c0 rfl rfl rfl (m_reads0 hc rfl) ?_
  show Zs _ _ (am_P 187).2 (100, [(0, .ref 73), (1, .int (1 : Int32))], []) (HH (sf (sf (sf (sf (sf (sf I 73 14 (0 : Int32)) 73 22 (0 : Int32)) 73 20 (I 73 0)) 73 21 (I 73 7)) 73 15 ((sf (sf (sf (sf I 73 14 (0 : Int32)) 73 22 (0 : Int32)) 73 20 (I 73 0)) 73 21 (I 73 7)) 73 14)) 73 16 (-1)) J R T) _
  refine Z_jump 1 rfl ?_
  show Zs _ _ (am_P 187).2 (101, [(0, .ref 73), (1, .int (1 : Int32))], [.ref 73]) (HH (sf (sf (sf (sf (sf (sf I 73 14 (0 : Int32)) 73 22 (0 : Int32)) 73 20 (I 73 0)) 73 21 (I 73 7)) 73 15 ((sf (sf (sf (sf I 73 14 (0 : Int32)) 73 22 (0 : Int32)) 73 20 (I 73 0)) 73 21 (I 73 7)) 73 14)) 73 16 (-1)) J R T) _
  refine Z_c1 rfl rfl rfl (m_readsClause0 rfl) ?_
  show Zs _ _ (am_P 187).2 (104, [(0, .ref 73), (1, .int (1 : Int32))], [.int (0 : Int32)]) (HH (sf (sf (sf (sf (sf (sf I 73 14 (0 : Int32)) 73 22 (0 : Int32)) 73 20 (I 73 0)) 73 21 (I 73 7)) 73 15 ((sf (sf (sf (sf I 73 14 (0 : Int32)) 73 22 (0 : Int32)) 73 20 (I 73 0)) 73 21 (I 73 7)) 73 14)) 73 16 (-1)) J R T) _
  refine Z_jump 2 rfl ?_
  show Zs _ _ (am_P 187).2 (108, [(0, .ref 73), (1, .int (1 : Int32))], [.int (0 : Int32)]) (HH (sf (sf (sf (sf (sf (sf I 73 14 (0 : Int32)) 73 22 (0 : Int32)) 73 20 (I 73 0)) 73 21 (I 73 7)) 73 15 ((sf (sf (sf (sf I 73 14 (0 : Int32)) 73 22 (0 : Int32)) 73 20 (I 73 0)) 73 21 (I 73 7)) 73 14)) 73 16 (-1)) J R T) _
  refine Z_rI rfl (by first | exact am_nw0 _ | exact am_nw01 | rfl | assumption) ?_
  exact ⟨rfl, _, J, rfl, hn, rfl⟩
theorem m_readsSums0 (hn : I 73 0 = 0) (hc : I 73 12 = 0) : Ze sc (d + 3) 196 [.ref 73, .ref 78, .int 0] (HH I J R T) (M0q (.int 0) R T) := by
  refine Ze_of (Nat.le_of_ble_eq_true rfl) ?_
  refine Z_jump 3 rfl ?_
  show Zs _ _ (am_P 196).2 (5, [(0, .ref 73), (1, .ref 78), (2, .int (0 : Int32))], []) (HH (sf I 73 27 (0 : Int32)) J R T) _
  refine Z_jump 3 rfl ?_
  show Zs _ _ (am_P 196).2 (10, [(0, .ref 73), (1, .ref 78), (2, .int (0 : Int32))], []) (HH (sf (sf I 73 27 (0 : Int32)) 73 28 (0 : Int32)) J R T) _
  refine Z_jump 3 rfl ?_
  show Zs _ _ (am_P 196).2 (15, [(0, .ref 73), (1, .ref 78), (2, .int (0 : Int32))], []) (HH (sf (sf (sf I 73 27 (0 : Int32)) 73 28 (0 : Int32)) 73 14 (0 : Int32)) J R T) _
  refine Z_jump 3 rfl ?_
  show Zs _ _ (am_P 196).2 (20, [(0, .ref 73), (1, .ref 78), (2, .int (0 : Int32))], []) (HH (sf (sf (sf (sf I 73 27 (0 : Int32)) 73 28 (0 : Int32)) 73 14 (0 : Int32)) 73 22 (0 : Int32)) J R T) _
  refine Z_jump 5 rfl ?_
  show Zs _ _ (am_P 196).2 (27, [(0, .ref 73), (1, .ref 78), (2, .int (0 : Int32)), (3, .int (1 : Int32))], [.ref 73]) (HH (sf (sf (sf (sf I 73 27 (0 : Int32)) 73 28 (0 : Int32)) 73 14 (0 : Int32)) 73 22 (0 : Int32)) J R T) _
  refine Z_c0 rfl rfl rfl (m_reads0 hc rfl) ?_
  show Zs _ _ (am_P 196).2 (30, [(0, .ref 73), (1, .ref 78), (2, .int (0 : Int32)), (3, .int (1 : Int32))], []) (HH (sf (sf (sf (sf (sf (sf I 73 27 (0 : Int32)) 73 28 (0 : Int32)) 73 14 (0 : Int32)) 73 22 (0 : Int32)) 73 15 ((sf (sf (sf (sf I 73 27 (0 : Int32)) 73 28 (0 : Int32)) 73 14 (0 : Int32)) 73 22 (0 : Int32)) 73 14)) 73 16 (-1)) J R T) _
  refine Z_jump 2 rfl ?_
  show Zs _ _ (am_P 196).2 (32, [(0, .ref 73), (1, .ref 78), (2, .int (0 : Int32)), (3, .int (1 : Int32))], [.ref 78, .ref 73]) (HH (sf (sf (sf (sf (sf (sf I 73 27 (0 : Int32)) 73 28 (0 : Int32)) 73 14 (0 : Int32)) 73 22 (0 : Int32)) 73 15 ((sf (sf (sf (sf I 73 27 (0 : Int32)) 73 28 (0 : Int32)) 73 14 (0 : Int32)) 73 22 (0 : Int32)) 73 14)) 73 16 (-1)) J R T) _
  refine Z_c1 rfl rfl rfl (m_readsStatement0 rfl) ?_
  show Zs _ _ (am_P 196).2 (35, [(0, .ref 73), (1, .ref 78), (2, .int (0 : Int32)), (3, .int (1 : Int32))], [.int (0 : Int32)]) (HH (sf (sf (sf (sf (sf (sf I 73 27 (0 : Int32)) 73 28 (0 : Int32)) 73 14 (0 : Int32)) 73 22 (0 : Int32)) 73 15 ((sf (sf (sf (sf I 73 27 (0 : Int32)) 73 28 (0 : Int32)) 73 14 (0 : Int32)) 73 22 (0 : Int32)) 73 14)) 73 16 (-1)) J R T) _
  refine Z_jump 2 rfl ?_
  show Zs _ _ (am_P 196).2 (39, [(0, .ref 73), (1, .ref 78), (2, .int (0 : Int32)), (3, .int (1 : Int32))], [.int (0 : Int32)]) (HH (sf (sf (sf (sf (sf (sf I 73 27 (0 : Int32)) 73 28 (0 : Int32)) 73 14 (0 : Int32)) 73 22 (0 : Int32)) 73 15 ((sf (sf (sf (sf I 73 27 (0 : Int32)) 73 28 (0 : Int32)) 73 14 (0 : Int32)) 73 22 (0 : Int32)) 73 14)) 73 16 (-1)) J R T) _
  refine Z_rI rfl (by first | exact am_nw0 _ | exact am_nw01 | rfl | assumption) ?_
  exact ⟨rfl, _, J, rfl, hn, rfl⟩
theorem m_fault0 {w : Int32} (hn : I 73 0 = 0) (hc : I 73 12 = 0) : Ze sc (d + 4) 197 [.ref 73, .int w] (HH I J R T) (M0p (.int (if M_01 w then 0 else -3)) R T) := by
  refine Ze_of (Nat.le_of_ble_eq_true rfl) ?_
  by_cases hb : M_01 w
  · rcases bit_c hb with rfl | rfl
    · refine Z_jump 4 rfl ?_
      show Zs _ _ (am_P 197).2 (4, [(0, .ref 73), (1, .int (0 : Int32))], [.long (1 : Int64), .long (0 : Int64), .long (0 : Int64)]) (HH I J R T) _
      refine Z_c1 rfl rfl rfl (m_inI (v := 0) (a := 0) (b := 1) rfl rfl) ?_
      show Zs _ _ (am_P 197).2 (7, [(0, .ref 73), (1, .int (0 : Int32))], [.int (1 : Int32)]) (HH I J R T) _
      refine Z_jump 4 rfl ?_
      show Zs _ _ (am_P 197).2 (18, [(0, .ref 73), (1, .int (0 : Int32))], [.ref 73]) (HH I J R T) _
      refine Z_cQ rfl rfl rfl (m_readsFrame0 hn hc) (fun v h1 hq => ?_)
      obtain ⟨rfl, I', J', rfl, hn2, h15⟩ := hq
      show Zs _ _ (am_P 197).2 (21, [(0, .ref 73), (1, .int (0 : Int32))], [.int (0 : Int32)]) (HH I' J' R T) _
      refine Z_jump 6 rfl ?_
      show Zs _ _ (am_P 197).2 (46, [(0, .ref 73), (1, .int (0 : Int32)), (2, .int (0 : Int32))], [.int (I' 73 15)]) (HH I' J' R T) _
      refine Z_rI rfl (by first | exact am_nw0 _ | exact am_nw01 | rfl | assumption) ?_
      exact ⟨am_ii h15, I', J', rfl, hn2⟩
    · refine Z_jump 4 rfl ?_
      show Zs _ _ (am_P 197).2 (4, [(0, .ref 73), (1, .int (1 : Int32))], [.long (1 : Int64), .long (0 : Int64), .long (1 : Int64)]) (HH I J R T) _
      refine Z_c1 rfl rfl rfl (m_inI (v := 1) (a := 0) (b := 1) rfl rfl) ?_
      show Zs _ _ (am_P 197).2 (7, [(0, .ref 73), (1, .int (1 : Int32))], [.int (1 : Int32)]) (HH I J R T) _
      refine Z_jump 7 rfl ?_
      show Zs _ _ (am_P 197).2 (30, [(0, .ref 73), (1, .int (1 : Int32))], [.int (0 : Int32), .ref 78, .ref 73]) (HH I J R T) _
      refine Z_cQ rfl rfl rfl (m_readsSums0 hn hc) (fun v h1 hq => ?_)
      obtain ⟨rfl, I', J', rfl, hn2, h15⟩ := hq
      show Zs _ _ (am_P 197).2 (33, [(0, .ref 73), (1, .int (1 : Int32))], [.int (0 : Int32)]) (HH I' J' R T) _
      refine Z_jump 5 rfl ?_
      show Zs _ _ (am_P 197).2 (46, [(0, .ref 73), (1, .int (1 : Int32)), (2, .int (0 : Int32))], [.int (I' 73 15)]) (HH I' J' R T) _
      refine Z_rI rfl (by first | exact am_nw0 _ | exact am_nw01 | rfl | assumption) ?_
      exact ⟨am_ii h15, I', J', rfl, hn2⟩
  · refine Z_jump 4 rfl ?_
    show Zs _ _ (am_P 197).2 (4, [(0, .ref 73), (1, .int w)], [.long (1 : Int64), .long (0 : Int64), .long (Int32.toInt64 w)]) (HH I J R T) _
    refine Z_c1 rfl rfl rfl (m_inI (a := 0) (b := 1) rfl rfl) ?_
    show Zs _ _ (am_P 197).2 (7, [(0, .ref 73), (1, .int w)], [.int (if 0 ≤ w.toInt ∧ w.toInt ≤ 1 then 1 else 0)]) (HH I J R T) _
    refine Z_jump 1 rfl ?_
    refine Z_bn (fun c7 => absurd (if10.mpr hb) c7) (fun c7 => ?_)
    refine Z_jump 1 rfl ?_
    show Zs _ _ (am_P 197).2 (12, [(0, .ref 73), (1, .int w)], [.int (-3 : Int32)]) (HH I J R T) _
    refine Z_rI rfl (by first | exact am_nw0 _ | exact am_nw01 | rfl | assumption) ?_
    exact ⟨am_ii (if_neg hb).symm, I, J, rfl, hn⟩
theorem m_frame0 (hn : I 73 0 = 0) (hc : I 73 12 = 0) : Ze sc (d + 4) 198 [.ref 73] (HH I J R T) (M0p (.int (-4)) R T) := by
  refine Ze_of (Nat.le_of_ble_eq_true rfl) ?_
  refine Z_jump 1 rfl ?_
  show Zs _ _ (am_P 198).2 (1, [(0, .ref 73)], [.ref 73]) (HH I J R T) _
  refine Z_cQ rfl rfl rfl (m_readsFrame0 hn hc) (fun v h1 hq => ?_)
  obtain ⟨rfl, I', J', rfl, hn2, h15⟩ := hq
  show Zs _ _ (am_P 198).2 (4, [(0, .ref 73)], [.int (0 : Int32)]) (HH I' J' R T) _
  refine Z_jump 2 rfl ?_
  show Zs _ _ (am_P 198).2 (9, [(0, .ref 73)], [.int (-4 : Int32)]) (HH I' J' R T) _
  refine Z_rI rfl (by first | exact am_nw0 _ | exact am_nw01 | rfl | assumption) ?_
  exact ⟨rfl, I', J', rfl, hn2⟩
theorem m_run0 (hn : I 73 0 = 0) (hc : I 73 12 = 0) : Ze sc (d + 4) 199 [.ref 73] (HH I J R T) (M0p (.int (-4)) R T) := by
  refine Ze_of (Nat.le_of_ble_eq_true rfl) ?_
  refine Z_jump 4 rfl ?_
  show Zs _ _ (am_P 199).2 (6, [(0, .ref 73)], [.int (0 : Int32), .ref 78, .ref 73]) (HH I J R T) _
  refine Z_cQ rfl rfl rfl (m_readsSums0 hn hc) (fun v h1 hq => ?_)
  obtain ⟨rfl, I', J', rfl, hn2, h15⟩ := hq
  show Zs _ _ (am_P 199).2 (9, [(0, .ref 73)], [.int (0 : Int32)]) (HH I' J' R T) _
  refine Z_jump 2 rfl ?_
  show Zs _ _ (am_P 199).2 (14, [(0, .ref 73)], [.int (-4 : Int32)]) (HH I' J' R T) _
  refine Z_rI rfl (by first | exact am_nw0 _ | exact am_nw01 | rfl | assumption) ?_
  exact ⟨rfl, I', J', rfl, hn2⟩
end M0e

