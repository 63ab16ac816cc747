/-! The reference without rods: the tour; texts that are empty. -/
abbrev M_mil (v : Int32) : Prop := 0 ≤ v.toInt ∧ v.toInt ≤ 1000000
section M0d
variable {sc : Nat × (Nat → Int32)} {d : Nat} {I : hI} {J : hJ} {R : hR} {T : am_H} {Q : Option Value → am_H → Prop}
theorem m_tourOut {a b c w : Int32} (hb : ¬ (M_mil a ∧ M_mil b ∧ M_mil c ∧ M_01 w)) : am_E sc (d + 2) 220 [.ref 73, .int a, .int b, .int c, .int w] (HH I J R T) (some (.int (-3))) (HH I J R T) := by
  refine E_Z (Ze_of (Nat.le_of_ble_eq_true rfl) ?_)
  refine Z_jump 4 rfl ?_
  show Zs _ _ (am_P 220).2 (6, [(0, .ref 73), (1, .int a), (2, .int b), (3, .int c), (4, .int w)], [.long (1000000 : Int64), .long (0 : Int64), .long (Int32.toInt64 a)]) (HH I J R T) _
  refine Z_c1 rfl rfl rfl (m_inI (a := 0) (b := 1000000) rfl rfl) ?_
  show Zs _ _ (am_P 220).2 (9, [(0, .ref 73), (1, .int a), (2, .int b), (3, .int c), (4, .int w)], [.int (if 0 ≤ a.toInt ∧ a.toInt ≤ 1000000 then 1 else 0)]) (HH I J R T) _
  refine Z_jump 1 rfl ?_
  refine Z_bd (fun (c9 : (if 0 ≤ a.toInt ∧ a.toInt ≤ 1000000 then 1 else 0) = (0 : Int32)) => ?_) (fun (c9 : ¬ ((if 0 ≤ a.toInt ∧ a.toInt ≤ 1000000 then 1 else 0) = (0 : Int32))) => ?_)
  · refine Z_jump 1 rfl ?_
    show Zs _ _ (am_P 220).2 (49, [(0, .ref 73), (1, .int a), (2, .int b), (3, .int c), (4, .int w)], [.int (-3 : Int32)]) (HH I J R T) _
    refine Z_rI rfl (by first | exact am_nw0 _ | exact am_nw01 | rfl | assumption) ?_
    exact ⟨rfl, rfl⟩
  · refine Z_jump 4 rfl ?_
    show Zs _ _ (am_P 220).2 (18, [(0, .ref 73), (1, .int a), (2, .int b), (3, .int c), (4, .int w)], [.long (1000000 : Int64), .long (0 : Int64), .long (Int32.toInt64 b)]) (HH I J R T) _
    refine Z_c1 rfl rfl rfl (m_inI (a := 0) (b := 1000000) rfl rfl) ?_
    show Zs _ _ (am_P 220).2 (21, [(0, .ref 73), (1, .int a), (2, .int b), (3, .int c), (4, .int w)], [.int (if 0 ≤ b.toInt ∧ b.toInt ≤ 1000000 then 1 else 0)]) (HH I J R T) _
    refine Z_jump 1 rfl ?_
    refine Z_bd (fun (c21 : (if 0 ≤ b.toInt ∧ b.toInt ≤ 1000000 then 1 else 0) = (0 : Int32)) => ?_) (fun (c21 : ¬ ((if 0 ≤ b.toInt ∧ b.toInt ≤ 1000000 then 1 else 0) = (0 : Int32))) => ?_)
    · refine Z_jump 1 rfl ?_
      show Zs _ _ (am_P 220).2 (49, [(0, .ref 73), (1, .int a), (2, .int b), (3, .int c), (4, .int w)], [.int (-3 : Int32)]) (HH I J R T) _
      refine Z_rI rfl (by first | exact am_nw0 _ | exact am_nw01 | rfl | assumption) ?_
      exact ⟨rfl, rfl⟩
    · refine Z_jump 4 rfl ?_
      show Zs _ _ (am_P 220).2 (30, [(0, .ref 73), (1, .int a), (2, .int b), (3, .int c), (4, .int w)], [.long (1000000 : Int64), .long (0 : Int64), .long (Int32.toInt64 c)]) (HH I J R T) _
      refine Z_c1 rfl rfl rfl (m_inI (a := 0) (b := 1000000) rfl rfl) ?_
      show Zs _ _ (am_P 220).2 (33, [(0, .ref 73), (1, .int a), (2, .int b), (3, .int c), (4, .int w)], [.int (if 0 ≤ c.toInt ∧ c.toInt ≤ 1000000 then 1 else 0)]) (HH I J R T) _
      refine Z_jump 1 rfl ?_
      refine Z_bd (fun (c33 : (if 0 ≤ c.toInt ∧ c.toInt ≤ 1000000 then 1 else 0) = (0 : Int32)) => ?_) (fun (c33 : ¬ ((if 0 ≤ c.toInt ∧ c.toInt ≤ 1000000 then 1 else 0) = (0 : Int32))) => ?_)
      · refine Z_jump 1 rfl ?_
        show Zs _ _ (am_P 220).2 (49, [(0, .ref 73), (1, .int a), (2, .int b), (3, .int c), (4, .int w)], [.int (-3 : Int32)]) (HH I J R T) _
        refine Z_rI rfl (by first | exact am_nw0 _ | exact am_nw01 | rfl | assumption) ?_
        exact ⟨rfl, rfl⟩
      · refine Z_jump 4 rfl ?_
        show Zs _ _ (am_P 220).2 (41, [(0, .ref 73), (1, .int a), (2, .int b), (3, .int c), (4, .int w)], [.long (1 : Int64), .long (0 : Int64), .long (Int32.toInt64 w)]) (HH I J R T) _
        refine Z_c1 rfl rfl rfl (m_inI (a := 0) (b := 1) rfl rfl) ?_
        show Zs _ _ (am_P 220).2 (44, [(0, .ref 73), (1, .int a), (2, .int b), (3, .int c), (4, .int w)], [.int (if 0 ≤ w.toInt ∧ w.toInt ≤ 1 then 1 else 0)]) (HH I J R T) _
        refine Z_jump 1 rfl ?_
        refine Z_bn (fun (c44 : ¬ ((if 0 ≤ w.toInt ∧ w.toInt ≤ 1 then 1 else 0) = (0 : Int32))) => ?_) (fun (c44 : (if 0 ≤ w.toInt ∧ w.toInt ≤ 1 then 1 else 0) = (0 : Int32)) => ?_)
        · show Zs _ _ (am_P 220).2 (50, [(0, .ref 73), (1, .int a), (2, .int b), (3, .int c), (4, .int w)], []) (HH I J R T) _
          exact absurd ⟨if10n c9, if10n c21, if10n c33, if10n c44⟩ hb
        · refine Z_jump 1 rfl ?_
          show Zs _ _ (am_P 220).2 (49, [(0, .ref 73), (1, .int a), (2, .int b), (3, .int c), (4, .int w)], [.int (-3 : Int32)]) (HH I J R T) _
          refine Z_rI rfl (by first | exact am_nw0 _ | exact am_nw01 | rfl | assumption) ?_
          exact ⟨rfl, rfl⟩
set_option maxHeartbeats 16000000 in
theorem m_tour0 {a b c w : Int32} (hn : I 73 0 = 0) (hb : M_mil a ∧ M_mil b ∧ M_mil c ∧ M_01 w) : Ze sc (d + 5) 220 [.ref 73, .int a, .int b, .int c, .int w] (HH I J R T) (M0p (.int (if a = 0 ∧ b = 0 ∧ c = 0 then 0 else -1)) R T) := by
  obtain ⟨h1, h2, h3, h4⟩ := hb
  refine Ze_of (Nat.le_of_ble_eq_true rfl) ?_
  by_cases ha : a = 0
  · by_cases hb : b = 0
    · by_cases hc : c = 0
      · subst ha
        subst hb
        subst hc
        rw [if_pos ⟨rfl, rfl, rfl⟩]
        refine Z_jump 4 rfl ?_
        show Zs _ _ (am_P 220).2 (6, [(0, .ref 73), (1, .int (0 : Int32)), (2, .int (0 : Int32)), (3, .int (0 : Int32)), (4, .int w)], [.long (1000000 : Int64), .long (0 : Int64), .long (0 : Int64)]) (HH I J R T) _
        refine Z_c1 rfl rfl rfl (m_inI (v := 0) (a := 0) (b := 1000000) rfl rfl) ?_
        show Zs _ _ (am_P 220).2 (9, [(0, .ref 73), (1, .int (0 : Int32)), (2, .int (0 : Int32)), (3, .int (0 : Int32)), (4, .int w)], [.int (1 : Int32)]) (HH I J R T) _
        refine Z_jump 5 rfl ?_
        show Zs _ _ (am_P 220).2 (18, [(0, .ref 73), (1, .int (0 : Int32)), (2, .int (0 : Int32)), (3, .int (0 : Int32)), (4, .int w)], [.long (1000000 : Int64), .long (0 : Int64), .long (0 : Int64)]) (HH I J R T) _
        refine Z_c1 rfl rfl rfl (m_inI (v := 0) (a := 0) (b := 1000000) rfl rfl) ?_
        show Zs _ _ (am_P 220).2 (21, [(0, .ref 73), (1, .int (0 : Int32)), (2, .int (0 : Int32)), (3, .int (0 : Int32)), (4, .int w)], [.int (1 : Int32)]) (HH I J R T) _
        refine Z_jump 5 rfl ?_
        show Zs _ _ (am_P 220).2 (30, [(0, .ref 73), (1, .int (0 : Int32)), (2, .int (0 : Int32)), (3, .int (0 : Int32)), (4, .int w)], [.long (1000000 : Int64), .long (0 : Int64), .long (0 : Int64)]) (HH I J R T) _
        refine Z_c1 rfl rfl rfl (m_inI (v := 0) (a := 0) (b := 1000000) rfl rfl) ?_
        show Zs _ _ (am_P 220).2 (33, [(0, .ref 73), (1, .int (0 : Int32)), (2, .int (0 : Int32)), (3, .int (0 : Int32)), (4, .int w)], [.int (1 : Int32)]) (HH I J R T) _
        refine Z_jump 5 rfl ?_
        show Zs _ _ (am_P 220).2 (41, [(0, .ref 73), (1, .int (0 : Int32)), (2, .int (0 : Int32)), (3, .int (0 : Int32)), (4, .int w)], [.long (1 : Int64), .long (0 : Int64), .long (Int32.toInt64 w)]) (HH I J R T) _
        refine Z_c1 rfl rfl rfl (m_inI (a := 0) (b := 1) rfl rfl) ?_
        show Zs _ _ (am_P 220).2 (44, [(0, .ref 73), (1, .int (0 : Int32)), (2, .int (0 : Int32)), (3, .int (0 : Int32)), (4, .int w)], [.int (if 0 ≤ w.toInt ∧ w.toInt ≤ 1 then 1 else 0)]) (HH I J R T) _
        refine Z_jump 1 rfl ?_
        refine Z_bn (fun c44 => ?_) (fun c44 => absurd c44 ((fun z => if10.mp z h4)))
        refine Z_jump 10 rfl ?_
        show Zs _ _ (am_P 220).2 (68, [(0, .ref 73), (1, .int (0 : Int32)), (2, .int (0 : Int32)), (3, .int (0 : Int32)), (4, .int w), (5, .int (-1 : Int32)), (6, .int (1000000000 : Int32)), (7, .int (0 : Int32))], [.ref 73]) (HH I J R T) _
        refine Z_c0 rfl rfl rfl (m_copyNow) ?_
        show Zs _ _ (am_P 220).2 (71, [(0, .ref 73), (1, .int (0 : Int32)), (2, .int (0 : Int32)), (3, .int (0 : Int32)), (4, .int w), (5, .int (-1 : Int32)), (6, .int (1000000000 : Int32)), (7, .int (0 : Int32))], []) (HH (va_up I 79 (fun j => if j < 14 then I 78 j else I 79 j)) J R T) _
        refine Z_jump 11 rfl ?_
        show Zs _ _ (am_P 220).2 (92, [(0, .ref 73), (1, .int (0 : Int32)), (2, .int (0 : Int32)), (3, .int (0 : Int32)), (4, .int w), (5, .int (-1 : Int32)), (6, .int (1000000000 : Int32)), (7, .int (0 : Int32)), (8, .int (0 : Int32)), (9, .int (0 : Int32))], [.int (0 : Int32), .int (0 : Int32)]) (HH (va_up I 79 (fun j => if j < 14 then I 78 j else I 79 j)) J R T) _
        refine Z_c1 rfl rfl rfl ((E_run 40 rfl)) ?_
        show Zs _ _ (am_P 220).2 (95, [(0, .ref 73), (1, .int (0 : Int32)), (2, .int (0 : Int32)), (3, .int (0 : Int32)), (4, .int w), (5, .int (-1 : Int32)), (6, .int (1000000000 : Int32)), (7, .int (0 : Int32)), (8, .int (0 : Int32)), (9, .int (0 : Int32))], [.int (0 : Int32)]) (HH (va_up I 79 (fun j => if j < 14 then I 78 j else I 79 j)) J R T) _
        refine Z_jump 9 rfl ?_
        show Zs _ _ (am_P 220).2 (125, [(0, .ref 73), (1, .int (0 : Int32)), (2, .int (0 : Int32)), (3, .int (0 : Int32)), (4, .int w), (5, .int (-1 : Int32)), (6, .int (1000000000 : Int32)), (7, .int (0 : Int32)), (8, .int (0 : Int32)), (9, .int (0 : Int32)), (10, .int (0 : Int32))], [.long (0 : Int64), .ref 79, .ref 73]) (HH (va_up I 79 (fun j => if j < 14 then I 78 j else I 79 j)) J R T) _
        refine Z_cQ rfl rfl rfl (m_sets0 (I := (va_up I 79 (fun j => if j < 14 then I 78 j else I 79 j))) (to := 0) (Or.inr rfl) hn) (fun v h1 hq => ?_)
        obtain ⟨rfl, I', J', rfl, hn'⟩ := hq
        clear hn
        have hn := hn'
        clear hn'
        show Zs _ _ (am_P 220).2 (128, [(0, .ref 73), (1, .int (0 : Int32)), (2, .int (0 : Int32)), (3, .int (0 : Int32)), (4, .int w), (5, .int (-1 : Int32)), (6, .int (1000000000 : Int32)), (7, .int (0 : Int32)), (8, .int (0 : Int32)), (9, .int (0 : Int32)), (10, .int (0 : Int32))], [.int (0 : Int32)]) (HH I' J' R T) _
        refine Z_jump 16 rfl ?_
        show Zs _ _ (am_P 220).2 (92, [(0, .ref 73), (1, .int (0 : Int32)), (2, .int (0 : Int32)), (3, .int (0 : Int32)), (4, .int w), (5, .int (-1 : Int32)), (6, .int (1000000000 : Int32)), (7, .int (0 : Int32)), (8, .int (0 : Int32)), (9, .int (1 : Int32)), (10, .int (0 : Int32)), (11, .int (0 : Int32))], [.int (1 : Int32), .int (0 : Int32)]) (HH I' J' R T) _
        refine Z_c1 rfl rfl rfl ((E_run 40 rfl)) ?_
        show Zs _ _ (am_P 220).2 (95, [(0, .ref 73), (1, .int (0 : Int32)), (2, .int (0 : Int32)), (3, .int (0 : Int32)), (4, .int w), (5, .int (-1 : Int32)), (6, .int (1000000000 : Int32)), (7, .int (0 : Int32)), (8, .int (0 : Int32)), (9, .int (1 : Int32)), (10, .int (0 : Int32)), (11, .int (0 : Int32))], [.int (1 : Int32)]) (HH I' J' R T) _
        refine Z_jump 12 rfl ?_
        show Zs _ _ (am_P 220).2 (125, [(0, .ref 73), (1, .int (0 : Int32)), (2, .int (0 : Int32)), (3, .int (0 : Int32)), (4, .int w), (5, .int (-1 : Int32)), (6, .int (1000000000 : Int32)), (7, .int (0 : Int32)), (8, .int (0 : Int32)), (9, .int (1 : Int32)), (10, .int (1 : Int32)), (11, .int (0 : Int32))], [.long (0 : Int64), .ref 79, .ref 73]) (HH I' J' R T) _
        refine Z_cQ rfl rfl rfl (m_sets0 (I := I') (to := 0) (Or.inr rfl) hn) (fun v h1 hq => ?_)
        obtain ⟨rfl, I', J', rfl, hn'⟩ := hq
        clear hn
        have hn := hn'
        clear hn'
        show Zs _ _ (am_P 220).2 (128, [(0, .ref 73), (1, .int (0 : Int32)), (2, .int (0 : Int32)), (3, .int (0 : Int32)), (4, .int w), (5, .int (-1 : Int32)), (6, .int (1000000000 : Int32)), (7, .int (0 : Int32)), (8, .int (0 : Int32)), (9, .int (1 : Int32)), (10, .int (1 : Int32)), (11, .int (0 : Int32))], [.int (0 : Int32)]) (HH I' J' R T) _
        refine Z_jump 16 rfl ?_
        show Zs _ _ (am_P 220).2 (92, [(0, .ref 73), (1, .int (0 : Int32)), (2, .int (0 : Int32)), (3, .int (0 : Int32)), (4, .int w), (5, .int (-1 : Int32)), (6, .int (1000000000 : Int32)), (7, .int (0 : Int32)), (8, .int (0 : Int32)), (9, .int (2 : Int32)), (10, .int (1 : Int32)), (11, .int (0 : Int32))], [.int (2 : Int32), .int (0 : Int32)]) (HH I' J' R T) _
        refine Z_c1 rfl rfl rfl ((E_run 40 rfl)) ?_
        show Zs _ _ (am_P 220).2 (95, [(0, .ref 73), (1, .int (0 : Int32)), (2, .int (0 : Int32)), (3, .int (0 : Int32)), (4, .int w), (5, .int (-1 : Int32)), (6, .int (1000000000 : Int32)), (7, .int (0 : Int32)), (8, .int (0 : Int32)), (9, .int (2 : Int32)), (10, .int (1 : Int32)), (11, .int (0 : Int32))], [.int (2 : Int32)]) (HH I' J' R T) _
        refine Z_jump 11 rfl ?_
        show Zs _ _ (am_P 220).2 (125, [(0, .ref 73), (1, .int (0 : Int32)), (2, .int (0 : Int32)), (3, .int (0 : Int32)), (4, .int w), (5, .int (-1 : Int32)), (6, .int (1000000000 : Int32)), (7, .int (0 : Int32)), (8, .int (0 : Int32)), (9, .int (2 : Int32)), (10, .int (2 : Int32)), (11, .int (0 : Int32))], [.long (0 : Int64), .ref 79, .ref 73]) (HH I' J' R T) _
        refine Z_cQ rfl rfl rfl (m_sets0 (I := I') (to := 0) (Or.inr rfl) hn) (fun v h1 hq => ?_)
        obtain ⟨rfl, I', J', rfl, hn'⟩ := hq
        clear hn
        have hn := hn'
        clear hn'
        show Zs _ _ (am_P 220).2 (128, [(0, .ref 73), (1, .int (0 : Int32)), (2, .int (0 : Int32)), (3, .int (0 : Int32)), (4, .int w), (5, .int (-1 : Int32)), (6, .int (1000000000 : Int32)), (7, .int (0 : Int32)), (8, .int (0 : Int32)), (9, .int (2 : Int32)), (10, .int (2 : Int32)), (11, .int (0 : Int32))], [.int (0 : Int32)]) (HH I' J' R T) _
        refine Z_jump 32 rfl ?_
        show Zs _ _ (am_P 220).2 (68, [(0, .ref 73), (1, .int (0 : Int32)), (2, .int (0 : Int32)), (3, .int (0 : Int32)), (4, .int w), (5, .int (0 : Int32)), (6, .int (0 : Int32)), (7, .int (1 : Int32)), (8, .int (0 : Int32)), (9, .int (3 : Int32)), (10, .int (2 : Int32)), (11, .int (0 : Int32))], [.ref 73]) (HH I' J' R T) _
        refine Z_c0 rfl rfl rfl (m_copyNow) ?_
        show Zs _ _ (am_P 220).2 (71, [(0, .ref 73), (1, .int (0 : Int32)), (2, .int (0 : Int32)), (3, .int (0 : Int32)), (4, .int w), (5, .int (0 : Int32)), (6, .int (0 : Int32)), (7, .int (1 : Int32)), (8, .int (0 : Int32)), (9, .int (3 : Int32)), (10, .int (2 : Int32)), (11, .int (0 : Int32))], []) (HH (va_up I' 79 (fun j => if j < 14 then I' 78 j else I' 79 j)) J' R T) _
        refine Z_jump 11 rfl ?_
        show Zs _ _ (am_P 220).2 (92, [(0, .ref 73), (1, .int (0 : Int32)), (2, .int (0 : Int32)), (3, .int (0 : Int32)), (4, .int w), (5, .int (0 : Int32)), (6, .int (0 : Int32)), (7, .int (1 : Int32)), (8, .int (0 : Int32)), (9, .int (0 : Int32)), (10, .int (2 : Int32)), (11, .int (0 : Int32))], [.int (0 : Int32), .int (1 : Int32)]) (HH (va_up I' 79 (fun j => if j < 14 then I' 78 j else I' 79 j)) J' R T) _
        refine Z_c1 rfl rfl rfl ((E_run 40 rfl)) ?_
        show Zs _ _ (am_P 220).2 (95, [(0, .ref 73), (1, .int (0 : Int32)), (2, .int (0 : Int32)), (3, .int (0 : Int32)), (4, .int w), (5, .int (0 : Int32)), (6, .int (0 : Int32)), (7, .int (1 : Int32)), (8, .int (0 : Int32)), (9, .int (0 : Int32)), (10, .int (2 : Int32)), (11, .int (0 : Int32))], [.int (0 : Int32)]) (HH (va_up I' 79 (fun j => if j < 14 then I' 78 j else I' 79 j)) J' R T) _
        refine Z_jump 9 rfl ?_
        show Zs _ _ (am_P 220).2 (125, [(0, .ref 73), (1, .int (0 : Int32)), (2, .int (0 : Int32)), (3, .int (0 : Int32)), (4, .int w), (5, .int (0 : Int32)), (6, .int (0 : Int32)), (7, .int (1 : Int32)), (8, .int (0 : Int32)), (9, .int (0 : Int32)), (10, .int (0 : Int32)), (11, .int (0 : Int32))], [.long (0 : Int64), .ref 79, .ref 73]) (HH (va_up I' 79 (fun j => if j < 14 then I' 78 j else I' 79 j)) J' R T) _
        refine Z_cQ rfl rfl rfl (m_sets0 (I := (va_up I' 79 (fun j => if j < 14 then I' 78 j else I' 79 j))) (to := 0) (Or.inr rfl) hn) (fun v h1 hq => ?_)
        obtain ⟨rfl, I', J', rfl, hn'⟩ := hq
        clear hn
        have hn := hn'
        clear hn'
        show Zs _ _ (am_P 220).2 (128, [(0, .ref 73), (1, .int (0 : Int32)), (2, .int (0 : Int32)), (3, .int (0 : Int32)), (4, .int w), (5, .int (0 : Int32)), (6, .int (0 : Int32)), (7, .int (1 : Int32)), (8, .int (0 : Int32)), (9, .int (0 : Int32)), (10, .int (0 : Int32)), (11, .int (0 : Int32))], [.int (0 : Int32)]) (HH I' J' R T) _
        refine Z_jump 16 rfl ?_
        show Zs _ _ (am_P 220).2 (92, [(0, .ref 73), (1, .int (0 : Int32)), (2, .int (0 : Int32)), (3, .int (0 : Int32)), (4, .int w), (5, .int (0 : Int32)), (6, .int (0 : Int32)), (7, .int (1 : Int32)), (8, .int (0 : Int32)), (9, .int (1 : Int32)), (10, .int (0 : Int32)), (11, .int (0 : Int32))], [.int (1 : Int32), .int (1 : Int32)]) (HH I' J' R T) _
        refine Z_c1 rfl rfl rfl ((E_run 40 rfl)) ?_
        show Zs _ _ (am_P 220).2 (95, [(0, .ref 73), (1, .int (0 : Int32)), (2, .int (0 : Int32)), (3, .int (0 : Int32)), (4, .int w), (5, .int (0 : Int32)), (6, .int (0 : Int32)), (7, .int (1 : Int32)), (8, .int (0 : Int32)), (9, .int (1 : Int32)), (10, .int (0 : Int32)), (11, .int (0 : Int32))], [.int (2 : Int32)]) (HH I' J' R T) _
        refine Z_jump 11 rfl ?_
        show Zs _ _ (am_P 220).2 (125, [(0, .ref 73), (1, .int (0 : Int32)), (2, .int (0 : Int32)), (3, .int (0 : Int32)), (4, .int w), (5, .int (0 : Int32)), (6, .int (0 : Int32)), (7, .int (1 : Int32)), (8, .int (0 : Int32)), (9, .int (1 : Int32)), (10, .int (2 : Int32)), (11, .int (0 : Int32))], [.long (0 : Int64), .ref 79, .ref 73]) (HH I' J' R T) _
        refine Z_cQ rfl rfl rfl (m_sets0 (I := I') (to := 0) (Or.inr rfl) hn) (fun v h1 hq => ?_)
        obtain ⟨rfl, I', J', rfl, hn'⟩ := hq
        clear hn
        have hn := hn'
        clear hn'
        show Zs _ _ (am_P 220).2 (128, [(0, .ref 73), (1, .int (0 : Int32)), (2, .int (0 : Int32)), (3, .int (0 : Int32)), (4, .int w), (5, .int (0 : Int32)), (6, .int (0 : Int32)), (7, .int (1 : Int32)), (8, .int (0 : Int32)), (9, .int (1 : Int32)), (10, .int (2 : Int32)), (11, .int (0 : Int32))], [.int (0 : Int32)]) (HH I' J' R T) _
        refine Z_jump 16 rfl ?_
        show Zs _ _ (am_P 220).2 (92, [(0, .ref 73), (1, .int (0 : Int32)), (2, .int (0 : Int32)), (3, .int (0 : Int32)), (4, .int w), (5, .int (0 : Int32)), (6, .int (0 : Int32)), (7, .int (1 : Int32)), (8, .int (0 : Int32)), (9, .int (2 : Int32)), (10, .int (2 : Int32)), (11, .int (0 : Int32))], [.int (2 : Int32), .int (1 : Int32)]) (HH I' J' R T) _
        refine Z_c1 rfl rfl rfl ((E_run 40 rfl)) ?_
        show Zs _ _ (am_P 220).2 (95, [(0, .ref 73), (1, .int (0 : Int32)), (2, .int (0 : Int32)), (3, .int (0 : Int32)), (4, .int w), (5, .int (0 : Int32)), (6, .int (0 : Int32)), (7, .int (1 : Int32)), (8, .int (0 : Int32)), (9, .int (2 : Int32)), (10, .int (2 : Int32)), (11, .int (0 : Int32))], [.int (1 : Int32)]) (HH I' J' R T) _
        refine Z_jump 12 rfl ?_
        show Zs _ _ (am_P 220).2 (125, [(0, .ref 73), (1, .int (0 : Int32)), (2, .int (0 : Int32)), (3, .int (0 : Int32)), (4, .int w), (5, .int (0 : Int32)), (6, .int (0 : Int32)), (7, .int (1 : Int32)), (8, .int (0 : Int32)), (9, .int (2 : Int32)), (10, .int (1 : Int32)), (11, .int (0 : Int32))], [.long (0 : Int64), .ref 79, .ref 73]) (HH I' J' R T) _
        refine Z_cQ rfl rfl rfl (m_sets0 (I := I') (to := 0) (Or.inr rfl) hn) (fun v h1 hq => ?_)
        obtain ⟨rfl, I', J', rfl, hn'⟩ := hq
        clear hn
        have hn := hn'
        clear hn'
        show Zs _ _ (am_P 220).2 (128, [(0, .ref 73), (1, .int (0 : Int32)), (2, .int (0 : Int32)), (3, .int (0 : Int32)), (4, .int w), (5, .int (0 : Int32)), (6, .int (0 : Int32)), (7, .int (1 : Int32)), (8, .int (0 : Int32)), (9, .int (2 : Int32)), (10, .int (1 : Int32)), (11, .int (0 : Int32))], [.int (0 : Int32)]) (HH I' J' R T) _
        refine Z_jump 30 rfl ?_
        show Zs _ _ (am_P 220).2 (68, [(0, .ref 73), (1, .int (0 : Int32)), (2, .int (0 : Int32)), (3, .int (0 : Int32)), (4, .int w), (5, .int (0 : Int32)), (6, .int (0 : Int32)), (7, .int (2 : Int32)), (8, .int (0 : Int32)), (9, .int (3 : Int32)), (10, .int (1 : Int32)), (11, .int (0 : Int32))], [.ref 73]) (HH I' J' R T) _
        refine Z_c0 rfl rfl rfl (m_copyNow) ?_
        show Zs _ _ (am_P 220).2 (71, [(0, .ref 73), (1, .int (0 : Int32)), (2, .int (0 : Int32)), (3, .int (0 : Int32)), (4, .int w), (5, .int (0 : Int32)), (6, .int (0 : Int32)), (7, .int (2 : Int32)), (8, .int (0 : Int32)), (9, .int (3 : Int32)), (10, .int (1 : Int32)), (11, .int (0 : Int32))], []) (HH (va_up I' 79 (fun j => if j < 14 then I' 78 j else I' 79 j)) J' R T) _
        refine Z_jump 11 rfl ?_
        show Zs _ _ (am_P 220).2 (92, [(0, .ref 73), (1, .int (0 : Int32)), (2, .int (0 : Int32)), (3, .int (0 : Int32)), (4, .int w), (5, .int (0 : Int32)), (6, .int (0 : Int32)), (7, .int (2 : Int32)), (8, .int (0 : Int32)), (9, .int (0 : Int32)), (10, .int (1 : Int32)), (11, .int (0 : Int32))], [.int (0 : Int32), .int (2 : Int32)]) (HH (va_up I' 79 (fun j => if j < 14 then I' 78 j else I' 79 j)) J' R T) _
        refine Z_c1 rfl rfl rfl ((E_run 40 rfl)) ?_
        show Zs _ _ (am_P 220).2 (95, [(0, .ref 73), (1, .int (0 : Int32)), (2, .int (0 : Int32)), (3, .int (0 : Int32)), (4, .int w), (5, .int (0 : Int32)), (6, .int (0 : Int32)), (7, .int (2 : Int32)), (8, .int (0 : Int32)), (9, .int (0 : Int32)), (10, .int (1 : Int32)), (11, .int (0 : Int32))], [.int (1 : Int32)]) (HH (va_up I' 79 (fun j => if j < 14 then I' 78 j else I' 79 j)) J' R T) _
        refine Z_jump 12 rfl ?_
        show Zs _ _ (am_P 220).2 (125, [(0, .ref 73), (1, .int (0 : Int32)), (2, .int (0 : Int32)), (3, .int (0 : Int32)), (4, .int w), (5, .int (0 : Int32)), (6, .int (0 : Int32)), (7, .int (2 : Int32)), (8, .int (0 : Int32)), (9, .int (0 : Int32)), (10, .int (1 : Int32)), (11, .int (0 : Int32))], [.long (0 : Int64), .ref 79, .ref 73]) (HH (va_up I' 79 (fun j => if j < 14 then I' 78 j else I' 79 j)) J' R T) _
        refine Z_cQ rfl rfl rfl (m_sets0 (I := (va_up I' 79 (fun j => if j < 14 then I' 78 j else I' 79 j))) (to := 0) (Or.inr rfl) hn) (fun v h1 hq => ?_)
        obtain ⟨rfl, I', J', rfl, hn'⟩ := hq
        clear hn
        have hn := hn'
        clear hn'
        show Zs _ _ (am_P 220).2 (128, [(0, .ref 73), (1, .int (0 : Int32)), (2, .int (0 : Int32)), (3, .int (0 : Int32)), (4, .int w), (5, .int (0 : Int32)), (6, .int (0 : Int32)), (7, .int (2 : Int32)), (8, .int (0 : Int32)), (9, .int (0 : Int32)), (10, .int (1 : Int32)), (11, .int (0 : Int32))], [.int (0 : Int32)]) (HH I' J' R T) _
        refine Z_jump 16 rfl ?_
        show Zs _ _ (am_P 220).2 (92, [(0, .ref 73), (1, .int (0 : Int32)), (2, .int (0 : Int32)), (3, .int (0 : Int32)), (4, .int w), (5, .int (0 : Int32)), (6, .int (0 : Int32)), (7, .int (2 : Int32)), (8, .int (0 : Int32)), (9, .int (1 : Int32)), (10, .int (1 : Int32)), (11, .int (0 : Int32))], [.int (1 : Int32), .int (2 : Int32)]) (HH I' J' R T) _
        refine Z_c1 rfl rfl rfl ((E_run 40 rfl)) ?_
        show Zs _ _ (am_P 220).2 (95, [(0, .ref 73), (1, .int (0 : Int32)), (2, .int (0 : Int32)), (3, .int (0 : Int32)), (4, .int w), (5, .int (0 : Int32)), (6, .int (0 : Int32)), (7, .int (2 : Int32)), (8, .int (0 : Int32)), (9, .int (1 : Int32)), (10, .int (1 : Int32)), (11, .int (0 : Int32))], [.int (0 : Int32)]) (HH I' J' R T) _
        refine Z_jump 9 rfl ?_
        show Zs _ _ (am_P 220).2 (125, [(0, .ref 73), (1, .int (0 : Int32)), (2, .int (0 : Int32)), (3, .int (0 : Int32)), (4, .int w), (5, .int (0 : Int32)), (6, .int (0 : Int32)), (7, .int (2 : Int32)), (8, .int (0 : Int32)), (9, .int (1 : Int32)), (10, .int (0 : Int32)), (11, .int (0 : Int32))], [.long (0 : Int64), .ref 79, .ref 73]) (HH I' J' R T) _
        refine Z_cQ rfl rfl rfl (m_sets0 (I := I') (to := 0) (Or.inr rfl) hn) (fun v h1 hq => ?_)
        obtain ⟨rfl, I', J', rfl, hn'⟩ := hq
        clear hn
        have hn := hn'
        clear hn'
        show Zs _ _ (am_P 220).2 (128, [(0, .ref 73), (1, .int (0 : Int32)), (2, .int (0 : Int32)), (3, .int (0 : Int32)), (4, .int w), (5, .int (0 : Int32)), (6, .int (0 : Int32)), (7, .int (2 : Int32)), (8, .int (0 : Int32)), (9, .int (1 : Int32)), (10, .int (0 : Int32)), (11, .int (0 : Int32))], [.int (0 : Int32)]) (HH I' J' R T) _
        refine Z_jump 16 rfl ?_
        show Zs _ _ (am_P 220).2 (92, [(0, .ref 73), (1, .int (0 : Int32)), (2, .int (0 : Int32)), (3, .int (0 : Int32)), (4, .int w), (5, .int (0 : Int32)), (6, .int (0 : Int32)), (7, .int (2 : Int32)), (8, .int (0 : Int32)), (9, .int (2 : Int32)), (10, .int (0 : Int32)), (11, .int (0 : Int32))], [.int (2 : Int32), .int (2 : Int32)]) (HH I' J' R T) _
        refine Z_c1 rfl rfl rfl ((E_run 40 rfl)) ?_
        show Zs _ _ (am_P 220).2 (95, [(0, .ref 73), (1, .int (0 : Int32)), (2, .int (0 : Int32)), (3, .int (0 : Int32)), (4, .int w), (5, .int (0 : Int32)), (6, .int (0 : Int32)), (7, .int (2 : Int32)), (8, .int (0 : Int32)), (9, .int (2 : Int32)), (10, .int (0 : Int32)), (11, .int (0 : Int32))], [.int (2 : Int32)]) (HH I' J' R T) _
        refine Z_jump 11 rfl ?_
        show Zs _ _ (am_P 220).2 (125, [(0, .ref 73), (1, .int (0 : Int32)), (2, .int (0 : Int32)), (3, .int (0 : Int32)), (4, .int w), (5, .int (0 : Int32)), (6, .int (0 : Int32)), (7, .int (2 : Int32)), (8, .int (0 : Int32)), (9, .int (2 : Int32)), (10, .int (2 : Int32)), (11, .int (0 : Int32))], [.long (0 : Int64), .ref 79, .ref 73]) (HH I' J' R T) _
        refine Z_cQ rfl rfl rfl (m_sets0 (I := I') (to := 0) (Or.inr rfl) hn) (fun v h1 hq => ?_)
        obtain ⟨rfl, I', J', rfl, hn'⟩ := hq
        clear hn
        have hn := hn'
        clear hn'
        show Zs _ _ (am_P 220).2 (128, [(0, .ref 73), (1, .int (0 : Int32)), (2, .int (0 : Int32)), (3, .int (0 : Int32)), (4, .int w), (5, .int (0 : Int32)), (6, .int (0 : Int32)), (7, .int (2 : Int32)), (8, .int (0 : Int32)), (9, .int (2 : Int32)), (10, .int (2 : Int32)), (11, .int (0 : Int32))], [.int (0 : Int32)]) (HH I' J' R T) _
        refine Z_jump 30 rfl ?_
        show Zs _ _ (am_P 220).2 (68, [(0, .ref 73), (1, .int (0 : Int32)), (2, .int (0 : Int32)), (3, .int (0 : Int32)), (4, .int w), (5, .int (0 : Int32)), (6, .int (0 : Int32)), (7, .int (3 : Int32)), (8, .int (0 : Int32)), (9, .int (3 : Int32)), (10, .int (2 : Int32)), (11, .int (0 : Int32))], [.ref 73]) (HH I' J' R T) _
        refine Z_c0 rfl rfl rfl (m_copyNow) ?_
        show Zs _ _ (am_P 220).2 (71, [(0, .ref 73), (1, .int (0 : Int32)), (2, .int (0 : Int32)), (3, .int (0 : Int32)), (4, .int w), (5, .int (0 : Int32)), (6, .int (0 : Int32)), (7, .int (3 : Int32)), (8, .int (0 : Int32)), (9, .int (3 : Int32)), (10, .int (2 : Int32)), (11, .int (0 : Int32))], []) (HH (va_up I' 79 (fun j => if j < 14 then I' 78 j else I' 79 j)) J' R T) _
        refine Z_jump 11 rfl ?_
        show Zs _ _ (am_P 220).2 (92, [(0, .ref 73), (1, .int (0 : Int32)), (2, .int (0 : Int32)), (3, .int (0 : Int32)), (4, .int w), (5, .int (0 : Int32)), (6, .int (0 : Int32)), (7, .int (3 : Int32)), (8, .int (0 : Int32)), (9, .int (0 : Int32)), (10, .int (2 : Int32)), (11, .int (0 : Int32))], [.int (0 : Int32), .int (3 : Int32)]) (HH (va_up I' 79 (fun j => if j < 14 then I' 78 j else I' 79 j)) J' R T) _
        refine Z_c1 rfl rfl rfl ((E_run 40 rfl)) ?_
        show Zs _ _ (am_P 220).2 (95, [(0, .ref 73), (1, .int (0 : Int32)), (2, .int (0 : Int32)), (3, .int (0 : Int32)), (4, .int w), (5, .int (0 : Int32)), (6, .int (0 : Int32)), (7, .int (3 : Int32)), (8, .int (0 : Int32)), (9, .int (0 : Int32)), (10, .int (2 : Int32)), (11, .int (0 : Int32))], [.int (1 : Int32)]) (HH (va_up I' 79 (fun j => if j < 14 then I' 78 j else I' 79 j)) J' R T) _
        refine Z_jump 12 rfl ?_
        show Zs _ _ (am_P 220).2 (125, [(0, .ref 73), (1, .int (0 : Int32)), (2, .int (0 : Int32)), (3, .int (0 : Int32)), (4, .int w), (5, .int (0 : Int32)), (6, .int (0 : Int32)), (7, .int (3 : Int32)), (8, .int (0 : Int32)), (9, .int (0 : Int32)), (10, .int (1 : Int32)), (11, .int (0 : Int32))], [.long (0 : Int64), .ref 79, .ref 73]) (HH (va_up I' 79 (fun j => if j < 14 then I' 78 j else I' 79 j)) J' R T) _
        refine Z_cQ rfl rfl rfl (m_sets0 (I := (va_up I' 79 (fun j => if j < 14 then I' 78 j else I' 79 j))) (to := 0) (Or.inr rfl) hn) (fun v h1 hq => ?_)
        obtain ⟨rfl, I', J', rfl, hn'⟩ := hq
        clear hn
        have hn := hn'
        clear hn'
        show Zs _ _ (am_P 220).2 (128, [(0, .ref 73), (1, .int (0 : Int32)), (2, .int (0 : Int32)), (3, .int (0 : Int32)), (4, .int w), (5, .int (0 : Int32)), (6, .int (0 : Int32)), (7, .int (3 : Int32)), (8, .int (0 : Int32)), (9, .int (0 : Int32)), (10, .int (1 : Int32)), (11, .int (0 : Int32))], [.int (0 : Int32)]) (HH I' J' R T) _
        refine Z_jump 16 rfl ?_
        show Zs _ _ (am_P 220).2 (92, [(0, .ref 73), (1, .int (0 : Int32)), (2, .int (0 : Int32)), (3, .int (0 : Int32)), (4, .int w), (5, .int (0 : Int32)), (6, .int (0 : Int32)), (7, .int (3 : Int32)), (8, .int (0 : Int32)), (9, .int (1 : Int32)), (10, .int (1 : Int32)), (11, .int (0 : Int32))], [.int (1 : Int32), .int (3 : Int32)]) (HH I' J' R T) _
        refine Z_c1 rfl rfl rfl ((E_run 40 rfl)) ?_
        show Zs _ _ (am_P 220).2 (95, [(0, .ref 73), (1, .int (0 : Int32)), (2, .int (0 : Int32)), (3, .int (0 : Int32)), (4, .int w), (5, .int (0 : Int32)), (6, .int (0 : Int32)), (7, .int (3 : Int32)), (8, .int (0 : Int32)), (9, .int (1 : Int32)), (10, .int (1 : Int32)), (11, .int (0 : Int32))], [.int (2 : Int32)]) (HH I' J' R T) _
        refine Z_jump 11 rfl ?_
        show Zs _ _ (am_P 220).2 (125, [(0, .ref 73), (1, .int (0 : Int32)), (2, .int (0 : Int32)), (3, .int (0 : Int32)), (4, .int w), (5, .int (0 : Int32)), (6, .int (0 : Int32)), (7, .int (3 : Int32)), (8, .int (0 : Int32)), (9, .int (1 : Int32)), (10, .int (2 : Int32)), (11, .int (0 : Int32))], [.long (0 : Int64), .ref 79, .ref 73]) (HH I' J' R T) _
        refine Z_cQ rfl rfl rfl (m_sets0 (I := I') (to := 0) (Or.inr rfl) hn) (fun v h1 hq => ?_)
        obtain ⟨rfl, I', J', rfl, hn'⟩ := hq
        clear hn
        have hn := hn'
        clear hn'
        show Zs _ _ (am_P 220).2 (128, [(0, .ref 73), (1, .int (0 : Int32)), (2, .int (0 : Int32)), (3, .int (0 : Int32)), (4, .int w), (5, .int (0 : Int32)), (6, .int (0 : Int32)), (7, .int (3 : Int32)), (8, .int (0 : Int32)), (9, .int (1 : Int32)), (10, .int (2 : Int32)), (11, .int (0 : Int32))], [.int (0 : Int32)]) (HH I' J' R T) _
        refine Z_jump 16 rfl ?_
        show Zs _ _ (am_P 220).2 (92, [(0, .ref 73), (1, .int (0 : Int32)), (2, .int (0 : Int32)), (3, .int (0 : Int32)), (4, .int w), (5, .int (0 : Int32)), (6, .int (0 : Int32)), (7, .int (3 : Int32)), (8, .int (0 : Int32)), (9, .int (2 : Int32)), (10, .int (2 : Int32)), (11, .int (0 : Int32))], [.int (2 : Int32), .int (3 : Int32)]) (HH I' J' R T) _
        refine Z_c1 rfl rfl rfl ((E_run 40 rfl)) ?_
        show Zs _ _ (am_P 220).2 (95, [(0, .ref 73), (1, .int (0 : Int32)), (2, .int (0 : Int32)), (3, .int (0 : Int32)), (4, .int w), (5, .int (0 : Int32)), (6, .int (0 : Int32)), (7, .int (3 : Int32)), (8, .int (0 : Int32)), (9, .int (2 : Int32)), (10, .int (2 : Int32)), (11, .int (0 : Int32))], [.int (0 : Int32)]) (HH I' J' R T) _
        refine Z_jump 9 rfl ?_
        show Zs _ _ (am_P 220).2 (125, [(0, .ref 73), (1, .int (0 : Int32)), (2, .int (0 : Int32)), (3, .int (0 : Int32)), (4, .int w), (5, .int (0 : Int32)), (6, .int (0 : Int32)), (7, .int (3 : Int32)), (8, .int (0 : Int32)), (9, .int (2 : Int32)), (10, .int (0 : Int32)), (11, .int (0 : Int32))], [.long (0 : Int64), .ref 79, .ref 73]) (HH I' J' R T) _
        refine Z_cQ rfl rfl rfl (m_sets0 (I := I') (to := 0) (Or.inr rfl) hn) (fun v h1 hq => ?_)
        obtain ⟨rfl, I', J', rfl, hn'⟩ := hq
        clear hn
        have hn := hn'
        clear hn'
        show Zs _ _ (am_P 220).2 (128, [(0, .ref 73), (1, .int (0 : Int32)), (2, .int (0 : Int32)), (3, .int (0 : Int32)), (4, .int w), (5, .int (0 : Int32)), (6, .int (0 : Int32)), (7, .int (3 : Int32)), (8, .int (0 : Int32)), (9, .int (2 : Int32)), (10, .int (0 : Int32)), (11, .int (0 : Int32))], [.int (0 : Int32)]) (HH I' J' R T) _
        refine Z_jump 30 rfl ?_
        show Zs _ _ (am_P 220).2 (68, [(0, .ref 73), (1, .int (0 : Int32)), (2, .int (0 : Int32)), (3, .int (0 : Int32)), (4, .int w), (5, .int (0 : Int32)), (6, .int (0 : Int32)), (7, .int (4 : Int32)), (8, .int (0 : Int32)), (9, .int (3 : Int32)), (10, .int (0 : Int32)), (11, .int (0 : Int32))], [.ref 73]) (HH I' J' R T) _
        refine Z_c0 rfl rfl rfl (m_copyNow) ?_
        show Zs _ _ (am_P 220).2 (71, [(0, .ref 73), (1, .int (0 : Int32)), (2, .int (0 : Int32)), (3, .int (0 : Int32)), (4, .int w), (5, .int (0 : Int32)), (6, .int (0 : Int32)), (7, .int (4 : Int32)), (8, .int (0 : Int32)), (9, .int (3 : Int32)), (10, .int (0 : Int32)), (11, .int (0 : Int32))], []) (HH (va_up I' 79 (fun j => if j < 14 then I' 78 j else I' 79 j)) J' R T) _
        refine Z_jump 11 rfl ?_
        show Zs _ _ (am_P 220).2 (92, [(0, .ref 73), (1, .int (0 : Int32)), (2, .int (0 : Int32)), (3, .int (0 : Int32)), (4, .int w), (5, .int (0 : Int32)), (6, .int (0 : Int32)), (7, .int (4 : Int32)), (8, .int (0 : Int32)), (9, .int (0 : Int32)), (10, .int (0 : Int32)), (11, .int (0 : Int32))], [.int (0 : Int32), .int (4 : Int32)]) (HH (va_up I' 79 (fun j => if j < 14 then I' 78 j else I' 79 j)) J' R T) _
        refine Z_c1 rfl rfl rfl ((E_run 40 rfl)) ?_
        show Zs _ _ (am_P 220).2 (95, [(0, .ref 73), (1, .int (0 : Int32)), (2, .int (0 : Int32)), (3, .int (0 : Int32)), (4, .int w), (5, .int (0 : Int32)), (6, .int (0 : Int32)), (7, .int (4 : Int32)), (8, .int (0 : Int32)), (9, .int (0 : Int32)), (10, .int (0 : Int32)), (11, .int (0 : Int32))], [.int (2 : Int32)]) (HH (va_up I' 79 (fun j => if j < 14 then I' 78 j else I' 79 j)) J' R T) _
        refine Z_jump 11 rfl ?_
        show Zs _ _ (am_P 220).2 (125, [(0, .ref 73), (1, .int (0 : Int32)), (2, .int (0 : Int32)), (3, .int (0 : Int32)), (4, .int w), (5, .int (0 : Int32)), (6, .int (0 : Int32)), (7, .int (4 : Int32)), (8, .int (0 : Int32)), (9, .int (0 : Int32)), (10, .int (2 : Int32)), (11, .int (0 : Int32))], [.long (0 : Int64), .ref 79, .ref 73]) (HH (va_up I' 79 (fun j => if j < 14 then I' 78 j else I' 79 j)) J' R T) _
        refine Z_cQ rfl rfl rfl (m_sets0 (I := (va_up I' 79 (fun j => if j < 14 then I' 78 j else I' 79 j))) (to := 0) (Or.inr rfl) hn) (fun v h1 hq => ?_)
        obtain ⟨rfl, I', J', rfl, hn'⟩ := hq
        clear hn
        have hn := hn'
        clear hn'
        show Zs _ _ (am_P 220).2 (128, [(0, .ref 73), (1, .int (0 : Int32)), (2, .int (0 : Int32)), (3, .int (0 : Int32)), (4, .int w), (5, .int (0 : Int32)), (6, .int (0 : Int32)), (7, .int (4 : Int32)), (8, .int (0 : Int32)), (9, .int (0 : Int32)), (10, .int (2 : Int32)), (11, .int (0 : Int32))], [.int (0 : Int32)]) (HH I' J' R T) _
        refine Z_jump 16 rfl ?_
        show Zs _ _ (am_P 220).2 (92, [(0, .ref 73), (1, .int (0 : Int32)), (2, .int (0 : Int32)), (3, .int (0 : Int32)), (4, .int w), (5, .int (0 : Int32)), (6, .int (0 : Int32)), (7, .int (4 : Int32)), (8, .int (0 : Int32)), (9, .int (1 : Int32)), (10, .int (2 : Int32)), (11, .int (0 : Int32))], [.int (1 : Int32), .int (4 : Int32)]) (HH I' J' R T) _
        refine Z_c1 rfl rfl rfl ((E_run 40 rfl)) ?_
        show Zs _ _ (am_P 220).2 (95, [(0, .ref 73), (1, .int (0 : Int32)), (2, .int (0 : Int32)), (3, .int (0 : Int32)), (4, .int w), (5, .int (0 : Int32)), (6, .int (0 : Int32)), (7, .int (4 : Int32)), (8, .int (0 : Int32)), (9, .int (1 : Int32)), (10, .int (2 : Int32)), (11, .int (0 : Int32))], [.int (0 : Int32)]) (HH I' J' R T) _
        refine Z_jump 9 rfl ?_
        show Zs _ _ (am_P 220).2 (125, [(0, .ref 73), (1, .int (0 : Int32)), (2, .int (0 : Int32)), (3, .int (0 : Int32)), (4, .int w), (5, .int (0 : Int32)), (6, .int (0 : Int32)), (7, .int (4 : Int32)), (8, .int (0 : Int32)), (9, .int (1 : Int32)), (10, .int (0 : Int32)), (11, .int (0 : Int32))], [.long (0 : Int64), .ref 79, .ref 73]) (HH I' J' R T) _
        refine Z_cQ rfl rfl rfl (m_sets0 (I := I') (to := 0) (Or.inr rfl) hn) (fun v h1 hq => ?_)
        obtain ⟨rfl, I', J', rfl, hn'⟩ := hq
        clear hn
        have hn := hn'
        clear hn'
        show Zs _ _ (am_P 220).2 (128, [(0, .ref 73), (1, .int (0 : Int32)), (2, .int (0 : Int32)), (3, .int (0 : Int32)), (4, .int w), (5, .int (0 : Int32)), (6, .int (0 : Int32)), (7, .int (4 : Int32)), (8, .int (0 : Int32)), (9, .int (1 : Int32)), (10, .int (0 : Int32)), (11, .int (0 : Int32))], [.int (0 : Int32)]) (HH I' J' R T) _
        refine Z_jump 16 rfl ?_
        show Zs _ _ (am_P 220).2 (92, [(0, .ref 73), (1, .int (0 : Int32)), (2, .int (0 : Int32)), (3, .int (0 : Int32)), (4, .int w), (5, .int (0 : Int32)), (6, .int (0 : Int32)), (7, .int (4 : Int32)), (8, .int (0 : Int32)), (9, .int (2 : Int32)), (10, .int (0 : Int32)), (11, .int (0 : Int32))], [.int (2 : Int32), .int (4 : Int32)]) (HH I' J' R T) _
        refine Z_c1 rfl rfl rfl ((E_run 40 rfl)) ?_
        show Zs _ _ (am_P 220).2 (95, [(0, .ref 73), (1, .int (0 : Int32)), (2, .int (0 : Int32)), (3, .int (0 : Int32)), (4, .int w), (5, .int (0 : Int32)), (6, .int (0 : Int32)), (7, .int (4 : Int32)), (8, .int (0 : Int32)), (9, .int (2 : Int32)), (10, .int (0 : Int32)), (11, .int (0 : Int32))], [.int (1 : Int32)]) (HH I' J' R T) _
        refine Z_jump 12 rfl ?_
        show Zs _ _ (am_P 220).2 (125, [(0, .ref 73), (1, .int (0 : Int32)), (2, .int (0 : Int32)), (3, .int (0 : Int32)), (4, .int w), (5, .int (0 : Int32)), (6, .int (0 : Int32)), (7, .int (4 : Int32)), (8, .int (0 : Int32)), (9, .int (2 : Int32)), (10, .int (1 : Int32)), (11, .int (0 : Int32))], [.long (0 : Int64), .ref 79, .ref 73]) (HH I' J' R T) _
        refine Z_cQ rfl rfl rfl (m_sets0 (I := I') (to := 0) (Or.inr rfl) hn) (fun v h1 hq => ?_)
        obtain ⟨rfl, I', J', rfl, hn'⟩ := hq
        clear hn
        have hn := hn'
        clear hn'
        show Zs _ _ (am_P 220).2 (128, [(0, .ref 73), (1, .int (0 : Int32)), (2, .int (0 : Int32)), (3, .int (0 : Int32)), (4, .int w), (5, .int (0 : Int32)), (6, .int (0 : Int32)), (7, .int (4 : Int32)), (8, .int (0 : Int32)), (9, .int (2 : Int32)), (10, .int (1 : Int32)), (11, .int (0 : Int32))], [.int (0 : Int32)]) (HH I' J' R T) _
        refine Z_jump 30 rfl ?_
        show Zs _ _ (am_P 220).2 (68, [(0, .ref 73), (1, .int (0 : Int32)), (2, .int (0 : Int32)), (3, .int (0 : Int32)), (4, .int w), (5, .int (0 : Int32)), (6, .int (0 : Int32)), (7, .int (5 : Int32)), (8, .int (0 : Int32)), (9, .int (3 : Int32)), (10, .int (1 : Int32)), (11, .int (0 : Int32))], [.ref 73]) (HH I' J' R T) _
        refine Z_c0 rfl rfl rfl (m_copyNow) ?_
        show Zs _ _ (am_P 220).2 (71, [(0, .ref 73), (1, .int (0 : Int32)), (2, .int (0 : Int32)), (3, .int (0 : Int32)), (4, .int w), (5, .int (0 : Int32)), (6, .int (0 : Int32)), (7, .int (5 : Int32)), (8, .int (0 : Int32)), (9, .int (3 : Int32)), (10, .int (1 : Int32)), (11, .int (0 : Int32))], []) (HH (va_up I' 79 (fun j => if j < 14 then I' 78 j else I' 79 j)) J' R T) _
        refine Z_jump 11 rfl ?_
        show Zs _ _ (am_P 220).2 (92, [(0, .ref 73), (1, .int (0 : Int32)), (2, .int (0 : Int32)), (3, .int (0 : Int32)), (4, .int w), (5, .int (0 : Int32)), (6, .int (0 : Int32)), (7, .int (5 : Int32)), (8, .int (0 : Int32)), (9, .int (0 : Int32)), (10, .int (1 : Int32)), (11, .int (0 : Int32))], [.int (0 : Int32), .int (5 : Int32)]) (HH (va_up I' 79 (fun j => if j < 14 then I' 78 j else I' 79 j)) J' R T) _
        refine Z_c1 rfl rfl rfl ((E_run 40 rfl)) ?_
        show Zs _ _ (am_P 220).2 (95, [(0, .ref 73), (1, .int (0 : Int32)), (2, .int (0 : Int32)), (3, .int (0 : Int32)), (4, .int w), (5, .int (0 : Int32)), (6, .int (0 : Int32)), (7, .int (5 : Int32)), (8, .int (0 : Int32)), (9, .int (0 : Int32)), (10, .int (1 : Int32)), (11, .int (0 : Int32))], [.int (2 : Int32)]) (HH (va_up I' 79 (fun j => if j < 14 then I' 78 j else I' 79 j)) J' R T) _
        refine Z_jump 11 rfl ?_
        show Zs _ _ (am_P 220).2 (125, [(0, .ref 73), (1, .int (0 : Int32)), (2, .int (0 : Int32)), (3, .int (0 : Int32)), (4, .int w), (5, .int (0 : Int32)), (6, .int (0 : Int32)), (7, .int (5 : Int32)), (8, .int (0 : Int32)), (9, .int (0 : Int32)), (10, .int (2 : Int32)), (11, .int (0 : Int32))], [.long (0 : Int64), .ref 79, .ref 73]) (HH (va_up I' 79 (fun j => if j < 14 then I' 78 j else I' 79 j)) J' R T) _
        refine Z_cQ rfl rfl rfl (m_sets0 (I := (va_up I' 79 (fun j => if j < 14 then I' 78 j else I' 79 j))) (to := 0) (Or.inr rfl) hn) (fun v h1 hq => ?_)
        obtain ⟨rfl, I', J', rfl, hn'⟩ := hq
        clear hn
        have hn := hn'
        clear hn'
        show Zs _ _ (am_P 220).2 (128, [(0, .ref 73), (1, .int (0 : Int32)), (2, .int (0 : Int32)), (3, .int (0 : Int32)), (4, .int w), (5, .int (0 : Int32)), (6, .int (0 : Int32)), (7, .int (5 : Int32)), (8, .int (0 : Int32)), (9, .int (0 : Int32)), (10, .int (2 : Int32)), (11, .int (0 : Int32))], [.int (0 : Int32)]) (HH I' J' R T) _
        refine Z_jump 16 rfl ?_
        show Zs _ _ (am_P 220).2 (92, [(0, .ref 73), (1, .int (0 : Int32)), (2, .int (0 : Int32)), (3, .int (0 : Int32)), (4, .int w), (5, .int (0 : Int32)), (6, .int (0 : Int32)), (7, .int (5 : Int32)), (8, .int (0 : Int32)), (9, .int (1 : Int32)), (10, .int (2 : Int32)), (11, .int (0 : Int32))], [.int (1 : Int32), .int (5 : Int32)]) (HH I' J' R T) _
        refine Z_c1 rfl rfl rfl ((E_run 40 rfl)) ?_
        show Zs _ _ (am_P 220).2 (95, [(0, .ref 73), (1, .int (0 : Int32)), (2, .int (0 : Int32)), (3, .int (0 : Int32)), (4, .int w), (5, .int (0 : Int32)), (6, .int (0 : Int32)), (7, .int (5 : Int32)), (8, .int (0 : Int32)), (9, .int (1 : Int32)), (10, .int (2 : Int32)), (11, .int (0 : Int32))], [.int (1 : Int32)]) (HH I' J' R T) _
        refine Z_jump 12 rfl ?_
        show Zs _ _ (am_P 220).2 (125, [(0, .ref 73), (1, .int (0 : Int32)), (2, .int (0 : Int32)), (3, .int (0 : Int32)), (4, .int w), (5, .int (0 : Int32)), (6, .int (0 : Int32)), (7, .int (5 : Int32)), (8, .int (0 : Int32)), (9, .int (1 : Int32)), (10, .int (1 : Int32)), (11, .int (0 : Int32))], [.long (0 : Int64), .ref 79, .ref 73]) (HH I' J' R T) _
        refine Z_cQ rfl rfl rfl (m_sets0 (I := I') (to := 0) (Or.inr rfl) hn) (fun v h1 hq => ?_)
        obtain ⟨rfl, I', J', rfl, hn'⟩ := hq
        clear hn
        have hn := hn'
        clear hn'
        show Zs _ _ (am_P 220).2 (128, [(0, .ref 73), (1, .int (0 : Int32)), (2, .int (0 : Int32)), (3, .int (0 : Int32)), (4, .int w), (5, .int (0 : Int32)), (6, .int (0 : Int32)), (7, .int (5 : Int32)), (8, .int (0 : Int32)), (9, .int (1 : Int32)), (10, .int (1 : Int32)), (11, .int (0 : Int32))], [.int (0 : Int32)]) (HH I' J' R T) _
        refine Z_jump 16 rfl ?_
        show Zs _ _ (am_P 220).2 (92, [(0, .ref 73), (1, .int (0 : Int32)), (2, .int (0 : Int32)), (3, .int (0 : Int32)), (4, .int w), (5, .int (0 : Int32)), (6, .int (0 : Int32)), (7, .int (5 : Int32)), (8, .int (0 : Int32)), (9, .int (2 : Int32)), (10, .int (1 : Int32)), (11, .int (0 : Int32))], [.int (2 : Int32), .int (5 : Int32)]) (HH I' J' R T) _
        refine Z_c1 rfl rfl rfl ((E_run 40 rfl)) ?_
        show Zs _ _ (am_P 220).2 (95, [(0, .ref 73), (1, .int (0 : Int32)), (2, .int (0 : Int32)), (3, .int (0 : Int32)), (4, .int w), (5, .int (0 : Int32)), (6, .int (0 : Int32)), (7, .int (5 : Int32)), (8, .int (0 : Int32)), (9, .int (2 : Int32)), (10, .int (1 : Int32)), (11, .int (0 : Int32))], [.int (0 : Int32)]) (HH I' J' R T) _
        refine Z_jump 9 rfl ?_
        show Zs _ _ (am_P 220).2 (125, [(0, .ref 73), (1, .int (0 : Int32)), (2, .int (0 : Int32)), (3, .int (0 : Int32)), (4, .int w), (5, .int (0 : Int32)), (6, .int (0 : Int32)), (7, .int (5 : Int32)), (8, .int (0 : Int32)), (9, .int (2 : Int32)), (10, .int (0 : Int32)), (11, .int (0 : Int32))], [.long (0 : Int64), .ref 79, .ref 73]) (HH I' J' R T) _
        refine Z_cQ rfl rfl rfl (m_sets0 (I := I') (to := 0) (Or.inr rfl) hn) (fun v h1 hq => ?_)
        obtain ⟨rfl, I', J', rfl, hn'⟩ := hq
        clear hn
        have hn := hn'
        clear hn'
        show Zs _ _ (am_P 220).2 (128, [(0, .ref 73), (1, .int (0 : Int32)), (2, .int (0 : Int32)), (3, .int (0 : Int32)), (4, .int w), (5, .int (0 : Int32)), (6, .int (0 : Int32)), (7, .int (5 : Int32)), (8, .int (0 : Int32)), (9, .int (2 : Int32)), (10, .int (0 : Int32)), (11, .int (0 : Int32))], [.int (0 : Int32)]) (HH I' J' R T) _
        refine Z_jump 31 rfl ?_
        refine Z_bn (fun (c199 : ¬ (w = (0 : Int32))) => ?_) (fun (c199 : w = (0 : Int32)) => ?_)
        · refine Z_jump 1 rfl ?_
          show Zs _ _ (am_P 220).2 (209, [(0, .ref 73), (1, .int (0 : Int32)), (2, .int (0 : Int32)), (3, .int (0 : Int32)), (4, .int w), (5, .int (0 : Int32)), (6, .int (0 : Int32)), (7, .int (6 : Int32)), (8, .int (0 : Int32)), (9, .int (3 : Int32)), (10, .int (0 : Int32)), (11, .int (0 : Int32))], [.int (0 : Int32)]) (HH I' J' R T) _
          refine Z_rI rfl (by first | exact am_nw0 _ | exact am_nw01 | rfl | assumption) ?_
          exact ⟨rfl, I', J', rfl, hn⟩
        · refine Z_jump 2 rfl ?_
          show Zs _ _ (am_P 220).2 (209, [(0, .ref 73), (1, .int (0 : Int32)), (2, .int (0 : Int32)), (3, .int (0 : Int32)), (4, .int w), (5, .int (0 : Int32)), (6, .int (0 : Int32)), (7, .int (6 : Int32)), (8, .int (0 : Int32)), (9, .int (3 : Int32)), (10, .int (0 : Int32)), (11, .int (0 : Int32))], [.int (0 : Int32)]) (HH I' J' R T) _
          refine Z_rI rfl (by first | exact am_nw0 _ | exact am_nw01 | rfl | assumption) ?_
          exact ⟨rfl, I', J', rfl, hn⟩
      · rw [if_neg (fun z => hc z.2.2)]
        subst ha
        subst hb
        refine Z_jump 4 rfl ?_
        show Zs _ _ (am_P 220).2 (6, [(0, .ref 73), (1, .int (0 : Int32)), (2, .int (0 : Int32)), (3, .int c), (4, .int w)], [.long (1000000 : Int64), .long (0 : Int64), .long (0 : Int64)]) (HH I J R T) _
        refine Z_c1 rfl rfl rfl (m_inI (v := 0) (a := 0) (b := 1000000) rfl rfl) ?_
        show Zs _ _ (am_P 220).2 (9, [(0, .ref 73), (1, .int (0 : Int32)), (2, .int (0 : Int32)), (3, .int c), (4, .int w)], [.int (1 : Int32)]) (HH I J R T) _
        refine Z_jump 5 rfl ?_
        show Zs _ _ (am_P 220).2 (18, [(0, .ref 73), (1, .int (0 : Int32)), (2, .int (0 : Int32)), (3, .int c), (4, .int w)], [.long (1000000 : Int64), .long (0 : Int64), .long (0 : Int64)]) (HH I J R T) _
        refine Z_c1 rfl rfl rfl (m_inI (v := 0) (a := 0) (b := 1000000) rfl rfl) ?_
        show Zs _ _ (am_P 220).2 (21, [(0, .ref 73), (1, .int (0 : Int32)), (2, .int (0 : Int32)), (3, .int c), (4, .int w)], [.int (1 : Int32)]) (HH I J R T) _
        refine Z_jump 5 rfl ?_
        show Zs _ _ (am_P 220).2 (30, [(0, .ref 73), (1, .int (0 : Int32)), (2, .int (0 : Int32)), (3, .int c), (4, .int w)], [.long (1000000 : Int64), .long (0 : Int64), .long (Int32.toInt64 c)]) (HH I J R T) _
        refine Z_c1 rfl rfl rfl (m_inI (a := 0) (b := 1000000) rfl rfl) ?_
        show Zs _ _ (am_P 220).2 (33, [(0, .ref 73), (1, .int (0 : Int32)), (2, .int (0 : Int32)), (3, .int c), (4, .int w)], [.int (if 0 ≤ c.toInt ∧ c.toInt ≤ 1000000 then 1 else 0)]) (HH I J R T) _
        refine Z_jump 1 rfl ?_
        refine Z_bd (fun c33 => absurd c33 ((fun z => if10.mp z h3))) (fun c33 => ?_)
        refine Z_jump 4 rfl ?_
        show Zs _ _ (am_P 220).2 (41, [(0, .ref 73), (1, .int (0 : Int32)), (2, .int (0 : Int32)), (3, .int c), (4, .int w)], [.long (1 : Int64), .long (0 : Int64), .long (Int32.toInt64 w)]) (HH I J R T) _
        refine Z_c1 rfl rfl rfl (m_inI (a := 0) (b := 1) rfl rfl) ?_
        show Zs _ _ (am_P 220).2 (44, [(0, .ref 73), (1, .int (0 : Int32)), (2, .int (0 : Int32)), (3, .int c), (4, .int w)], [.int (if 0 ≤ w.toInt ∧ w.toInt ≤ 1 then 1 else 0)]) (HH I J R T) _
        refine Z_jump 1 rfl ?_
        refine Z_bn (fun c44 => ?_) (fun c44 => absurd c44 ((fun z => if10.mp z h4)))
        refine Z_jump 10 rfl ?_
        show Zs _ _ (am_P 220).2 (68, [(0, .ref 73), (1, .int (0 : Int32)), (2, .int (0 : Int32)), (3, .int c), (4, .int w), (5, .int (-1 : Int32)), (6, .int (1000000000 : Int32)), (7, .int (0 : Int32))], [.ref 73]) (HH I J R T) _
        refine Z_c0 rfl rfl rfl (m_copyNow) ?_
        show Zs _ _ (am_P 220).2 (71, [(0, .ref 73), (1, .int (0 : Int32)), (2, .int (0 : Int32)), (3, .int c), (4, .int w), (5, .int (-1 : Int32)), (6, .int (1000000000 : Int32)), (7, .int (0 : Int32))], []) (HH (va_up I 79 (fun j => if j < 14 then I 78 j else I 79 j)) J R T) _
        refine Z_jump 11 rfl ?_
        show Zs _ _ (am_P 220).2 (92, [(0, .ref 73), (1, .int (0 : Int32)), (2, .int (0 : Int32)), (3, .int c), (4, .int w), (5, .int (-1 : Int32)), (6, .int (1000000000 : Int32)), (7, .int (0 : Int32)), (8, .int (0 : Int32)), (9, .int (0 : Int32))], [.int (0 : Int32), .int (0 : Int32)]) (HH (va_up I 79 (fun j => if j < 14 then I 78 j else I 79 j)) J R T) _
        refine Z_c1 rfl rfl rfl ((E_run 40 rfl)) ?_
        show Zs _ _ (am_P 220).2 (95, [(0, .ref 73), (1, .int (0 : Int32)), (2, .int (0 : Int32)), (3, .int c), (4, .int w), (5, .int (-1 : Int32)), (6, .int (1000000000 : Int32)), (7, .int (0 : Int32)), (8, .int (0 : Int32)), (9, .int (0 : Int32))], [.int (0 : Int32)]) (HH (va_up I 79 (fun j => if j < 14 then I 78 j else I 79 j)) J R T) _
        refine Z_jump 9 rfl ?_
        show Zs _ _ (am_P 220).2 (125, [(0, .ref 73), (1, .int (0 : Int32)), (2, .int (0 : Int32)), (3, .int c), (4, .int w), (5, .int (-1 : Int32)), (6, .int (1000000000 : Int32)), (7, .int (0 : Int32)), (8, .int (0 : Int32)), (9, .int (0 : Int32)), (10, .int (0 : Int32))], [.long (0 : Int64), .ref 79, .ref 73]) (HH (va_up I 79 (fun j => if j < 14 then I 78 j else I 79 j)) J R T) _
        refine Z_cQ rfl rfl rfl (m_sets0 (I := (va_up I 79 (fun j => if j < 14 then I 78 j else I 79 j))) (to := (0 : Int64)) (Or.inr rfl) hn) (fun v h1 hq => ?_)
        obtain ⟨rfl, I', J', rfl, hn'⟩ := hq
        clear hn
        have hn := hn'
        clear hn'
        show Zs _ _ (am_P 220).2 (128, [(0, .ref 73), (1, .int (0 : Int32)), (2, .int (0 : Int32)), (3, .int c), (4, .int w), (5, .int (-1 : Int32)), (6, .int (1000000000 : Int32)), (7, .int (0 : Int32)), (8, .int (0 : Int32)), (9, .int (0 : Int32)), (10, .int (0 : Int32))], [.int (if (0 : Int64) = 0 then 0 else -1)]) (HH I' J' R T) _
        show Zs _ _ (am_P 220).2 (128, [(0, .ref 73), (1, .int (0 : Int32)), (2, .int (0 : Int32)), (3, .int c), (4, .int w), (5, .int (-1 : Int32)), (6, .int (1000000000 : Int32)), (7, .int (0 : Int32)), (8, .int (0 : Int32)), (9, .int (0 : Int32)), (10, .int (0 : Int32))], [.int (if (0 : Int64) = 0 then 0 else -1)]) (HH I' J' R T) _
        refine Z_eqI (if_pos rfl) ?_
        show Zs _ _ (am_P 220).2 (128, [(0, .ref 73), (1, .int (0 : Int32)), (2, .int (0 : Int32)), (3, .int c), (4, .int w), (5, .int (-1 : Int32)), (6, .int (1000000000 : Int32)), (7, .int (0 : Int32)), (8, .int (0 : Int32)), (9, .int (0 : Int32)), (10, .int (0 : Int32))], [.int (0 : Int32)]) (HH I' J' R T) _
        refine Z_jump 16 rfl ?_
        show Zs _ _ (am_P 220).2 (92, [(0, .ref 73), (1, .int (0 : Int32)), (2, .int (0 : Int32)), (3, .int c), (4, .int w), (5, .int (-1 : Int32)), (6, .int (1000000000 : Int32)), (7, .int (0 : Int32)), (8, .int (0 : Int32)), (9, .int (1 : Int32)), (10, .int (0 : Int32)), (11, .int (0 : Int32))], [.int (1 : Int32), .int (0 : Int32)]) (HH I' J' R T) _
        refine Z_c1 rfl rfl rfl ((E_run 40 rfl)) ?_
        show Zs _ _ (am_P 220).2 (95, [(0, .ref 73), (1, .int (0 : Int32)), (2, .int (0 : Int32)), (3, .int c), (4, .int w), (5, .int (-1 : Int32)), (6, .int (1000000000 : Int32)), (7, .int (0 : Int32)), (8, .int (0 : Int32)), (9, .int (1 : Int32)), (10, .int (0 : Int32)), (11, .int (0 : Int32))], [.int (1 : Int32)]) (HH I' J' R T) _
        refine Z_jump 12 rfl ?_
        show Zs _ _ (am_P 220).2 (125, [(0, .ref 73), (1, .int (0 : Int32)), (2, .int (0 : Int32)), (3, .int c), (4, .int w), (5, .int (-1 : Int32)), (6, .int (1000000000 : Int32)), (7, .int (0 : Int32)), (8, .int (0 : Int32)), (9, .int (1 : Int32)), (10, .int (1 : Int32)), (11, .int (0 : Int32))], [.long (0 : Int64), .ref 79, .ref 73]) (HH I' J' R T) _
        refine Z_cQ rfl rfl rfl (m_sets0 (I := I') (to := (0 : Int64)) (Or.inr rfl) hn) (fun v h1 hq => ?_)
        obtain ⟨rfl, I', J', rfl, hn'⟩ := hq
        clear hn
        have hn := hn'
        clear hn'
        show Zs _ _ (am_P 220).2 (128, [(0, .ref 73), (1, .int (0 : Int32)), (2, .int (0 : Int32)), (3, .int c), (4, .int w), (5, .int (-1 : Int32)), (6, .int (1000000000 : Int32)), (7, .int (0 : Int32)), (8, .int (0 : Int32)), (9, .int (1 : Int32)), (10, .int (1 : Int32)), (11, .int (0 : Int32))], [.int (if (0 : Int64) = 0 then 0 else -1)]) (HH I' J' R T) _
        show Zs _ _ (am_P 220).2 (128, [(0, .ref 73), (1, .int (0 : Int32)), (2, .int (0 : Int32)), (3, .int c), (4, .int w), (5, .int (-1 : Int32)), (6, .int (1000000000 : Int32)), (7, .int (0 : Int32)), (8, .int (0 : Int32)), (9, .int (1 : Int32)), (10, .int (1 : Int32)), (11, .int (0 : Int32))], [.int (if (0 : Int64) = 0 then 0 else -1)]) (HH I' J' R T) _
        refine Z_eqI (if_pos rfl) ?_
        show Zs _ _ (am_P 220).2 (128, [(0, .ref 73), (1, .int (0 : Int32)), (2, .int (0 : Int32)), (3, .int c), (4, .int w), (5, .int (-1 : Int32)), (6, .int (1000000000 : Int32)), (7, .int (0 : Int32)), (8, .int (0 : Int32)), (9, .int (1 : Int32)), (10, .int (1 : Int32)), (11, .int (0 : Int32))], [.int (0 : Int32)]) (HH I' J' R T) _
        refine Z_jump 16 rfl ?_
        show Zs _ _ (am_P 220).2 (92, [(0, .ref 73), (1, .int (0 : Int32)), (2, .int (0 : Int32)), (3, .int c), (4, .int w), (5, .int (-1 : Int32)), (6, .int (1000000000 : Int32)), (7, .int (0 : Int32)), (8, .int (0 : Int32)), (9, .int (2 : Int32)), (10, .int (1 : Int32)), (11, .int (0 : Int32))], [.int (2 : Int32), .int (0 : Int32)]) (HH I' J' R T) _
        refine Z_c1 rfl rfl rfl ((E_run 40 rfl)) ?_
        show Zs _ _ (am_P 220).2 (95, [(0, .ref 73), (1, .int (0 : Int32)), (2, .int (0 : Int32)), (3, .int c), (4, .int w), (5, .int (-1 : Int32)), (6, .int (1000000000 : Int32)), (7, .int (0 : Int32)), (8, .int (0 : Int32)), (9, .int (2 : Int32)), (10, .int (1 : Int32)), (11, .int (0 : Int32))], [.int (2 : Int32)]) (HH I' J' R T) _
        refine Z_jump 11 rfl ?_
        show Zs _ _ (am_P 220).2 (125, [(0, .ref 73), (1, .int (0 : Int32)), (2, .int (0 : Int32)), (3, .int c), (4, .int w), (5, .int (-1 : Int32)), (6, .int (1000000000 : Int32)), (7, .int (0 : Int32)), (8, .int (0 : Int32)), (9, .int (2 : Int32)), (10, .int (2 : Int32)), (11, .int (0 : Int32))], [.long (Int32.toInt64 c), .ref 79, .ref 73]) (HH I' J' R T) _
        refine Z_cQ rfl rfl rfl (m_sets0 (I := I') (to := (Int32.toInt64 c)) (Or.inr rfl) hn) (fun v h1 hq => ?_)
        obtain ⟨rfl, I', J', rfl, hn'⟩ := hq
        clear hn
        have hn := hn'
        clear hn'
        show Zs _ _ (am_P 220).2 (128, [(0, .ref 73), (1, .int (0 : Int32)), (2, .int (0 : Int32)), (3, .int c), (4, .int w), (5, .int (-1 : Int32)), (6, .int (1000000000 : Int32)), (7, .int (0 : Int32)), (8, .int (0 : Int32)), (9, .int (2 : Int32)), (10, .int (2 : Int32)), (11, .int (0 : Int32))], [.int (if (Int32.toInt64 c) = 0 then 0 else -1)]) (HH I' J' R T) _
        show Zs _ _ (am_P 220).2 (128, [(0, .ref 73), (1, .int (0 : Int32)), (2, .int (0 : Int32)), (3, .int c), (4, .int w), (5, .int (-1 : Int32)), (6, .int (1000000000 : Int32)), (7, .int (0 : Int32)), (8, .int (0 : Int32)), (9, .int (2 : Int32)), (10, .int (2 : Int32)), (11, .int (0 : Int32))], [.int (if (Int32.toInt64 c) = 0 then 0 else -1)]) (HH I' J' R T) _
        refine Z_eqI (if_neg (fun z => absurd (i64_0.mp z) (by assumption))) ?_
        show Zs _ _ (am_P 220).2 (128, [(0, .ref 73), (1, .int (0 : Int32)), (2, .int (0 : Int32)), (3, .int c), (4, .int w), (5, .int (-1 : Int32)), (6, .int (1000000000 : Int32)), (7, .int (0 : Int32)), (8, .int (0 : Int32)), (9, .int (2 : Int32)), (10, .int (2 : Int32)), (11, .int (0 : Int32))], [.int (-1 : Int32)]) (HH I' J' R T) _
        refine Z_jump 14 rfl ?_
        show Zs _ _ (am_P 220).2 (158, [(0, .ref 73), (1, .int (0 : Int32)), (2, .int (0 : Int32)), (3, .int c), (4, .int w), (5, .int (-1 : Int32)), (6, .int (1000000000 : Int32)), (7, .int (0 : Int32)), (8, .int (-1 : Int32)), (9, .int (3 : Int32)), (10, .int (2 : Int32)), (11, .int (-1 : Int32))], [.int (-1 : Int32)]) (HH I' J' R T) _
        refine Z_rI rfl (by first | exact am_nw0 _ | exact am_nw01 | rfl | assumption) ?_
        exact ⟨rfl, I', J', rfl, hn⟩
    · rw [if_neg (fun z => hb z.2.1)]
      subst ha
      refine Z_jump 4 rfl ?_
      show Zs _ _ (am_P 220).2 (6, [(0, .ref 73), (1, .int (0 : Int32)), (2, .int b), (3, .int c), (4, .int w)], [.long (1000000 : Int64), .long (0 : Int64), .long (0 : Int64)]) (HH I J R T) _
      refine Z_c1 rfl rfl rfl (m_inI (v := 0) (a := 0) (b := 1000000) rfl rfl) ?_
      show Zs _ _ (am_P 220).2 (9, [(0, .ref 73), (1, .int (0 : Int32)), (2, .int b), (3, .int c), (4, .int w)], [.int (1 : Int32)]) (HH I J R T) _
      refine Z_jump 5 rfl ?_
      show Zs _ _ (am_P 220).2 (18, [(0, .ref 73), (1, .int (0 : Int32)), (2, .int b), (3, .int c), (4, .int w)], [.long (1000000 : Int64), .long (0 : Int64), .long (Int32.toInt64 b)]) (HH I J R T) _
      refine Z_c1 rfl rfl rfl (m_inI (a := 0) (b := 1000000) rfl rfl) ?_
      show Zs _ _ (am_P 220).2 (21, [(0, .ref 73), (1, .int (0 : Int32)), (2, .int b), (3, .int c), (4, .int w)], [.int (if 0 ≤ b.toInt ∧ b.toInt ≤ 1000000 then 1 else 0)]) (HH I J R T) _
      refine Z_jump 1 rfl ?_
      refine Z_bd (fun c21 => absurd c21 ((fun z => if10.mp z h2))) (fun c21 => ?_)
      refine Z_jump 4 rfl ?_
      show Zs _ _ (am_P 220).2 (30, [(0, .ref 73), (1, .int (0 : Int32)), (2, .int b), (3, .int c), (4, .int w)], [.long (1000000 : Int64), .long (0 : Int64), .long (Int32.toInt64 c)]) (HH I J R T) _
      refine Z_c1 rfl rfl rfl (m_inI (a := 0) (b := 1000000) rfl rfl) ?_
      show Zs _ _ (am_P 220).2 (33, [(0, .ref 73), (1, .int (0 : Int32)), (2, .int b), (3, .int c), (4, .int w)], [.int (if 0 ≤ c.toInt ∧ c.toInt ≤ 1000000 then 1 else 0)]) (HH I J R T) _
      refine Z_jump 1 rfl ?_
      refine Z_bd (fun c33 => absurd c33 ((fun z => if10.mp z h3))) (fun c33 => ?_)
      refine Z_jump 4 rfl ?_
      show Zs _ _ (am_P 220).2 (41, [(0, .ref 73), (1, .int (0 : Int32)), (2, .int b), (3, .int c), (4, .int w)], [.long (1 : Int64), .long (0 : Int64), .long (Int32.toInt64 w)]) (HH I J R T) _
      refine Z_c1 rfl rfl rfl (m_inI (a := 0) (b := 1) rfl rfl) ?_
      show Zs _ _ (am_P 220).2 (44, [(0, .ref 73), (1, .int (0 : Int32)), (2, .int b), (3, .int c), (4, .int w)], [.int (if 0 ≤ w.toInt ∧ w.toInt ≤ 1 then 1 else 0)]) (HH I J R T) _
      refine Z_jump 1 rfl ?_
      refine Z_bn (fun c44 => ?_) (fun c44 => absurd c44 ((fun z => if10.mp z h4)))
      refine Z_jump 10 rfl ?_
      show Zs _ _ (am_P 220).2 (68, [(0, .ref 73), (1, .int (0 : Int32)), (2, .int b), (3, .int c), (4, .int w), (5, .int (-1 : Int32)), (6, .int (1000000000 : Int32)), (7, .int (0 : Int32))], [.ref 73]) (HH I J R T) _
      refine Z_c0 rfl rfl rfl (m_copyNow) ?_
      show Zs _ _ (am_P 220).2 (71, [(0, .ref 73), (1, .int (0 : Int32)), (2, .int b), (3, .int c), (4, .int w), (5, .int (-1 : Int32)), (6, .int (1000000000 : Int32)), (7, .int (0 : Int32))], []) (HH (va_up I 79 (fun j => if j < 14 then I 78 j else I 79 j)) J R T) _
      refine Z_jump 11 rfl ?_
      show Zs _ _ (am_P 220).2 (92, [(0, .ref 73), (1, .int (0 : Int32)), (2, .int b), (3, .int c), (4, .int w), (5, .int (-1 : Int32)), (6, .int (1000000000 : Int32)), (7, .int (0 : Int32)), (8, .int (0 : Int32)), (9, .int (0 : Int32))], [.int (0 : Int32), .int (0 : Int32)]) (HH (va_up I 79 (fun j => if j < 14 then I 78 j else I 79 j)) J R T) _
      refine Z_c1 rfl rfl rfl ((E_run 40 rfl)) ?_
      show Zs _ _ (am_P 220).2 (95, [(0, .ref 73), (1, .int (0 : Int32)), (2, .int b), (3, .int c), (4, .int w), (5, .int (-1 : Int32)), (6, .int (1000000000 : Int32)), (7, .int (0 : Int32)), (8, .int (0 : Int32)), (9, .int (0 : Int32))], [.int (0 : Int32)]) (HH (va_up I 79 (fun j => if j < 14 then I 78 j else I 79 j)) J R T) _
      refine Z_jump 9 rfl ?_
      show Zs _ _ (am_P 220).2 (125, [(0, .ref 73), (1, .int (0 : Int32)), (2, .int b), (3, .int c), (4, .int w), (5, .int (-1 : Int32)), (6, .int (1000000000 : Int32)), (7, .int (0 : Int32)), (8, .int (0 : Int32)), (9, .int (0 : Int32)), (10, .int (0 : Int32))], [.long (0 : Int64), .ref 79, .ref 73]) (HH (va_up I 79 (fun j => if j < 14 then I 78 j else I 79 j)) J R T) _
      refine Z_cQ rfl rfl rfl (m_sets0 (I := (va_up I 79 (fun j => if j < 14 then I 78 j else I 79 j))) (to := (0 : Int64)) (Or.inr rfl) hn) (fun v h1 hq => ?_)
      obtain ⟨rfl, I', J', rfl, hn'⟩ := hq
      clear hn
      have hn := hn'
      clear hn'
      show Zs _ _ (am_P 220).2 (128, [(0, .ref 73), (1, .int (0 : Int32)), (2, .int b), (3, .int c), (4, .int w), (5, .int (-1 : Int32)), (6, .int (1000000000 : Int32)), (7, .int (0 : Int32)), (8, .int (0 : Int32)), (9, .int (0 : Int32)), (10, .int (0 : Int32))], [.int (if (0 : Int64) = 0 then 0 else -1)]) (HH I' J' R T) _
      show Zs _ _ (am_P 220).2 (128, [(0, .ref 73), (1, .int (0 : Int32)), (2, .int b), (3, .int c), (4, .int w), (5, .int (-1 : Int32)), (6, .int (1000000000 : Int32)), (7, .int (0 : Int32)), (8, .int (0 : Int32)), (9, .int (0 : Int32)), (10, .int (0 : Int32))], [.int (if (0 : Int64) = 0 then 0 else -1)]) (HH I' J' R T) _
      refine Z_eqI (if_pos rfl) ?_
      show Zs _ _ (am_P 220).2 (128, [(0, .ref 73), (1, .int (0 : Int32)), (2, .int b), (3, .int c), (4, .int w), (5, .int (-1 : Int32)), (6, .int (1000000000 : Int32)), (7, .int (0 : Int32)), (8, .int (0 : Int32)), (9, .int (0 : Int32)), (10, .int (0 : Int32))], [.int (0 : Int32)]) (HH I' J' R T) _
      refine Z_jump 16 rfl ?_
      show Zs _ _ (am_P 220).2 (92, [(0, .ref 73), (1, .int (0 : Int32)), (2, .int b), (3, .int c), (4, .int w), (5, .int (-1 : Int32)), (6, .int (1000000000 : Int32)), (7, .int (0 : Int32)), (8, .int (0 : Int32)), (9, .int (1 : Int32)), (10, .int (0 : Int32)), (11, .int (0 : Int32))], [.int (1 : Int32), .int (0 : Int32)]) (HH I' J' R T) _
      refine Z_c1 rfl rfl rfl ((E_run 40 rfl)) ?_
      show Zs _ _ (am_P 220).2 (95, [(0, .ref 73), (1, .int (0 : Int32)), (2, .int b), (3, .int c), (4, .int w), (5, .int (-1 : Int32)), (6, .int (1000000000 : Int32)), (7, .int (0 : Int32)), (8, .int (0 : Int32)), (9, .int (1 : Int32)), (10, .int (0 : Int32)), (11, .int (0 : Int32))], [.int (1 : Int32)]) (HH I' J' R T) _
      refine Z_jump 12 rfl ?_
      show Zs _ _ (am_P 220).2 (125, [(0, .ref 73), (1, .int (0 : Int32)), (2, .int b), (3, .int c), (4, .int w), (5, .int (-1 : Int32)), (6, .int (1000000000 : Int32)), (7, .int (0 : Int32)), (8, .int (0 : Int32)), (9, .int (1 : Int32)), (10, .int (1 : Int32)), (11, .int (0 : Int32))], [.long (Int32.toInt64 b), .ref 79, .ref 73]) (HH I' J' R T) _
      refine Z_cQ rfl rfl rfl (m_sets0 (I := I') (to := (Int32.toInt64 b)) (Or.inr rfl) hn) (fun v h1 hq => ?_)
      obtain ⟨rfl, I', J', rfl, hn'⟩ := hq
      clear hn
      have hn := hn'
      clear hn'
      show Zs _ _ (am_P 220).2 (128, [(0, .ref 73), (1, .int (0 : Int32)), (2, .int b), (3, .int c), (4, .int w), (5, .int (-1 : Int32)), (6, .int (1000000000 : Int32)), (7, .int (0 : Int32)), (8, .int (0 : Int32)), (9, .int (1 : Int32)), (10, .int (1 : Int32)), (11, .int (0 : Int32))], [.int (if (Int32.toInt64 b) = 0 then 0 else -1)]) (HH I' J' R T) _
      show Zs _ _ (am_P 220).2 (128, [(0, .ref 73), (1, .int (0 : Int32)), (2, .int b), (3, .int c), (4, .int w), (5, .int (-1 : Int32)), (6, .int (1000000000 : Int32)), (7, .int (0 : Int32)), (8, .int (0 : Int32)), (9, .int (1 : Int32)), (10, .int (1 : Int32)), (11, .int (0 : Int32))], [.int (if (Int32.toInt64 b) = 0 then 0 else -1)]) (HH I' J' R T) _
      refine Z_eqI (if_neg (fun z => absurd (i64_0.mp z) (by assumption))) ?_
      show Zs _ _ (am_P 220).2 (128, [(0, .ref 73), (1, .int (0 : Int32)), (2, .int b), (3, .int c), (4, .int w), (5, .int (-1 : Int32)), (6, .int (1000000000 : Int32)), (7, .int (0 : Int32)), (8, .int (0 : Int32)), (9, .int (1 : Int32)), (10, .int (1 : Int32)), (11, .int (0 : Int32))], [.int (-1 : Int32)]) (HH I' J' R T) _
      refine Z_jump 16 rfl ?_
      show Zs _ _ (am_P 220).2 (158, [(0, .ref 73), (1, .int (0 : Int32)), (2, .int b), (3, .int c), (4, .int w), (5, .int (-1 : Int32)), (6, .int (1000000000 : Int32)), (7, .int (0 : Int32)), (8, .int (-1 : Int32)), (9, .int (2 : Int32)), (10, .int (1 : Int32)), (11, .int (-1 : Int32))], [.int (-1 : Int32)]) (HH I' J' R T) _
      refine Z_rI rfl (by first | exact am_nw0 _ | exact am_nw01 | rfl | assumption) ?_
      exact ⟨rfl, I', J', rfl, hn⟩
  · rw [if_neg (fun z => ha z.1)]
    refine Z_jump 4 rfl ?_
    show Zs _ _ (am_P 220).2 (6, [(0, .ref 73), (1, .int a), (2, .int b), (3, .int c), (4, .int w)], [.long (1000000 : Int64), .long (0 : Int64), .long (Int32.toInt64 a)]) (HH I J R T) _
    refine Z_c1 rfl rfl rfl (m_inI (a := 0) (b := 1000000) rfl rfl) ?_
    show Zs _ _ (am_P 220).2 (9, [(0, .ref 73), (1, .int a), (2, .int b), (3, .int c), (4, .int w)], [.int (if 0 ≤ a.toInt ∧ a.toInt ≤ 1000000 then 1 else 0)]) (HH I J R T) _
    refine Z_jump 1 rfl ?_
    refine Z_bd (fun c9 => absurd c9 ((fun z => if10.mp z h1))) (fun c9 => ?_)
    refine Z_jump 4 rfl ?_
    show Zs _ _ (am_P 220).2 (18, [(0, .ref 73), (1, .int a), (2, .int b), (3, .int c), (4, .int w)], [.long (1000000 : Int64), .long (0 : Int64), .long (Int32.toInt64 b)]) (HH I J R T) _
    refine Z_c1 rfl rfl rfl (m_inI (a := 0) (b := 1000000) rfl rfl) ?_
    show Zs _ _ (am_P 220).2 (21, [(0, .ref 73), (1, .int a), (2, .int b), (3, .int c), (4, .int w)], [.int (if 0 ≤ b.toInt ∧ b.toInt ≤ 1000000 then 1 else 0)]) (HH I J R T) _
    refine Z_jump 1 rfl ?_
    refine Z_bd (fun c21 => absurd c21 ((fun z => if10.mp z h2))) (fun c21 => ?_)
    refine Z_jump 4 rfl ?_
    show Zs _ _ (am_P 220).2 (30, [(0, .ref 73), (1, .int a), (2, .int b), (3, .int c), (4, .int w)], [.long (1000000 : Int64), .long (0 : Int64), .long (Int32.toInt64 c)]) (HH I J R T) _
    refine Z_c1 rfl rfl rfl (m_inI (a := 0) (b := 1000000) rfl rfl) ?_
    show Zs _ _ (am_P 220).2 (33, [(0, .ref 73), (1, .int a), (2, .int b), (3, .int c), (4, .int w)], [.int (if 0 ≤ c.toInt ∧ c.toInt ≤ 1000000 then 1 else 0)]) (HH I J R T) _
    refine Z_jump 1 rfl ?_
    refine Z_bd (fun c33 => absurd c33 ((fun z => if10.mp z h3))) (fun c33 => ?_)
    refine Z_jump 4 rfl ?_
    show Zs _ _ (am_P 220).2 (41, [(0, .ref 73), (1, .int a), (2, .int b), (3, .int c), (4, .int w)], [.long (1 : Int64), .long (0 : Int64), .long (Int32.toInt64 w)]) (HH I J R T) _
    refine Z_c1 rfl rfl rfl (m_inI (a := 0) (b := 1) rfl rfl) ?_
    show Zs _ _ (am_P 220).2 (44, [(0, .ref 73), (1, .int a), (2, .int b), (3, .int c), (4, .int w)], [.int (if 0 ≤ w.toInt ∧ w.toInt ≤ 1 then 1 else 0)]) (HH I J R T) _
    refine Z_jump 1 rfl ?_
    refine Z_bn (fun c44 => ?_) (fun c44 => absurd c44 ((fun z => if10.mp z h4)))
    refine Z_jump 10 rfl ?_
    show Zs _ _ (am_P 220).2 (68, [(0, .ref 73), (1, .int a), (2, .int b), (3, .int c), (4, .int w), (5, .int (-1 : Int32)), (6, .int (1000000000 : Int32)), (7, .int (0 : Int32))], [.ref 73]) (HH I J R T) _
    refine Z_c0 rfl rfl rfl (m_copyNow) ?_
    show Zs _ _ (am_P 220).2 (71, [(0, .ref 73), (1, .int a), (2, .int b), (3, .int c), (4, .int w), (5, .int (-1 : Int32)), (6, .int (1000000000 : Int32)), (7, .int (0 : Int32))], []) (HH (va_up I 79 (fun j => if j < 14 then I 78 j else I 79 j)) J R T) _
    refine Z_jump 11 rfl ?_
    show Zs _ _ (am_P 220).2 (92, [(0, .ref 73), (1, .int a), (2, .int b), (3, .int c), (4, .int w), (5, .int (-1 : Int32)), (6, .int (1000000000 : Int32)), (7, .int (0 : Int32)), (8, .int (0 : Int32)), (9, .int (0 : Int32))], [.int (0 : Int32), .int (0 : Int32)]) (HH (va_up I 79 (fun j => if j < 14 then I 78 j else I 79 j)) J R T) _
    refine Z_c1 rfl rfl rfl ((E_run 40 rfl)) ?_
    show Zs _ _ (am_P 220).2 (95, [(0, .ref 73), (1, .int a), (2, .int b), (3, .int c), (4, .int w), (5, .int (-1 : Int32)), (6, .int (1000000000 : Int32)), (7, .int (0 : Int32)), (8, .int (0 : Int32)), (9, .int (0 : Int32))], [.int (0 : Int32)]) (HH (va_up I 79 (fun j => if j < 14 then I 78 j else I 79 j)) J R T) _
    refine Z_jump 9 rfl ?_
    show Zs _ _ (am_P 220).2 (125, [(0, .ref 73), (1, .int a), (2, .int b), (3, .int c), (4, .int w), (5, .int (-1 : Int32)), (6, .int (1000000000 : Int32)), (7, .int (0 : Int32)), (8, .int (0 : Int32)), (9, .int (0 : Int32)), (10, .int (0 : Int32))], [.long (Int32.toInt64 a), .ref 79, .ref 73]) (HH (va_up I 79 (fun j => if j < 14 then I 78 j else I 79 j)) J R T) _
    refine Z_cQ rfl rfl rfl (m_sets0 (I := (va_up I 79 (fun j => if j < 14 then I 78 j else I 79 j))) (to := (Int32.toInt64 a)) (Or.inr rfl) hn) (fun v h1 hq => ?_)
    obtain ⟨rfl, I', J', rfl, hn'⟩ := hq
    clear hn
    have hn := hn'
    clear hn'
    show Zs _ _ (am_P 220).2 (128, [(0, .ref 73), (1, .int a), (2, .int b), (3, .int c), (4, .int w), (5, .int (-1 : Int32)), (6, .int (1000000000 : Int32)), (7, .int (0 : Int32)), (8, .int (0 : Int32)), (9, .int (0 : Int32)), (10, .int (0 : Int32))], [.int (if (Int32.toInt64 a) = 0 then 0 else -1)]) (HH I' J' R T) _
    show Zs _ _ (am_P 220).2 (128, [(0, .ref 73), (1, .int a), (2, .int b), (3, .int c), (4, .int w), (5, .int (-1 : Int32)), (6, .int (1000000000 : Int32)), (7, .int (0 : Int32)), (8, .int (0 : Int32)), (9, .int (0 : Int32)), (10, .int (0 : Int32))], [.int (if (Int32.toInt64 a) = 0 then 0 else -1)]) (HH I' J' R T) _
    refine Z_eqI (if_neg (fun z => absurd (i64_0.mp z) (by assumption))) ?_
    show Zs _ _ (am_P 220).2 (128, [(0, .ref 73), (1, .int a), (2, .int b), (3, .int c), (4, .int w), (5, .int (-1 : Int32)), (6, .int (1000000000 : Int32)), (7, .int (0 : Int32)), (8, .int (0 : Int32)), (9, .int (0 : Int32)), (10, .int (0 : Int32))], [.int (-1 : Int32)]) (HH I' J' R T) _
    refine Z_jump 16 rfl ?_
    show Zs _ _ (am_P 220).2 (158, [(0, .ref 73), (1, .int a), (2, .int b), (3, .int c), (4, .int w), (5, .int (-1 : Int32)), (6, .int (1000000000 : Int32)), (7, .int (0 : Int32)), (8, .int (-1 : Int32)), (9, .int (1 : Int32)), (10, .int (0 : Int32)), (11, .int (-1 : Int32))], [.int (-1 : Int32)]) (HH I' J' R T) _
    refine Z_rI rfl (by first | exact am_nw0 _ | exact am_nw01 | rfl | assumption) ?_
    exact ⟨rfl, I', J', rfl, hn⟩
end M0d

