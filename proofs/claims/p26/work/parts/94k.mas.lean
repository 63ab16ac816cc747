/-! The reference: as, stick, undo, back, keep: any state. -/
section MR1
variable {sc : Nat × (Nat → Int32)} {d : Nat} {I : hI} {J : hJ} {R : hR} {T : am_H} {Q : Option Value → am_H → Prop}
theorem m_worthD {D : FD} {x : Int32} {j : Nat} (hD : DM 0 7 74 D I) (hx : x = nI j) (hj : j < D.1) : am_E sc (d + 2) 151 [.ref 73, .int x] (HH I J R T) (some (.int (nI (hwv (D.2.1 j))))) (HH I J R T) := by
  have h6 := hD.2.1
  have w := m_worth (sc := sc) (d := d) (I := I) (J := J) (R := R) (T := T) (r := x) (by rw [hx]; exact vk (by omega))
  have hc : x.toNatClampNeg = j := by rw [hx]; exact nI_clamp (by omega)
  obtain ⟨ok, k1, k2, k3, k4⟩ := hD.2.2.2 j hj
  have e : M_wb I (I 74 x.toNatClampNeg) x = nI (hwv (D.2.1 j)) := by
    unfold M_wb hwv
    rw [hc, k1, show I 76 j = nI (D.2.1 j).2.2.1 from k3]
    have a0 : nI (D.2.1 j).1 = 0 ↔ (D.2.1 j).1 = 0 := nI_eq (b := 0) (by have := ok.1; omega) (by omega)
    have a3 : nI (D.2.1 j).1 = 3 ↔ (D.2.1 j).1 = 3 := nI_eq (b := 3) (by have := ok.1; omega) (by omega)
    by_cases z0 : (D.2.1 j).1 = 0
    · rw [if_pos (a0.mpr z0), if_pos z0]; rfl
    · rw [if_neg (fun y => z0 (a0.mp y)), if_neg z0]
      by_cases z3 : (D.2.1 j).1 = 3
      · rw [if_pos (a3.mpr z3), if_pos z3]; exact nI_1 _
      · rw [if_neg (fun y => z3 (a3.mp y)), if_neg z3]; rfl
  rw [e] at w
  exact w
theorem m_as {D : FD} {x k : Int32} (hD : DM 0 7 74 D I) : am_E sc (d + 3) 162 [.ref 73, .int x, .int k] (HH I J R T) (some (.int (asv D x k))) (HH I J R T) := by
  refine E_Z (Ze_of (Nat.le_of_ble_eq_true rfl) ?_)
  have h6 := hD.2.1
  unfold asv
  by_cases hr : M_rod D.1 x
  · rw [if_neg (fun z => z hr)]
    obtain ⟨j, hj, hx⟩ := rod_n hr
    obtain ⟨hq, k1, k2, k3, k4⟩ := hD.2.2.2 j hj
    have hxc : x.toNatClampNeg = j := by rw [hx]; exact nI_clamp (by omega)
    have hw := m_worthD (sc := sc) (d := d) (J := J) (R := R) (T := T) hD hx hj
    rw [hxc]
    have hq1 := hq.1
    generalize D.2.1 j = q at hw hq1 k1 ⊢
    obtain ⟨kd, b, l, g⟩ := q
    have k1 : I 74 j = nI kd := k1
    by_cases hk : 0 ≤ k.toInt ∧ k.toInt ≤ 4
    · rw [if_neg (fun z => z hk)]
      rcases kd_c hq1 with rfl | rfl | rfl | rfl
      · rcases k5_c hk with rfl | rfl | rfl | rfl | rfl
        · refine Z_jump 2 rfl ?_
          show Zs _ _ (am_P 162).2 (2, [(0, .ref 73), (1, .int x), (2, .int (0 : Int32))], [.int x, .ref 73]) (HH I J R T) _
          refine Z_c1 rfl rfl rfl (m_isRodN hD.1 h6) ?_
          show Zs _ _ (am_P 162).2 (5, [(0, .ref 73), (1, .int x), (2, .int (0 : Int32))], [.int (if M_rod D.1 x then 1 else 0)]) (HH I J R T) _
          refine Z_jump 1 rfl ?_
          refine Z_bn (fun c5 => ?_) (fun c5 => absurd c5 ((fun z => if10.mp z hr)))
          refine Z_jump 4 rfl ?_
          show Zs _ _ (am_P 162).2 (17, [(0, .ref 73), (1, .int x), (2, .int (0 : Int32))], [.long (4 : Int64), .long (0 : Int64), .long (0 : Int64)]) (HH I J R T) _
          refine Z_c1 rfl rfl rfl (m_inI (v := 0) (a := 0) (b := 4) rfl rfl) ?_
          show Zs _ _ (am_P 162).2 (20, [(0, .ref 73), (1, .int x), (2, .int (0 : Int32))], [.int (1 : Int32)]) (HH I J R T) _
          refine Z_jump 4 rfl ?_
          show Zs _ _ (am_P 162).2 (31, [(0, .ref 73), (1, .int x), (2, .int (0 : Int32))], [.int x, .ref 74]) (HH I J R T) _
          refine Z_ialK (j) rfl rfl (hx) (by omega) (by decide) ?_
          show Zs _ _ (am_P 162).2 (32, [(0, .ref 73), (1, .int x), (2, .int (0 : Int32))], [.int (I 74 j)]) (HH I J R T) _
          show Zs _ _ (am_P 162).2 (32, [(0, .ref 73), (1, .int x), (2, .int (0 : Int32))], [.int (I 74 j)]) (HH I J R T) _
          refine Z_eqI (y := (0 : Int32)) (k1) ?_
          show Zs _ _ (am_P 162).2 (32, [(0, .ref 73), (1, .int x), (2, .int (0 : Int32))], [.int (0 : Int32)]) (HH I J R T) _
          refine Z_jump 10 rfl ?_
          show Zs _ _ (am_P 162).2 (89, [(0, .ref 73), (1, .int x), (2, .int (0 : Int32)), (3, .int (0 : Int32)), (4, .int (1 : Int32))], [.int x, .ref 73]) (HH I J R T) _
          refine Z_c1 rfl rfl rfl (hw) ?_
          show Zs _ _ (am_P 162).2 (92, [(0, .ref 73), (1, .int x), (2, .int (0 : Int32)), (3, .int (0 : Int32)), (4, .int (1 : Int32))], [.int (nI (hwv (0, b, l, g)))]) (HH I J R T) _
          refine Z_jump 1 rfl ?_
          show Zs _ _ (am_P 162).2 (97, [(0, .ref 73), (1, .int x), (2, .int (0 : Int32)), (3, .int (0 : Int32)), (4, .int (1 : Int32))], [.int (nI (hwv (0, b, l, g)))]) (HH I J R T) _
          refine Z_rI rfl (by first | exact am_nw0 _ | exact am_nw01 | rfl | assumption) ?_
          exact ⟨am_ii (show _ = (if und 0 0 then nI (hwv (0, b, l, g)) else -4) from (by rw [if_pos (by decide)])), rfl⟩
        · refine Z_jump 2 rfl ?_
          show Zs _ _ (am_P 162).2 (2, [(0, .ref 73), (1, .int x), (2, .int (1 : Int32))], [.int x, .ref 73]) (HH I J R T) _
          refine Z_c1 rfl rfl rfl (m_isRodN hD.1 h6) ?_
          show Zs _ _ (am_P 162).2 (5, [(0, .ref 73), (1, .int x), (2, .int (1 : Int32))], [.int (if M_rod D.1 x then 1 else 0)]) (HH I J R T) _
          refine Z_jump 1 rfl ?_
          refine Z_bn (fun c5 => ?_) (fun c5 => absurd c5 ((fun z => if10.mp z hr)))
          refine Z_jump 4 rfl ?_
          show Zs _ _ (am_P 162).2 (17, [(0, .ref 73), (1, .int x), (2, .int (1 : Int32))], [.long (4 : Int64), .long (0 : Int64), .long (1 : Int64)]) (HH I J R T) _
          refine Z_c1 rfl rfl rfl (m_inI (v := 1) (a := 0) (b := 4) rfl rfl) ?_
          show Zs _ _ (am_P 162).2 (20, [(0, .ref 73), (1, .int x), (2, .int (1 : Int32))], [.int (1 : Int32)]) (HH I J R T) _
          refine Z_jump 4 rfl ?_
          show Zs _ _ (am_P 162).2 (31, [(0, .ref 73), (1, .int x), (2, .int (1 : Int32))], [.int x, .ref 74]) (HH I J R T) _
          refine Z_ialK (j) rfl rfl (hx) (by omega) (by decide) ?_
          show Zs _ _ (am_P 162).2 (32, [(0, .ref 73), (1, .int x), (2, .int (1 : Int32))], [.int (I 74 j)]) (HH I J R T) _
          show Zs _ _ (am_P 162).2 (32, [(0, .ref 73), (1, .int x), (2, .int (1 : Int32))], [.int (I 74 j)]) (HH I J R T) _
          refine Z_eqI (y := (0 : Int32)) (k1) ?_
          show Zs _ _ (am_P 162).2 (32, [(0, .ref 73), (1, .int x), (2, .int (1 : Int32))], [.int (0 : Int32)]) (HH I J R T) _
          refine Z_jump 15 rfl ?_
          show Zs _ _ (am_P 162).2 (89, [(0, .ref 73), (1, .int x), (2, .int (1 : Int32)), (3, .int (0 : Int32)), (4, .int (1 : Int32))], [.int x, .ref 73]) (HH I J R T) _
          refine Z_c1 rfl rfl rfl (hw) ?_
          show Zs _ _ (am_P 162).2 (92, [(0, .ref 73), (1, .int x), (2, .int (1 : Int32)), (3, .int (0 : Int32)), (4, .int (1 : Int32))], [.int (nI (hwv (0, b, l, g)))]) (HH I J R T) _
          refine Z_jump 1 rfl ?_
          show Zs _ _ (am_P 162).2 (97, [(0, .ref 73), (1, .int x), (2, .int (1 : Int32)), (3, .int (0 : Int32)), (4, .int (1 : Int32))], [.int (nI (hwv (0, b, l, g)))]) (HH I J R T) _
          refine Z_rI rfl (by first | exact am_nw0 _ | exact am_nw01 | rfl | assumption) ?_
          exact ⟨am_ii (show _ = (if und 0 1 then nI (hwv (0, b, l, g)) else -4) from (by rw [if_pos (by decide)])), rfl⟩
        · refine Z_jump 2 rfl ?_
          show Zs _ _ (am_P 162).2 (2, [(0, .ref 73), (1, .int x), (2, .int (2 : Int32))], [.int x, .ref 73]) (HH I J R T) _
          refine Z_c1 rfl rfl rfl (m_isRodN hD.1 h6) ?_
          show Zs _ _ (am_P 162).2 (5, [(0, .ref 73), (1, .int x), (2, .int (2 : Int32))], [.int (if M_rod D.1 x then 1 else 0)]) (HH I J R T) _
          refine Z_jump 1 rfl ?_
          refine Z_bn (fun c5 => ?_) (fun c5 => absurd c5 ((fun z => if10.mp z hr)))
          refine Z_jump 4 rfl ?_
          show Zs _ _ (am_P 162).2 (17, [(0, .ref 73), (1, .int x), (2, .int (2 : Int32))], [.long (4 : Int64), .long (0 : Int64), .long (2 : Int64)]) (HH I J R T) _
          refine Z_c1 rfl rfl rfl (m_inI (v := 2) (a := 0) (b := 4) rfl rfl) ?_
          show Zs _ _ (am_P 162).2 (20, [(0, .ref 73), (1, .int x), (2, .int (2 : Int32))], [.int (1 : Int32)]) (HH I J R T) _
          refine Z_jump 4 rfl ?_
          show Zs _ _ (am_P 162).2 (31, [(0, .ref 73), (1, .int x), (2, .int (2 : Int32))], [.int x, .ref 74]) (HH I J R T) _
          refine Z_ialK (j) rfl rfl (hx) (by omega) (by decide) ?_
          show Zs _ _ (am_P 162).2 (32, [(0, .ref 73), (1, .int x), (2, .int (2 : Int32))], [.int (I 74 j)]) (HH I J R T) _
          show Zs _ _ (am_P 162).2 (32, [(0, .ref 73), (1, .int x), (2, .int (2 : Int32))], [.int (I 74 j)]) (HH I J R T) _
          refine Z_eqI (y := (0 : Int32)) (k1) ?_
          show Zs _ _ (am_P 162).2 (32, [(0, .ref 73), (1, .int x), (2, .int (2 : Int32))], [.int (0 : Int32)]) (HH I J R T) _
          refine Z_jump 22 rfl ?_
          show Zs _ _ (am_P 162).2 (97, [(0, .ref 73), (1, .int x), (2, .int (2 : Int32)), (3, .int (0 : Int32)), (4, .int (0 : Int32))], [.int (-4 : Int32)]) (HH I J R T) _
          refine Z_rI rfl (by first | exact am_nw0 _ | exact am_nw01 | rfl | assumption) ?_
          exact ⟨am_ii (show _ = (if und 0 2 then nI (hwv (0, b, l, g)) else -4) from (by rw [if_neg (by decide)])), rfl⟩
        · refine Z_jump 2 rfl ?_
          show Zs _ _ (am_P 162).2 (2, [(0, .ref 73), (1, .int x), (2, .int (3 : Int32))], [.int x, .ref 73]) (HH I J R T) _
          refine Z_c1 rfl rfl rfl (m_isRodN hD.1 h6) ?_
          show Zs _ _ (am_P 162).2 (5, [(0, .ref 73), (1, .int x), (2, .int (3 : Int32))], [.int (if M_rod D.1 x then 1 else 0)]) (HH I J R T) _
          refine Z_jump 1 rfl ?_
          refine Z_bn (fun c5 => ?_) (fun c5 => absurd c5 ((fun z => if10.mp z hr)))
          refine Z_jump 4 rfl ?_
          show Zs _ _ (am_P 162).2 (17, [(0, .ref 73), (1, .int x), (2, .int (3 : Int32))], [.long (4 : Int64), .long (0 : Int64), .long (3 : Int64)]) (HH I J R T) _
          refine Z_c1 rfl rfl rfl (m_inI (v := 3) (a := 0) (b := 4) rfl rfl) ?_
          show Zs _ _ (am_P 162).2 (20, [(0, .ref 73), (1, .int x), (2, .int (3 : Int32))], [.int (1 : Int32)]) (HH I J R T) _
          refine Z_jump 4 rfl ?_
          show Zs _ _ (am_P 162).2 (31, [(0, .ref 73), (1, .int x), (2, .int (3 : Int32))], [.int x, .ref 74]) (HH I J R T) _
          refine Z_ialK (j) rfl rfl (hx) (by omega) (by decide) ?_
          show Zs _ _ (am_P 162).2 (32, [(0, .ref 73), (1, .int x), (2, .int (3 : Int32))], [.int (I 74 j)]) (HH I J R T) _
          show Zs _ _ (am_P 162).2 (32, [(0, .ref 73), (1, .int x), (2, .int (3 : Int32))], [.int (I 74 j)]) (HH I J R T) _
          refine Z_eqI (y := (0 : Int32)) (k1) ?_
          show Zs _ _ (am_P 162).2 (32, [(0, .ref 73), (1, .int x), (2, .int (3 : Int32))], [.int (0 : Int32)]) (HH I J R T) _
          refine Z_jump 23 rfl ?_
          show Zs _ _ (am_P 162).2 (97, [(0, .ref 73), (1, .int x), (2, .int (3 : Int32)), (3, .int (0 : Int32)), (4, .int (0 : Int32))], [.int (-4 : Int32)]) (HH I J R T) _
          refine Z_rI rfl (by first | exact am_nw0 _ | exact am_nw01 | rfl | assumption) ?_
          exact ⟨am_ii (show _ = (if und 0 3 then nI (hwv (0, b, l, g)) else -4) from (by rw [if_neg (by decide)])), rfl⟩
        · refine Z_jump 2 rfl ?_
          show Zs _ _ (am_P 162).2 (2, [(0, .ref 73), (1, .int x), (2, .int (4 : Int32))], [.int x, .ref 73]) (HH I J R T) _
          refine Z_c1 rfl rfl rfl (m_isRodN hD.1 h6) ?_
          show Zs _ _ (am_P 162).2 (5, [(0, .ref 73), (1, .int x), (2, .int (4 : Int32))], [.int (if M_rod D.1 x then 1 else 0)]) (HH I J R T) _
          refine Z_jump 1 rfl ?_
          refine Z_bn (fun c5 => ?_) (fun c5 => absurd c5 ((fun z => if10.mp z hr)))
          refine Z_jump 4 rfl ?_
          show Zs _ _ (am_P 162).2 (17, [(0, .ref 73), (1, .int x), (2, .int (4 : Int32))], [.long (4 : Int64), .long (0 : Int64), .long (4 : Int64)]) (HH I J R T) _
          refine Z_c1 rfl rfl rfl (m_inI (v := 4) (a := 0) (b := 4) rfl rfl) ?_
          show Zs _ _ (am_P 162).2 (20, [(0, .ref 73), (1, .int x), (2, .int (4 : Int32))], [.int (1 : Int32)]) (HH I J R T) _
          refine Z_jump 4 rfl ?_
          show Zs _ _ (am_P 162).2 (31, [(0, .ref 73), (1, .int x), (2, .int (4 : Int32))], [.int x, .ref 74]) (HH I J R T) _
          refine Z_ialK (j) rfl rfl (hx) (by omega) (by decide) ?_
          show Zs _ _ (am_P 162).2 (32, [(0, .ref 73), (1, .int x), (2, .int (4 : Int32))], [.int (I 74 j)]) (HH I J R T) _
          show Zs _ _ (am_P 162).2 (32, [(0, .ref 73), (1, .int x), (2, .int (4 : Int32))], [.int (I 74 j)]) (HH I J R T) _
          refine Z_eqI (y := (0 : Int32)) (k1) ?_
          show Zs _ _ (am_P 162).2 (32, [(0, .ref 73), (1, .int x), (2, .int (4 : Int32))], [.int (0 : Int32)]) (HH I J R T) _
          refine Z_jump 23 rfl ?_
          show Zs _ _ (am_P 162).2 (97, [(0, .ref 73), (1, .int x), (2, .int (4 : Int32)), (3, .int (0 : Int32)), (4, .int (0 : Int32))], [.int (-4 : Int32)]) (HH I J R T) _
          refine Z_rI rfl (by first | exact am_nw0 _ | exact am_nw01 | rfl | assumption) ?_
          exact ⟨am_ii (show _ = (if und 0 4 then nI (hwv (0, b, l, g)) else -4) from (by rw [if_neg (by decide)])), rfl⟩
      · rcases k5_c hk with rfl | rfl | rfl | rfl | rfl
        · refine Z_jump 2 rfl ?_
          show Zs _ _ (am_P 162).2 (2, [(0, .ref 73), (1, .int x), (2, .int (0 : Int32))], [.int x, .ref 73]) (HH I J R T) _
          refine Z_c1 rfl rfl rfl (m_isRodN hD.1 h6) ?_
          show Zs _ _ (am_P 162).2 (5, [(0, .ref 73), (1, .int x), (2, .int (0 : Int32))], [.int (if M_rod D.1 x then 1 else 0)]) (HH I J R T) _
          refine Z_jump 1 rfl ?_
          refine Z_bn (fun c5 => ?_) (fun c5 => absurd c5 ((fun z => if10.mp z hr)))
          refine Z_jump 4 rfl ?_
          show Zs _ _ (am_P 162).2 (17, [(0, .ref 73), (1, .int x), (2, .int (0 : Int32))], [.long (4 : Int64), .long (0 : Int64), .long (0 : Int64)]) (HH I J R T) _
          refine Z_c1 rfl rfl rfl (m_inI (v := 0) (a := 0) (b := 4) rfl rfl) ?_
          show Zs _ _ (am_P 162).2 (20, [(0, .ref 73), (1, .int x), (2, .int (0 : Int32))], [.int (1 : Int32)]) (HH I J R T) _
          refine Z_jump 4 rfl ?_
          show Zs _ _ (am_P 162).2 (31, [(0, .ref 73), (1, .int x), (2, .int (0 : Int32))], [.int x, .ref 74]) (HH I J R T) _
          refine Z_ialK (j) rfl rfl (hx) (by omega) (by decide) ?_
          show Zs _ _ (am_P 162).2 (32, [(0, .ref 73), (1, .int x), (2, .int (0 : Int32))], [.int (I 74 j)]) (HH I J R T) _
          show Zs _ _ (am_P 162).2 (32, [(0, .ref 73), (1, .int x), (2, .int (0 : Int32))], [.int (I 74 j)]) (HH I J R T) _
          refine Z_eqI (y := (1 : Int32)) (k1) ?_
          show Zs _ _ (am_P 162).2 (32, [(0, .ref 73), (1, .int x), (2, .int (0 : Int32))], [.int (1 : Int32)]) (HH I J R T) _
          refine Z_jump 10 rfl ?_
          show Zs _ _ (am_P 162).2 (89, [(0, .ref 73), (1, .int x), (2, .int (0 : Int32)), (3, .int (1 : Int32)), (4, .int (1 : Int32))], [.int x, .ref 73]) (HH I J R T) _
          refine Z_c1 rfl rfl rfl (hw) ?_
          show Zs _ _ (am_P 162).2 (92, [(0, .ref 73), (1, .int x), (2, .int (0 : Int32)), (3, .int (1 : Int32)), (4, .int (1 : Int32))], [.int (nI (hwv (1, b, l, g)))]) (HH I J R T) _
          refine Z_jump 1 rfl ?_
          show Zs _ _ (am_P 162).2 (97, [(0, .ref 73), (1, .int x), (2, .int (0 : Int32)), (3, .int (1 : Int32)), (4, .int (1 : Int32))], [.int (nI (hwv (1, b, l, g)))]) (HH I J R T) _
          refine Z_rI rfl (by first | exact am_nw0 _ | exact am_nw01 | rfl | assumption) ?_
          exact ⟨am_ii (show _ = (if und 1 0 then nI (hwv (1, b, l, g)) else -4) from (by rw [if_pos (by decide)])), rfl⟩
        · refine Z_jump 2 rfl ?_
          show Zs _ _ (am_P 162).2 (2, [(0, .ref 73), (1, .int x), (2, .int (1 : Int32))], [.int x, .ref 73]) (HH I J R T) _
          refine Z_c1 rfl rfl rfl (m_isRodN hD.1 h6) ?_
          show Zs _ _ (am_P 162).2 (5, [(0, .ref 73), (1, .int x), (2, .int (1 : Int32))], [.int (if M_rod D.1 x then 1 else 0)]) (HH I J R T) _
          refine Z_jump 1 rfl ?_
          refine Z_bn (fun c5 => ?_) (fun c5 => absurd c5 ((fun z => if10.mp z hr)))
          refine Z_jump 4 rfl ?_
          show Zs _ _ (am_P 162).2 (17, [(0, .ref 73), (1, .int x), (2, .int (1 : Int32))], [.long (4 : Int64), .long (0 : Int64), .long (1 : Int64)]) (HH I J R T) _
          refine Z_c1 rfl rfl rfl (m_inI (v := 1) (a := 0) (b := 4) rfl rfl) ?_
          show Zs _ _ (am_P 162).2 (20, [(0, .ref 73), (1, .int x), (2, .int (1 : Int32))], [.int (1 : Int32)]) (HH I J R T) _
          refine Z_jump 4 rfl ?_
          show Zs _ _ (am_P 162).2 (31, [(0, .ref 73), (1, .int x), (2, .int (1 : Int32))], [.int x, .ref 74]) (HH I J R T) _
          refine Z_ialK (j) rfl rfl (hx) (by omega) (by decide) ?_
          show Zs _ _ (am_P 162).2 (32, [(0, .ref 73), (1, .int x), (2, .int (1 : Int32))], [.int (I 74 j)]) (HH I J R T) _
          show Zs _ _ (am_P 162).2 (32, [(0, .ref 73), (1, .int x), (2, .int (1 : Int32))], [.int (I 74 j)]) (HH I J R T) _
          refine Z_eqI (y := (1 : Int32)) (k1) ?_
          show Zs _ _ (am_P 162).2 (32, [(0, .ref 73), (1, .int x), (2, .int (1 : Int32))], [.int (1 : Int32)]) (HH I J R T) _
          refine Z_jump 22 rfl ?_
          show Zs _ _ (am_P 162).2 (97, [(0, .ref 73), (1, .int x), (2, .int (1 : Int32)), (3, .int (1 : Int32)), (4, .int (0 : Int32))], [.int (-4 : Int32)]) (HH I J R T) _
          refine Z_rI rfl (by first | exact am_nw0 _ | exact am_nw01 | rfl | assumption) ?_
          exact ⟨am_ii (show _ = (if und 1 1 then nI (hwv (1, b, l, g)) else -4) from (by rw [if_neg (by decide)])), rfl⟩
        · refine Z_jump 2 rfl ?_
          show Zs _ _ (am_P 162).2 (2, [(0, .ref 73), (1, .int x), (2, .int (2 : Int32))], [.int x, .ref 73]) (HH I J R T) _
          refine Z_c1 rfl rfl rfl (m_isRodN hD.1 h6) ?_
          show Zs _ _ (am_P 162).2 (5, [(0, .ref 73), (1, .int x), (2, .int (2 : Int32))], [.int (if M_rod D.1 x then 1 else 0)]) (HH I J R T) _
          refine Z_jump 1 rfl ?_
          refine Z_bn (fun c5 => ?_) (fun c5 => absurd c5 ((fun z => if10.mp z hr)))
          refine Z_jump 4 rfl ?_
          show Zs _ _ (am_P 162).2 (17, [(0, .ref 73), (1, .int x), (2, .int (2 : Int32))], [.long (4 : Int64), .long (0 : Int64), .long (2 : Int64)]) (HH I J R T) _
          refine Z_c1 rfl rfl rfl (m_inI (v := 2) (a := 0) (b := 4) rfl rfl) ?_
          show Zs _ _ (am_P 162).2 (20, [(0, .ref 73), (1, .int x), (2, .int (2 : Int32))], [.int (1 : Int32)]) (HH I J R T) _
          refine Z_jump 4 rfl ?_
          show Zs _ _ (am_P 162).2 (31, [(0, .ref 73), (1, .int x), (2, .int (2 : Int32))], [.int x, .ref 74]) (HH I J R T) _
          refine Z_ialK (j) rfl rfl (hx) (by omega) (by decide) ?_
          show Zs _ _ (am_P 162).2 (32, [(0, .ref 73), (1, .int x), (2, .int (2 : Int32))], [.int (I 74 j)]) (HH I J R T) _
          show Zs _ _ (am_P 162).2 (32, [(0, .ref 73), (1, .int x), (2, .int (2 : Int32))], [.int (I 74 j)]) (HH I J R T) _
          refine Z_eqI (y := (1 : Int32)) (k1) ?_
          show Zs _ _ (am_P 162).2 (32, [(0, .ref 73), (1, .int x), (2, .int (2 : Int32))], [.int (1 : Int32)]) (HH I J R T) _
          refine Z_jump 18 rfl ?_
          show Zs _ _ (am_P 162).2 (89, [(0, .ref 73), (1, .int x), (2, .int (2 : Int32)), (3, .int (1 : Int32)), (4, .int (1 : Int32))], [.int x, .ref 73]) (HH I J R T) _
          refine Z_c1 rfl rfl rfl (hw) ?_
          show Zs _ _ (am_P 162).2 (92, [(0, .ref 73), (1, .int x), (2, .int (2 : Int32)), (3, .int (1 : Int32)), (4, .int (1 : Int32))], [.int (nI (hwv (1, b, l, g)))]) (HH I J R T) _
          refine Z_jump 1 rfl ?_
          show Zs _ _ (am_P 162).2 (97, [(0, .ref 73), (1, .int x), (2, .int (2 : Int32)), (3, .int (1 : Int32)), (4, .int (1 : Int32))], [.int (nI (hwv (1, b, l, g)))]) (HH I J R T) _
          refine Z_rI rfl (by first | exact am_nw0 _ | exact am_nw01 | rfl | assumption) ?_
          exact ⟨am_ii (show _ = (if und 1 2 then nI (hwv (1, b, l, g)) else -4) from (by rw [if_pos (by decide)])), rfl⟩
        · refine Z_jump 2 rfl ?_
          show Zs _ _ (am_P 162).2 (2, [(0, .ref 73), (1, .int x), (2, .int (3 : Int32))], [.int x, .ref 73]) (HH I J R T) _
          refine Z_c1 rfl rfl rfl (m_isRodN hD.1 h6) ?_
          show Zs _ _ (am_P 162).2 (5, [(0, .ref 73), (1, .int x), (2, .int (3 : Int32))], [.int (if M_rod D.1 x then 1 else 0)]) (HH I J R T) _
          refine Z_jump 1 rfl ?_
          refine Z_bn (fun c5 => ?_) (fun c5 => absurd c5 ((fun z => if10.mp z hr)))
          refine Z_jump 4 rfl ?_
          show Zs _ _ (am_P 162).2 (17, [(0, .ref 73), (1, .int x), (2, .int (3 : Int32))], [.long (4 : Int64), .long (0 : Int64), .long (3 : Int64)]) (HH I J R T) _
          refine Z_c1 rfl rfl rfl (m_inI (v := 3) (a := 0) (b := 4) rfl rfl) ?_
          show Zs _ _ (am_P 162).2 (20, [(0, .ref 73), (1, .int x), (2, .int (3 : Int32))], [.int (1 : Int32)]) (HH I J R T) _
          refine Z_jump 4 rfl ?_
          show Zs _ _ (am_P 162).2 (31, [(0, .ref 73), (1, .int x), (2, .int (3 : Int32))], [.int x, .ref 74]) (HH I J R T) _
          refine Z_ialK (j) rfl rfl (hx) (by omega) (by decide) ?_
          show Zs _ _ (am_P 162).2 (32, [(0, .ref 73), (1, .int x), (2, .int (3 : Int32))], [.int (I 74 j)]) (HH I J R T) _
          show Zs _ _ (am_P 162).2 (32, [(0, .ref 73), (1, .int x), (2, .int (3 : Int32))], [.int (I 74 j)]) (HH I J R T) _
          refine Z_eqI (y := (1 : Int32)) (k1) ?_
          show Zs _ _ (am_P 162).2 (32, [(0, .ref 73), (1, .int x), (2, .int (3 : Int32))], [.int (1 : Int32)]) (HH I J R T) _
          refine Z_jump 23 rfl ?_
          show Zs _ _ (am_P 162).2 (97, [(0, .ref 73), (1, .int x), (2, .int (3 : Int32)), (3, .int (1 : Int32)), (4, .int (0 : Int32))], [.int (-4 : Int32)]) (HH I J R T) _
          refine Z_rI rfl (by first | exact am_nw0 _ | exact am_nw01 | rfl | assumption) ?_
          exact ⟨am_ii (show _ = (if und 1 3 then nI (hwv (1, b, l, g)) else -4) from (by rw [if_neg (by decide)])), rfl⟩
        · refine Z_jump 2 rfl ?_
          show Zs _ _ (am_P 162).2 (2, [(0, .ref 73), (1, .int x), (2, .int (4 : Int32))], [.int x, .ref 73]) (HH I J R T) _
          refine Z_c1 rfl rfl rfl (m_isRodN hD.1 h6) ?_
          show Zs _ _ (am_P 162).2 (5, [(0, .ref 73), (1, .int x), (2, .int (4 : Int32))], [.int (if M_rod D.1 x then 1 else 0)]) (HH I J R T) _
          refine Z_jump 1 rfl ?_
          refine Z_bn (fun c5 => ?_) (fun c5 => absurd c5 ((fun z => if10.mp z hr)))
          refine Z_jump 4 rfl ?_
          show Zs _ _ (am_P 162).2 (17, [(0, .ref 73), (1, .int x), (2, .int (4 : Int32))], [.long (4 : Int64), .long (0 : Int64), .long (4 : Int64)]) (HH I J R T) _
          refine Z_c1 rfl rfl rfl (m_inI (v := 4) (a := 0) (b := 4) rfl rfl) ?_
          show Zs _ _ (am_P 162).2 (20, [(0, .ref 73), (1, .int x), (2, .int (4 : Int32))], [.int (1 : Int32)]) (HH I J R T) _
          refine Z_jump 4 rfl ?_
          show Zs _ _ (am_P 162).2 (31, [(0, .ref 73), (1, .int x), (2, .int (4 : Int32))], [.int x, .ref 74]) (HH I J R T) _
          refine Z_ialK (j) rfl rfl (hx) (by omega) (by decide) ?_
          show Zs _ _ (am_P 162).2 (32, [(0, .ref 73), (1, .int x), (2, .int (4 : Int32))], [.int (I 74 j)]) (HH I J R T) _
          show Zs _ _ (am_P 162).2 (32, [(0, .ref 73), (1, .int x), (2, .int (4 : Int32))], [.int (I 74 j)]) (HH I J R T) _
          refine Z_eqI (y := (1 : Int32)) (k1) ?_
          show Zs _ _ (am_P 162).2 (32, [(0, .ref 73), (1, .int x), (2, .int (4 : Int32))], [.int (1 : Int32)]) (HH I J R T) _
          refine Z_jump 23 rfl ?_
          show Zs _ _ (am_P 162).2 (97, [(0, .ref 73), (1, .int x), (2, .int (4 : Int32)), (3, .int (1 : Int32)), (4, .int (0 : Int32))], [.int (-4 : Int32)]) (HH I J R T) _
          refine Z_rI rfl (by first | exact am_nw0 _ | exact am_nw01 | rfl | assumption) ?_
          exact ⟨am_ii (show _ = (if und 1 4 then nI (hwv (1, b, l, g)) else -4) from (by rw [if_neg (by decide)])), rfl⟩
      · rcases k5_c hk with rfl | rfl | rfl | rfl | rfl
        · refine Z_jump 2 rfl ?_
          show Zs _ _ (am_P 162).2 (2, [(0, .ref 73), (1, .int x), (2, .int (0 : Int32))], [.int x, .ref 73]) (HH I J R T) _
          refine Z_c1 rfl rfl rfl (m_isRodN hD.1 h6) ?_
          show Zs _ _ (am_P 162).2 (5, [(0, .ref 73), (1, .int x), (2, .int (0 : Int32))], [.int (if M_rod D.1 x then 1 else 0)]) (HH I J R T) _
          refine Z_jump 1 rfl ?_
          refine Z_bn (fun c5 => ?_) (fun c5 => absurd c5 ((fun z => if10.mp z hr)))
          refine Z_jump 4 rfl ?_
          show Zs _ _ (am_P 162).2 (17, [(0, .ref 73), (1, .int x), (2, .int (0 : Int32))], [.long (4 : Int64), .long (0 : Int64), .long (0 : Int64)]) (HH I J R T) _
          refine Z_c1 rfl rfl rfl (m_inI (v := 0) (a := 0) (b := 4) rfl rfl) ?_
          show Zs _ _ (am_P 162).2 (20, [(0, .ref 73), (1, .int x), (2, .int (0 : Int32))], [.int (1 : Int32)]) (HH I J R T) _
          refine Z_jump 4 rfl ?_
          show Zs _ _ (am_P 162).2 (31, [(0, .ref 73), (1, .int x), (2, .int (0 : Int32))], [.int x, .ref 74]) (HH I J R T) _
          refine Z_ialK (j) rfl rfl (hx) (by omega) (by decide) ?_
          show Zs _ _ (am_P 162).2 (32, [(0, .ref 73), (1, .int x), (2, .int (0 : Int32))], [.int (I 74 j)]) (HH I J R T) _
          show Zs _ _ (am_P 162).2 (32, [(0, .ref 73), (1, .int x), (2, .int (0 : Int32))], [.int (I 74 j)]) (HH I J R T) _
          refine Z_eqI (y := (2 : Int32)) (k1) ?_
          show Zs _ _ (am_P 162).2 (32, [(0, .ref 73), (1, .int x), (2, .int (0 : Int32))], [.int (2 : Int32)]) (HH I J R T) _
          refine Z_jump 10 rfl ?_
          show Zs _ _ (am_P 162).2 (89, [(0, .ref 73), (1, .int x), (2, .int (0 : Int32)), (3, .int (2 : Int32)), (4, .int (1 : Int32))], [.int x, .ref 73]) (HH I J R T) _
          refine Z_c1 rfl rfl rfl (hw) ?_
          show Zs _ _ (am_P 162).2 (92, [(0, .ref 73), (1, .int x), (2, .int (0 : Int32)), (3, .int (2 : Int32)), (4, .int (1 : Int32))], [.int (nI (hwv (2, b, l, g)))]) (HH I J R T) _
          refine Z_jump 1 rfl ?_
          show Zs _ _ (am_P 162).2 (97, [(0, .ref 73), (1, .int x), (2, .int (0 : Int32)), (3, .int (2 : Int32)), (4, .int (1 : Int32))], [.int (nI (hwv (2, b, l, g)))]) (HH I J R T) _
          refine Z_rI rfl (by first | exact am_nw0 _ | exact am_nw01 | rfl | assumption) ?_
          exact ⟨am_ii (show _ = (if und 2 0 then nI (hwv (2, b, l, g)) else -4) from (by rw [if_pos (by decide)])), rfl⟩
        · refine Z_jump 2 rfl ?_
          show Zs _ _ (am_P 162).2 (2, [(0, .ref 73), (1, .int x), (2, .int (1 : Int32))], [.int x, .ref 73]) (HH I J R T) _
          refine Z_c1 rfl rfl rfl (m_isRodN hD.1 h6) ?_
          show Zs _ _ (am_P 162).2 (5, [(0, .ref 73), (1, .int x), (2, .int (1 : Int32))], [.int (if M_rod D.1 x then 1 else 0)]) (HH I J R T) _
          refine Z_jump 1 rfl ?_
          refine Z_bn (fun c5 => ?_) (fun c5 => absurd c5 ((fun z => if10.mp z hr)))
          refine Z_jump 4 rfl ?_
          show Zs _ _ (am_P 162).2 (17, [(0, .ref 73), (1, .int x), (2, .int (1 : Int32))], [.long (4 : Int64), .long (0 : Int64), .long (1 : Int64)]) (HH I J R T) _
          refine Z_c1 rfl rfl rfl (m_inI (v := 1) (a := 0) (b := 4) rfl rfl) ?_
          show Zs _ _ (am_P 162).2 (20, [(0, .ref 73), (1, .int x), (2, .int (1 : Int32))], [.int (1 : Int32)]) (HH I J R T) _
          refine Z_jump 4 rfl ?_
          show Zs _ _ (am_P 162).2 (31, [(0, .ref 73), (1, .int x), (2, .int (1 : Int32))], [.int x, .ref 74]) (HH I J R T) _
          refine Z_ialK (j) rfl rfl (hx) (by omega) (by decide) ?_
          show Zs _ _ (am_P 162).2 (32, [(0, .ref 73), (1, .int x), (2, .int (1 : Int32))], [.int (I 74 j)]) (HH I J R T) _
          show Zs _ _ (am_P 162).2 (32, [(0, .ref 73), (1, .int x), (2, .int (1 : Int32))], [.int (I 74 j)]) (HH I J R T) _
          refine Z_eqI (y := (2 : Int32)) (k1) ?_
          show Zs _ _ (am_P 162).2 (32, [(0, .ref 73), (1, .int x), (2, .int (1 : Int32))], [.int (2 : Int32)]) (HH I J R T) _
          refine Z_jump 22 rfl ?_
          show Zs _ _ (am_P 162).2 (97, [(0, .ref 73), (1, .int x), (2, .int (1 : Int32)), (3, .int (2 : Int32)), (4, .int (0 : Int32))], [.int (-4 : Int32)]) (HH I J R T) _
          refine Z_rI rfl (by first | exact am_nw0 _ | exact am_nw01 | rfl | assumption) ?_
          exact ⟨am_ii (show _ = (if und 2 1 then nI (hwv (2, b, l, g)) else -4) from (by rw [if_neg (by decide)])), rfl⟩
        · refine Z_jump 2 rfl ?_
          show Zs _ _ (am_P 162).2 (2, [(0, .ref 73), (1, .int x), (2, .int (2 : Int32))], [.int x, .ref 73]) (HH I J R T) _
          refine Z_c1 rfl rfl rfl (m_isRodN hD.1 h6) ?_
          show Zs _ _ (am_P 162).2 (5, [(0, .ref 73), (1, .int x), (2, .int (2 : Int32))], [.int (if M_rod D.1 x then 1 else 0)]) (HH I J R T) _
          refine Z_jump 1 rfl ?_
          refine Z_bn (fun c5 => ?_) (fun c5 => absurd c5 ((fun z => if10.mp z hr)))
          refine Z_jump 4 rfl ?_
          show Zs _ _ (am_P 162).2 (17, [(0, .ref 73), (1, .int x), (2, .int (2 : Int32))], [.long (4 : Int64), .long (0 : Int64), .long (2 : Int64)]) (HH I J R T) _
          refine Z_c1 rfl rfl rfl (m_inI (v := 2) (a := 0) (b := 4) rfl rfl) ?_
          show Zs _ _ (am_P 162).2 (20, [(0, .ref 73), (1, .int x), (2, .int (2 : Int32))], [.int (1 : Int32)]) (HH I J R T) _
          refine Z_jump 4 rfl ?_
          show Zs _ _ (am_P 162).2 (31, [(0, .ref 73), (1, .int x), (2, .int (2 : Int32))], [.int x, .ref 74]) (HH I J R T) _
          refine Z_ialK (j) rfl rfl (hx) (by omega) (by decide) ?_
          show Zs _ _ (am_P 162).2 (32, [(0, .ref 73), (1, .int x), (2, .int (2 : Int32))], [.int (I 74 j)]) (HH I J R T) _
          show Zs _ _ (am_P 162).2 (32, [(0, .ref 73), (1, .int x), (2, .int (2 : Int32))], [.int (I 74 j)]) (HH I J R T) _
          refine Z_eqI (y := (2 : Int32)) (k1) ?_
          show Zs _ _ (am_P 162).2 (32, [(0, .ref 73), (1, .int x), (2, .int (2 : Int32))], [.int (2 : Int32)]) (HH I J R T) _
          refine Z_jump 18 rfl ?_
          show Zs _ _ (am_P 162).2 (89, [(0, .ref 73), (1, .int x), (2, .int (2 : Int32)), (3, .int (2 : Int32)), (4, .int (1 : Int32))], [.int x, .ref 73]) (HH I J R T) _
          refine Z_c1 rfl rfl rfl (hw) ?_
          show Zs _ _ (am_P 162).2 (92, [(0, .ref 73), (1, .int x), (2, .int (2 : Int32)), (3, .int (2 : Int32)), (4, .int (1 : Int32))], [.int (nI (hwv (2, b, l, g)))]) (HH I J R T) _
          refine Z_jump 1 rfl ?_
          show Zs _ _ (am_P 162).2 (97, [(0, .ref 73), (1, .int x), (2, .int (2 : Int32)), (3, .int (2 : Int32)), (4, .int (1 : Int32))], [.int (nI (hwv (2, b, l, g)))]) (HH I J R T) _
          refine Z_rI rfl (by first | exact am_nw0 _ | exact am_nw01 | rfl | assumption) ?_
          exact ⟨am_ii (show _ = (if und 2 2 then nI (hwv (2, b, l, g)) else -4) from (by rw [if_pos (by decide)])), rfl⟩
        · refine Z_jump 2 rfl ?_
          show Zs _ _ (am_P 162).2 (2, [(0, .ref 73), (1, .int x), (2, .int (3 : Int32))], [.int x, .ref 73]) (HH I J R T) _
          refine Z_c1 rfl rfl rfl (m_isRodN hD.1 h6) ?_
          show Zs _ _ (am_P 162).2 (5, [(0, .ref 73), (1, .int x), (2, .int (3 : Int32))], [.int (if M_rod D.1 x then 1 else 0)]) (HH I J R T) _
          refine Z_jump 1 rfl ?_
          refine Z_bn (fun c5 => ?_) (fun c5 => absurd c5 ((fun z => if10.mp z hr)))
          refine Z_jump 4 rfl ?_
          show Zs _ _ (am_P 162).2 (17, [(0, .ref 73), (1, .int x), (2, .int (3 : Int32))], [.long (4 : Int64), .long (0 : Int64), .long (3 : Int64)]) (HH I J R T) _
          refine Z_c1 rfl rfl rfl (m_inI (v := 3) (a := 0) (b := 4) rfl rfl) ?_
          show Zs _ _ (am_P 162).2 (20, [(0, .ref 73), (1, .int x), (2, .int (3 : Int32))], [.int (1 : Int32)]) (HH I J R T) _
          refine Z_jump 4 rfl ?_
          show Zs _ _ (am_P 162).2 (31, [(0, .ref 73), (1, .int x), (2, .int (3 : Int32))], [.int x, .ref 74]) (HH I J R T) _
          refine Z_ialK (j) rfl rfl (hx) (by omega) (by decide) ?_
          show Zs _ _ (am_P 162).2 (32, [(0, .ref 73), (1, .int x), (2, .int (3 : Int32))], [.int (I 74 j)]) (HH I J R T) _
          show Zs _ _ (am_P 162).2 (32, [(0, .ref 73), (1, .int x), (2, .int (3 : Int32))], [.int (I 74 j)]) (HH I J R T) _
          refine Z_eqI (y := (2 : Int32)) (k1) ?_
          show Zs _ _ (am_P 162).2 (32, [(0, .ref 73), (1, .int x), (2, .int (3 : Int32))], [.int (2 : Int32)]) (HH I J R T) _
          refine Z_jump 22 rfl ?_
          show Zs _ _ (am_P 162).2 (89, [(0, .ref 73), (1, .int x), (2, .int (3 : Int32)), (3, .int (2 : Int32)), (4, .int (1 : Int32))], [.int x, .ref 73]) (HH I J R T) _
          refine Z_c1 rfl rfl rfl (hw) ?_
          show Zs _ _ (am_P 162).2 (92, [(0, .ref 73), (1, .int x), (2, .int (3 : Int32)), (3, .int (2 : Int32)), (4, .int (1 : Int32))], [.int (nI (hwv (2, b, l, g)))]) (HH I J R T) _
          refine Z_jump 1 rfl ?_
          show Zs _ _ (am_P 162).2 (97, [(0, .ref 73), (1, .int x), (2, .int (3 : Int32)), (3, .int (2 : Int32)), (4, .int (1 : Int32))], [.int (nI (hwv (2, b, l, g)))]) (HH I J R T) _
          refine Z_rI rfl (by first | exact am_nw0 _ | exact am_nw01 | rfl | assumption) ?_
          exact ⟨am_ii (show _ = (if und 2 3 then nI (hwv (2, b, l, g)) else -4) from (by rw [if_pos (by decide)])), rfl⟩
        · refine Z_jump 2 rfl ?_
          show Zs _ _ (am_P 162).2 (2, [(0, .ref 73), (1, .int x), (2, .int (4 : Int32))], [.int x, .ref 73]) (HH I J R T) _
          refine Z_c1 rfl rfl rfl (m_isRodN hD.1 h6) ?_
          show Zs _ _ (am_P 162).2 (5, [(0, .ref 73), (1, .int x), (2, .int (4 : Int32))], [.int (if M_rod D.1 x then 1 else 0)]) (HH I J R T) _
          refine Z_jump 1 rfl ?_
          refine Z_bn (fun c5 => ?_) (fun c5 => absurd c5 ((fun z => if10.mp z hr)))
          refine Z_jump 4 rfl ?_
          show Zs _ _ (am_P 162).2 (17, [(0, .ref 73), (1, .int x), (2, .int (4 : Int32))], [.long (4 : Int64), .long (0 : Int64), .long (4 : Int64)]) (HH I J R T) _
          refine Z_c1 rfl rfl rfl (m_inI (v := 4) (a := 0) (b := 4) rfl rfl) ?_
          show Zs _ _ (am_P 162).2 (20, [(0, .ref 73), (1, .int x), (2, .int (4 : Int32))], [.int (1 : Int32)]) (HH I J R T) _
          refine Z_jump 4 rfl ?_
          show Zs _ _ (am_P 162).2 (31, [(0, .ref 73), (1, .int x), (2, .int (4 : Int32))], [.int x, .ref 74]) (HH I J R T) _
          refine Z_ialK (j) rfl rfl (hx) (by omega) (by decide) ?_
          show Zs _ _ (am_P 162).2 (32, [(0, .ref 73), (1, .int x), (2, .int (4 : Int32))], [.int (I 74 j)]) (HH I J R T) _
          show Zs _ _ (am_P 162).2 (32, [(0, .ref 73), (1, .int x), (2, .int (4 : Int32))], [.int (I 74 j)]) (HH I J R T) _
          refine Z_eqI (y := (2 : Int32)) (k1) ?_
          show Zs _ _ (am_P 162).2 (32, [(0, .ref 73), (1, .int x), (2, .int (4 : Int32))], [.int (2 : Int32)]) (HH I J R T) _
          refine Z_jump 23 rfl ?_
          show Zs _ _ (am_P 162).2 (97, [(0, .ref 73), (1, .int x), (2, .int (4 : Int32)), (3, .int (2 : Int32)), (4, .int (0 : Int32))], [.int (-4 : Int32)]) (HH I J R T) _
          refine Z_rI rfl (by first | exact am_nw0 _ | exact am_nw01 | rfl | assumption) ?_
          exact ⟨am_ii (show _ = (if und 2 4 then nI (hwv (2, b, l, g)) else -4) from (by rw [if_neg (by decide)])), rfl⟩
      · rcases k5_c hk with rfl | rfl | rfl | rfl | rfl
        · refine Z_jump 2 rfl ?_
          show Zs _ _ (am_P 162).2 (2, [(0, .ref 73), (1, .int x), (2, .int (0 : Int32))], [.int x, .ref 73]) (HH I J R T) _
          refine Z_c1 rfl rfl rfl (m_isRodN hD.1 h6) ?_
          show Zs _ _ (am_P 162).2 (5, [(0, .ref 73), (1, .int x), (2, .int (0 : Int32))], [.int (if M_rod D.1 x then 1 else 0)]) (HH I J R T) _
          refine Z_jump 1 rfl ?_
          refine Z_bn (fun c5 => ?_) (fun c5 => absurd c5 ((fun z => if10.mp z hr)))
          refine Z_jump 4 rfl ?_
          show Zs _ _ (am_P 162).2 (17, [(0, .ref 73), (1, .int x), (2, .int (0 : Int32))], [.long (4 : Int64), .long (0 : Int64), .long (0 : Int64)]) (HH I J R T) _
          refine Z_c1 rfl rfl rfl (m_inI (v := 0) (a := 0) (b := 4) rfl rfl) ?_
          show Zs _ _ (am_P 162).2 (20, [(0, .ref 73), (1, .int x), (2, .int (0 : Int32))], [.int (1 : Int32)]) (HH I J R T) _
          refine Z_jump 4 rfl ?_
          show Zs _ _ (am_P 162).2 (31, [(0, .ref 73), (1, .int x), (2, .int (0 : Int32))], [.int x, .ref 74]) (HH I J R T) _
          refine Z_ialK (j) rfl rfl (hx) (by omega) (by decide) ?_
          show Zs _ _ (am_P 162).2 (32, [(0, .ref 73), (1, .int x), (2, .int (0 : Int32))], [.int (I 74 j)]) (HH I J R T) _
          show Zs _ _ (am_P 162).2 (32, [(0, .ref 73), (1, .int x), (2, .int (0 : Int32))], [.int (I 74 j)]) (HH I J R T) _
          refine Z_eqI (y := (3 : Int32)) (k1) ?_
          show Zs _ _ (am_P 162).2 (32, [(0, .ref 73), (1, .int x), (2, .int (0 : Int32))], [.int (3 : Int32)]) (HH I J R T) _
          refine Z_jump 10 rfl ?_
          show Zs _ _ (am_P 162).2 (89, [(0, .ref 73), (1, .int x), (2, .int (0 : Int32)), (3, .int (3 : Int32)), (4, .int (1 : Int32))], [.int x, .ref 73]) (HH I J R T) _
          refine Z_c1 rfl rfl rfl (hw) ?_
          show Zs _ _ (am_P 162).2 (92, [(0, .ref 73), (1, .int x), (2, .int (0 : Int32)), (3, .int (3 : Int32)), (4, .int (1 : Int32))], [.int (nI (hwv (3, b, l, g)))]) (HH I J R T) _
          refine Z_jump 1 rfl ?_
          show Zs _ _ (am_P 162).2 (97, [(0, .ref 73), (1, .int x), (2, .int (0 : Int32)), (3, .int (3 : Int32)), (4, .int (1 : Int32))], [.int (nI (hwv (3, b, l, g)))]) (HH I J R T) _
          refine Z_rI rfl (by first | exact am_nw0 _ | exact am_nw01 | rfl | assumption) ?_
          exact ⟨am_ii (show _ = (if und 3 0 then nI (hwv (3, b, l, g)) else -4) from (by rw [if_pos (by decide)])), rfl⟩
        · refine Z_jump 2 rfl ?_
          show Zs _ _ (am_P 162).2 (2, [(0, .ref 73), (1, .int x), (2, .int (1 : Int32))], [.int x, .ref 73]) (HH I J R T) _
          refine Z_c1 rfl rfl rfl (m_isRodN hD.1 h6) ?_
          show Zs _ _ (am_P 162).2 (5, [(0, .ref 73), (1, .int x), (2, .int (1 : Int32))], [.int (if M_rod D.1 x then 1 else 0)]) (HH I J R T) _
          refine Z_jump 1 rfl ?_
          refine Z_bn (fun c5 => ?_) (fun c5 => absurd c5 ((fun z => if10.mp z hr)))
          refine Z_jump 4 rfl ?_
          show Zs _ _ (am_P 162).2 (17, [(0, .ref 73), (1, .int x), (2, .int (1 : Int32))], [.long (4 : Int64), .long (0 : Int64), .long (1 : Int64)]) (HH I J R T) _
          refine Z_c1 rfl rfl rfl (m_inI (v := 1) (a := 0) (b := 4) rfl rfl) ?_
          show Zs _ _ (am_P 162).2 (20, [(0, .ref 73), (1, .int x), (2, .int (1 : Int32))], [.int (1 : Int32)]) (HH I J R T) _
          refine Z_jump 4 rfl ?_
          show Zs _ _ (am_P 162).2 (31, [(0, .ref 73), (1, .int x), (2, .int (1 : Int32))], [.int x, .ref 74]) (HH I J R T) _
          refine Z_ialK (j) rfl rfl (hx) (by omega) (by decide) ?_
          show Zs _ _ (am_P 162).2 (32, [(0, .ref 73), (1, .int x), (2, .int (1 : Int32))], [.int (I 74 j)]) (HH I J R T) _
          show Zs _ _ (am_P 162).2 (32, [(0, .ref 73), (1, .int x), (2, .int (1 : Int32))], [.int (I 74 j)]) (HH I J R T) _
          refine Z_eqI (y := (3 : Int32)) (k1) ?_
          show Zs _ _ (am_P 162).2 (32, [(0, .ref 73), (1, .int x), (2, .int (1 : Int32))], [.int (3 : Int32)]) (HH I J R T) _
          refine Z_jump 22 rfl ?_
          show Zs _ _ (am_P 162).2 (97, [(0, .ref 73), (1, .int x), (2, .int (1 : Int32)), (3, .int (3 : Int32)), (4, .int (0 : Int32))], [.int (-4 : Int32)]) (HH I J R T) _
          refine Z_rI rfl (by first | exact am_nw0 _ | exact am_nw01 | rfl | assumption) ?_
          exact ⟨am_ii (show _ = (if und 3 1 then nI (hwv (3, b, l, g)) else -4) from (by rw [if_neg (by decide)])), rfl⟩
        · refine Z_jump 2 rfl ?_
          show Zs _ _ (am_P 162).2 (2, [(0, .ref 73), (1, .int x), (2, .int (2 : Int32))], [.int x, .ref 73]) (HH I J R T) _
          refine Z_c1 rfl rfl rfl (m_isRodN hD.1 h6) ?_
          show Zs _ _ (am_P 162).2 (5, [(0, .ref 73), (1, .int x), (2, .int (2 : Int32))], [.int (if M_rod D.1 x then 1 else 0)]) (HH I J R T) _
          refine Z_jump 1 rfl ?_
          refine Z_bn (fun c5 => ?_) (fun c5 => absurd c5 ((fun z => if10.mp z hr)))
          refine Z_jump 4 rfl ?_
          show Zs _ _ (am_P 162).2 (17, [(0, .ref 73), (1, .int x), (2, .int (2 : Int32))], [.long (4 : Int64), .long (0 : Int64), .long (2 : Int64)]) (HH I J R T) _
          refine Z_c1 rfl rfl rfl (m_inI (v := 2) (a := 0) (b := 4) rfl rfl) ?_
          show Zs _ _ (am_P 162).2 (20, [(0, .ref 73), (1, .int x), (2, .int (2 : Int32))], [.int (1 : Int32)]) (HH I J R T) _
          refine Z_jump 4 rfl ?_
          show Zs _ _ (am_P 162).2 (31, [(0, .ref 73), (1, .int x), (2, .int (2 : Int32))], [.int x, .ref 74]) (HH I J R T) _
          refine Z_ialK (j) rfl rfl (hx) (by omega) (by decide) ?_
          show Zs _ _ (am_P 162).2 (32, [(0, .ref 73), (1, .int x), (2, .int (2 : Int32))], [.int (I 74 j)]) (HH I J R T) _
          show Zs _ _ (am_P 162).2 (32, [(0, .ref 73), (1, .int x), (2, .int (2 : Int32))], [.int (I 74 j)]) (HH I J R T) _
          refine Z_eqI (y := (3 : Int32)) (k1) ?_
          show Zs _ _ (am_P 162).2 (32, [(0, .ref 73), (1, .int x), (2, .int (2 : Int32))], [.int (3 : Int32)]) (HH I J R T) _
          refine Z_jump 18 rfl ?_
          show Zs _ _ (am_P 162).2 (89, [(0, .ref 73), (1, .int x), (2, .int (2 : Int32)), (3, .int (3 : Int32)), (4, .int (1 : Int32))], [.int x, .ref 73]) (HH I J R T) _
          refine Z_c1 rfl rfl rfl (hw) ?_
          show Zs _ _ (am_P 162).2 (92, [(0, .ref 73), (1, .int x), (2, .int (2 : Int32)), (3, .int (3 : Int32)), (4, .int (1 : Int32))], [.int (nI (hwv (3, b, l, g)))]) (HH I J R T) _
          refine Z_jump 1 rfl ?_
          show Zs _ _ (am_P 162).2 (97, [(0, .ref 73), (1, .int x), (2, .int (2 : Int32)), (3, .int (3 : Int32)), (4, .int (1 : Int32))], [.int (nI (hwv (3, b, l, g)))]) (HH I J R T) _
          refine Z_rI rfl (by first | exact am_nw0 _ | exact am_nw01 | rfl | assumption) ?_
          exact ⟨am_ii (show _ = (if und 3 2 then nI (hwv (3, b, l, g)) else -4) from (by rw [if_pos (by decide)])), rfl⟩
        · refine Z_jump 2 rfl ?_
          show Zs _ _ (am_P 162).2 (2, [(0, .ref 73), (1, .int x), (2, .int (3 : Int32))], [.int x, .ref 73]) (HH I J R T) _
          refine Z_c1 rfl rfl rfl (m_isRodN hD.1 h6) ?_
          show Zs _ _ (am_P 162).2 (5, [(0, .ref 73), (1, .int x), (2, .int (3 : Int32))], [.int (if M_rod D.1 x then 1 else 0)]) (HH I J R T) _
          refine Z_jump 1 rfl ?_
          refine Z_bn (fun c5 => ?_) (fun c5 => absurd c5 ((fun z => if10.mp z hr)))
          refine Z_jump 4 rfl ?_
          show Zs _ _ (am_P 162).2 (17, [(0, .ref 73), (1, .int x), (2, .int (3 : Int32))], [.long (4 : Int64), .long (0 : Int64), .long (3 : Int64)]) (HH I J R T) _
          refine Z_c1 rfl rfl rfl (m_inI (v := 3) (a := 0) (b := 4) rfl rfl) ?_
          show Zs _ _ (am_P 162).2 (20, [(0, .ref 73), (1, .int x), (2, .int (3 : Int32))], [.int (1 : Int32)]) (HH I J R T) _
          refine Z_jump 4 rfl ?_
          show Zs _ _ (am_P 162).2 (31, [(0, .ref 73), (1, .int x), (2, .int (3 : Int32))], [.int x, .ref 74]) (HH I J R T) _
          refine Z_ialK (j) rfl rfl (hx) (by omega) (by decide) ?_
          show Zs _ _ (am_P 162).2 (32, [(0, .ref 73), (1, .int x), (2, .int (3 : Int32))], [.int (I 74 j)]) (HH I J R T) _
          show Zs _ _ (am_P 162).2 (32, [(0, .ref 73), (1, .int x), (2, .int (3 : Int32))], [.int (I 74 j)]) (HH I J R T) _
          refine Z_eqI (y := (3 : Int32)) (k1) ?_
          show Zs _ _ (am_P 162).2 (32, [(0, .ref 73), (1, .int x), (2, .int (3 : Int32))], [.int (3 : Int32)]) (HH I J R T) _
          refine Z_jump 23 rfl ?_
          show Zs _ _ (am_P 162).2 (97, [(0, .ref 73), (1, .int x), (2, .int (3 : Int32)), (3, .int (3 : Int32)), (4, .int (0 : Int32))], [.int (-4 : Int32)]) (HH I J R T) _
          refine Z_rI rfl (by first | exact am_nw0 _ | exact am_nw01 | rfl | assumption) ?_
          exact ⟨am_ii (show _ = (if und 3 3 then nI (hwv (3, b, l, g)) else -4) from (by rw [if_neg (by decide)])), rfl⟩
        · refine Z_jump 2 rfl ?_
          show Zs _ _ (am_P 162).2 (2, [(0, .ref 73), (1, .int x), (2, .int (4 : Int32))], [.int x, .ref 73]) (HH I J R T) _
          refine Z_c1 rfl rfl rfl (m_isRodN hD.1 h6) ?_
          show Zs _ _ (am_P 162).2 (5, [(0, .ref 73), (1, .int x), (2, .int (4 : Int32))], [.int (if M_rod D.1 x then 1 else 0)]) (HH I J R T) _
          refine Z_jump 1 rfl ?_
          refine Z_bn (fun c5 => ?_) (fun c5 => absurd c5 ((fun z => if10.mp z hr)))
          refine Z_jump 4 rfl ?_
          show Zs _ _ (am_P 162).2 (17, [(0, .ref 73), (1, .int x), (2, .int (4 : Int32))], [.long (4 : Int64), .long (0 : Int64), .long (4 : Int64)]) (HH I J R T) _
          refine Z_c1 rfl rfl rfl (m_inI (v := 4) (a := 0) (b := 4) rfl rfl) ?_
          show Zs _ _ (am_P 162).2 (20, [(0, .ref 73), (1, .int x), (2, .int (4 : Int32))], [.int (1 : Int32)]) (HH I J R T) _
          refine Z_jump 4 rfl ?_
          show Zs _ _ (am_P 162).2 (31, [(0, .ref 73), (1, .int x), (2, .int (4 : Int32))], [.int x, .ref 74]) (HH I J R T) _
          refine Z_ialK (j) rfl rfl (hx) (by omega) (by decide) ?_
          show Zs _ _ (am_P 162).2 (32, [(0, .ref 73), (1, .int x), (2, .int (4 : Int32))], [.int (I 74 j)]) (HH I J R T) _
          show Zs _ _ (am_P 162).2 (32, [(0, .ref 73), (1, .int x), (2, .int (4 : Int32))], [.int (I 74 j)]) (HH I J R T) _
          refine Z_eqI (y := (3 : Int32)) (k1) ?_
          show Zs _ _ (am_P 162).2 (32, [(0, .ref 73), (1, .int x), (2, .int (4 : Int32))], [.int (3 : Int32)]) (HH I J R T) _
          refine Z_jump 25 rfl ?_
          show Zs _ _ (am_P 162).2 (89, [(0, .ref 73), (1, .int x), (2, .int (4 : Int32)), (3, .int (3 : Int32)), (4, .int (1 : Int32))], [.int x, .ref 73]) (HH I J R T) _
          refine Z_c1 rfl rfl rfl (hw) ?_
          show Zs _ _ (am_P 162).2 (92, [(0, .ref 73), (1, .int x), (2, .int (4 : Int32)), (3, .int (3 : Int32)), (4, .int (1 : Int32))], [.int (nI (hwv (3, b, l, g)))]) (HH I J R T) _
          refine Z_jump 1 rfl ?_
          show Zs _ _ (am_P 162).2 (97, [(0, .ref 73), (1, .int x), (2, .int (4 : Int32)), (3, .int (3 : Int32)), (4, .int (1 : Int32))], [.int (nI (hwv (3, b, l, g)))]) (HH I J R T) _
          refine Z_rI rfl (by first | exact am_nw0 _ | exact am_nw01 | rfl | assumption) ?_
          exact ⟨am_ii (show _ = (if und 3 4 then nI (hwv (3, b, l, g)) else -4) from (by rw [if_pos (by decide)])), rfl⟩
    · rw [if_pos hk]
      refine Z_jump 2 rfl ?_
      show Zs _ _ (am_P 162).2 (2, [(0, .ref 73), (1, .int x), (2, .int k)], [.int x, .ref 73]) (HH I J R T) _
      refine Z_c1 rfl rfl rfl (m_isRodN hD.1 h6) ?_
      show Zs _ _ (am_P 162).2 (5, [(0, .ref 73), (1, .int x), (2, .int k)], [.int (if M_rod D.1 x then 1 else 0)]) (HH I J R T) _
      refine Z_jump 1 rfl ?_
      refine Z_bn (fun c5 => ?_) (fun c5 => absurd c5 ((fun z => if10.mp z hr)))
      refine Z_jump 4 rfl ?_
      show Zs _ _ (am_P 162).2 (17, [(0, .ref 73), (1, .int x), (2, .int k)], [.long (4 : Int64), .long (0 : Int64), .long (Int32.toInt64 k)]) (HH I J R T) _
      refine Z_c1 rfl rfl rfl (m_inI (a := 0) (b := 4) rfl rfl) ?_
      show Zs _ _ (am_P 162).2 (20, [(0, .ref 73), (1, .int x), (2, .int k)], [.int (if 0 ≤ k.toInt ∧ k.toInt ≤ 4 then 1 else 0)]) (HH I J R T) _
      refine Z_jump 1 rfl ?_
      refine Z_bn (fun c20 => absurd (if10.mpr hk) c20) (fun c20 => ?_)
      refine Z_jump 1 rfl ?_
      show Zs _ _ (am_P 162).2 (25, [(0, .ref 73), (1, .int x), (2, .int k)], [.int (-3 : Int32)]) (HH I J R T) _
      refine Z_rI rfl (by first | exact am_nw0 _ | exact am_nw01 | rfl | assumption) ?_
      exact ⟨rfl, rfl⟩
  · rw [if_pos hr]
    refine Z_jump 2 rfl ?_
    show Zs _ _ (am_P 162).2 (2, [(0, .ref 73), (1, .int x), (2, .int k)], [.int x, .ref 73]) (HH I J R T) _
    refine Z_c1 rfl rfl rfl (m_isRodN hD.1 h6) ?_
    show Zs _ _ (am_P 162).2 (5, [(0, .ref 73), (1, .int x), (2, .int k)], [.int (if M_rod D.1 x then 1 else 0)]) (HH I J R T) _
    refine Z_jump 1 rfl ?_
    refine Z_bn (fun c5 => absurd (if10.mpr hr) c5) (fun c5 => ?_)
    refine Z_jump 1 rfl ?_
    show Zs _ _ (am_P 162).2 (10, [(0, .ref 73), (1, .int x), (2, .int k)], [.int (-2 : Int32)]) (HH I J R T) _
    refine Z_rI rfl (by first | exact am_nw0 _ | exact am_nw01 | rfl | assumption) ?_
    exact ⟨rfl, rfl⟩
end MR1

