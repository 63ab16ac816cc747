/-! The reference without rods: what is asked of numbers. -/
theorem nI_subI {a b : Nat} (h : b ≤ a) : nI a - nI b = nI (a - b) := by
  have e : nI a = nI (a - b) + nI b := by rw [nI_add, Nat.sub_add_cancel h]
  rw [e, Int32.sub_eq_add_neg, Int32.add_assoc, Int32.add_right_neg, Int32.add_zero]
theorem nI64_0 {a : Nat} (h : a < 2 ^ 31) : (nI a).toInt64 = 0 ↔ a = 0 := by
  rw [fi_eqL, i64, nI_toInt h]
  have z : (0 : Int64).toInt = 0 := rfl
  rw [z]; omega
section M0b
variable {sc : Nat × (Nat → Int32)} {d : Nat} {I : hI} {J : hJ} {R : hR} {T : am_H} {Q : Option Value → am_H → Prop}
theorem m_layDue0 {o : Nat} {s : Int32} (hn : I 73 0 = 0) : am_E sc (d + 1) 168 [.ref 73, .ref o, .int s] (HH I J R T) none (HH I J R T) := by
  refine E_Z (Ze_of (Nat.le_of_ble_eq_true rfl) ?_)
  refine Z_jump 8 rfl ?_
  refine Z_bd (fun c11 => ?_) (fun c11 => absurd ((show I 73 0 ≤ (0 : Int32) by rw [hn]; decide)) c11)
  show Zs _ _ (am_P 168).2 (251, [(0, .ref 73), (1, .ref o), (2, .int s), (3, .int (0 : Int32)), (4, .int (0 : Int32))], []) (HH I J R T) _
  refine Z_ret rfl rfl rfl ?_
  exact ⟨rfl, rfl⟩
theorem if10n {c : Prop} [Decidable c] (h : ¬ ((if c then (1 : Int32) else 0) = 0)) : c := Classical.not_not.mp (fun z => h (if10.mpr z))
theorem m_sets0 {o : Nat} {to : Int64} (ho : o = 78 ∨ o = 79) (hn : I 73 0 = 0) : Ze sc (d + 4) 170 [.ref 73, .ref o, .long to] (HH I J R T) (M0p (.int (if to = 0 then 0 else -1)) R T) := by
  refine Ze_of (Nat.le_of_ble_eq_true (by rcases ho with rfl | rfl <;> rfl)) ?_
  rcases ho with rfl | rfl
  · refine Z_jump 6 rfl ?_
    show Zs _ _ (am_P 170).2 (7, [(0, .ref 73), (1, .ref 78), (2, .long to)], [.long to, .int (I 78 12), .ref 78, .ref 73]) (HH I J R T) _
    refine Z_cQ rfl rfl rfl (m_isShown0 (I := I) (J := J) hn) (fun v h1 hq => ?_)
    obtain ⟨rfl, I', J', rfl, hI, h0⟩ := hq
    have hn2 : I' 73 0 = 0 := (congrFun (hI 73 (by decide)) 0).trans hn
    show Zs _ _ (am_P 170).2 (10, [(0, .ref 73), (1, .ref 78), (2, .long to)], [.int (if to = 0 then 1 else 0)]) (HH I' J' R T) _
    refine Z_jump 1 rfl ?_
    refine Z_bn (fun (c10 : ¬ ((if to = 0 then 1 else 0) = (0 : Int32))) => ?_) (fun (c10 : (if to = 0 then 1 else 0) = (0 : Int32)) => ?_)
    · refine Z_jump 10 rfl ?_
      show Zs _ _ (am_P 170).2 (29, [(0, .ref 73), (1, .ref 78), (2, .long to), (4, .int (I' 82 0))], [.int (I' 78 12), .ref 78, .ref 73]) (HH I' J' R T) _
      refine Z_c0 rfl rfl rfl (m_layDue0 hn2) ?_
      show Zs _ _ (am_P 170).2 (32, [(0, .ref 73), (1, .ref 78), (2, .long to), (4, .int (I' 82 0))], []) (HH I' J' R T) _
      refine Z_jump 6 rfl ?_
      refine Z_bd (fun c41 => ?_) (fun c41 => absurd ((show I' 73 0 ≤ (0 : Int32) by rw [hn2]; decide)) c41)
      refine Z_jump 7 rfl ?_
      show Zs _ _ (am_P 170).2 (92, [(0, .ref 73), (1, .ref 78), (2, .long to), (4, .int (I' 82 0)), (5, .int (0 : Int32))], [.int ((I' 78 13) + (I' 82 0)), .int (13 : Int32), .ref 78]) (HH I' J' R T) _
      refine Z_c1 rfl rfl rfl (m_counted) ?_
      show Zs _ _ (am_P 170).2 (95, [(0, .ref 73), (1, .ref 78), (2, .long to), (4, .int (I' 82 0)), (5, .int (0 : Int32))], [.int (if 1000000 < ((I' 78 13) + (I' 82 0)) then 1000000 else ((I' 78 13) + (I' 82 0))), .int (13 : Int32), .ref 78]) (HH I' J' R T) _
      refine Z_jump 1 rfl ?_
      show Zs _ _ (am_P 170).2 (96, [(0, .ref 73), (1, .ref 78), (2, .long to), (4, .int (I' 82 0)), (5, .int (0 : Int32))], []) (HH (sf I' 78 13 (if 1000000 < ((I' 78 13) + (I' 82 0)) then 1000000 else ((I' 78 13) + (I' 82 0)))) J' R T) _
      refine Z_jump 1 rfl ?_
      show Zs _ _ (am_P 170).2 (98, [(0, .ref 73), (1, .ref 78), (2, .long to), (4, .int (I' 82 0)), (5, .int (0 : Int32))], [.int (I' 82 0)]) (HH (sf I' 78 13 (if 1000000 < ((I' 78 13) + (I' 82 0)) then 1000000 else ((I' 78 13) + (I' 82 0)))) J' R T) _
      refine Z_rI rfl (by first | exact am_nw0 _ | exact am_nw01 | rfl | assumption) ?_
      exact ⟨am_ii (by rw [if_pos (if10n c10)]; exact (h0 (if10n c10)).1), _, J', rfl, hn2⟩
    · refine Z_jump 1 rfl ?_
      show Zs _ _ (am_P 170).2 (14, [(0, .ref 73), (1, .ref 78), (2, .long to)], [.int (-1 : Int32)]) (HH I' J' R T) _
      refine Z_rI rfl (by first | exact am_nw0 _ | exact am_nw01 | rfl | assumption) ?_
      exact ⟨am_ii (if_neg (if10.mp c10)).symm, I', J', rfl, hn2⟩
  · refine Z_jump 6 rfl ?_
    show Zs _ _ (am_P 170).2 (7, [(0, .ref 73), (1, .ref 79), (2, .long to)], [.long to, .int (I 79 12), .ref 79, .ref 73]) (HH I J R T) _
    refine Z_cQ rfl rfl rfl (m_isShown0 (I := I) (J := J) hn) (fun v h1 hq => ?_)
    obtain ⟨rfl, I', J', rfl, hI, h0⟩ := hq
    have hn2 : I' 73 0 = 0 := (congrFun (hI 73 (by decide)) 0).trans hn
    show Zs _ _ (am_P 170).2 (10, [(0, .ref 73), (1, .ref 79), (2, .long to)], [.int (if to = 0 then 1 else 0)]) (HH I' J' R T) _
    refine Z_jump 1 rfl ?_
    refine Z_bn (fun (c10 : ¬ ((if to = 0 then 1 else 0) = (0 : Int32))) => ?_) (fun (c10 : (if to = 0 then 1 else 0) = (0 : Int32)) => ?_)
    · refine Z_jump 10 rfl ?_
      show Zs _ _ (am_P 170).2 (29, [(0, .ref 73), (1, .ref 79), (2, .long to), (4, .int (I' 82 0))], [.int (I' 79 12), .ref 79, .ref 73]) (HH I' J' R T) _
      refine Z_c0 rfl rfl rfl (m_layDue0 hn2) ?_
      show Zs _ _ (am_P 170).2 (32, [(0, .ref 73), (1, .ref 79), (2, .long to), (4, .int (I' 82 0))], []) (HH I' J' R T) _
      refine Z_jump 6 rfl ?_
      refine Z_bd (fun c41 => ?_) (fun c41 => absurd ((show I' 73 0 ≤ (0 : Int32) by rw [hn2]; decide)) c41)
      refine Z_jump 7 rfl ?_
      show Zs _ _ (am_P 170).2 (92, [(0, .ref 73), (1, .ref 79), (2, .long to), (4, .int (I' 82 0)), (5, .int (0 : Int32))], [.int ((I' 79 13) + (I' 82 0)), .int (13 : Int32), .ref 79]) (HH I' J' R T) _
      refine Z_c1 rfl rfl rfl (m_counted) ?_
      show Zs _ _ (am_P 170).2 (95, [(0, .ref 73), (1, .ref 79), (2, .long to), (4, .int (I' 82 0)), (5, .int (0 : Int32))], [.int (if 1000000 < ((I' 79 13) + (I' 82 0)) then 1000000 else ((I' 79 13) + (I' 82 0))), .int (13 : Int32), .ref 79]) (HH I' J' R T) _
      refine Z_jump 1 rfl ?_
      show Zs _ _ (am_P 170).2 (96, [(0, .ref 73), (1, .ref 79), (2, .long to), (4, .int (I' 82 0)), (5, .int (0 : Int32))], []) (HH (sf I' 79 13 (if 1000000 < ((I' 79 13) + (I' 82 0)) then 1000000 else ((I' 79 13) + (I' 82 0)))) J' R T) _
      refine Z_jump 1 rfl ?_
      show Zs _ _ (am_P 170).2 (98, [(0, .ref 73), (1, .ref 79), (2, .long to), (4, .int (I' 82 0)), (5, .int (0 : Int32))], [.int (I' 82 0)]) (HH (sf I' 79 13 (if 1000000 < ((I' 79 13) + (I' 82 0)) then 1000000 else ((I' 79 13) + (I' 82 0)))) J' R T) _
      refine Z_rI rfl (by first | exact am_nw0 _ | exact am_nw01 | rfl | assumption) ?_
      exact ⟨am_ii (by rw [if_pos (if10n c10)]; exact (h0 (if10n c10)).1), _, J', rfl, hn2⟩
    · refine Z_jump 1 rfl ?_
      show Zs _ _ (am_P 170).2 (14, [(0, .ref 73), (1, .ref 79), (2, .long to)], [.int (-1 : Int32)]) (HH I' J' R T) _
      refine Z_rI rfl (by first | exact am_nw0 _ | exact am_nw01 | rfl | assumption) ?_
      exact ⟨am_ii (if_neg (if10.mp c10)).symm, I', J', rfl, hn2⟩
abbrev M_num (v : Int32) : Prop := 0 ≤ v.toInt ∧ v.toInt ≤ 1000000000
theorem i64_0 {x : Int32} : x.toInt64 = 0 ↔ x = 0 := by
  rw [fi_eqL, fi_eq, i64]
  exact Iff.rfl
theorem m_ways0 {to : Int32} (hn : I 73 0 = 0) : Ze sc (d + 4) 212 [.ref 73, .int to] (HH I J R T) (M0p (.int (if M_num to then (if to = 0 then 1 else 0) else -3)) R T) := by
  refine Ze_of (Nat.le_of_ble_eq_true rfl) ?_
  refine Z_jump 1 rfl ?_
  show Zs _ _ (am_P 212).2 (1, [(0, .ref 73), (1, .int to)], [.int to]) (HH I J R T) _
  refine Z_c1 rfl rfl rfl (m_isNumber) ?_
  show Zs _ _ (am_P 212).2 (4, [(0, .ref 73), (1, .int to)], [.int (if 0 ≤ to.toInt ∧ to.toInt ≤ 1000000000 then 1 else 0)]) (HH I J R T) _
  refine Z_jump 1 rfl ?_
  refine Z_bn (fun (c4 : ¬ ((if 0 ≤ to.toInt ∧ to.toInt ≤ 1000000000 then 1 else 0) = (0 : Int32))) => ?_) (fun (c4 : (if 0 ≤ to.toInt ∧ to.toInt ≤ 1000000000 then 1 else 0) = (0 : Int32)) => ?_)
  · refine Z_jump 9 rfl ?_
    show Zs _ _ (am_P 212).2 (24, [(0, .ref 73), (1, .int to)], [.long (Int32.toInt64 to), .int (I 78 12), .ref 78, .ref 73]) (HH I J R T) _
    refine Z_cQ rfl rfl rfl (m_isShown0 (I := I) (J := J) hn) (fun v h1 hq => ?_)
    obtain ⟨rfl, I', J', rfl, hI, h0⟩ := hq
    have hn2 : I' 73 0 = 0 := (congrFun (hI 73 (by decide)) 0).trans hn
    show Zs _ _ (am_P 212).2 (27, [(0, .ref 73), (1, .int to)], [.int (if to.toInt64 = 0 then 1 else 0)]) (HH I' J' R T) _
    refine Z_jump 1 rfl ?_
    refine Z_bd (fun (c27 : (if to.toInt64 = 0 then 1 else 0) = (0 : Int32)) => ?_) (fun (c27 : ¬ ((if to.toInt64 = 0 then 1 else 0) = (0 : Int32))) => ?_)
    · refine Z_jump 1 rfl ?_
      show Zs _ _ (am_P 212).2 (41, [(0, .ref 73), (1, .int to)], [.int (0 : Int32)]) (HH I' J' R T) _
      refine Z_rI rfl (by first | exact am_nw0 _ | exact am_nw01 | rfl | assumption) ?_
      exact ⟨am_ii (by rw [if_pos (if10n c4), if_neg (fun z => if10.mp c27 (i64_0.mpr z))]), I', J', rfl, hn2⟩
    · refine Z_jump 6 rfl ?_
      show Zs _ _ (am_P 212).2 (41, [(0, .ref 73), (1, .int to)], [.int (Int64.toInt32 (J' 81 0))]) (HH I' J' R T) _
      refine Z_rI rfl (by first | exact am_nw0 _ | exact am_nw01 | rfl | assumption) ?_
      exact ⟨am_ii (by rw [if_pos (if10n c4), if_pos (i64_0.mp (if10n c27)), (h0 (if10n c27)).2]; rfl), I', J', rfl, hn2⟩
  · refine Z_jump 1 rfl ?_
    show Zs _ _ (am_P 212).2 (9, [(0, .ref 73), (1, .int to)], [.int (-3 : Int32)]) (HH I J R T) _
    refine Z_rI rfl (by first | exact am_nw0 _ | exact am_nw01 | rfl | assumption) ?_
    exact ⟨am_ii (by rw [if_neg (if10.mp c4)]), I, J, rfl, hn⟩
theorem m_time0 {to : Int32} (hn : I 73 0 = 0) : Ze sc (d + 4) 213 [.ref 73, .int to] (HH I J R T) (M0p (.int (if M_num to then (if to = 0 then 0 else -1) else -3)) R T) := by
  refine Ze_of (Nat.le_of_ble_eq_true rfl) ?_
  refine Z_jump 1 rfl ?_
  show Zs _ _ (am_P 213).2 (1, [(0, .ref 73), (1, .int to)], [.int to]) (HH I J R T) _
  refine Z_c1 rfl rfl rfl (m_isNumber) ?_
  show Zs _ _ (am_P 213).2 (4, [(0, .ref 73), (1, .int to)], [.int (if 0 ≤ to.toInt ∧ to.toInt ≤ 1000000000 then 1 else 0)]) (HH I J R T) _
  refine Z_jump 1 rfl ?_
  refine Z_bn (fun (c4 : ¬ ((if 0 ≤ to.toInt ∧ to.toInt ≤ 1000000000 then 1 else 0) = (0 : Int32))) => ?_) (fun (c4 : (if 0 ≤ to.toInt ∧ to.toInt ≤ 1000000000 then 1 else 0) = (0 : Int32)) => ?_)
  · refine Z_jump 9 rfl ?_
    show Zs _ _ (am_P 213).2 (24, [(0, .ref 73), (1, .int to)], [.long (Int32.toInt64 to), .int (I 78 12), .ref 78, .ref 73]) (HH I J R T) _
    refine Z_cQ rfl rfl rfl (m_isShown0 (I := I) (J := J) hn) (fun v h1 hq => ?_)
    obtain ⟨rfl, I', J', rfl, hI, h0⟩ := hq
    have hn2 : I' 73 0 = 0 := (congrFun (hI 73 (by decide)) 0).trans hn
    show Zs _ _ (am_P 213).2 (27, [(0, .ref 73), (1, .int to)], [.int (if to.toInt64 = 0 then 1 else 0)]) (HH I' J' R T) _
    refine Z_jump 1 rfl ?_
    refine Z_bd (fun (c27 : (if to.toInt64 = 0 then 1 else 0) = (0 : Int32)) => ?_) (fun (c27 : ¬ ((if to.toInt64 = 0 then 1 else 0) = (0 : Int32))) => ?_)
    · refine Z_jump 1 rfl ?_
      show Zs _ _ (am_P 213).2 (40, [(0, .ref 73), (1, .int to)], [.int (-1 : Int32)]) (HH I' J' R T) _
      refine Z_rI rfl (by first | exact am_nw0 _ | exact am_nw01 | rfl | assumption) ?_
      exact ⟨am_ii (by rw [if_pos (if10n c4), if_neg (fun z => if10.mp c27 (i64_0.mpr z))]), I', J', rfl, hn2⟩
    · refine Z_jump 5 rfl ?_
      show Zs _ _ (am_P 213).2 (40, [(0, .ref 73), (1, .int to)], [.int (I' 82 0)]) (HH I' J' R T) _
      refine Z_rI rfl (by first | exact am_nw0 _ | exact am_nw01 | rfl | assumption) ?_
      exact ⟨am_ii (by rw [if_pos (if10n c4), if_pos (i64_0.mp (if10n c27))]; exact (h0 (if10n c27)).1), I', J', rfl, hn2⟩
  · refine Z_jump 1 rfl ?_
    show Zs _ _ (am_P 213).2 (9, [(0, .ref 73), (1, .int to)], [.int (-3 : Int32)]) (HH I J R T) _
    refine Z_rI rfl (by first | exact am_nw0 _ | exact am_nw01 | rfl | assumption) ?_
    exact ⟨am_ii (by rw [if_neg (if10.mp c4)]), I, J, rfl, hn⟩
/-- remember(): any state -/
def RB (u : Nat) (I0 : hI) (i : Nat) (I : hI) : Prop := (∀ a, a ≠ 93 → I a = I0 a) ∧ ∀ j, I 93 j = if 14 * u ≤ j ∧ j < 14 * u + i then I0 78 (j - 14 * u) else I0 93 j
theorem RB_s {u : Nat} {I0 I : hI} {i : Nat} (H : RB u I0 i I) : RB u I0 (i + 1) (sf I 93 (14 * u + i) (I 78 i)) := by
  obtain ⟨H1, H2⟩ := H
  refine ⟨fun a ha => by rw [sf_c ha]; exact H1 a ha, fun j => ?_⟩
  by_cases hj : j = 14 * u + i
  · subst hj
    rw [sf_s, if_pos (by omega), show 14 * u + i - 14 * u = i by omega, H1 78 (by decide)]
  · rw [sf_k hj, H2 j]
    by_cases h2 : 14 * u ≤ j ∧ j < 14 * u + i
    · rw [if_pos h2, if_pos (show 14 * u ≤ j ∧ j < 14 * u + (i + 1) by omega)]
    · rw [if_neg h2, if_neg (show ¬ (14 * u ≤ j ∧ j < 14 * u + (i + 1)) by omega)]
theorem n14 {n c : Nat} : (14 : Int32) * nI n + nI c = nI (14 * n + c) := by
  rw [← nI_add]
  congr 1
  exact (Int32.ofNat_mul 14 n).symm
theorem m_remember_l {u : Nat} {I0 : hI} (hu : I0 73 36 = nI u) (h8 : u < 8) (H : ∀ I, RB u I0 14 I → Zs sc d (am_P 200).2 (34, [(0, .ref 73), (1, .int (nI 14))], []) (HH I J R T) Q) : ∀ (k i : Nat) (I : hI) (x : Int32), i + k = 14 → x = nI i → RB u I0 i I → Zs sc d (am_P 200).2 (2, [(0, .ref 73), (1, .int x)], []) (HH I J R T) Q
  | 0, i, I, x, hi, hx, hR => by
    have e : i = 14 := by omega
    subst e
    subst hx
    refine Z_jump 3 rfl ?_
    refine Z_bd (fun c5 => ?_) (fun c5 => absurd ((show (14 : Int32) ≤ nI 14 by decide)) c5)
    show Zs _ _ (am_P 200).2 (34, [(0, .ref 73), (1, .int (nI 14))], []) (HH I J R T) _
    exact H I hR
  | k + 1, i, I, x, hi, hx, hR => by
    have hu2 : (14 : Int32) * I 73 36 + x = nI (14 * u + i) := by rw [hR.1 73 (by decide), hu, hx]; exact n14
    refine Z_jump 3 rfl ?_
    refine Z_bd (fun c5 => absurd c5 ((show ¬ (14 : Int32) ≤ x by rw [hx]; exact nI_ge (b := 14) (by omega) (by omega)))) (fun c5 => ?_)
    refine Z_jump 11 rfl ?_
    show Zs _ _ (am_P 200).2 (26, [(0, .ref 73), (1, .int x)], [.int x, .ref 78, .int (((14 : Int32) * (I 73 36)) + x), .ref 93]) (HH I J R T) _
    refine Z_ialK (i) rfl rfl (hx) (by omega) (by decide) ?_
    show Zs _ _ (am_P 200).2 (27, [(0, .ref 73), (1, .int x)], [.int (I 78 i), .int (((14 : Int32) * (I 73 36)) + x), .ref 93]) (HH I J R T) _
    show Zs _ _ (am_P 200).2 (27, [(0, .ref 73), (1, .int x)], [.int (I 78 i), .int (((14 : Int32) * (I 73 36)) + x), .ref 93]) (HH I J R T) _
    refine Z_iasK (14 * u + i) rfl rfl (hu2) (by omega) (by decide) ?_
    show Zs _ _ (am_P 200).2 (28, [(0, .ref 73), (1, .int x)], []) (HH (sf I 93 (14 * u + i) (I 78 i)) J R T) _
    refine Z_jump 2 rfl ?_
    show Zs _ _ (am_P 200).2 (2, [(0, .ref 73), (1, .int (x + 1))], []) (HH (sf I 93 (14 * u + i) (I 78 i)) J R T) _
    exact m_remember_l hu h8 H k (i + 1) _ _ (by omega) (by rw [hx]; exact nI_1 i) (RB_s hR)
theorem u8 {u : Nat} (h : u < 8) : nI u + 1 - (nI u + 1) / 8 * 8 = nI ((u + 1) % 8) := by
  rcases (show u = 0 ∨ u = 1 ∨ u = 2 ∨ u = 3 ∨ u = 4 ∨ u = 5 ∨ u = 6 ∨ u = 7 by omega) with rfl | rfl | rfl | rfl | rfl | rfl | rfl | rfl <;> decide
theorem m_remember {u m : Nat} (hu : I 73 36 = nI u) (h8 : u < 8) (hm : I 73 35 = nI m) (hm8 : m ≤ 8) : Ze sc (d + 1) 200 [.ref 73] (HH I J R T) (fun r h => r = none ∧ ∃ I', h = HH I' J R T ∧ (∀ a, a ≠ 73 → a ≠ 93 → I' a = I a) ∧ (∀ j, I' 93 j = if 14 * u ≤ j ∧ j < 14 * u + 14 then I 78 (j - 14 * u) else I 93 j) ∧ (∀ k, k ≠ 35 → k ≠ 36 → I' 73 k = I 73 k) ∧ I' 73 36 = nI ((u + 1) % 8) ∧ I' 73 35 = nI (if m < 8 then m + 1 else 8)) := by
  refine Ze_of (Nat.le_of_ble_eq_true rfl) ?_
  refine Z_jump 2 rfl ?_
  show Zs _ _ (am_P 200).2 (2, [(0, .ref 73), (1, .int (0 : Int32))], []) (HH I J R T) _
  refine m_remember_l hu h8 (fun I' hR => ?_) 14 0 _ _ (by omega) rfl ⟨fun _ _ => rfl, fun j => by rw [if_neg (by omega)]⟩
  have e36 : I' 73 36 = nI u := by rw [hR.1 73 (by decide)]; exact hu
  have e35 : I' 73 35 = nI m := by rw [hR.1 73 (by decide)]; exact hm
  refine Z_jump 8 rfl ?_
  show Zs _ _ (am_P 200).2 (47, [(0, .ref 73), (1, .int (nI 14))], []) (HH (sf I' 73 36 (((I' 73 36) + (1 : Int32)) - ((I' 73 36) + (1 : Int32)) / (8 : Int32) * (8 : Int32))) J R T) _
  refine Z_jump 7 rfl ?_
  refine Z_bd (fun (c58 : (8 : Int32) ≤ (I' 73 35)) => ?_) (fun (c58 : ¬ ((8 : Int32) ≤ (I' 73 35))) => ?_)
  · refine Z_jump 3 rfl ?_
    show Zs _ _ (am_P 200).2 (70, [(0, .ref 73), (1, .int (nI 14))], []) (HH (sf (sf I' 73 36 (((I' 73 36) + (1 : Int32)) - ((I' 73 36) + (1 : Int32)) / (8 : Int32) * (8 : Int32))) 73 35 ((I' 73 35) + (0 : Int32))) J R T) _
    show Zs _ _ (am_P 200).2 (70, [(0, .ref 73), (1, .int (nI 14))], []) (HH (sf (sf I' 73 36 (((I' 73 36) + (1 : Int32)) - ((I' 73 36) + (1 : Int32)) / (8 : Int32) * (8 : Int32))) 73 35 ((I' 73 35) + (0 : Int32))) J R T) _
    refine Z_ret rfl rfl rfl ?_
    have hm2 : m = 8 := by rw [e35] at c58; have := (nI_leI (a := 8) (by omega) (by omega)).mp c58; omega
    refine ⟨rfl, _, rfl, fun a h1 h2 => ?_, fun j => ?_, fun k h1 h2 => ?_, ?_, ?_⟩
    · rw [sf_c h1, sf_c h1]; exact hR.1 a h2
    · rw [sf_c (by decide), sf_c (by decide)]; exact hR.2 j
    · rw [sf_k h1, sf_k h2]; exact congrFun (hR.1 73 (by decide)) k
    · rw [sf_k (by decide), sf_s, e36]; exact u8 h8
    · rw [sf_s, e35, if_neg (by omega), hm2]; rfl
  · refine Z_jump 4 rfl ?_
    show Zs _ _ (am_P 200).2 (70, [(0, .ref 73), (1, .int (nI 14))], []) (HH (sf (sf I' 73 36 (((I' 73 36) + (1 : Int32)) - ((I' 73 36) + (1 : Int32)) / (8 : Int32) * (8 : Int32))) 73 35 ((I' 73 35) + (1 : Int32))) J R T) _
    show Zs _ _ (am_P 200).2 (70, [(0, .ref 73), (1, .int (nI 14))], []) (HH (sf (sf I' 73 36 (((I' 73 36) + (1 : Int32)) - ((I' 73 36) + (1 : Int32)) / (8 : Int32) * (8 : Int32))) 73 35 ((I' 73 35) + (1 : Int32))) J R T) _
    refine Z_ret rfl rfl rfl ?_
    have hm2 : m < 8 := by rw [e35] at c58; have := mt (nI_leI (a := 8) (by omega) (by omega)).mpr c58; omega
    refine ⟨rfl, _, rfl, fun a h1 h2 => ?_, fun j => ?_, fun k h1 h2 => ?_, ?_, ?_⟩
    · rw [sf_c h1, sf_c h1]; exact hR.1 a h2
    · rw [sf_c (by decide), sf_c (by decide)]; exact hR.2 j
    · rw [sf_k h1, sf_k h2]; exact congrFun (hR.1 73 (by decide)) k
    · rw [sf_k (by decide), sf_s, e36]; exact u8 h8
    · rw [sf_s, e35, if_pos hm2]; exact nI_1 m
end M0b

