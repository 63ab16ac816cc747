/-! The reference without rods: the rest. -/
theorem nr0 {n : Nat} {r : Int32} {p : Prop} (hr : ¬ M_rod n r) : ¬ (M_rod n r ∧ p) := fun z => hr z.1
section M0c
variable {sc : Nat × (Nat → Int32)} {d : Nat} {I : hI} {J : hJ} {R : hR} {T : am_H} {Q : Option Value → am_H → Prop}
theorem m_rod_no {n : Nat} {a0 a1 : Int32} (hn : I 73 0 = nI n) (h6 : n ≤ 6) (hr : ¬ M_rod n a0) : am_E sc (d + 4) 161 [.ref 73, .int a0, .int a1] (HH I J R T) (some (.int (-2))) (HH I J R T) := by
  refine E_Z (Ze_of (Nat.le_of_ble_eq_true rfl) ?_)
  refine Z_jump 2 rfl ?_
  show Zs _ _ (am_P 161).2 (2, [(0, .ref 73), (1, .int a0), (2, .int a1)], [.int a0, .ref 73]) (HH I J R T) _
  refine Z_c1 rfl rfl rfl (m_isRodN hn h6) ?_
  show Zs _ _ (am_P 161).2 (5, [(0, .ref 73), (1, .int a0), (2, .int a1)], [.int (if M_rod n a0 then 1 else 0)]) (HH I J R T) _
  refine Z_jump 1 rfl ?_
  refine Z_bn (fun c5 => absurd (if10.mpr (hr)) c5) (fun c5 => ?_)
  refine Z_jump 1 rfl ?_
  show Zs _ _ (am_P 161).2 (10, [(0, .ref 73), (1, .int a0), (2, .int a1)], [.int (-2 : Int32)]) (HH I J R T) _
  refine Z_rI rfl (by first | exact am_nw0 _ | exact am_nw01 | rfl | assumption) ?_
  exact ⟨rfl, rfl⟩
theorem m_as_no {n : Nat} {a0 a1 : Int32} (hn : I 73 0 = nI n) (h6 : n ≤ 6) (hr : ¬ M_rod n a0) : am_E sc (d + 4) 162 [.ref 73, .int a0, .int a1] (HH I J R T) (some (.int (-2))) (HH I J R T) := by
  refine E_Z (Ze_of (Nat.le_of_ble_eq_true rfl) ?_)
  refine Z_jump 2 rfl ?_
  show Zs _ _ (am_P 162).2 (2, [(0, .ref 73), (1, .int a0), (2, .int a1)], [.int a0, .ref 73]) (HH I J R T) _
  refine Z_c1 rfl rfl rfl (m_isRodN hn h6) ?_
  show Zs _ _ (am_P 162).2 (5, [(0, .ref 73), (1, .int a0), (2, .int a1)], [.int (if M_rod n a0 then 1 else 0)]) (HH I J R T) _
  refine Z_jump 1 rfl ?_
  refine Z_bn (fun c5 => absurd (if10.mpr (hr)) c5) (fun c5 => ?_)
  refine Z_jump 1 rfl ?_
  show Zs _ _ (am_P 162).2 (10, [(0, .ref 73), (1, .int a0), (2, .int a1)], [.int (-2 : Int32)]) (HH I J R T) _
  refine Z_rI rfl (by first | exact am_nw0 _ | exact am_nw01 | rfl | assumption) ?_
  exact ⟨rfl, rfl⟩
theorem m_push_no {n : Nat} {a0 a1 a2 : Int32} (hn : I 73 0 = nI n) (h6 : n ≤ 6) (hr : ¬ M_rod n a0) : am_E sc (d + 4) 202 [.ref 73, .int a0, .int a1, .int a2] (HH I J R T) (some (.int (-2))) (HH I J R T) := by
  refine E_Z (Ze_of (Nat.le_of_ble_eq_true rfl) ?_)
  refine Z_jump 3 rfl ?_
  show Zs _ _ (am_P 202).2 (3, [(0, .ref 73), (1, .int a0), (2, .int a1), (3, .int a2)], [.int a1, .int a0, .ref 73]) (HH I J R T) _
  refine Z_c1 rfl rfl rfl (m_isPart hn h6) ?_
  show Zs _ _ (am_P 202).2 (6, [(0, .ref 73), (1, .int a0), (2, .int a1), (3, .int a2)], [.int (if M_rod n a0 ∧ (0 ≤ a1.toInt ∧ a1.toInt ≤ 1) then 1 else 0)]) (HH I J R T) _
  refine Z_jump 1 rfl ?_
  refine Z_bn (fun c6 => absurd (if10.mpr (nr0 hr)) c6) (fun c6 => ?_)
  refine Z_jump 1 rfl ?_
  show Zs _ _ (am_P 202).2 (11, [(0, .ref 73), (1, .int a0), (2, .int a1), (3, .int a2)], [.int (-2 : Int32)]) (HH I J R T) _
  refine Z_rI rfl (by first | exact am_nw0 _ | exact am_nw01 | rfl | assumption) ?_
  exact ⟨rfl, rfl⟩
theorem m_stick_no {n : Nat} {a0 a1 : Int32} (hn : I 73 0 = nI n) (h6 : n ≤ 6) (hr : ¬ M_rod n a0) : am_E sc (d + 4) 203 [.ref 73, .int a0, .int a1] (HH I J R T) (some (.int (-2))) (HH I J R T) := by
  refine E_Z (Ze_of (Nat.le_of_ble_eq_true rfl) ?_)
  refine Z_jump 3 rfl ?_
  show Zs _ _ (am_P 203).2 (3, [(0, .ref 73), (1, .int a0), (2, .int a1)], [.int a1, .int a0, .ref 73]) (HH I J R T) _
  refine Z_c1 rfl rfl rfl (m_isPart hn h6) ?_
  show Zs _ _ (am_P 203).2 (6, [(0, .ref 73), (1, .int a0), (2, .int a1)], [.int (if M_rod n a0 ∧ (0 ≤ a1.toInt ∧ a1.toInt ≤ 1) then 1 else 0)]) (HH I J R T) _
  refine Z_jump 1 rfl ?_
  refine Z_bn (fun c6 => absurd (if10.mpr (nr0 hr)) c6) (fun c6 => ?_)
  refine Z_jump 1 rfl ?_
  show Zs _ _ (am_P 203).2 (11, [(0, .ref 73), (1, .int a0), (2, .int a1)], [.int (-2 : Int32)]) (HH I J R T) _
  refine Z_rI rfl (by first | exact am_nw0 _ | exact am_nw01 | rfl | assumption) ?_
  exact ⟨rfl, rfl⟩
theorem m_carry_no {n : Nat} {a0 : Int32} (hn : I 73 0 = nI n) (h6 : n ≤ 6) (hr : ¬ M_rod n a0) : am_E sc (d + 4) 207 [.ref 73, .int a0] (HH I J R T) (some (.int (-2))) (HH I J R T) := by
  refine E_Z (Ze_of (Nat.le_of_ble_eq_true rfl) ?_)
  refine Z_jump 2 rfl ?_
  show Zs _ _ (am_P 207).2 (2, [(0, .ref 73), (1, .int a0)], [.int a0, .ref 73]) (HH I J R T) _
  refine Z_c1 rfl rfl rfl (m_isRodN hn h6) ?_
  show Zs _ _ (am_P 207).2 (5, [(0, .ref 73), (1, .int a0)], [.int (if M_rod n a0 then 1 else 0)]) (HH I J R T) _
  refine Z_jump 1 rfl ?_
  refine Z_bn (fun c5 => absurd (if10.mpr (hr)) c5) (fun c5 => ?_)
  refine Z_jump 1 rfl ?_
  show Zs _ _ (am_P 207).2 (10, [(0, .ref 73), (1, .int a0)], [.int (-2 : Int32)]) (HH I J R T) _
  refine Z_rI rfl (by first | exact am_nw0 _ | exact am_nw01 | rfl | assumption) ?_
  exact ⟨rfl, rfl⟩
theorem m_seen_no {n : Nat} {a0 a1 a2 : Int32} (hn : I 73 0 = nI n) (h6 : n ≤ 6) (hr : ¬ M_rod n a0) : am_E sc (d + 4) 221 [.ref 73, .int a0, .int a1, .int a2] (HH I J R T) (some (.int (-2))) (HH I J R T) := by
  refine E_Z (Ze_of (Nat.le_of_ble_eq_true rfl) ?_)
  refine Z_jump 2 rfl ?_
  show Zs _ _ (am_P 221).2 (2, [(0, .ref 73), (1, .int a0), (2, .int a1), (3, .int a2)], [.int a0, .ref 73]) (HH I J R T) _
  refine Z_c1 rfl rfl rfl (m_isRodN hn h6) ?_
  show Zs _ _ (am_P 221).2 (5, [(0, .ref 73), (1, .int a0), (2, .int a1), (3, .int a2)], [.int (if M_rod n a0 then 1 else 0)]) (HH I J R T) _
  refine Z_jump 1 rfl ?_
  refine Z_bn (fun c5 => absurd (if10.mpr (hr)) c5) (fun c5 => ?_)
  refine Z_jump 1 rfl ?_
  show Zs _ _ (am_P 221).2 (10, [(0, .ref 73), (1, .int a0), (2, .int a1), (3, .int a2)], [.int (-2 : Int32)]) (HH I J R T) _
  refine Z_rI rfl (by first | exact am_nw0 _ | exact am_nw01 | rfl | assumption) ?_
  exact ⟨rfl, rfl⟩
theorem m_kinds_no {n : Nat} {a0 : Int32} (hn : I 73 0 = nI n) (h6 : n ≤ 6) (hr : ¬ M_rod n a0) : am_E sc (d + 4) 224 [.ref 73, .int a0] (HH I J R T) (some (.int (-2))) (HH I J R T) := by
  refine E_Z (Ze_of (Nat.le_of_ble_eq_true rfl) ?_)
  refine Z_jump 2 rfl ?_
  show Zs _ _ (am_P 224).2 (2, [(0, .ref 73), (1, .int a0)], [.int a0, .ref 73]) (HH I J R T) _
  refine Z_c1 rfl rfl rfl (m_isRodN hn h6) ?_
  show Zs _ _ (am_P 224).2 (5, [(0, .ref 73), (1, .int a0)], [.int (if M_rod n a0 then 1 else 0)]) (HH I J R T) _
  refine Z_jump 1 rfl ?_
  refine Z_bn (fun c5 => absurd (if10.mpr (hr)) c5) (fun c5 => ?_)
  refine Z_jump 1 rfl ?_
  show Zs _ _ (am_P 224).2 (10, [(0, .ref 73), (1, .int a0)], [.int (-2 : Int32)]) (HH I J R T) _
  refine Z_rI rfl (by first | exact am_nw0 _ | exact am_nw01 | rfl | assumption) ?_
  exact ⟨rfl, rfl⟩
theorem m_slips_no {n : Nat} {a0 a1 a2 a3 : Int32} (hn : I 73 0 = nI n) (h6 : n ≤ 6) (hr : ¬ M_rod n a0) : am_E sc (d + 4) 227 [.ref 73, .int a0, .int a1, .int a2, .int a3] (HH I J R T) (some (.long (-2))) (HH I J R T) := by
  refine E_Z (Ze_of (Nat.le_of_ble_eq_true rfl) ?_)
  refine Z_jump 2 rfl ?_
  show Zs _ _ (am_P 227).2 (2, [(0, .ref 73), (1, .int a0), (2, .int a1), (3, .int a2), (4, .int a3)], [.int a0, .ref 73]) (HH I J R T) _
  refine Z_c1 rfl rfl rfl (m_isRodN hn h6) ?_
  show Zs _ _ (am_P 227).2 (5, [(0, .ref 73), (1, .int a0), (2, .int a1), (3, .int a2), (4, .int a3)], [.int (if M_rod n a0 then 1 else 0)]) (HH I J R T) _
  refine Z_jump 1 rfl ?_
  refine Z_bn (fun c5 => absurd (if10.mpr (hr)) c5) (fun c5 => ?_)
  refine Z_jump 1 rfl ?_
  show Zs _ _ (am_P 227).2 (11, [(0, .ref 73), (1, .int a0), (2, .int a1), (3, .int a2), (4, .int a3)], [.long (-2 : Int64)]) (HH I J R T) _
  refine Z_ret rfl rfl rfl ?_
  exact ⟨rfl, rfl⟩
theorem m_pushed_no {n : Nat} {a0 a1 a2 : Int32} (hn : I 73 0 = nI n) (h6 : n ≤ 6) (hr : ¬ M_rod n a1) : am_E sc (d + 4) 214 [.ref 73, .int a0, .int a1, .int a2] (HH I J R T) (some (.int (-2))) (HH I J R T) := by
  refine E_Z (Ze_of (Nat.le_of_ble_eq_true rfl) ?_)
  refine Z_jump 3 rfl ?_
  show Zs _ _ (am_P 214).2 (3, [(0, .ref 73), (1, .int a0), (2, .int a1), (3, .int a2)], [.int a2, .int a1, .ref 73]) (HH I J R T) _
  refine Z_c1 rfl rfl rfl (m_isPart hn h6) ?_
  show Zs _ _ (am_P 214).2 (6, [(0, .ref 73), (1, .int a0), (2, .int a1), (3, .int a2)], [.int (if M_rod n a1 ∧ (0 ≤ a2.toInt ∧ a2.toInt ≤ 1) then 1 else 0)]) (HH I J R T) _
  refine Z_jump 1 rfl ?_
  refine Z_bn (fun c6 => absurd (if10.mpr (nr0 hr)) c6) (fun c6 => ?_)
  refine Z_jump 1 rfl ?_
  show Zs _ _ (am_P 214).2 (11, [(0, .ref 73), (1, .int a0), (2, .int a1), (3, .int a2)], [.int (-2 : Int32)]) (HH I J R T) _
  refine Z_rI rfl (by first | exact am_nw0 _ | exact am_nw01 | rfl | assumption) ?_
  exact ⟨rfl, rfl⟩
theorem m_undo_no (hm : I 73 35 = 0) : am_E sc (d + 1) 208 [.ref 73] (HH I J R T) (some (.int (-4))) (HH I J R T) := by
  refine E_Z (Ze_of (Nat.le_of_ble_eq_true rfl) ?_)
  refine Z_jump 3 rfl ?_
  refine Z_bn (fun c4 => absurd (hm) c4) (fun c4 => ?_)
  refine Z_jump 1 rfl ?_
  show Zs _ _ (am_P 208).2 (9, [(0, .ref 73)], [.int (-4 : Int32)]) (HH I J R T) _
  refine Z_rI rfl (by first | exact am_nw0 _ | exact am_nw01 | rfl | assumption) ?_
  exact ⟨rfl, rfl⟩
abbrev M_01 (v : Int32) : Prop := 0 ≤ v.toInt ∧ v.toInt ≤ 1
theorem bit_c {v : Int32} (h : M_01 v) : v = 0 ∨ v = 1 := by
  rw [fi_eq, fi_eq]
  have z : (0 : Int32).toInt = 0 := rfl
  have w : (1 : Int32).toInt = 1 := rfl
  rw [z, w]
  have h1 := h.1
  have h2 := h.2
  omega
theorem m_back0 {k : Int32} (hk : ∀ j, I 94 j = 0) : am_E sc (d + 2) 211 [.ref 73, .int k] (HH I J R T) (some (.int (if M_01 k then -4 else -2))) (HH I J R T) := by
  refine E_Z (Ze_of (Nat.le_of_ble_eq_true rfl) ?_)
  by_cases hb : M_01 k
  · rcases bit_c hb with rfl | rfl
    · refine Z_jump 4 rfl ?_
      show Zs _ _ (am_P 211).2 (4, [(0, .ref 73), (1, .int (0 : Int32))], [.long (1 : Int64), .long (0 : Int64), .long (0 : Int64)]) (HH I J R T) _
      refine Z_c1 rfl rfl rfl (m_inI (v := 0) (a := 0) (b := 1) rfl rfl) ?_
      show Zs _ _ (am_P 211).2 (7, [(0, .ref 73), (1, .int (0 : Int32))], [.int (1 : Int32)]) (HH I J R T) _
      refine Z_jump 5 rfl ?_
      show Zs _ _ (am_P 211).2 (19, [(0, .ref 73), (1, .int (0 : Int32))], [.int (I 94 0)]) (HH I J R T) _
      refine Z_eqI (hk 0) ?_
      show Zs _ _ (am_P 211).2 (19, [(0, .ref 73), (1, .int (0 : Int32))], [.int (0 : Int32)]) (HH I J R T) _
      refine Z_jump 2 rfl ?_
      show Zs _ _ (am_P 211).2 (24, [(0, .ref 73), (1, .int (0 : Int32))], [.int (-4 : Int32)]) (HH I J R T) _
      refine Z_rI rfl (by first | exact am_nw0 _ | exact am_nw01 | rfl | assumption) ?_
      exact ⟨rfl, rfl⟩
    · refine Z_jump 4 rfl ?_
      show Zs _ _ (am_P 211).2 (4, [(0, .ref 73), (1, .int (1 : Int32))], [.long (1 : Int64), .long (0 : Int64), .long (1 : Int64)]) (HH I J R T) _
      refine Z_c1 rfl rfl rfl (m_inI (v := 1) (a := 0) (b := 1) rfl rfl) ?_
      show Zs _ _ (am_P 211).2 (7, [(0, .ref 73), (1, .int (1 : Int32))], [.int (1 : Int32)]) (HH I J R T) _
      refine Z_jump 5 rfl ?_
      show Zs _ _ (am_P 211).2 (19, [(0, .ref 73), (1, .int (1 : Int32))], [.int (I 94 1)]) (HH I J R T) _
      refine Z_eqI (hk 1) ?_
      show Zs _ _ (am_P 211).2 (19, [(0, .ref 73), (1, .int (1 : Int32))], [.int (0 : Int32)]) (HH I J R T) _
      refine Z_jump 2 rfl ?_
      show Zs _ _ (am_P 211).2 (24, [(0, .ref 73), (1, .int (1 : Int32))], [.int (-4 : Int32)]) (HH I J R T) _
      refine Z_rI rfl (by first | exact am_nw0 _ | exact am_nw01 | rfl | assumption) ?_
      exact ⟨rfl, rfl⟩
  · refine Z_jump 4 rfl ?_
    show Zs _ _ (am_P 211).2 (4, [(0, .ref 73), (1, .int k)], [.long (1 : Int64), .long (0 : Int64), .long (Int32.toInt64 k)]) (HH I J R T) _
    refine Z_c1 rfl rfl rfl (m_inI (a := 0) (b := 1) rfl rfl) ?_
    show Zs _ _ (am_P 211).2 (7, [(0, .ref 73), (1, .int k)], [.int (if 0 ≤ k.toInt ∧ k.toInt ≤ 1 then 1 else 0)]) (HH I J R T) _
    refine Z_jump 1 rfl ?_
    refine Z_bn (fun c7 => absurd (if10.mpr hb) c7) (fun c7 => ?_)
    refine Z_jump 1 rfl ?_
    show Zs _ _ (am_P 211).2 (12, [(0, .ref 73), (1, .int k)], [.int (-2 : Int32)]) (HH I J R T) _
    refine Z_rI rfl (by first | exact am_nw0 _ | exact am_nw01 | rfl | assumption) ?_
    exact ⟨am_ii (if_neg hb).symm, rfl⟩
/-- a row of now's copied to another place -/
def CB (dst off : Nat) (I0 : hI) (i : Nat) (I : hI) : Prop := (∀ a, a ≠ dst → I a = I0 a) ∧ ∀ j, I dst j = if off ≤ j ∧ j < off + i then I0 78 (j - off) else I0 dst j
theorem CB_0 (dst off : Nat) (I : hI) : CB dst off I 0 I := ⟨fun _ _ => rfl, fun j => by rw [if_neg (by omega)]⟩
theorem CB_s {dst off : Nat} {I0 I : hI} {i : Nat} (hd : 78 ≠ dst) (H : CB dst off I0 i I) : CB dst off I0 (i + 1) (sf I dst (off + i) (I 78 i)) := by
  obtain ⟨H1, H2⟩ := H
  refine ⟨fun a ha => by rw [sf_c ha]; exact H1 a ha, fun j => ?_⟩
  by_cases hj : j = off + i
  · subst hj
    rw [sf_s, if_pos (by omega), show off + i - off = i by omega, H1 78 hd]
  · rw [sf_k hj, H2 j]
    by_cases h2 : off ≤ j ∧ j < off + i
    · rw [if_pos h2, if_pos (show off ≤ j ∧ j < off + (i + 1) by omega)]
    · rw [if_neg h2, if_neg (show ¬ (off ≤ j ∧ j < off + (i + 1)) by omega)]
theorem m_keep_l {u : Nat} {y : Int32} {I0 : hI} (hy : y = nI u) (h8 : u < 2) (H : ∀ I, CB 95 (14 * u) I0 14 I → Zs sc d (am_P 210).2 (51, [(0, .ref 73), (1, .int y), (2, .int (nI 14))], []) (HH I J R T) Q) : ∀ (k i : Nat) (I : hI) (x : Int32), i + k = 14 → x = nI i → CB 95 (14 * u) I0 i I → Zs sc d (am_P 210).2 (22, [(0, .ref 73), (1, .int y), (2, .int x)], []) (HH I J R T) Q
  | 0, i, I, x, hi, hx, hR => by
    have e : i = 14 := by omega
    subst e
    subst hx
    refine Z_jump 3 rfl ?_
    refine Z_bd (fun c25 => ?_) (fun c25 => absurd ((show (14 : Int32) ≤ nI 14 by decide)) c25)
    show Zs _ _ (am_P 210).2 (51, [(0, .ref 73), (1, .int y), (2, .int (nI 14))], []) (HH I J R T) _
    exact H I hR
  | k + 1, i, I, x, hi, hx, hR => by
    have hu2 : (14 : Int32) * y + x = nI (14 * u + i) := by rw [hy, hx]; exact n14
    refine Z_jump 3 rfl ?_
    refine Z_bd (fun c25 => absurd c25 ((show ¬ (14 : Int32) ≤ x by rw [hx]; exact nI_ge (b := 14) (by omega) (by omega)))) (fun c25 => ?_)
    refine Z_jump 10 rfl ?_
    show Zs _ _ (am_P 210).2 (43, [(0, .ref 73), (1, .int y), (2, .int x)], [.int x, .ref 78, .int (((14 : Int32) * y) + x), .ref 95]) (HH I J R T) _
    refine Z_ialK (i) rfl rfl (hx) (by omega) (by decide) ?_
    show Zs _ _ (am_P 210).2 (44, [(0, .ref 73), (1, .int y), (2, .int x)], [.int (I 78 i), .int (((14 : Int32) * y) + x), .ref 95]) (HH I J R T) _
    show Zs _ _ (am_P 210).2 (44, [(0, .ref 73), (1, .int y), (2, .int x)], [.int (I 78 i), .int (((14 : Int32) * y) + x), .ref 95]) (HH I J R T) _
    refine Z_iasK (14 * u + i) rfl rfl (hu2) (by omega) (by decide) ?_
    show Zs _ _ (am_P 210).2 (45, [(0, .ref 73), (1, .int y), (2, .int x)], []) (HH (sf I 95 (14 * u + i) (I 78 i)) J R T) _
    refine Z_jump 2 rfl ?_
    show Zs _ _ (am_P 210).2 (22, [(0, .ref 73), (1, .int y), (2, .int (x + 1))], []) (HH (sf I 95 (14 * u + i) (I 78 i)) J R T) _
    exact m_keep_l hy h8 H k (i + 1) _ _ (by omega) (by rw [hx]; exact nI_1 i) (CB_s (by decide) hR)
theorem m_keep0 {k : Int32} (hn : I 73 0 = 0) : Ze sc (d + 2) 210 [.ref 73, .int k] (HH I J R T) (M0p (.int (if M_01 k then 0 else -2)) R T) := by
  refine Ze_of (Nat.le_of_ble_eq_true rfl) ?_
  by_cases hb : M_01 k
  · rcases bit_c hb with rfl | rfl
    · refine Z_jump 4 rfl ?_
      show Zs _ _ (am_P 210).2 (4, [(0, .ref 73), (1, .int (0 : Int32))], [.long (1 : Int64), .long (0 : Int64), .long (0 : Int64)]) (HH I J R T) _
      refine Z_c1 rfl rfl rfl (m_inI (v := 0) (a := 0) (b := 1) rfl rfl) ?_
      show Zs _ _ (am_P 210).2 (7, [(0, .ref 73), (1, .int (0 : Int32))], [.int (1 : Int32)]) (HH I J R T) _
      refine Z_jump 6 rfl ?_
      show Zs _ _ (am_P 210).2 (20, [(0, .ref 73), (1, .int (0 : Int32))], []) (HH (sf I 94 0 (1 : Int32)) J R T) _
      refine Z_jump 2 rfl ?_
      show Zs _ _ (am_P 210).2 (22, [(0, .ref 73), (1, .int (0 : Int32)), (2, .int (0 : Int32))], []) (HH (sf I 94 0 (1 : Int32)) J R T) _
      refine m_keep_l (u := 0) rfl (by omega) (fun I' hC => ?_) 14 0 _ _ (by omega) rfl (CB_0 _ _ _)
      have hn2 : I' 73 0 = 0 := (congrFun (hC.1 73 (by decide)) 0).trans hn
      refine Z_jump 1 rfl ?_
      show Zs _ _ (am_P 210).2 (52, [(0, .ref 73), (1, .int (0 : Int32)), (2, .int (nI 14))], [.ref 73]) (HH I' J R T) _
      refine Z_c1 rfl rfl rfl (m_allPushed (n := 0) hn2 (by omega)) ?_
      show Zs _ _ (am_P 210).2 (55, [(0, .ref 73), (1, .int (0 : Int32)), (2, .int (nI 14))], [.int (0 : Int32)]) (HH I' J R T) _
      show Zs _ _ (am_P 210).2 (55, [(0, .ref 73), (1, .int (0 : Int32)), (2, .int (nI 14))], [.int (0 : Int32)]) (HH I' J R T) _
      refine Z_rI rfl (by first | exact am_nw0 _ | exact am_nw01 | rfl | assumption) ?_
      exact ⟨rfl, I', J, rfl, hn2⟩
    · refine Z_jump 4 rfl ?_
      show Zs _ _ (am_P 210).2 (4, [(0, .ref 73), (1, .int (1 : Int32))], [.long (1 : Int64), .long (0 : Int64), .long (1 : Int64)]) (HH I J R T) _
      refine Z_c1 rfl rfl rfl (m_inI (v := 1) (a := 0) (b := 1) rfl rfl) ?_
      show Zs _ _ (am_P 210).2 (7, [(0, .ref 73), (1, .int (1 : Int32))], [.int (1 : Int32)]) (HH I J R T) _
      refine Z_jump 6 rfl ?_
      show Zs _ _ (am_P 210).2 (20, [(0, .ref 73), (1, .int (1 : Int32))], []) (HH (sf I 94 1 (1 : Int32)) J R T) _
      refine Z_jump 2 rfl ?_
      show Zs _ _ (am_P 210).2 (22, [(0, .ref 73), (1, .int (1 : Int32)), (2, .int (0 : Int32))], []) (HH (sf I 94 1 (1 : Int32)) J R T) _
      refine m_keep_l (u := 1) rfl (by omega) (fun I' hC => ?_) 14 0 _ _ (by omega) rfl (CB_0 _ _ _)
      have hn2 : I' 73 0 = 0 := (congrFun (hC.1 73 (by decide)) 0).trans hn
      refine Z_jump 1 rfl ?_
      show Zs _ _ (am_P 210).2 (52, [(0, .ref 73), (1, .int (1 : Int32)), (2, .int (nI 14))], [.ref 73]) (HH I' J R T) _
      refine Z_c1 rfl rfl rfl (m_allPushed (n := 0) hn2 (by omega)) ?_
      show Zs _ _ (am_P 210).2 (55, [(0, .ref 73), (1, .int (1 : Int32)), (2, .int (nI 14))], [.int (0 : Int32)]) (HH I' J R T) _
      show Zs _ _ (am_P 210).2 (55, [(0, .ref 73), (1, .int (1 : Int32)), (2, .int (nI 14))], [.int (0 : Int32)]) (HH I' J R T) _
      refine Z_rI rfl (by first | exact am_nw0 _ | exact am_nw01 | rfl | assumption) ?_
      exact ⟨rfl, I', J, rfl, hn2⟩
  · refine Z_jump 4 rfl ?_
    show Zs _ _ (am_P 210).2 (4, [(0, .ref 73), (1, .int k)], [.long (1 : Int64), .long (0 : Int64), .long (Int32.toInt64 k)]) (HH I J R T) _
    refine Z_c1 rfl rfl rfl (m_inI (a := 0) (b := 1) rfl rfl) ?_
    show Zs _ _ (am_P 210).2 (7, [(0, .ref 73), (1, .int k)], [.int (if 0 ≤ k.toInt ∧ k.toInt ≤ 1 then 1 else 0)]) (HH I J R T) _
    refine Z_jump 1 rfl ?_
    refine Z_bn (fun c7 => absurd (if10.mpr hb) c7) (fun c7 => ?_)
    refine Z_jump 1 rfl ?_
    show Zs _ _ (am_P 210).2 (12, [(0, .ref 73), (1, .int k)], [.int (-2 : Int32)]) (HH I J R T) _
    refine Z_rI rfl (by first | exact am_nw0 _ | exact am_nw01 | rfl | assumption) ?_
    exact ⟨am_ii (if_neg hb).symm, I, J, rfl, hn⟩
theorem m_set0 {to : Int32} (hn : I 73 0 = 0) (hu : I 73 36 = 0) (hm : I 73 35 = 0) : Ze sc (d + 5) 205 [.ref 73, .int to] (HH I J R T) (M0p (.int (if M_num to then (if to = 0 then 0 else -4) else -3)) R T) := by
  refine Ze_of (Nat.le_of_ble_eq_true rfl) ?_
  refine Z_jump 1 rfl ?_
  show Zs _ _ (am_P 205).2 (1, [(0, .ref 73), (1, .int to)], [.int to]) (HH I J R T) _
  refine Z_c1 rfl rfl rfl (m_isNumber) ?_
  show Zs _ _ (am_P 205).2 (4, [(0, .ref 73), (1, .int to)], [.int (if 0 ≤ to.toInt ∧ to.toInt ≤ 1000000000 then 1 else 0)]) (HH I J R T) _
  refine Z_jump 1 rfl ?_
  refine Z_bn (fun (c4 : ¬ ((if 0 ≤ to.toInt ∧ to.toInt ≤ 1000000000 then 1 else 0) = (0 : Int32))) => ?_) (fun (c4 : (if 0 ≤ to.toInt ∧ to.toInt ≤ 1000000000 then 1 else 0) = (0 : Int32)) => ?_)
  · refine Z_jump 9 rfl ?_
    show Zs _ _ (am_P 205).2 (24, [(0, .ref 73), (1, .int to)], [.long (Int32.toInt64 to), .int (I 78 12), .ref 78, .ref 73]) (HH I J R T) _
    refine Z_cQ rfl rfl rfl (m_isShown0 (I := I) (J := J) hn) (fun v h1 hq => ?_)
    obtain ⟨rfl, I', J', rfl, hI, h0⟩ := hq
    have hn2 : I' 73 0 = 0 := (congrFun (hI 73 (by decide)) 0).trans hn
    have hu2 : I' 73 36 = nI 0 := (congrFun (hI 73 (by decide)) 36).trans hu
    have hm2 : I' 73 35 = nI 0 := (congrFun (hI 73 (by decide)) 35).trans hm
    show Zs _ _ (am_P 205).2 (27, [(0, .ref 73), (1, .int to)], [.int (if to.toInt64 = 0 then 1 else 0)]) (HH I' J' R T) _
    refine Z_jump 1 rfl ?_
    refine Z_bn (fun (c27 : ¬ ((if to.toInt64 = 0 then 1 else 0) = (0 : Int32))) => ?_) (fun (c27 : (if to.toInt64 = 0 then 1 else 0) = (0 : Int32)) => ?_)
    · refine Z_jump 1 rfl ?_
      show Zs _ _ (am_P 205).2 (34, [(0, .ref 73), (1, .int to)], [.ref 73]) (HH I' J' R T) _
      refine Z_cQ rfl rfl rfl (Ze_deep (d := 1) (by omega) (m_remember (d := 0) hu2 (by omega) hm2 (by omega))) (fun v h1 hq => ?_)
      obtain ⟨rfl, I'', rfl, h1, h2, h3, h4, h5⟩ := hq
      have hn3 : I'' 73 0 = 0 := (h3 0 (by decide) (by decide)).trans hn2
      show Zs _ _ (am_P 205).2 (37, [(0, .ref 73), (1, .int to)], []) (HH I'' J' R T) _
      refine Z_jump 5 rfl ?_
      show Zs _ _ (am_P 205).2 (44, [(0, .ref 73), (1, .int to)], [.long (Int32.toInt64 to), .ref 78, .ref 73]) (HH I'' J' R T) _
      refine Z_cQ rfl rfl rfl (m_sets0 (to := to.toInt64) (Or.inl rfl) hn3) (fun v h1 hq => ?_)
      obtain ⟨rfl, I3, J3, rfl, hn4⟩ := hq
      show Zs _ _ (am_P 205).2 (47, [(0, .ref 73), (1, .int to)], [.int (if to.toInt64 = 0 then 0 else -1)]) (HH I3 J3 R T) _
      show Zs _ _ (am_P 205).2 (47, [(0, .ref 73), (1, .int to)], [.int (if to.toInt64 = 0 then 0 else -1)]) (HH I3 J3 R T) _
      refine Z_rI rfl (by first | exact am_nw0 _ | exact am_nw01 | rfl | assumption) ?_
      exact ⟨am_ii (by rw [if_pos (if10n c4), if_pos (if10n c27), if_pos (i64_0.mp (if10n c27))]), I3, J3, rfl, hn4⟩
    · refine Z_jump 1 rfl ?_
      show Zs _ _ (am_P 205).2 (32, [(0, .ref 73), (1, .int to)], [.int (-4 : Int32)]) (HH I' J' R T) _
      refine Z_rI rfl (by first | exact am_nw0 _ | exact am_nw01 | rfl | assumption) ?_
      exact ⟨am_ii (by rw [if_pos (if10n c4), if_neg (fun z => if10.mp c27 (i64_0.mpr z))]), I', J', rfl, hn2⟩
  · refine Z_jump 1 rfl ?_
    show Zs _ _ (am_P 205).2 (9, [(0, .ref 73), (1, .int to)], [.int (-3 : Int32)]) (HH I J R T) _
    refine Z_rI rfl (by first | exact am_nw0 _ | exact am_nw01 | rfl | assumption) ?_
    exact ⟨am_ii (by rw [if_neg (if10.mp c4)]), I, J, rfl, hn⟩
/-- nearest: the turns of its loop -/
theorem m_near_l {t : Nat} (ht : t ≤ 1000000000) : ∀ (k i : Nat) (I : hI) (J : hJ) (x : Int32), i + k = 501 → x = nI i → i ≤ t → I 73 0 = 0 → Zs sc (d + 3) (am_P 217).2 (12, [(0, .ref 73), (1, .int (nI t)), (2, .int x)], []) (HH I J R T) (M0p (.int (if t ≤ 500 then 0 else -1)) R T)
  | 0, i, I, J, x, hi, hx, hit, hn => by
    have e : i = 501 := by omega
    subst e
    subst hx
    refine Z_jump 3 rfl ?_
    refine Z_bd (fun c16 => ?_) (fun c16 => absurd ((show (500 : Int32) < nI 501 by decide)) c16)
    refine Z_jump 1 rfl ?_
    show Zs _ _ (am_P 217).2 (79, [(0, .ref 73), (1, .int (nI t)), (2, .int (nI 501))], [.int (-1 : Int32)]) (HH I J R T) _
    refine Z_rI rfl (by first | exact am_nw0 _ | exact am_nw01 | rfl | assumption) ?_
    exact ⟨am_ii (if_neg (by omega)).symm, I, J, rfl, hn⟩
  | k + 1, i, I, J, x, hi, hx, hit, hn => by
    have e1 : (nI t - x).toInt64 = 0 ↔ t = i := by rw [hx, nI_subI hit, nI64_0 (by omega)]; omega
    have e2 : ¬ (nI t).toInt64 + x.toInt64 = 0 ∨ t = i := by
      by_cases z : t = i
      · exact Or.inr z
      · refine Or.inl (fun y => ?_)
        rw [hx, nI_l (by omega), nI_l (by omega)] at y
        have y2 := congrArg Int64.toInt y
        rw [show lN t + lN i = lN (t + i) from (Int64.ofNat_add t i).symm, show (lN (t + i)).toInt = ((t + i : Nat) : Int) from Int64.toInt_ofNat_of_lt (by omega)] at y2
        have z0 : (0 : Int64).toInt = 0 := rfl
        rw [z0] at y2
        omega
    have hc : ¬ (500 : Int32) < x := by rw [hx]; exact nI_nlt (a := 500) (by omega) (by omega)
    refine Z_jump 3 rfl ?_
    refine Z_bd (fun c16 => absurd c16 (hc)) (fun c16 => ?_)
    refine Z_jump 11 rfl ?_
    show Zs _ _ (am_P 217).2 (35, [(0, .ref 73), (1, .int (nI t)), (2, .int x)], [.long (Int32.toInt64 ((nI t) - x)), .int (I 78 12), .ref 78, .ref 73]) (HH I J R T) _
    refine Z_cQ rfl rfl rfl (m_isShown0 (I := I) (J := J) hn) (fun v h1 hq => ?_)
    obtain ⟨rfl, I', J', rfl, hI, h0⟩ := hq
    have hn2 : I' 73 0 = 0 := (congrFun (hI 73 (by decide)) 0).trans hn
    show Zs _ _ (am_P 217).2 (38, [(0, .ref 73), (1, .int (nI t)), (2, .int x)], [.int (if (nI t - x).toInt64 = 0 then 1 else 0)]) (HH I' J' R T) _
    refine Z_jump 1 rfl ?_
    refine Z_bd (fun (c38 : (if (nI t - x).toInt64 = 0 then 1 else 0) = (0 : Int32)) => ?_) (fun (c38 : ¬ ((if (nI t - x).toInt64 = 0 then 1 else 0) = (0 : Int32))) => ?_)
    · refine Z_jump 12 rfl ?_
      show Zs _ _ (am_P 217).2 (62, [(0, .ref 73), (1, .int (nI t)), (2, .int x)], [.long ((Int32.toInt64 (nI t)) + (Int32.toInt64 x)), .int (I' 78 12), .ref 78, .ref 73]) (HH I' J' R T) _
      refine Z_cQ rfl rfl rfl (m_isShown0 (I := I') (J := J') hn2) (fun v h1 hq => ?_)
      obtain ⟨rfl, I2, J2, rfl, hI2, h02⟩ := hq
      have hn3 : I2 73 0 = 0 := (congrFun (hI2 73 (by decide)) 0).trans hn2
      show Zs _ _ (am_P 217).2 (65, [(0, .ref 73), (1, .int (nI t)), (2, .int x)], [.int (if (nI t).toInt64 + x.toInt64 = 0 then 1 else 0)]) (HH I2 J2 R T) _
      refine Z_jump 1 rfl ?_
      refine Z_bd (fun c65 => ?_) (fun c65 => absurd ((if10.mpr (e2.elim id (fun z => absurd (e1.mpr z) (if10.mp c38))))) c65)
      refine Z_jump 2 rfl ?_
      show Zs _ _ (am_P 217).2 (12, [(0, .ref 73), (1, .int (nI t)), (2, .int (x + 1))], []) (HH I2 J2 R T) _
      have hne : ¬ t = i := fun z => if10.mp c38 (e1.mpr z)
      exact m_near_l ht k (i + 1) I2 J2 _ (by omega) (by rw [hx]; exact nI_1 i) (by omega) hn3
    · refine Z_jump 3 rfl ?_
      show Zs _ _ (am_P 217).2 (44, [(0, .ref 73), (1, .int (nI t)), (2, .int x)], [.int ((nI t) - x)]) (HH I' J' R T) _
      refine Z_rI rfl (by first | exact am_nw0 _ | exact am_nw01 | rfl | assumption) ?_
      have z : t = i := e1.mp (if10n c38)
      refine ⟨am_ii ?_, I', J', rfl, hn2⟩
      rw [if_pos (by omega), hx, z, nI_subI (Nat.le_refl i), Nat.sub_self]; rfl
theorem m_nearest0 {to : Int32} (hn : I 73 0 = 0) : Ze sc (d + 4) 217 [.ref 73, .int to] (HH I J R T) (M0p (.int (if M_num to then (if to.toInt ≤ 500 then 0 else -1) else -3)) R T) := by
  refine Ze_of (Nat.le_of_ble_eq_true rfl) ?_
  by_cases hb : M_num to
  · obtain ⟨t, ht, rfl⟩ : ∃ t : Nat, t ≤ 1000000000 ∧ to = nI t := by
      obtain ⟨j, hj, e⟩ := nI_of (x := to) (by rw [fi_lt]; have := hb.1; have z : (0 : Int32).toInt = 0 := rfl; omega)
      refine ⟨j, ?_, e⟩
      have := hb.2
      rw [e, nI_toInt hj] at this
      omega
    have e : (if M_num (nI t) then (if (nI t).toInt ≤ 500 then (0 : Int32) else -1) else -3) = if t ≤ 500 then 0 else -1 := by
      rw [if_pos hb, nI_toInt (by omega)]
      by_cases h : t ≤ 500
      · rw [if_pos h, if_pos (by omega)]
      · rw [if_neg h, if_neg (by omega)]
    rw [e]
    refine Z_jump 1 rfl ?_
    show Zs _ _ (am_P 217).2 (1, [(0, .ref 73), (1, .int (nI t))], [.int (nI t)]) (HH I J R T) _
    refine Z_c1 rfl rfl rfl (m_isNumber) ?_
    show Zs _ _ (am_P 217).2 (4, [(0, .ref 73), (1, .int (nI t))], [.int (if 0 ≤ (nI t).toInt ∧ (nI t).toInt ≤ 1000000000 then 1 else 0)]) (HH I J R T) _
    refine Z_jump 1 rfl ?_
    refine Z_bn (fun c4 => ?_) (fun c4 => absurd c4 ((fun z => if10.mp z hb)))
    refine Z_jump 2 rfl ?_
    show Zs _ _ (am_P 217).2 (12, [(0, .ref 73), (1, .int (nI t)), (2, .int (0 : Int32))], []) (HH I J R T) _
    exact m_near_l ht 501 0 I J _ (by omega) rfl (by omega) hn
  · refine Z_jump 1 rfl ?_
    show Zs _ _ (am_P 217).2 (1, [(0, .ref 73), (1, .int to)], [.int to]) (HH I J R T) _
    refine Z_c1 rfl rfl rfl (m_isNumber) ?_
    show Zs _ _ (am_P 217).2 (4, [(0, .ref 73), (1, .int to)], [.int (if 0 ≤ to.toInt ∧ to.toInt ≤ 1000000000 then 1 else 0)]) (HH I J R T) _
    refine Z_jump 1 rfl ?_
    refine Z_bn (fun c4 => absurd (if10.mpr hb) c4) (fun c4 => ?_)
    refine Z_jump 1 rfl ?_
    show Zs _ _ (am_P 217).2 (9, [(0, .ref 73), (1, .int to)], [.int (-3 : Int32)]) (HH I J R T) _
    refine Z_rI rfl (by first | exact am_nw0 _ | exact am_nw01 | rfl | assumption) ?_
    exact ⟨am_ii (if_neg hb).symm, I, J, rfl, hn⟩
theorem m_edge0 {b : Int32} (hn : I 73 0 = 0) : am_E sc (d + 1) 215 [.ref 73, .int b] (HH I J R T) (some (.long 0)) (HH I J R T) := by
  refine E_Z (Ze_of (Nat.le_of_ble_eq_true rfl) ?_)
  refine Z_jump 9 rfl ?_
  refine Z_bd (fun c12 => ?_) (fun c12 => absurd ((show I 73 0 - 1 < 0 by rw [hn]; decide)) c12)
  refine Z_jump 1 rfl ?_
  show Zs _ _ (am_P 215).2 (139, [(0, .ref 73), (1, .int b), (2, .long (0 : Int64)), (4, .int ((I 73 0) - (1 : Int32)))], [.long (0 : Int64)]) (HH I J R T) _
  refine Z_ret rfl rfl rfl ?_
  exact ⟨rfl, rfl⟩
abbrev M_tri (v : Int32) : Prop := 0 ≤ v.toInt ∧ v.toInt ≤ 2
theorem tri_c {v : Int32} (h : M_tri v) : v = 0 ∨ v = 1 ∨ v = 2 := by
  rw [fi_eq, fi_eq, fi_eq]
  have z : (0 : Int32).toInt = 0 := rfl
  have w : (1 : Int32).toInt = 1 := rfl
  have y : (2 : Int32).toInt = 2 := rfl
  rw [z, w, y]
  have h1 := h.1
  have h2 := h.2
  omega
theorem m_span0 {w : Int32} (hn : I 73 0 = 0) : Ze sc (d + 4) 216 [.ref 73, .int w] (HH I J R T) (M0p (.long (if M_tri w then (if w = 2 then 1 else 0) else -3)) R T) := by
  refine Ze_of (Nat.le_of_ble_eq_true rfl) ?_
  by_cases hb : M_tri w
  · rcases tri_c hb with rfl | rfl | rfl
    · refine Z_jump 4 rfl ?_
      show Zs _ _ (am_P 216).2 (6, [(0, .ref 73), (1, .int (0 : Int32))], [.long (2 : Int64), .long (0 : Int64), .long (0 : Int64)]) (HH I J R T) _
      refine Z_c1 rfl rfl rfl (m_inI (v := 0) (a := 0) (b := 2) rfl rfl) ?_
      show Zs _ _ (am_P 216).2 (9, [(0, .ref 73), (1, .int (0 : Int32))], [.int (1 : Int32)]) (HH I J R T) _
      refine Z_jump 9 rfl ?_
      show Zs _ _ (am_P 216).2 (31, [(0, .ref 73), (1, .int (0 : Int32))], [.int (1 : Int32), .ref 73]) (HH I J R T) _
      refine Z_c1 rfl rfl rfl (m_edge0 hn) ?_
      show Zs _ _ (am_P 216).2 (34, [(0, .ref 73), (1, .int (0 : Int32))], [.long (0 : Int64)]) (HH I J R T) _
      show Zs _ _ (am_P 216).2 (34, [(0, .ref 73), (1, .int (0 : Int32))], [.long (0 : Int64)]) (HH I J R T) _
      refine Z_ret rfl rfl rfl ?_
      exact ⟨rfl, I, J, rfl, hn⟩
    · refine Z_jump 4 rfl ?_
      show Zs _ _ (am_P 216).2 (6, [(0, .ref 73), (1, .int (1 : Int32))], [.long (2 : Int64), .long (0 : Int64), .long (1 : Int64)]) (HH I J R T) _
      refine Z_c1 rfl rfl rfl (m_inI (v := 1) (a := 0) (b := 2) rfl rfl) ?_
      show Zs _ _ (am_P 216).2 (9, [(0, .ref 73), (1, .int (1 : Int32))], [.int (1 : Int32)]) (HH I J R T) _
      refine Z_jump 8 rfl ?_
      show Zs _ _ (am_P 216).2 (31, [(0, .ref 73), (1, .int (1 : Int32))], [.int (0 : Int32), .ref 73]) (HH I J R T) _
      refine Z_c1 rfl rfl rfl (m_edge0 hn) ?_
      show Zs _ _ (am_P 216).2 (34, [(0, .ref 73), (1, .int (1 : Int32))], [.long (0 : Int64)]) (HH I J R T) _
      show Zs _ _ (am_P 216).2 (34, [(0, .ref 73), (1, .int (1 : Int32))], [.long (0 : Int64)]) (HH I J R T) _
      refine Z_ret rfl rfl rfl ?_
      exact ⟨rfl, I, J, rfl, hn⟩
    · refine Z_jump 4 rfl ?_
      show Zs _ _ (am_P 216).2 (6, [(0, .ref 73), (1, .int (2 : Int32))], [.long (2 : Int64), .long (0 : Int64), .long (2 : Int64)]) (HH I J R T) _
      refine Z_c1 rfl rfl rfl (m_inI (v := 2) (a := 0) (b := 2) rfl rfl) ?_
      show Zs _ _ (am_P 216).2 (9, [(0, .ref 73), (1, .int (2 : Int32))], [.int (1 : Int32)]) (HH I J R T) _
      refine Z_jump 6 rfl ?_
      show Zs _ _ (am_P 216).2 (37, [(0, .ref 73), (1, .int (2 : Int32))], [.int (0 : Int32), .ref 73]) (HH I J R T) _
      refine Z_c1 rfl rfl rfl (m_edge0 hn) ?_
      show Zs _ _ (am_P 216).2 (40, [(0, .ref 73), (1, .int (2 : Int32))], [.long (0 : Int64)]) (HH I J R T) _
      refine Z_jump 17 rfl ?_
      show Zs _ _ (am_P 216).2 (69, [(0, .ref 73), (1, .int (2 : Int32)), (2, .long (0 : Int64)), (4, .int (1 : Int32))], [.long ((0 : Int64) + (1 : Int64)), .int (I 78 12), .ref 78, .ref 73]) (HH I J R T) _
      refine Z_cQ rfl rfl rfl (m_isShown0 (I := I) (J := J) hn) (fun v h1 hq => ?_)
      obtain ⟨rfl, I', J', rfl, hI, h0⟩ := hq
      have hn2 : I' 73 0 = 0 := (congrFun (hI 73 (by decide)) 0).trans hn
      show Zs _ _ (am_P 216).2 (72, [(0, .ref 73), (1, .int (2 : Int32)), (2, .long (0 : Int64)), (4, .int (1 : Int32))], [.int (if (0 : Int64) + (1 : Int64) = 0 then 1 else 0)]) (HH I' J' R T) _
      refine Z_jump 1 rfl ?_
      refine Z_bn (fun c72 => absurd ((show (if (0 : Int64) + (1 : Int64) = 0 then (1 : Int32) else 0) = 0 by decide)) c72) (fun c72 => ?_)
      refine Z_jump 4 rfl ?_
      show Zs _ _ (am_P 216).2 (80, [(0, .ref 73), (1, .int (2 : Int32)), (2, .long (0 : Int64)), (4, .int (1 : Int32))], [.long ((0 : Int64) + (1 : Int64))]) (HH I' J' R T) _
      refine Z_ret rfl rfl rfl ?_
      exact ⟨rfl, I', J', rfl, hn2⟩
  · refine Z_jump 4 rfl ?_
    show Zs _ _ (am_P 216).2 (6, [(0, .ref 73), (1, .int w)], [.long (2 : Int64), .long (0 : Int64), .long (Int32.toInt64 w)]) (HH I J R T) _
    refine Z_c1 rfl rfl rfl (m_inI (a := 0) (b := 2) rfl rfl) ?_
    show Zs _ _ (am_P 216).2 (9, [(0, .ref 73), (1, .int w)], [.int (if 0 ≤ w.toInt ∧ w.toInt ≤ 2 then 1 else 0)]) (HH I J R T) _
    refine Z_jump 1 rfl ?_
    refine Z_bn (fun c9 => absurd (if10.mpr hb) c9) (fun c9 => ?_)
    refine Z_jump 1 rfl ?_
    show Zs _ _ (am_P 216).2 (15, [(0, .ref 73), (1, .int w)], [.long (-3 : Int64)]) (HH I J R T) _
    refine Z_ret rfl rfl rfl ?_
    exact ⟨am_ll (if_neg hb).symm, I, J, rfl, hn⟩
theorem m_loosen0 {to : Int32} (hn : I 73 0 = 0) (hs : I 78 12 = 0) : Ze sc (d + 4) 218 [.ref 73, .int to] (HH I J R T) (M0p (.int (if M_num to then (if to = 0 then 0 else -1) else -3)) R T) := by
  refine Ze_of (Nat.le_of_ble_eq_true rfl) ?_
  refine Z_jump 1 rfl ?_
  show Zs _ _ (am_P 218).2 (1, [(0, .ref 73), (1, .int to)], [.int to]) (HH I J R T) _
  refine Z_c1 rfl rfl rfl (m_isNumber) ?_
  show Zs _ _ (am_P 218).2 (4, [(0, .ref 73), (1, .int to)], [.int (if 0 ≤ to.toInt ∧ to.toInt ≤ 1000000000 then 1 else 0)]) (HH I J R T) _
  refine Z_jump 1 rfl ?_
  refine Z_bn (fun (c4 : ¬ ((if 0 ≤ to.toInt ∧ to.toInt ≤ 1000000000 then 1 else 0) = (0 : Int32))) => ?_) (fun (c4 : (if 0 ≤ to.toInt ∧ to.toInt ≤ 1000000000 then 1 else 0) = (0 : Int32)) => ?_)
  · refine Z_jump 6 rfl ?_
    show Zs _ _ (am_P 218).2 (19, [(0, .ref 73), (1, .int to), (2, .int (-1 : Int32))], [.int (I 78 12)]) (HH I J R T) _
    refine Z_eqI (hs) ?_
    show Zs _ _ (am_P 218).2 (19, [(0, .ref 73), (1, .int to), (2, .int (-1 : Int32))], [.int (0 : Int32)]) (HH I J R T) _
    refine Z_jump 8 rfl ?_
    show Zs _ _ (am_P 218).2 (32, [(0, .ref 73), (1, .int to), (2, .int (-1 : Int32)), (3, .int (0 : Int32))], [.int (I 78 12), .int (0 : Int32)]) (HH I J R T) _
    refine Z_eqI (hs) ?_
    show Zs _ _ (am_P 218).2 (32, [(0, .ref 73), (1, .int to), (2, .int (-1 : Int32)), (3, .int (0 : Int32))], [.int (0 : Int32), .int (0 : Int32)]) (HH I J R T) _
    refine Z_jump 19 rfl ?_
    show Zs _ _ (am_P 218).2 (78, [(0, .ref 73), (1, .int to), (2, .int (-1 : Int32)), (3, .int (0 : Int32)), (4, .int (1 : Int32))], [.int (I 78 12), .ref 78, .ref 73]) (HH I J R T) _
    refine Z_eqI (hs) ?_
    show Zs _ _ (am_P 218).2 (78, [(0, .ref 73), (1, .int to), (2, .int (-1 : Int32)), (3, .int (0 : Int32)), (4, .int (1 : Int32))], [.int (0 : Int32), .ref 78, .ref 73]) (HH I J R T) _
    refine Z_jump 6 rfl ?_
    show Zs _ _ (am_P 218).2 (84, [(0, .ref 73), (1, .int to), (2, .int (-1 : Int32)), (3, .int (0 : Int32)), (4, .int (1 : Int32))], [.long (Int32.toInt64 to), .int (0 : Int32), .ref 78, .ref 73]) (HH I J R T) _
    refine Z_cQ rfl rfl rfl (m_isShown0 (I := I) (J := J) hn) (fun v h1 hq => ?_)
    obtain ⟨rfl, I', J', rfl, hI, h0⟩ := hq
    have hn2 : I' 73 0 = 0 := (congrFun (hI 73 (by decide)) 0).trans hn
    show Zs _ _ (am_P 218).2 (87, [(0, .ref 73), (1, .int to), (2, .int (-1 : Int32)), (3, .int (0 : Int32)), (4, .int (1 : Int32))], [.int (if to.toInt64 = 0 then 1 else 0)]) (HH I' J' R T) _
    refine Z_jump 1 rfl ?_
    refine Z_bd (fun (c87 : (if to.toInt64 = 0 then 1 else 0) = (0 : Int32)) => ?_) (fun (c87 : ¬ ((if to.toInt64 = 0 then 1 else 0) = (0 : Int32))) => ?_)
    · refine Z_jump 7 rfl ?_
      show Zs _ _ (am_P 218).2 (103, [(0, .ref 73), (1, .int to), (2, .int (-1 : Int32)), (3, .int (-1 : Int32)), (4, .int (1 : Int32))], [.int (-1 : Int32)]) (HH I' J' R T) _
      refine Z_rI rfl (by first | exact am_nw0 _ | exact am_nw01 | rfl | assumption) ?_
      exact ⟨am_ii (by rw [if_pos (if10n c4), if_neg (fun z => if10.mp c87 (i64_0.mpr z))]), I', J', rfl, hn2⟩
    · refine Z_jump 8 rfl ?_
      show Zs _ _ (am_P 218).2 (103, [(0, .ref 73), (1, .int to), (2, .int (0 : Int32)), (3, .int (-1 : Int32)), (4, .int (1 : Int32))], [.int (0 : Int32)]) (HH I' J' R T) _
      refine Z_rI rfl (by first | exact am_nw0 _ | exact am_nw01 | rfl | assumption) ?_
      exact ⟨am_ii (by rw [if_pos (if10n c4), if_pos (i64_0.mp (if10n c87))]), I', J', rfl, hn2⟩
  · refine Z_jump 1 rfl ?_
    show Zs _ _ (am_P 218).2 (9, [(0, .ref 73), (1, .int to)], [.int (-3 : Int32)]) (HH I J R T) _
    refine Z_rI rfl (by first | exact am_nw0 _ | exact am_nw01 | rfl | assumption) ?_
    exact ⟨am_ii (by rw [if_neg (if10.mp c4)]), I, J, rfl, hn⟩
theorem m_count0 {w : Int32} (hn : I 73 0 = 0) (h0 : ∀ a k, 73 ≤ a → I a k = 0) : am_E sc (d + 2) 228 [.ref 73, .int w] (HH I J R T) (some (.int (if 0 ≤ w.toInt ∧ w.toInt ≤ 7 then 0 else -3))) (HH I J R T) := by
  refine E_Z (Ze_of (Nat.le_of_ble_eq_true rfl) ?_)
  by_cases hb : 0 ≤ w.toInt ∧ w.toInt ≤ 7
  · obtain ⟨t, ht, rfl⟩ : ∃ t : Nat, t ≤ 7 ∧ w = nI t := by
      obtain ⟨j, hj, e⟩ := nI_of (x := w) (by rw [fi_lt]; have := hb.1; have z : (0 : Int32).toInt = 0 := rfl; omega)
      refine ⟨j, ?_, e⟩
      have := hb.2
      rw [e, nI_toInt hj] at this
      omega
    rw [if_pos hb]
    rcases (show t = 0 ∨ t = 1 ∨ t = 2 ∨ t = 3 ∨ t = 4 ∨ t = 5 ∨ t = 6 ∨ t = 7 by omega) with rfl | rfl | rfl | rfl | rfl | rfl | rfl | rfl
    · refine Z_jump 4 rfl ?_
      show Zs _ _ (am_P 228).2 (52, [(0, .ref 73), (1, .int (0 : Int32))], [.int (I 73 0)]) (HH I J R T) _
      refine Z_eqI (hn) ?_
      show Zs _ _ (am_P 228).2 (52, [(0, .ref 73), (1, .int (0 : Int32))], [.int (0 : Int32)]) (HH I J R T) _
      show Zs _ _ (am_P 228).2 (52, [(0, .ref 73), (1, .int (0 : Int32))], [.int (0 : Int32)]) (HH I J R T) _
      refine Z_rI rfl (by first | exact am_nw0 _ | exact am_nw01 | rfl | assumption) ?_
      exact ⟨rfl, rfl⟩
    · refine Z_jump 3 rfl ?_
      show Zs _ _ (am_P 228).2 (54, [(0, .ref 73), (1, .int (1 : Int32))], [.ref 73]) (HH I J R T) _
      refine Z_c1 rfl rfl rfl (m_allPushed (n := 0) hn (by omega)) ?_
      show Zs _ _ (am_P 228).2 (57, [(0, .ref 73), (1, .int (1 : Int32))], [.int (0 : Int32)]) (HH I J R T) _
      show Zs _ _ (am_P 228).2 (57, [(0, .ref 73), (1, .int (1 : Int32))], [.int (0 : Int32)]) (HH I J R T) _
      refine Z_rI rfl (by first | exact am_nw0 _ | exact am_nw01 | rfl | assumption) ?_
      exact ⟨rfl, rfl⟩
    · refine Z_jump 6 rfl ?_
      show Zs _ _ (am_P 228).2 (65, [(0, .ref 73), (1, .int (2 : Int32))], [.int (I 78 12)]) (HH I J R T) _
      refine Z_eqI (h0 _ _ (by decide)) ?_
      show Zs _ _ (am_P 228).2 (65, [(0, .ref 73), (1, .int (2 : Int32))], [.int (0 : Int32)]) (HH I J R T) _
      show Zs _ _ (am_P 228).2 (65, [(0, .ref 73), (1, .int (2 : Int32))], [.int (0 : Int32)]) (HH I J R T) _
      refine Z_rI rfl (by first | exact am_nw0 _ | exact am_nw01 | rfl | assumption) ?_
      exact ⟨rfl, rfl⟩
    · refine Z_jump 6 rfl ?_
      show Zs _ _ (am_P 228).2 (73, [(0, .ref 73), (1, .int (3 : Int32))], [.int (I 78 13)]) (HH I J R T) _
      refine Z_eqI (h0 _ _ (by decide)) ?_
      show Zs _ _ (am_P 228).2 (73, [(0, .ref 73), (1, .int (3 : Int32))], [.int (0 : Int32)]) (HH I J R T) _
      show Zs _ _ (am_P 228).2 (73, [(0, .ref 73), (1, .int (3 : Int32))], [.int (0 : Int32)]) (HH I J R T) _
      refine Z_rI rfl (by first | exact am_nw0 _ | exact am_nw01 | rfl | assumption) ?_
      exact ⟨rfl, rfl⟩
    · refine Z_jump 4 rfl ?_
      show Zs _ _ (am_P 228).2 (78, [(0, .ref 73), (1, .int (4 : Int32))], [.int (I 73 40)]) (HH I J R T) _
      refine Z_rI rfl (by first | exact am_nw0 _ | exact am_nw01 | rfl | assumption) ?_
      exact ⟨am_ii (h0 _ _ (by decide)), rfl⟩
    · refine Z_jump 4 rfl ?_
      show Zs _ _ (am_P 228).2 (83, [(0, .ref 73), (1, .int (5 : Int32))], [.int (I 73 35)]) (HH I J R T) _
      refine Z_rI rfl (by first | exact am_nw0 _ | exact am_nw01 | rfl | assumption) ?_
      exact ⟨am_ii (h0 _ _ (by decide)), rfl⟩
    · refine Z_jump 4 rfl ?_
      show Zs _ _ (am_P 228).2 (88, [(0, .ref 73), (1, .int (6 : Int32))], [.int (I 73 12)]) (HH I J R T) _
      refine Z_rI rfl (by first | exact am_nw0 _ | exact am_nw01 | rfl | assumption) ?_
      exact ⟨am_ii (h0 _ _ (by decide)), rfl⟩
    · refine Z_jump 10 rfl ?_
      refine Z_bd (fun c98 => ?_) (fun c98 => absurd ((show I 73 0 ≤ (0 : Int32) by rw [hn]; decide)) c98)
      refine Z_jump 1 rfl ?_
      show Zs _ _ (am_P 228).2 (136, [(0, .ref 73), (1, .int (7 : Int32)), (2, .int (0 : Int32)), (3, .int (0 : Int32))], [.int (0 : Int32)]) (HH I J R T) _
      refine Z_rI rfl (by first | exact am_nw0 _ | exact am_nw01 | rfl | assumption) ?_
      exact ⟨rfl, rfl⟩
  · refine Z_jump 1 rfl ?_
    show Zs _ _ (am_P 228).2 (1, [(0, .ref 73), (1, .int w)], [.int w]) (HH I J R T) _
    refine Z_tsO rfl (by omega) ?_
    show Zs _ _ (am_P 228).2 (137, [(0, .ref 73), (1, .int w)], []) (HH I J R T) _
    refine Z_jump 1 rfl ?_
    show Zs _ _ (am_P 228).2 (139, [(0, .ref 73), (1, .int w)], [.int (-3 : Int32)]) (HH I J R T) _
    refine Z_rI rfl (by first | exact am_nw0 _ | exact am_nw01 | rfl | assumption) ?_
    exact ⟨am_ii (if_neg hb).symm, rfl⟩
end M0c

