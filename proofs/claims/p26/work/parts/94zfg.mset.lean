section ML6
variable {sc : Nat × (Nat → Int32)} {d : Nat} {R : hR} {T : am_H} {Q : Option Value → am_H → Prop}
def cpN (I : hI) : hI := va_up I 79 (fun j => if j < 14 then I 78 j else I 79 j)
theorem m_carry {I : hI} {J : hJ} {D : FD} {u m : Nat} {x : Int32} (hD : DMf D I) (hu : I 73 36 = nI u) (h8 : u < 8) (hm : I 73 35 = nI m) (hm8 : m ≤ 8) : Ze sc (d + 6) 207 [.ref 73, .int x] (HH I J R T) (fun r h => (¬ M_rod D.1 x ∧ r = some (.int (-2)) ∧ h = HH I J R T) ∨
    (∃ k, k < D.1 ∧ x = nI k ∧ (caF (cpN I) D 79 k).1 < 0 ∧ r = some (.int (-4)) ∧ h = HH (caF (cpN I) D 79 k).2 J R T) ∨
    (∃ k, k < D.1 ∧ x = nI k ∧ ¬ (caF (cpN I) D 79 k).1 < 0 ∧ ∃ I2, RMm u m (caF (cpN I) D 79 k).2 I2 ∧ r = some (.int (caF I2 D 78 k).1) ∧ h = HH (caF I2 D 78 k).2 J R T)) := by
  refine Ze_of (Nat.le_of_ble_eq_true rfl) ?_
  have hD1 : DMf D (cpN I) := DMf_of hD (up_ne (by decide)) (up_ne (by decide)) (up_ne (by decide)) (up_ne (by decide)) (up_ne (by decide))
  have c1 : ∀ a, a ≠ 79 → cpN I a = I a := fun a ha => up_ne ha
  by_cases hr : M_rod D.1 x
  · obtain ⟨k, hk, hx⟩ := rod_n hr
    have hDw : DMf D (caF (cpN I) D 79 k).2 := DMf_of hD1 (caF_c (by decide)) (caF_c (by decide)) (caF_c (by decide)) (caF_c (by decide)) (caF_c (by decide))
    have hu' : (caF (cpN I) D 79 k).2 73 36 = nI u := by rw [caF_c (by decide), c1 _ (by decide)]; exact hu
    have hm' : (caF (cpN I) D 79 k).2 73 35 = nI m := by rw [caF_c (by decide), c1 _ (by decide)]; exact hm
    refine Z_jump 2 rfl ?_
    show Zs _ _ (am_P 207).2 (2, [(0, .ref 73), (1, .int x)], [.int x, .ref 73]) (HH I J R T) _
    refine Z_c1 rfl rfl rfl (E_pos (m_isRodN hD.1 hD.2.1) hr) ?_
    show Zs _ _ (am_P 207).2 (5, [(0, .ref 73), (1, .int x)], [.int (1 : Int32)]) (HH I J R T) _
    refine Z_jump 2 rfl ?_
    show Zs _ _ (am_P 207).2 (12, [(0, .ref 73), (1, .int x)], [.ref 73]) (HH I J R T) _
    refine Z_c0 rfl rfl rfl (m_copyNow) ?_
    show Zs _ _ (am_P 207).2 (15, [(0, .ref 73), (1, .int x)], []) (HH (cpN I) J R T) _
    refine Z_jump 4 rfl ?_
    show Zs _ _ (am_P 207).2 (21, [(0, .ref 73), (1, .int x)], [.int x, .ref 79, .ref 73]) (HH (cpN I) J R T) _
    refine Z_c1 rfl rfl rfl (m_carries6 hD1 hx hk) ?_
    show Zs _ _ (am_P 207).2 (24, [(0, .ref 73), (1, .int x)], [.int (caF (cpN I) D 79 k).1]) (HH (caF (cpN I) D 79 k).2 J R T) _
    refine Z_jump 1 rfl ?_
    refine Z_bd (fun (c24 : (0 : Int32) ≤ (caF (cpN I) D 79 k).1) => ?_) (fun (c24 : ¬ ((0 : Int32) ≤ (caF (cpN I) D 79 k).1)) => ?_)
    · refine Z_jump 1 rfl ?_
      show Zs _ _ (am_P 207).2 (31, [(0, .ref 73), (1, .int x)], [.ref 73]) (HH (caF (cpN I) D 79 k).2 J R T) _
      refine Z_cQ rfl rfl rfl (Ze_deep (d := 1) (by omega) (m_remember (d := 0) hu' h8 hm' hm8)) (fun v h1 hq => ?_)
      obtain ⟨rfl, I2, rfl, hq⟩ := hq
      have hD2 : DMf D I2 := DM_rm hDw hq
      show Zs _ _ (am_P 207).2 (34, [(0, .ref 73), (1, .int x)], []) (HH I2 J R T) _
      refine Z_jump 4 rfl ?_
      show Zs _ _ (am_P 207).2 (40, [(0, .ref 73), (1, .int x)], [.int x, .ref 78, .ref 73]) (HH I2 J R T) _
      refine Z_c1 rfl rfl rfl (m_carries5 hD2 hx hk) ?_
      show Zs _ _ (am_P 207).2 (43, [(0, .ref 73), (1, .int x)], [.int (caF I2 D 78 k).1]) (HH (caF I2 D 78 k).2 J R T) _
      show Zs _ _ (am_P 207).2 (43, [(0, .ref 73), (1, .int x)], [.int (caF I2 D 78 k).1]) (HH (caF I2 D 78 k).2 J R T) _
      refine Z_rI rfl (by first | exact am_nw0 _ | exact am_nw01 | rfl | assumption) ?_
      exact Or.inr (Or.inr ⟨k, hk, hx, (by rw [fi_le] at c24; rw [fi_lt]; omega), I2, hq, rfl, rfl⟩)
    · refine Z_jump 1 rfl ?_
      show Zs _ _ (am_P 207).2 (29, [(0, .ref 73), (1, .int x)], [.int (-4 : Int32)]) (HH (caF (cpN I) D 79 k).2 J R T) _
      refine Z_rI rfl (by first | exact am_nw0 _ | exact am_nw01 | rfl | assumption) ?_
      exact Or.inr (Or.inl ⟨k, hk, hx, (by rw [fi_le] at c24; rw [fi_lt]; omega), rfl, rfl⟩)
  · refine Z_jump 2 rfl ?_
    show Zs _ _ (am_P 207).2 (2, [(0, .ref 73), (1, .int x)], [.int x, .ref 73]) (HH I J R T) _
    refine Z_c1 rfl rfl rfl (E_neg (m_isRodN hD.1 hD.2.1) hr) ?_
    show Zs _ _ (am_P 207).2 (5, [(0, .ref 73), (1, .int x)], [.int (0 : Int32)]) (HH I J R T) _
    refine Z_jump 2 rfl ?_
    show Zs _ _ (am_P 207).2 (10, [(0, .ref 73), (1, .int x)], [.int (-2 : Int32)]) (HH I J R T) _
    refine Z_rI rfl (by first | exact am_nw0 _ | exact am_nw01 | rfl | assumption) ?_
    exact Or.inl ⟨hr, rfl, rfl⟩
end ML6

