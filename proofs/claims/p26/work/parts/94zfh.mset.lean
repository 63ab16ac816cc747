section ML6
variable {sc : Nat × (Nat → Int32)} {d : Nat} {R : hR} {T : am_H} {Q : Option Value → am_H → Prop}
def wyM (I : hI) (J : hJ) (D : FD) (v : Int32) : Int32 × hI × hJ := if M_num v then (if (isP I J D 78 (I 78 12) v.toInt64).1 = 0 then 0 else ((isP I J D 78 (I 78 12) v.toInt64).2.2 81 0).toInt32, (isP I J D 78 (I 78 12) v.toInt64).2) else (-3, I, J)
theorem m_ways {I : hI} {J : hJ} {D : FD} {v : Int32} (hD : DMf D I) : am_E sc (d + 7) 212 [.ref 73, .int v] (HH I J R T) (some (.int (wyM I J D v).1)) (HH (wyM I J D v).2.1 (wyM I J D v).2.2 R T) := by
  refine E_Z (Ze_of (Nat.le_of_ble_eq_true rfl) ?_)
  have hE := m_isShown (sc := sc) (d := d) (R := R) (T := T) (J := J) (o := 78) (st := I 78 12) (due := v.toInt64) (by decide) hD
  unfold wyM
  generalize isP I J D 78 (I 78 12) v.toInt64 = w at hE ⊢
  refine Z_jump 1 rfl ?_
  show Zs _ _ (am_P 212).2 (1, [(0, .ref 73), (1, .int v)], [.int v]) (HH I J R T) _
  by_cases b1 : M_num v
  · refine Z_c1 rfl rfl rfl (E_pos (m_isNumber) b1) ?_
    show Zs _ _ (am_P 212).2 (4, [(0, .ref 73), (1, .int v)], [.int (1 : Int32)]) (HH I J R T) _
    refine Z_jump 10 rfl ?_
    show Zs _ _ (am_P 212).2 (24, [(0, .ref 73), (1, .int v)], [.long (Int32.toInt64 v), .int (I 78 12), .ref 78, .ref 73]) (HH I J R T) _
    refine Z_c1 rfl rfl rfl (hE) ?_
    show Zs _ _ (am_P 212).2 (27, [(0, .ref 73), (1, .int v)], [.int w.1]) (HH w.2.1 w.2.2 R T) _
    refine Z_jump 1 rfl ?_
    refine Z_bd (fun (c27 : w.1 = (0 : Int32)) => ?_) (fun (c27 : ¬ (w.1 = (0 : Int32))) => ?_)
    · refine Z_jump 1 rfl ?_
      show Zs _ _ (am_P 212).2 (41, [(0, .ref 73), (1, .int v)], [.int (0 : Int32)]) (HH w.2.1 w.2.2 R T) _
      refine Z_rI rfl (by first | exact am_nw0 _ | exact am_nw01 | rfl | assumption) ?_
      rw [if_pos b1, if_pos c27]
      exact ⟨rfl, rfl⟩
    · refine Z_jump 6 rfl ?_
      show Zs _ _ (am_P 212).2 (41, [(0, .ref 73), (1, .int v)], [.int (Int64.toInt32 (w.2.2 81 0))]) (HH w.2.1 w.2.2 R T) _
      refine Z_rI rfl (by first | exact am_nw0 _ | exact am_nw01 | rfl | assumption) ?_
      rw [if_pos b1, if_neg c27]
      exact ⟨rfl, rfl⟩
  · refine Z_c1 rfl rfl rfl (E_neg (m_isNumber) b1) ?_
    show Zs _ _ (am_P 212).2 (4, [(0, .ref 73), (1, .int v)], [.int (0 : Int32)]) (HH I J R T) _
    refine Z_jump 2 rfl ?_
    show Zs _ _ (am_P 212).2 (9, [(0, .ref 73), (1, .int v)], [.int (-3 : Int32)]) (HH I J R T) _
    refine Z_rI rfl (by first | exact am_nw0 _ | exact am_nw01 | rfl | assumption) ?_
    rw [if_neg b1]
    exact ⟨rfl, rfl⟩
def tiM (I : hI) (J : hJ) (D : FD) (v : Int32) : Int32 × hI × hJ := if M_num v then (if (isP I J D 78 (I 78 12) v.toInt64).1 = 0 then -1 else (isP I J D 78 (I 78 12) v.toInt64).2.1 82 0, (isP I J D 78 (I 78 12) v.toInt64).2) else (-3, I, J)
theorem m_time {I : hI} {J : hJ} {D : FD} {v : Int32} (hD : DMf D I) : am_E sc (d + 7) 213 [.ref 73, .int v] (HH I J R T) (some (.int (tiM I J D v).1)) (HH (tiM I J D v).2.1 (tiM I J D v).2.2 R T) := by
  refine E_Z (Ze_of (Nat.le_of_ble_eq_true rfl) ?_)
  have hE := m_isShown (sc := sc) (d := d) (R := R) (T := T) (J := J) (o := 78) (st := I 78 12) (due := v.toInt64) (by decide) hD
  unfold tiM
  generalize isP I J D 78 (I 78 12) v.toInt64 = w at hE ⊢
  refine Z_jump 1 rfl ?_
  show Zs _ _ (am_P 213).2 (1, [(0, .ref 73), (1, .int v)], [.int v]) (HH I J R T) _
  by_cases b1 : M_num v
  · refine Z_c1 rfl rfl rfl (E_pos (m_isNumber) b1) ?_
    show Zs _ _ (am_P 213).2 (4, [(0, .ref 73), (1, .int v)], [.int (1 : Int32)]) (HH I J R T) _
    refine Z_jump 10 rfl ?_
    show Zs _ _ (am_P 213).2 (24, [(0, .ref 73), (1, .int v)], [.long (Int32.toInt64 v), .int (I 78 12), .ref 78, .ref 73]) (HH I J R T) _
    refine Z_c1 rfl rfl rfl (hE) ?_
    show Zs _ _ (am_P 213).2 (27, [(0, .ref 73), (1, .int v)], [.int w.1]) (HH w.2.1 w.2.2 R T) _
    refine Z_jump 1 rfl ?_
    refine Z_bd (fun (c27 : w.1 = (0 : Int32)) => ?_) (fun (c27 : ¬ (w.1 = (0 : Int32))) => ?_)
    · refine Z_jump 1 rfl ?_
      show Zs _ _ (am_P 213).2 (40, [(0, .ref 73), (1, .int v)], [.int (-1 : Int32)]) (HH w.2.1 w.2.2 R T) _
      refine Z_rI rfl (by first | exact am_nw0 _ | exact am_nw01 | rfl | assumption) ?_
      rw [if_pos b1, if_pos c27]
      exact ⟨rfl, rfl⟩
    · refine Z_jump 5 rfl ?_
      show Zs _ _ (am_P 213).2 (40, [(0, .ref 73), (1, .int v)], [.int (w.2.1 82 0)]) (HH w.2.1 w.2.2 R T) _
      refine Z_rI rfl (by first | exact am_nw0 _ | exact am_nw01 | rfl | assumption) ?_
      rw [if_pos b1, if_neg c27]
      exact ⟨rfl, rfl⟩
  · refine Z_c1 rfl rfl rfl (E_neg (m_isNumber) b1) ?_
    show Zs _ _ (am_P 213).2 (4, [(0, .ref 73), (1, .int v)], [.int (0 : Int32)]) (HH I J R T) _
    refine Z_jump 2 rfl ?_
    show Zs _ _ (am_P 213).2 (9, [(0, .ref 73), (1, .int v)], [.int (-3 : Int32)]) (HH I J R T) _
    refine Z_rI rfl (by first | exact am_nw0 _ | exact am_nw01 | rfl | assumption) ?_
    rw [if_neg b1]
    exact ⟨rfl, rfl⟩
def puW (J : hJ) (D : FD) (I : hI) : hI := duF J D 78 (I 78 12) D.1 0 0 I
theorem m_pushed {I : hI} {J : hJ} {D : FD} {v x p : Int32} (hD : DMf D I) : Ze sc (d + 7) 214 [.ref 73, .int v, .int x, .int p] (HH I J R T) (fun r h => (¬ (M_rod D.1 x ∧ (0 ≤ p.toInt ∧ p.toInt ≤ 1)) ∧ r = some (.int (-2)) ∧ h = HH I J R T) ∨ ((M_rod D.1 x ∧ (0 ≤ p.toInt ∧ p.toInt ≤ 1)) ∧ ¬ M_num v ∧ r = some (.int (-3)) ∧ h = HH I J R T) ∨
    (∃ k, k < D.1 ∧ x = nI k ∧ (0 ≤ p.toInt ∧ p.toInt ≤ 1) ∧ M_num v ∧ (isP I J D 78 (I 78 12) v.toInt64).1 = 0 ∧ r = some (.int (-1)) ∧ h = HH (isP I J D 78 (I 78 12) v.toInt64).2.1 (isP I J D 78 (I 78 12) v.toInt64).2.2 R T) ∨
    (∃ k, k < D.1 ∧ x = nI k ∧ (0 ≤ p.toInt ∧ p.toInt ≤ 1) ∧ M_num v ∧ ¬ (isP I J D 78 (I 78 12) v.toInt64).1 = 0 ∧ r = some (.int (if p = 0 then puW (isP I J D 78 (I 78 12) v.toInt64).2.2 D (isP I J D 78 (I 78 12) v.toInt64).2.1 83 k else puW (isP I J D 78 (I 78 12) v.toInt64).2.2 D (isP I J D 78 (I 78 12) v.toInt64).2.1 83 (6 + k))) ∧ h = HH (puW (isP I J D 78 (I 78 12) v.toInt64).2.2 D (isP I J D 78 (I 78 12) v.toInt64).2.1) (isP I J D 78 (I 78 12) v.toInt64).2.2 R T)) := by
  refine Ze_of (Nat.le_of_ble_eq_true rfl) ?_
  have h6 := hD.2.1
  have hE := m_isShown (sc := sc) (d := d) (R := R) (T := T) (J := J) (o := 78) (st := I 78 12) (due := v.toInt64) (by decide) hD
  have hDw : DMf D (isP I J D 78 (I 78 12) v.toInt64).2.1 := DMf_w hD
  have hU : ¬ (isP I J D 78 (I 78 12) v.toInt64).1 = 0 → DU (isP I J D 78 (I 78 12) v.toInt64).2.2 D := isP_DU
  generalize isP I J D 78 (I 78 12) v.toInt64 = w at hE hDw hU ⊢
  by_cases hr : M_rod D.1 x ∧ (0 ≤ p.toInt ∧ p.toInt ≤ 1)
  · obtain ⟨k, hk, hx⟩ := rod_n hr.1
    subst hx
    refine Z_jump 3 rfl ?_
    show Zs _ _ (am_P 214).2 (3, [(0, .ref 73), (1, .int v), (2, .int (nI k)), (3, .int p)], [.int p, .int (nI k), .ref 73]) (HH I J R T) _
    refine Z_c1 rfl rfl rfl (E_pos (m_isPart hD.1 hD.2.1) hr) ?_
    show Zs _ _ (am_P 214).2 (6, [(0, .ref 73), (1, .int v), (2, .int (nI k)), (3, .int p)], [.int (1 : Int32)]) (HH I J R T) _
    refine Z_jump 2 rfl ?_
    show Zs _ _ (am_P 214).2 (13, [(0, .ref 73), (1, .int v), (2, .int (nI k)), (3, .int p)], [.int v]) (HH I J R T) _
    by_cases b13 : M_num v
    · refine Z_c1 rfl rfl rfl (E_pos (m_isNumber) b13) ?_
      show Zs _ _ (am_P 214).2 (16, [(0, .ref 73), (1, .int v), (2, .int (nI k)), (3, .int p)], [.int (1 : Int32)]) (HH I J R T) _
      refine Z_jump 10 rfl ?_
      show Zs _ _ (am_P 214).2 (36, [(0, .ref 73), (1, .int v), (2, .int (nI k)), (3, .int p)], [.long (Int32.toInt64 v), .int (I 78 12), .ref 78, .ref 73]) (HH I J R T) _
      refine Z_c1 rfl rfl rfl (hE) ?_
      show Zs _ _ (am_P 214).2 (39, [(0, .ref 73), (1, .int v), (2, .int (nI k)), (3, .int p)], [.int w.1]) (HH w.2.1 w.2.2 R T) _
      refine Z_jump 1 rfl ?_
      refine Z_bn (fun (c39 : ¬ (w.1 = (0 : Int32))) => ?_) (fun (c39 : w.1 = (0 : Int32)) => ?_)
      · refine Z_jump 7 rfl ?_
        show Zs _ _ (am_P 214).2 (56, [(0, .ref 73), (1, .int v), (2, .int (nI k)), (3, .int p)], [.int (w.2.1 78 12), .ref 78, .ref 73]) (HH w.2.1 w.2.2 R T) _
        refine Z_c0 rfl rfl rfl (m_layDue (by decide) hDw (hU c39)) ?_
        show Zs _ _ (am_P 214).2 (59, [(0, .ref 73), (1, .int v), (2, .int (nI k)), (3, .int p)], []) (HH (puW w.2.2 D w.2.1) w.2.2 R T) _
        refine Z_jump 2 rfl ?_
        show Zs _ _ (am_P 214).2 (63, [(0, .ref 73), (1, .int v), (2, .int (nI k)), (3, .int p)], [.ref 83]) (HH (puW w.2.2 D w.2.1) w.2.2 R T) _
        by_cases hp : p = 0
        · exact m_pu_a hk h6 hp (Or.inr (Or.inr (Or.inr ⟨k, hk, rfl, hr.2, b13, c39, am_ii (if_pos hp).symm, rfl⟩)))
        · exact m_pu_b hk h6 hp (Or.inr (Or.inr (Or.inr ⟨k, hk, rfl, hr.2, b13, c39, am_ii (if_neg hp).symm, rfl⟩)))
      · refine Z_jump 1 rfl ?_
        show Zs _ _ (am_P 214).2 (43, [(0, .ref 73), (1, .int v), (2, .int (nI k)), (3, .int p)], [.int (-1 : Int32)]) (HH w.2.1 w.2.2 R T) _
        refine Z_rI rfl (by first | exact am_nw0 _ | exact am_nw01 | rfl | assumption) ?_
        exact Or.inr (Or.inr (Or.inl ⟨k, hk, rfl, hr.2, b13, c39, rfl, rfl⟩))
    · refine Z_c1 rfl rfl rfl (E_neg (m_isNumber) b13) ?_
      show Zs _ _ (am_P 214).2 (16, [(0, .ref 73), (1, .int v), (2, .int (nI k)), (3, .int p)], [.int (0 : Int32)]) (HH I J R T) _
      refine Z_jump 2 rfl ?_
      show Zs _ _ (am_P 214).2 (21, [(0, .ref 73), (1, .int v), (2, .int (nI k)), (3, .int p)], [.int (-3 : Int32)]) (HH I J R T) _
      refine Z_rI rfl (by first | exact am_nw0 _ | exact am_nw01 | rfl | assumption) ?_
      exact Or.inr (Or.inl ⟨hr, b13, rfl, rfl⟩)
  · refine Z_jump 3 rfl ?_
    show Zs _ _ (am_P 214).2 (3, [(0, .ref 73), (1, .int v), (2, .int x), (3, .int p)], [.int p, .int x, .ref 73]) (HH I J R T) _
    refine Z_c1 rfl rfl rfl (E_neg (m_isPart hD.1 hD.2.1) hr) ?_
    show Zs _ _ (am_P 214).2 (6, [(0, .ref 73), (1, .int v), (2, .int x), (3, .int p)], [.int (0 : Int32)]) (HH I J R T) _
    refine Z_jump 2 rfl ?_
    show Zs _ _ (am_P 214).2 (11, [(0, .ref 73), (1, .int v), (2, .int x), (3, .int p)], [.int (-2 : Int32)]) (HH I J R T) _
    refine Z_rI rfl (by first | exact am_nw0 _ | exact am_nw01 | rfl | assumption) ?_
    exact Or.inl ⟨hr, rfl, rfl⟩
end ML6

