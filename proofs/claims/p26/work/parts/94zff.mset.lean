section ML6
variable {sc : Nat × (Nat → Int32)} {d : Nat} {R : hR} {T : am_H} {Q : Option Value → am_H → Prop}
theorem m_pu_a {I : hI} {J : hJ} {D : FD} {k : Nat} {v p : Int32} (hk : k < D.1) (h6 : D.1 ≤ 6) (hp : p = 0) (H : Q (some (.int (I 83 k))) (HH I J R T)) : Zs sc d (am_P 214).2 (63, [(0, .ref 73), (1, .int v), (2, .int (nI k)), (3, .int p)], [.ref 83]) (HH I J R T) Q := by
  refine Z_jump 2 rfl ?_
  refine Z_bn (fun c64 => absurd (hp) c64) (fun c64 => ?_)
  refine Z_jump 4 rfl ?_
  show Zs _ _ (am_P 214).2 (77, [(0, .ref 73), (1, .int v), (2, .int (nI k)), (3, .int p)], [.int ((0 : Int32) + (nI k)), .ref 83]) (HH I J R T) _
  refine Z_ialK (k) rfl rfl (nI_z k) (by omega) (by decide) ?_
  show Zs _ _ (am_P 214).2 (78, [(0, .ref 73), (1, .int v), (2, .int (nI k)), (3, .int p)], [.int (I 83 k)]) (HH I J R T) _
  show Zs _ _ (am_P 214).2 (78, [(0, .ref 73), (1, .int v), (2, .int (nI k)), (3, .int p)], [.int (I 83 k)]) (HH I J R T) _
  refine Z_rI rfl (by first | exact am_nw0 _ | exact am_nw01 | rfl | assumption) ?_
  exact H
theorem m_pu_b {I : hI} {J : hJ} {D : FD} {k : Nat} {v p : Int32} (hk : k < D.1) (h6 : D.1 ≤ 6) (hp : ¬ p = 0) (H : Q (some (.int (I 83 (6 + k)))) (HH I J R T)) : Zs sc d (am_P 214).2 (63, [(0, .ref 73), (1, .int v), (2, .int (nI k)), (3, .int p)], [.ref 83]) (HH I J R T) Q := by
  refine Z_jump 2 rfl ?_
  refine Z_bn (fun c64 => ?_) (fun c64 => absurd c64 (hp))
  refine Z_jump 3 rfl ?_
  show Zs _ _ (am_P 214).2 (77, [(0, .ref 73), (1, .int v), (2, .int (nI k)), (3, .int p)], [.int ((6 : Int32) + (nI k)), .ref 83]) (HH I J R T) _
  refine Z_ialK (6 + k) rfl rfl (nI_6 k) (by omega) (by decide) ?_
  show Zs _ _ (am_P 214).2 (78, [(0, .ref 73), (1, .int v), (2, .int (nI k)), (3, .int p)], [.int (I 83 (6 + k))]) (HH I J R T) _
  show Zs _ _ (am_P 214).2 (78, [(0, .ref 73), (1, .int v), (2, .int (nI k)), (3, .int p)], [.int (I 83 (6 + k))]) (HH I J R T) _
  refine Z_rI rfl (by first | exact am_nw0 _ | exact am_nw01 | rfl | assumption) ?_
  exact H
theorem DM_rm {I I2 : hI} {D : FD} {u m : Nat} (hD : DMf D I) (h : RMm u m I I2) : DMf D I2 := by
  refine ⟨?_, hD.2.1, ?_, fun k hk => ?_⟩
  · rw [h.2.2.1 0 (by decide) (by decide)]; exact hD.1
  · rw [h.2.2.1 7 (by decide) (by decide)]; exact hD.2.2.1
  · have q := hD.2.2.2 k hk
    exact ⟨q.1, by rw [h.1 _ (by decide) (by decide)]; exact q.2.1, (congrFun (h.1 _ (by decide) (by decide)) k).trans q.2.2.1, (congrFun (h.1 _ (by decide) (by decide)) k).trans q.2.2.2.1, (congrFun (h.1 _ (by decide) (by decide)) k).trans q.2.2.2.2⟩
theorem DMf_w {I : hI} {J : hJ} {D : FD} {o : Nat} {st : Int32} {to : Int64} (hD : DMf D I) : DMf D (isP I J D o st to).2.1 := DMf_9 hD (fun a ha => isP_I ha)
theorem m_set {I : hI} {J : hJ} {D : FD} {u m : Nat} {v : Int32} (hD : DMf D I) (hu : I 73 36 = nI u) (h8 : u < 8) (hm : I 73 35 = nI m) (hm8 : m ≤ 8) : Ze sc (d + 8) 205 [.ref 73, .int v] (HH I J R T) (fun r h => (¬ M_num v ∧ r = some (.int (-3)) ∧ h = HH I J R T) ∨
    (M_num v ∧ (isP I J D 78 (I 78 12) v.toInt64).1 = 0 ∧ r = some (.int (-4)) ∧ h = HH (isP I J D 78 (I 78 12) v.toInt64).2.1 (isP I J D 78 (I 78 12) v.toInt64).2.2 R T) ∨
    (M_num v ∧ ¬ (isP I J D 78 (I 78 12) v.toInt64).1 = 0 ∧ ∃ I2, RMm u m (isP I J D 78 (I 78 12) v.toInt64).2.1 I2 ∧ r = some (.int (seF I2 (isP I J D 78 (I 78 12) v.toInt64).2.2 D 78 v.toInt64).1) ∧ h = HH (seF I2 (isP I J D 78 (I 78 12) v.toInt64).2.2 D 78 v.toInt64).2.1 (seF I2 (isP I J D 78 (I 78 12) v.toInt64).2.2 D 78 v.toInt64).2.2 R T)) := by
  refine Ze_of (Nat.le_of_ble_eq_true rfl) ?_
  have hDw : DMf D (isP I J D 78 (I 78 12) v.toInt64).2.1 := DMf_w hD
  have hu' : (isP I J D 78 (I 78 12) v.toInt64).2.1 73 36 = nI u := (congrFun (isP_I (by decide)) _).trans hu
  have hm' : (isP I J D 78 (I 78 12) v.toInt64).2.1 73 35 = nI m := (congrFun (isP_I (by decide)) _).trans hm
  have hE := m_isShown (sc := sc) (d := d + 1) (R := R) (T := T) (J := J) (o := 78) (st := I 78 12) (due := v.toInt64) (by decide) hD
  generalize isP I J D 78 (I 78 12) v.toInt64 = w at hDw hu' hm' hE ⊢
  refine Z_jump 1 rfl ?_
  show Zs _ _ (am_P 205).2 (1, [(0, .ref 73), (1, .int v)], [.int v]) (HH I J R T) _
  by_cases b1 : M_num v
  · refine Z_c1 rfl rfl rfl (E_pos (m_isNumber) b1) ?_
    show Zs _ _ (am_P 205).2 (4, [(0, .ref 73), (1, .int v)], [.int (1 : Int32)]) (HH I J R T) _
    refine Z_jump 10 rfl ?_
    show Zs _ _ (am_P 205).2 (24, [(0, .ref 73), (1, .int v)], [.long (Int32.toInt64 v), .int (I 78 12), .ref 78, .ref 73]) (HH I J R T) _
    refine Z_c1 rfl rfl rfl (hE) ?_
    show Zs _ _ (am_P 205).2 (27, [(0, .ref 73), (1, .int v)], [.int w.1]) (HH w.2.1 w.2.2 R T) _
    refine Z_jump 1 rfl ?_
    refine Z_bn (fun (c27 : ¬ (w.1 = (0 : Int32))) => ?_) (fun (c27 : w.1 = (0 : Int32)) => ?_)
    · refine Z_jump 1 rfl ?_
      show Zs _ _ (am_P 205).2 (34, [(0, .ref 73), (1, .int v)], [.ref 73]) (HH w.2.1 w.2.2 R T) _
      refine Z_cQ rfl rfl rfl (Ze_deep (d := 1) (by omega) (m_remember (d := 0) hu' h8 hm' hm8)) (fun v h1 hq => ?_)
      obtain ⟨rfl, I2, rfl, hq⟩ := hq
      have hD2 : DMf D I2 := DM_rm hDw hq
      show Zs _ _ (am_P 205).2 (37, [(0, .ref 73), (1, .int v)], []) (HH I2 w.2.2 R T) _
      refine Z_jump 5 rfl ?_
      show Zs _ _ (am_P 205).2 (44, [(0, .ref 73), (1, .int v)], [.long (Int32.toInt64 v), .ref 78, .ref 73]) (HH I2 w.2.2 R T) _
      refine Z_c1 rfl rfl rfl (m_sets5 hD2) ?_
      show Zs _ _ (am_P 205).2 (47, [(0, .ref 73), (1, .int v)], [.int (seF I2 w.2.2 D 78 v.toInt64).1]) (HH (seF I2 w.2.2 D 78 v.toInt64).2.1 (seF I2 w.2.2 D 78 v.toInt64).2.2 R T) _
      show Zs _ _ (am_P 205).2 (47, [(0, .ref 73), (1, .int v)], [.int (seF I2 w.2.2 D 78 v.toInt64).1]) (HH (seF I2 w.2.2 D 78 v.toInt64).2.1 (seF I2 w.2.2 D 78 v.toInt64).2.2 R T) _
      refine Z_rI rfl (by first | exact am_nw0 _ | exact am_nw01 | rfl | assumption) ?_
      exact Or.inr (Or.inr ⟨b1, c27, I2, hq, rfl, rfl⟩)
    · refine Z_jump 1 rfl ?_
      show Zs _ _ (am_P 205).2 (32, [(0, .ref 73), (1, .int v)], [.int (-4 : Int32)]) (HH w.2.1 w.2.2 R T) _
      refine Z_rI rfl (by first | exact am_nw0 _ | exact am_nw01 | rfl | assumption) ?_
      exact Or.inr (Or.inl ⟨b1, c27, rfl, rfl⟩)
  · refine Z_c1 rfl rfl rfl (E_neg (m_isNumber) b1) ?_
    show Zs _ _ (am_P 205).2 (4, [(0, .ref 73), (1, .int v)], [.int (0 : Int32)]) (HH I J R T) _
    refine Z_jump 2 rfl ?_
    show Zs _ _ (am_P 205).2 (9, [(0, .ref 73), (1, .int v)], [.int (-3 : Int32)]) (HH I J R T) _
    refine Z_rI rfl (by first | exact am_nw0 _ | exact am_nw01 | rfl | assumption) ?_
    exact Or.inl ⟨b1, rfl, rfl⟩
end ML6

