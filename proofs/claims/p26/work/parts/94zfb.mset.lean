section ML6
variable {sc : Nat × (Nat → Int32)} {d : Nat} {R : hR} {T : am_H} {Q : Option Value → am_H → Prop}
theorem m_carries5 {I : hI} {J : hJ} {D : FD} {r : Nat} {x : Int32} (hD : DMf D I) (hx : x = nI r) (hr : r < D.1) : am_E sc (d + 5) 172 [.ref 73, .ref 78, .int x] (HH I J R T) (some (.int (caF I D 78 r).1)) (HH (caF I D 78 r).2 J R T) := by
  refine E_Z (Ze_of (Nat.le_of_ble_eq_true rfl) ?_)
  have h6 := hD.2.1
  have hq := hD.2.2.2 r hr
  have eb : I 75 r = nI (D.2.1 r).2.1 := hq.2.2.1
  have e1 : nI r + 1 = nI (r + 1) := nI_1 r
  have en : I 73 0 - 1 = nI D.1 - 1 := by rw [hD.1]
  have i1 : (0 : Int32) + nI r + 1 = nI (r + 1) := by rw [nI_z]; exact e1
  have i2 : (6 : Int32) + nI r + 1 = nI (6 + r + 1) := by rw [nI_6]; exact nI_1 _
  subst hx
  unfold caF
  by_cases hl : nI r = nI D.1 - 1
  · by_cases hs : M_sh I 78 r < nI (D.2.1 r).2.1
    · rw [if_pos hs]
      refine Z_jump 3 rfl ?_
      show Zs _ _ (am_P 172).2 (3, [(0, .ref 73), (1, .ref 78), (2, .int (nI r))], [.int (nI r), .ref 78, .ref 73]) (HH I J R T) _
      refine Z_c1 rfl rfl rfl (m_shows (by decide) rfl (by omega)) ?_
      show Zs _ _ (am_P 172).2 (6, [(0, .ref 73), (1, .ref 78), (2, .int (nI r))], [.int (M_sh I 78 r)]) (HH I J R T) _
      refine Z_jump 3 rfl ?_
      show Zs _ _ (am_P 172).2 (11, [(0, .ref 73), (1, .ref 78), (2, .int (nI r))], [.int (nI r), .ref 75, .int (M_sh I 78 r)]) (HH I J R T) _
      refine Z_ialK (r) rfl rfl (rfl) (by omega) (by decide) ?_
      show Zs _ _ (am_P 172).2 (12, [(0, .ref 73), (1, .ref 78), (2, .int (nI r))], [.int (I 75 r), .int (M_sh I 78 r)]) (HH I J R T) _
      show Zs _ _ (am_P 172).2 (12, [(0, .ref 73), (1, .ref 78), (2, .int (nI r))], [.int (I 75 r), .int (M_sh I 78 r)]) (HH I J R T) _
      refine Z_eqI (y := (nI (D.2.1 r).2.1)) (eb) ?_
      show Zs _ _ (am_P 172).2 (12, [(0, .ref 73), (1, .ref 78), (2, .int (nI r))], [.int (nI (D.2.1 r).2.1), .int (M_sh I 78 r)]) (HH I J R T) _
      refine Z_jump 1 rfl ?_
      refine Z_bd (fun c12 => ?_) (fun c12 => absurd (hs) c12)
      refine Z_jump 1 rfl ?_
      show Zs _ _ (am_P 172).2 (26, [(0, .ref 73), (1, .ref 78), (2, .int (nI r))], [.int (-1 : Int32)]) (HH I J R T) _
      refine Z_rI rfl (by first | exact am_nw0 _ | exact am_nw01 | rfl | assumption) ?_
      exact ⟨rfl, rfl⟩
    · rw [if_neg hs, if_pos hl]
      refine Z_jump 3 rfl ?_
      show Zs _ _ (am_P 172).2 (3, [(0, .ref 73), (1, .ref 78), (2, .int (nI r))], [.int (nI r), .ref 78, .ref 73]) (HH I J R T) _
      refine Z_c1 rfl rfl rfl (m_shows (by decide) rfl (by omega)) ?_
      show Zs _ _ (am_P 172).2 (6, [(0, .ref 73), (1, .ref 78), (2, .int (nI r))], [.int (M_sh I 78 r)]) (HH I J R T) _
      refine Z_jump 3 rfl ?_
      show Zs _ _ (am_P 172).2 (11, [(0, .ref 73), (1, .ref 78), (2, .int (nI r))], [.int (nI r), .ref 75, .int (M_sh I 78 r)]) (HH I J R T) _
      refine Z_ialK (r) rfl rfl (rfl) (by omega) (by decide) ?_
      show Zs _ _ (am_P 172).2 (12, [(0, .ref 73), (1, .ref 78), (2, .int (nI r))], [.int (I 75 r), .int (M_sh I 78 r)]) (HH I J R T) _
      show Zs _ _ (am_P 172).2 (12, [(0, .ref 73), (1, .ref 78), (2, .int (nI r))], [.int (I 75 r), .int (M_sh I 78 r)]) (HH I J R T) _
      refine Z_eqI (y := (nI (D.2.1 r).2.1)) (eb) ?_
      show Zs _ _ (am_P 172).2 (12, [(0, .ref 73), (1, .ref 78), (2, .int (nI r))], [.int (nI (D.2.1 r).2.1), .int (M_sh I 78 r)]) (HH I J R T) _
      refine Z_jump 1 rfl ?_
      refine Z_bd (fun c12 => absurd c12 (hs)) (fun c12 => ?_)
      refine Z_jump 5 rfl ?_
      show Zs _ _ (am_P 172).2 (22, [(0, .ref 73), (1, .ref 78), (2, .int (nI r))], [.int ((I 73 0) - (1 : Int32)), .int (nI r)]) (HH I J R T) _
      refine Z_eqI (y := (nI D.1 - 1)) (en) ?_
      show Zs _ _ (am_P 172).2 (22, [(0, .ref 73), (1, .ref 78), (2, .int (nI r))], [.int (nI D.1 - 1), .int (nI r)]) (HH I J R T) _
      refine Z_jump 1 rfl ?_
      refine Z_bn (fun c22 => absurd (hl) c22) (fun c22 => ?_)
      refine Z_jump 1 rfl ?_
      show Zs _ _ (am_P 172).2 (26, [(0, .ref 73), (1, .ref 78), (2, .int (nI r))], [.int (-1 : Int32)]) (HH I J R T) _
      refine Z_rI rfl (by first | exact am_nw0 _ | exact am_nw01 | rfl | assumption) ?_
      exact ⟨rfl, rfl⟩
  · have hr2 : r + 1 < D.1 := by
      by_cases z : r + 1 < D.1
      · exact z
      · exact absurd (by rw [show D.1 = r + 1 by omega]; exact (nI_pred r).symm) hl
    have hD4 : ∀ a b : Int32, caI I 78 r a b 73 = I 73 := fun a b => by unfold caI; rw [sf_c (by decide), sf_c (by decide), sf_c (by decide), sf_c (by decide)]
    refine Z_jump 3 rfl ?_
    show Zs _ _ (am_P 172).2 (3, [(0, .ref 73), (1, .ref 78), (2, .int (nI r))], [.int (nI r), .ref 78, .ref 73]) (HH I J R T) _
    refine Z_c1 rfl rfl rfl (m_shows (by decide) rfl (by omega)) ?_
    show Zs _ _ (am_P 172).2 (6, [(0, .ref 73), (1, .ref 78), (2, .int (nI r))], [.int (M_sh I 78 r)]) (HH I J R T) _
    refine Z_jump 3 rfl ?_
    show Zs _ _ (am_P 172).2 (11, [(0, .ref 73), (1, .ref 78), (2, .int (nI r))], [.int (nI r), .ref 75, .int (M_sh I 78 r)]) (HH I J R T) _
    refine Z_ialK (r) rfl rfl (rfl) (by omega) (by decide) ?_
    show Zs _ _ (am_P 172).2 (12, [(0, .ref 73), (1, .ref 78), (2, .int (nI r))], [.int (I 75 r), .int (M_sh I 78 r)]) (HH I J R T) _
    show Zs _ _ (am_P 172).2 (12, [(0, .ref 73), (1, .ref 78), (2, .int (nI r))], [.int (I 75 r), .int (M_sh I 78 r)]) (HH I J R T) _
    refine Z_eqI (y := (nI (D.2.1 r).2.1)) (eb) ?_
    show Zs _ _ (am_P 172).2 (12, [(0, .ref 73), (1, .ref 78), (2, .int (nI r))], [.int (nI (D.2.1 r).2.1), .int (M_sh I 78 r)]) (HH I J R T) _
    refine Z_jump 1 rfl ?_
    refine Z_bd (fun (c12 : (M_sh I 78 r) < (nI (D.2.1 r).2.1)) => ?_) (fun (c12 : ¬ ((M_sh I 78 r) < (nI (D.2.1 r).2.1))) => ?_)
    · refine Z_jump 1 rfl ?_
      show Zs _ _ (am_P 172).2 (26, [(0, .ref 73), (1, .ref 78), (2, .int (nI r))], [.int (-1 : Int32)]) (HH I J R T) _
      refine Z_rI rfl (by first | exact am_nw0 _ | exact am_nw01 | rfl | assumption) ?_
      rw [if_pos c12]
      exact ⟨rfl, rfl⟩
    · refine Z_jump 5 rfl ?_
      show Zs _ _ (am_P 172).2 (22, [(0, .ref 73), (1, .ref 78), (2, .int (nI r))], [.int ((I 73 0) - (1 : Int32)), .int (nI r)]) (HH I J R T) _
      refine Z_eqI (y := (nI D.1 - 1)) (en) ?_
      show Zs _ _ (am_P 172).2 (22, [(0, .ref 73), (1, .ref 78), (2, .int (nI r))], [.int (nI D.1 - 1), .int (nI r)]) (HH I J R T) _
      refine Z_jump 1 rfl ?_
      refine Z_bn (fun c22 => ?_) (fun c22 => absurd c22 (hl))
      refine Z_jump 6 rfl ?_
      show Zs _ _ (am_P 172).2 (33, [(0, .ref 73), (1, .ref 78), (2, .int (nI r))], [.int (nI r), .ref 78, .ref 73, .int (nI r), .ref 78, .ref 73]) (HH I J R T) _
      refine Z_c1 rfl rfl rfl (m_shows (by decide) rfl (by omega)) ?_
      show Zs _ _ (am_P 172).2 (36, [(0, .ref 73), (1, .ref 78), (2, .int (nI r))], [.int (M_sh I 78 r), .int (nI r), .ref 78, .ref 73]) (HH I J R T) _
      refine Z_jump 3 rfl ?_
      show Zs _ _ (am_P 172).2 (41, [(0, .ref 73), (1, .ref 78), (2, .int (nI r))], [.int (nI r), .ref 75, .int (M_sh I 78 r), .int (nI r), .ref 78, .ref 73]) (HH I J R T) _
      refine Z_ialK (r) rfl rfl (rfl) (by omega) (by decide) ?_
      show Zs _ _ (am_P 172).2 (42, [(0, .ref 73), (1, .ref 78), (2, .int (nI r))], [.int (I 75 r), .int (M_sh I 78 r), .int (nI r), .ref 78, .ref 73]) (HH I J R T) _
      show Zs _ _ (am_P 172).2 (42, [(0, .ref 73), (1, .ref 78), (2, .int (nI r))], [.int (I 75 r), .int (M_sh I 78 r), .int (nI r), .ref 78, .ref 73]) (HH I J R T) _
      refine Z_eqI (y := (nI (D.2.1 r).2.1)) (eb) ?_
      show Zs _ _ (am_P 172).2 (42, [(0, .ref 73), (1, .ref 78), (2, .int (nI r))], [.int (nI (D.2.1 r).2.1), .int (M_sh I 78 r), .int (nI r), .ref 78, .ref 73]) (HH I J R T) _
      refine Z_jump 1 rfl ?_
      show Zs _ _ (am_P 172).2 (43, [(0, .ref 73), (1, .ref 78), (2, .int (nI r))], [.int ((M_sh I 78 r) - (nI (D.2.1 r).2.1)), .int (nI r), .ref 78, .ref 73]) (HH I J R T) _
      refine Z_c1 rfl rfl rfl (m_alone5 hD hr) ?_
      show Zs _ _ (am_P 172).2 (46, [(0, .ref 73), (1, .ref 78), (2, .int (nI r))], [.int (ca1 I D 78 r)]) (HH I J R T) _
      refine Z_jump 6 rfl ?_
      show Zs _ _ (am_P 172).2 (52, [(0, .ref 73), (1, .ref 78), (2, .int (nI r)), (3, .int (ca1 I D 78 r))], [.int ((nI r) + (1 : Int32)), .ref 78, .ref 73]) (HH I J R T) _
      refine Z_eqI (y := (nI (r + 1))) (e1) ?_
      show Zs _ _ (am_P 172).2 (52, [(0, .ref 73), (1, .ref 78), (2, .int (nI r)), (3, .int (ca1 I D 78 r))], [.int (nI (r + 1)), .ref 78, .ref 73]) (HH I J R T) _
      refine Z_jump 5 rfl ?_
      show Zs _ _ (am_P 172).2 (57, [(0, .ref 73), (1, .ref 78), (2, .int (nI r)), (3, .int (ca1 I D 78 r))], [.int ((nI r) + (1 : Int32)), .ref 78, .ref 73, .int (nI (r + 1)), .ref 78, .ref 73]) (HH I J R T) _
      refine Z_eqI (y := (nI (r + 1))) (e1) ?_
      show Zs _ _ (am_P 172).2 (57, [(0, .ref 73), (1, .ref 78), (2, .int (nI r)), (3, .int (ca1 I D 78 r))], [.int (nI (r + 1)), .ref 78, .ref 73, .int (nI (r + 1)), .ref 78, .ref 73]) (HH I J R T) _
      show Zs _ _ (am_P 172).2 (57, [(0, .ref 73), (1, .ref 78), (2, .int (nI r)), (3, .int (ca1 I D 78 r))], [.int (nI (r + 1)), .ref 78, .ref 73, .int (nI (r + 1)), .ref 78, .ref 73]) (HH I J R T) _
      refine Z_c1 rfl rfl rfl (m_shows (by decide) rfl (by omega)) ?_
      show Zs _ _ (am_P 172).2 (60, [(0, .ref 73), (1, .ref 78), (2, .int (nI r)), (3, .int (ca1 I D 78 r))], [.int (M_sh I 78 (r + 1)), .int (nI (r + 1)), .ref 78, .ref 73]) (HH I J R T) _
      refine Z_jump 2 rfl ?_
      show Zs _ _ (am_P 172).2 (62, [(0, .ref 73), (1, .ref 78), (2, .int (nI r)), (3, .int (ca1 I D 78 r))], [.int ((M_sh I 78 (r + 1)) + (1 : Int32)), .int (nI (r + 1)), .ref 78, .ref 73]) (HH I J R T) _
      refine Z_c1 rfl rfl rfl (m_alone5 hD hr2) ?_
      show Zs _ _ (am_P 172).2 (65, [(0, .ref 73), (1, .ref 78), (2, .int (nI r)), (3, .int (ca1 I D 78 r))], [.int (ca2 I D 78 r)]) (HH I J R T) _
      refine Z_jump 3 rfl ?_
      refine Z_bd (fun (c68 : (ca1 I D 78 r) < (0 : Int32)) => ?_) (fun (c68 : ¬ ((ca1 I D 78 r) < (0 : Int32))) => ?_)
      · refine Z_jump 1 rfl ?_
        show Zs _ _ (am_P 172).2 (77, [(0, .ref 73), (1, .ref 78), (2, .int (nI r)), (3, .int (ca1 I D 78 r)), (4, .int (ca2 I D 78 r))], [.int (-1 : Int32)]) (HH I J R T) _
        refine Z_rI rfl (by first | exact am_nw0 _ | exact am_nw01 | rfl | assumption) ?_
        rw [if_neg c12, if_neg hl]
        first | (rw [if_neg c68, if_pos c73]; exact ⟨rfl, rfl⟩) | (rw [if_neg c68, if_neg c73]; exact ⟨rfl, rfl⟩) | (rw [if_pos c68]; exact ⟨rfl, rfl⟩)
      · refine Z_jump 2 rfl ?_
        refine Z_bd (fun (c73 : (0 : Int32) ≤ (ca2 I D 78 r)) => ?_) (fun (c73 : ¬ ((0 : Int32) ≤ (ca2 I D 78 r))) => ?_)
        · refine Z_jump 6 rfl ?_
          show Zs _ _ (am_P 172).2 (85, [(0, .ref 73), (1, .ref 78), (2, .int (nI r)), (3, .int (ca1 I D 78 r)), (4, .int (ca2 I D 78 r))], [.int ((ca1 I D 78 r) - (ca1 I D 78 r) / (10 : Int32) * (10 : Int32)), .int (nI r), .ref 78, .ref 73]) (HH I J R T) _
          refine Z_eqI (y := (dL (ca1 I D 78 r))) (rfl) ?_
          show Zs _ _ (am_P 172).2 (85, [(0, .ref 73), (1, .ref 78), (2, .int (nI r)), (3, .int (ca1 I D 78 r)), (4, .int (ca2 I D 78 r))], [.int (dL (ca1 I D 78 r)), .int (nI r), .ref 78, .ref 73]) (HH I J R T) _
          refine Z_jump 3 rfl ?_
          show Zs _ _ (am_P 172).2 (89, [(0, .ref 73), (1, .ref 78), (2, .int (nI r)), (3, .int (ca1 I D 78 r)), (4, .int (ca2 I D 78 r))], [.int ((ca1 I D 78 r) / (10 : Int32)), .int (dL (ca1 I D 78 r)), .int (nI r), .ref 78, .ref 73]) (HH I J R T) _
          refine Z_eqI (y := (dH (ca1 I D 78 r))) (rfl) ?_
          show Zs _ _ (am_P 172).2 (89, [(0, .ref 73), (1, .ref 78), (2, .int (nI r)), (3, .int (ca1 I D 78 r)), (4, .int (ca2 I D 78 r))], [.int (dH (ca1 I D 78 r)), .int (dL (ca1 I D 78 r)), .int (nI r), .ref 78, .ref 73]) (HH I J R T) _
          show Zs _ _ (am_P 172).2 (89, [(0, .ref 73), (1, .ref 78), (2, .int (nI r)), (3, .int (ca1 I D 78 r)), (4, .int (ca2 I D 78 r))], [.int (dH (ca1 I D 78 r)), .int (dL (ca1 I D 78 r)), .int (nI r), .ref 78, .ref 73]) (HH I J R T) _
          refine Z_c1 rfl rfl rfl (m_change (by decide) rfl (by omega)) ?_
          show Zs _ _ (am_P 172).2 (92, [(0, .ref 73), (1, .ref 78), (2, .int (nI r)), (3, .int (ca1 I D 78 r)), (4, .int (ca2 I D 78 r))], [.int (M_ch I 78 r (dL (ca1 I D 78 r)) (dH (ca1 I D 78 r)))]) (HH I J R T) _
          refine Z_jump 5 rfl ?_
          show Zs _ _ (am_P 172).2 (97, [(0, .ref 73), (1, .ref 78), (2, .int (nI r)), (3, .int (ca1 I D 78 r)), (4, .int (ca2 I D 78 r))], [.int ((nI r) + (1 : Int32)), .ref 78, .ref 73, .int (M_ch I 78 r (dL (ca1 I D 78 r)) (dH (ca1 I D 78 r)))]) (HH I J R T) _
          refine Z_eqI (y := (nI (r + 1))) (e1) ?_
          show Zs _ _ (am_P 172).2 (97, [(0, .ref 73), (1, .ref 78), (2, .int (nI r)), (3, .int (ca1 I D 78 r)), (4, .int (ca2 I D 78 r))], [.int (nI (r + 1)), .ref 78, .ref 73, .int (M_ch I 78 r (dL (ca1 I D 78 r)) (dH (ca1 I D 78 r)))]) (HH I J R T) _
          refine Z_jump 3 rfl ?_
          show Zs _ _ (am_P 172).2 (102, [(0, .ref 73), (1, .ref 78), (2, .int (nI r)), (3, .int (ca1 I D 78 r)), (4, .int (ca2 I D 78 r))], [.int ((ca2 I D 78 r) - (ca2 I D 78 r) / (10 : Int32) * (10 : Int32)), .int (nI (r + 1)), .ref 78, .ref 73, .int (M_ch I 78 r (dL (ca1 I D 78 r)) (dH (ca1 I D 78 r)))]) (HH I J R T) _
          refine Z_eqI (y := (dL (ca2 I D 78 r))) (rfl) ?_
          show Zs _ _ (am_P 172).2 (102, [(0, .ref 73), (1, .ref 78), (2, .int (nI r)), (3, .int (ca1 I D 78 r)), (4, .int (ca2 I D 78 r))], [.int (dL (ca2 I D 78 r)), .int (nI (r + 1)), .ref 78, .ref 73, .int (M_ch I 78 r (dL (ca1 I D 78 r)) (dH (ca1 I D 78 r)))]) (HH I J R T) _
          refine Z_jump 3 rfl ?_
          show Zs _ _ (am_P 172).2 (107, [(0, .ref 73), (1, .ref 78), (2, .int (nI r)), (3, .int (ca1 I D 78 r)), (4, .int (ca2 I D 78 r))], [.int ((ca2 I D 78 r) / (10 : Int32)), .int (dL (ca2 I D 78 r)), .int (nI (r + 1)), .ref 78, .ref 73, .int (M_ch I 78 r (dL (ca1 I D 78 r)) (dH (ca1 I D 78 r)))]) (HH I J R T) _
          refine Z_eqI (y := (dH (ca2 I D 78 r))) (rfl) ?_
          show Zs _ _ (am_P 172).2 (107, [(0, .ref 73), (1, .ref 78), (2, .int (nI r)), (3, .int (ca1 I D 78 r)), (4, .int (ca2 I D 78 r))], [.int (dH (ca2 I D 78 r)), .int (dL (ca2 I D 78 r)), .int (nI (r + 1)), .ref 78, .ref 73, .int (M_ch I 78 r (dL (ca1 I D 78 r)) (dH (ca1 I D 78 r)))]) (HH I J R T) _
          show Zs _ _ (am_P 172).2 (107, [(0, .ref 73), (1, .ref 78), (2, .int (nI r)), (3, .int (ca1 I D 78 r)), (4, .int (ca2 I D 78 r))], [.int (dH (ca2 I D 78 r)), .int (dL (ca2 I D 78 r)), .int (nI (r + 1)), .ref 78, .ref 73, .int (M_ch I 78 r (dL (ca1 I D 78 r)) (dH (ca1 I D 78 r)))]) (HH I J R T) _
          refine Z_c1 rfl rfl rfl (m_change (by decide) rfl (by omega)) ?_
          show Zs _ _ (am_P 172).2 (110, [(0, .ref 73), (1, .ref 78), (2, .int (nI r)), (3, .int (ca1 I D 78 r)), (4, .int (ca2 I D 78 r))], [.int (M_ch I 78 (r + 1) (dL (ca2 I D 78 r)) (dH (ca2 I D 78 r))), .int (M_ch I 78 r (dL (ca1 I D 78 r)) (dH (ca1 I D 78 r)))]) (HH I J R T) _
          refine Z_jump 1 rfl ?_
          show Zs _ _ (am_P 172).2 (111, [(0, .ref 73), (1, .ref 78), (2, .int (nI r)), (3, .int (ca1 I D 78 r)), (4, .int (ca2 I D 78 r))], [.int ((M_ch I 78 r (dL (ca1 I D 78 r)) (dH (ca1 I D 78 r))) + (M_ch I 78 (r + 1) (dL (ca2 I D 78 r)) (dH (ca2 I D 78 r))))]) (HH I J R T) _
          refine Z_eqI (y := (caT I D 78 r)) (rfl) ?_
          show Zs _ _ (am_P 172).2 (111, [(0, .ref 73), (1, .ref 78), (2, .int (nI r)), (3, .int (ca1 I D 78 r)), (4, .int (ca2 I D 78 r))], [.int (caT I D 78 r)]) (HH I J R T) _
          refine Z_jump 8 rfl ?_
          show Zs _ _ (am_P 172).2 (121, [(0, .ref 73), (1, .ref 78), (2, .int (nI r)), (3, .int (ca1 I D 78 r)), (4, .int (ca2 I D 78 r)), (5, .int (caT I D 78 r))], [.int ((ca1 I D 78 r) - (ca1 I D 78 r) / (10 : Int32) * (10 : Int32)), .int ((0 : Int32) + (nI r)), .ref 78]) (HH I J R T) _
          refine Z_eqI (y := (dL (ca1 I D 78 r))) (rfl) ?_
          show Zs _ _ (am_P 172).2 (121, [(0, .ref 73), (1, .ref 78), (2, .int (nI r)), (3, .int (ca1 I D 78 r)), (4, .int (ca2 I D 78 r)), (5, .int (caT I D 78 r))], [.int (dL (ca1 I D 78 r)), .int ((0 : Int32) + (nI r)), .ref 78]) (HH I J R T) _
          show Zs _ _ (am_P 172).2 (121, [(0, .ref 73), (1, .ref 78), (2, .int (nI r)), (3, .int (ca1 I D 78 r)), (4, .int (ca2 I D 78 r)), (5, .int (caT I D 78 r))], [.int (dL (ca1 I D 78 r)), .int ((0 : Int32) + (nI r)), .ref 78]) (HH I J R T) _
          refine Z_iasK (r) rfl rfl (nI_z r) (by omega) (by decide) ?_
          show Zs _ _ (am_P 172).2 (122, [(0, .ref 73), (1, .ref 78), (2, .int (nI r)), (3, .int (ca1 I D 78 r)), (4, .int (ca2 I D 78 r)), (5, .int (caT I D 78 r))], []) (HH (sf I 78 r (dL (ca1 I D 78 r))) J R T) _
          refine Z_jump 7 rfl ?_
          show Zs _ _ (am_P 172).2 (131, [(0, .ref 73), (1, .ref 78), (2, .int (nI r)), (3, .int (ca1 I D 78 r)), (4, .int (ca2 I D 78 r)), (5, .int (caT I D 78 r))], [.int ((ca1 I D 78 r) / (10 : Int32)), .int ((6 : Int32) + (nI r)), .ref 78]) (HH (sf I 78 r (dL (ca1 I D 78 r))) J R T) _
          refine Z_eqI (y := (dH (ca1 I D 78 r))) (rfl) ?_
          show Zs _ _ (am_P 172).2 (131, [(0, .ref 73), (1, .ref 78), (2, .int (nI r)), (3, .int (ca1 I D 78 r)), (4, .int (ca2 I D 78 r)), (5, .int (caT I D 78 r))], [.int (dH (ca1 I D 78 r)), .int ((6 : Int32) + (nI r)), .ref 78]) (HH (sf I 78 r (dL (ca1 I D 78 r))) J R T) _
          show Zs _ _ (am_P 172).2 (131, [(0, .ref 73), (1, .ref 78), (2, .int (nI r)), (3, .int (ca1 I D 78 r)), (4, .int (ca2 I D 78 r)), (5, .int (caT I D 78 r))], [.int (dH (ca1 I D 78 r)), .int ((6 : Int32) + (nI r)), .ref 78]) (HH (sf I 78 r (dL (ca1 I D 78 r))) J R T) _
          refine Z_iasK (6 + r) rfl rfl (nI_6 r) (by omega) (by decide) ?_
          show Zs _ _ (am_P 172).2 (132, [(0, .ref 73), (1, .ref 78), (2, .int (nI r)), (3, .int (ca1 I D 78 r)), (4, .int (ca2 I D 78 r)), (5, .int (caT I D 78 r))], []) (HH (sf (sf I 78 r (dL (ca1 I D 78 r))) 78 (6 + r) (dH (ca1 I D 78 r))) J R T) _
          refine Z_jump 9 rfl ?_
          show Zs _ _ (am_P 172).2 (143, [(0, .ref 73), (1, .ref 78), (2, .int (nI r)), (3, .int (ca1 I D 78 r)), (4, .int (ca2 I D 78 r)), (5, .int (caT I D 78 r))], [.int ((ca2 I D 78 r) - (ca2 I D 78 r) / (10 : Int32) * (10 : Int32)), .int (((0 : Int32) + (nI r)) + (1 : Int32)), .ref 78]) (HH (sf (sf I 78 r (dL (ca1 I D 78 r))) 78 (6 + r) (dH (ca1 I D 78 r))) J R T) _
          refine Z_eqI (y := (dL (ca2 I D 78 r))) (rfl) ?_
          show Zs _ _ (am_P 172).2 (143, [(0, .ref 73), (1, .ref 78), (2, .int (nI r)), (3, .int (ca1 I D 78 r)), (4, .int (ca2 I D 78 r)), (5, .int (caT I D 78 r))], [.int (dL (ca2 I D 78 r)), .int (((0 : Int32) + (nI r)) + (1 : Int32)), .ref 78]) (HH (sf (sf I 78 r (dL (ca1 I D 78 r))) 78 (6 + r) (dH (ca1 I D 78 r))) J R T) _
          show Zs _ _ (am_P 172).2 (143, [(0, .ref 73), (1, .ref 78), (2, .int (nI r)), (3, .int (ca1 I D 78 r)), (4, .int (ca2 I D 78 r)), (5, .int (caT I D 78 r))], [.int (dL (ca2 I D 78 r)), .int (((0 : Int32) + (nI r)) + (1 : Int32)), .ref 78]) (HH (sf (sf I 78 r (dL (ca1 I D 78 r))) 78 (6 + r) (dH (ca1 I D 78 r))) J R T) _
          refine Z_iasK (r + 1) rfl rfl (i1) (by omega) (by decide) ?_
          show Zs _ _ (am_P 172).2 (144, [(0, .ref 73), (1, .ref 78), (2, .int (nI r)), (3, .int (ca1 I D 78 r)), (4, .int (ca2 I D 78 r)), (5, .int (caT I D 78 r))], []) (HH (sf (sf (sf I 78 r (dL (ca1 I D 78 r))) 78 (6 + r) (dH (ca1 I D 78 r))) 78 (r + 1) (dL (ca2 I D 78 r))) J R T) _
          refine Z_jump 9 rfl ?_
          show Zs _ _ (am_P 172).2 (156, [(0, .ref 73), (1, .ref 78), (2, .int (nI r)), (3, .int (ca1 I D 78 r)), (4, .int (ca2 I D 78 r)), (5, .int (caT I D 78 r))], [.int ((ca2 I D 78 r) / (10 : Int32)), .int (((6 : Int32) + (nI r)) + (1 : Int32)), .ref 78]) (HH (sf (sf (sf I 78 r (dL (ca1 I D 78 r))) 78 (6 + r) (dH (ca1 I D 78 r))) 78 (r + 1) (dL (ca2 I D 78 r))) J R T) _
          refine Z_eqI (y := (dH (ca2 I D 78 r))) (rfl) ?_
          show Zs _ _ (am_P 172).2 (156, [(0, .ref 73), (1, .ref 78), (2, .int (nI r)), (3, .int (ca1 I D 78 r)), (4, .int (ca2 I D 78 r)), (5, .int (caT I D 78 r))], [.int (dH (ca2 I D 78 r)), .int (((6 : Int32) + (nI r)) + (1 : Int32)), .ref 78]) (HH (sf (sf (sf I 78 r (dL (ca1 I D 78 r))) 78 (6 + r) (dH (ca1 I D 78 r))) 78 (r + 1) (dL (ca2 I D 78 r))) J R T) _
          show Zs _ _ (am_P 172).2 (156, [(0, .ref 73), (1, .ref 78), (2, .int (nI r)), (3, .int (ca1 I D 78 r)), (4, .int (ca2 I D 78 r)), (5, .int (caT I D 78 r))], [.int (dH (ca2 I D 78 r)), .int (((6 : Int32) + (nI r)) + (1 : Int32)), .ref 78]) (HH (sf (sf (sf I 78 r (dL (ca1 I D 78 r))) 78 (6 + r) (dH (ca1 I D 78 r))) 78 (r + 1) (dL (ca2 I D 78 r))) J R T) _
          refine Z_iasK (6 + r + 1) rfl rfl (i2) (by omega) (by decide) ?_
          show Zs _ _ (am_P 172).2 (157, [(0, .ref 73), (1, .ref 78), (2, .int (nI r)), (3, .int (ca1 I D 78 r)), (4, .int (ca2 I D 78 r)), (5, .int (caT I D 78 r))], []) (HH (sf (sf (sf (sf I 78 r (dL (ca1 I D 78 r))) 78 (6 + r) (dH (ca1 I D 78 r))) 78 (r + 1) (dL (ca2 I D 78 r))) 78 (6 + r + 1) (dH (ca2 I D 78 r))) J R T) _
          refine Z_jump 7 rfl ?_
          show Zs _ _ (am_P 172).2 (167, [(0, .ref 73), (1, .ref 78), (2, .int (nI r)), (3, .int (ca1 I D 78 r)), (4, .int (ca2 I D 78 r)), (5, .int (caT I D 78 r))], [.int (((sf (sf (sf (sf I 78 r (dL (ca1 I D 78 r))) 78 (6 + r) (dH (ca1 I D 78 r))) 78 (r + 1) (dL (ca2 I D 78 r))) 78 (6 + r + 1) (dH (ca2 I D 78 r))) 78 13) + (caT I D 78 r)), .int (13 : Int32), .ref 78]) (HH (sf (sf (sf (sf I 78 r (dL (ca1 I D 78 r))) 78 (6 + r) (dH (ca1 I D 78 r))) 78 (r + 1) (dL (ca2 I D 78 r))) 78 (6 + r + 1) (dH (ca2 I D 78 r))) J R T) _
          refine Z_c1 rfl rfl rfl (m_counted) ?_
          show Zs _ _ (am_P 172).2 (170, [(0, .ref 73), (1, .ref 78), (2, .int (nI r)), (3, .int (ca1 I D 78 r)), (4, .int (ca2 I D 78 r)), (5, .int (caT I D 78 r))], [.int (cap ((sf (sf (sf (sf I 78 r (dL (ca1 I D 78 r))) 78 (6 + r) (dH (ca1 I D 78 r))) 78 (r + 1) (dL (ca2 I D 78 r))) 78 (6 + r + 1) (dH (ca2 I D 78 r))) 78 13 + caT I D 78 r)), .int (13 : Int32), .ref 78]) (HH (sf (sf (sf (sf I 78 r (dL (ca1 I D 78 r))) 78 (6 + r) (dH (ca1 I D 78 r))) 78 (r + 1) (dL (ca2 I D 78 r))) 78 (6 + r + 1) (dH (ca2 I D 78 r))) J R T) _
          refine Z_jump 1 rfl ?_
          show Zs _ _ (am_P 172).2 (171, [(0, .ref 73), (1, .ref 78), (2, .int (nI r)), (3, .int (ca1 I D 78 r)), (4, .int (ca2 I D 78 r)), (5, .int (caT I D 78 r))], []) (HH (sf (sf (sf (sf (sf I 78 r (dL (ca1 I D 78 r))) 78 (6 + r) (dH (ca1 I D 78 r))) 78 (r + 1) (dL (ca2 I D 78 r))) 78 (6 + r + 1) (dH (ca2 I D 78 r))) 78 13 (cap ((sf (sf (sf (sf I 78 r (dL (ca1 I D 78 r))) 78 (6 + r) (dH (ca1 I D 78 r))) 78 (r + 1) (dL (ca2 I D 78 r))) 78 (6 + r + 1) (dH (ca2 I D 78 r))) 78 13 + caT I D 78 r))) J R T) _
          refine Z_jump 1 rfl ?_
          show Zs _ _ (am_P 172).2 (173, [(0, .ref 73), (1, .ref 78), (2, .int (nI r)), (3, .int (ca1 I D 78 r)), (4, .int (ca2 I D 78 r)), (5, .int (caT I D 78 r))], [.int (caT I D 78 r)]) (HH (sf (sf (sf (sf (sf I 78 r (dL (ca1 I D 78 r))) 78 (6 + r) (dH (ca1 I D 78 r))) 78 (r + 1) (dL (ca2 I D 78 r))) 78 (6 + r + 1) (dH (ca2 I D 78 r))) 78 13 (cap ((sf (sf (sf (sf I 78 r (dL (ca1 I D 78 r))) 78 (6 + r) (dH (ca1 I D 78 r))) 78 (r + 1) (dL (ca2 I D 78 r))) 78 (6 + r + 1) (dH (ca2 I D 78 r))) 78 13 + caT I D 78 r))) J R T) _
          refine Z_rI rfl (by first | exact am_nw0 _ | exact am_nw01 | rfl | assumption) ?_
          rw [if_neg c12, if_neg hl]
          first | (rw [if_neg c68, if_pos c73]; exact ⟨rfl, rfl⟩) | (rw [if_neg c68, if_neg c73]; exact ⟨rfl, rfl⟩) | (rw [if_pos c68]; exact ⟨rfl, rfl⟩)
        · refine Z_jump 1 rfl ?_
          show Zs _ _ (am_P 172).2 (77, [(0, .ref 73), (1, .ref 78), (2, .int (nI r)), (3, .int (ca1 I D 78 r)), (4, .int (ca2 I D 78 r))], [.int (-1 : Int32)]) (HH I J R T) _
          refine Z_rI rfl (by first | exact am_nw0 _ | exact am_nw01 | rfl | assumption) ?_
          rw [if_neg c12, if_neg hl]
          first | (rw [if_neg c68, if_pos c73]; exact ⟨rfl, rfl⟩) | (rw [if_neg c68, if_neg c73]; exact ⟨rfl, rfl⟩) | (rw [if_pos c68]; exact ⟨rfl, rfl⟩)
end ML6

