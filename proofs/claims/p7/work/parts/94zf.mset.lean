/-! The reference: carries, clears; set, carry, ways, time, pushed. -/
section ML6
variable {sc : Nat × (Nat → Int32)} {d : Nat} {R : hR} {T : am_H} {Q : Option Value → am_H → Prop}
def ca1 (I : hI) (D : FD) (o r : Nat) : Int32 := alF I D o r (M_sh I o r - nI (D.2.1 r).2.1)
def ca2 (I : hI) (D : FD) (o r : Nat) : Int32 := alF I D o (r + 1) (M_sh I o (r + 1) + 1)
def caT (I : hI) (D : FD) (o r : Nat) : Int32 := M_ch I o r (dL (ca1 I D o r)) (dH (ca1 I D o r)) + M_ch I o (r + 1) (dL (ca2 I D o r)) (dH (ca2 I D o r))
def caI (I : hI) (o r : Nat) (a b : Int32) : hI := sf (sf (sf (sf I o r (dL a)) o (6 + r) (dH a)) o (r + 1) (dL b)) o (6 + r + 1) (dH b)
def caF (I : hI) (D : FD) (o r : Nat) : Int32 × hI :=
  if M_sh I o r < nI (D.2.1 r).2.1 then (-1, I) else if nI r = nI D.1 - 1 then (-1, I) else if ca1 I D o r < 0 then (-1, I) else if 0 ≤ ca2 I D o r then
    (caT I D o r, sf (caI I o r (ca1 I D o r) (ca2 I D o r)) o 13 (cap (caI I o r (ca1 I D o r) (ca2 I D o r) o 13 + caT I D o r)))
  else (-1, I)
theorem caF_c {I : hI} {D : FD} {o r a : Nat} (h : a ≠ o) : (caF I D o r).2 a = I a := by
  unfold caF
  split
  · rfl
  · split
    · rfl
    · split
      · rfl
      · split
        · show sf _ o 13 _ a = _
          unfold caI
          rw [sf_c h, sf_c h, sf_c h, sf_c h, sf_c h]
        · rfl
def cLo (I : hI) (o r : Nat) : Int32 := if M_bit (I o 12) (nI r) 0 then I o r else 0
def cHi (I : hI) (o r : Nat) : Int32 := if M_bit (I o 12) (nI r) 1 then I o (6 + r) else 0
def clI (I : hI) (o r : Nat) : hI := sf (sf I o r (cLo I o r)) o (6 + r) (cHi I o r)
def cll (o : Nat) : Nat → Nat → Int32 → hI → Int32 × hI
  | 0, _, t, I => (t, I)
  | n + 1, r, t, I => cll o n (r + 1) (t + M_ch I o r (cLo I o r) (cHi I o r)) (clI I o r)
def clF (I : hI) (o n : Nat) : hI := sf (cll o n 0 0 I).2 o 13 (cap ((cll o n 0 0 I).2 o 13 + (cll o n 0 0 I).1))
theorem cll_c {o a : Nat} (h : a ≠ o) : ∀ (n r : Nat) (t : Int32) (I : hI), (cll o n r t I).2 a = I a
  | 0, r, t, I => rfl
  | n + 1, r, t, I => by unfold cll; rw [cll_c h n]; unfold clI; rw [sf_c h, sf_c h]
theorem clF_c {I : hI} {o n a : Nat} (h : a ≠ o) : clF I o n a = I a := by
  unfold clF
  rw [sf_c h, cll_c h]

theorem m_carries5 {I : hI} {J : hJ} {D : FD} {r : Nat} {x : Int32} (hD : DMf D I) (hx : x = nI r) (hr : r < D.1) : am_E sc (d + 5) 172 [.ref 73, .ref 78, .int x] (HH I J R T) (some (.int (caF I D 78 r).1)) (HH (caF I D 78 r).2 J R T) := by
  refine E_Z (Ze_of (Nat.le_of_ble_eq_true rfl) ?_)
  have h6 := hD.2.1
  have hq := hD.2.2.2 r hr
  have eb : I 75 r = nI (D.2.1 r).2.1 := hq.2.2.1
  have e1 : nI r + 1 = nI (r + 1) := nI_1 r
  have en : I 73 0 - 1 = nI D.1 - 1 := by rw [hD.1]
  have i1 : (0 : Int32) + nI r + 1 = nI (r + 1) := by rw [nI_z]; exact e1
  have i2 : (6 : Int32) + nI r + 1 = nI (6 + r + 1) := by rw [nI_6]; exact nI_1 _
  subst hx
  unfold caF
  by_cases hl : nI r = nI D.1 - 1
  · by_cases hs : M_sh I 78 r < nI (D.2.1 r).2.1
    · rw [if_pos hs]
      refine Z_jump 3 rfl ?_
      show Zs _ _ (am_P 172).2 (3, [(0, .ref 73), (1, .ref 78), (2, .int (nI r))], [.int (nI r), .ref 78, .ref 73]) (HH I J R T) _
      refine Z_c1 rfl rfl rfl (m_shows (by decide) rfl (by omega)) ?_
      show Zs _ _ (am_P 172).2 (6, [(0, .ref 73), (1, .ref 78), (2, .int (nI r))], [.int (M_sh I 78 r)]) (HH I J R T) _
      refine Z_jump 3 rfl ?_
      show Zs _ _ (am_P 172).2 (11, [(0, .ref 73), (1, .ref 78), (2, .int (nI r))], [.int (nI r), .ref 75, .int (M_sh I 78 r)]) (HH I J R T) _
      refine Z_ialK (r) rfl rfl (rfl) (by omega) (by decide) ?_
      show Zs _ _ (am_P 172).2 (12, [(0, .ref 73), (1, .ref 78), (2, .int (nI r))], [.int (I 75 r), .int (M_sh I 78 r)]) (HH I J R T) _
      show Zs _ _ (am_P 172).2 (12, [(0, .ref 73), (1, .ref 78), (2, .int (nI r))], [.int (I 75 r), .int (M_sh I 78 r)]) (HH I J R T) _
      refine Z_eqI (y := (nI (D.2.1 r).2.1)) (eb) ?_
      show Zs _ _ (am_P 172).2 (12, [(0, .ref 73), (1, .ref 78), (2, .int (nI r))], [.int (nI (D.2.1 r).2.1), .int (M_sh I 78 r)]) (HH I J R T) _
      refine Z_jump 1 rfl ?_
      refine Z_bd (fun c12 => ?_) (fun c12 => absurd (hs) c12)
      refine Z_jump 1 rfl ?_
      show Zs _ _ (am_P 172).2 (26, [(0, .ref 73), (1, .ref 78), (2, .int (nI r))], [.int (-1 : Int32)]) (HH I J R T) _
      refine Z_rI rfl (by first | exact am_nw0 _ | exact am_nw01 | rfl | assumption) ?_
      exact ⟨rfl, rfl⟩
    · rw [if_neg hs, if_pos hl]
      refine Z_jump 3 rfl ?_
      show Zs _ _ (am_P 172).2 (3, [(0, .ref 73), (1, .ref 78), (2, .int (nI r))], [.int (nI r), .ref 78, .ref 73]) (HH I J R T) _
      refine Z_c1 rfl rfl rfl (m_shows (by decide) rfl (by omega)) ?_
      show Zs _ _ (am_P 172).2 (6, [(0, .ref 73), (1, .ref 78), (2, .int (nI r))], [.int (M_sh I 78 r)]) (HH I J R T) _
      refine Z_jump 3 rfl ?_
      show Zs _ _ (am_P 172).2 (11, [(0, .ref 73), (1, .ref 78), (2, .int (nI r))], [.int (nI r), .ref 75, .int (M_sh I 78 r)]) (HH I J R T) _
      refine Z_ialK (r) rfl rfl (rfl) (by omega) (by decide) ?_
      show Zs _ _ (am_P 172).2 (12, [(0, .ref 73), (1, .ref 78), (2, .int (nI r))], [.int (I 75 r), .int (M_sh I 78 r)]) (HH I J R T) _
      show Zs _ _ (am_P 172).2 (12, [(0, .ref 73), (1, .ref 78), (2, .int (nI r))], [.int (I 75 r), .int (M_sh I 78 r)]) (HH I J R T) _
      refine Z_eqI (y := (nI (D.2.1 r).2.1)) (eb) ?_
      show Zs _ _ (am_P 172).2 (12, [(0, .ref 73), (1, .ref 78), (2, .int (nI r))], [.int (nI (D.2.1 r).2.1), .int (M_sh I 78 r)]) (HH I J R T) _
      refine Z_jump 1 rfl ?_
      refine Z_bd (fun c12 => absurd c12 (hs)) (fun c12 => ?_)
      refine Z_jump 5 rfl ?_
      show Zs _ _ (am_P 172).2 (22, [(0, .ref 73), (1, .ref 78), (2, .int (nI r))], [.int ((I 73 0) - (1 : Int32)), .int (nI r)]) (HH I J R T) _
      refine Z_eqI (y := (nI D.1 - 1)) (en) ?_
      show Zs _ _ (am_P 172).2 (22, [(0, .ref 73), (1, .ref 78), (2, .int (nI r))], [.int (nI D.1 - 1), .int (nI r)]) (HH I J R T) _
      refine Z_jump 1 rfl ?_
      refine Z_bn (fun c22 => absurd (hl) c22) (fun c22 => ?_)
      refine Z_jump 1 rfl ?_
      show Zs _ _ (am_P 172).2 (26, [(0, .ref 73), (1, .ref 78), (2, .int (nI r))], [.int (-1 : Int32)]) (HH I J R T) _
      refine Z_rI rfl (by first | exact am_nw0 _ | exact am_nw01 | rfl | assumption) ?_
      exact ⟨rfl, rfl⟩
  · have hr2 : r + 1 < D.1 := by
      by_cases z : r + 1 < D.1
      · exact z
      · exact absurd (by rw [show D.1 = r + 1 by omega]; exact (nI_pred r).symm) hl
    have hD4 : ∀ a b : Int32, caI I 78 r a b 73 = I 73 := fun a b => by unfold caI; rw [sf_c (by decide), sf_c (by decide), sf_c (by decide), sf_c (by decide)]
    refine Z_jump 3 rfl ?_
    show Zs _ _ (am_P 172).2 (3, [(0, .ref 73), (1, .ref 78), (2, .int (nI r))], [.int (nI r), .ref 78, .ref 73]) (HH I J R T) _
    refine Z_c1 rfl rfl rfl (m_shows (by decide) rfl (by omega)) ?_
    show Zs _ _ (am_P 172).2 (6, [(0, .ref 73), (1, .ref 78), (2, .int (nI r))], [.int (M_sh I 78 r)]) (HH I J R T) _
    refine Z_jump 3 rfl ?_
    show Zs _ _ (am_P 172).2 (11, [(0, .ref 73), (1, .ref 78), (2, .int (nI r))], [.int (nI r), .ref 75, .int (M_sh I 78 r)]) (HH I J R T) _
    refine Z_ialK (r) rfl rfl (rfl) (by omega) (by decide) ?_
    show Zs _ _ (am_P 172).2 (12, [(0, .ref 73), (1, .ref 78), (2, .int (nI r))], [.int (I 75 r), .int (M_sh I 78 r)]) (HH I J R T) _
    show Zs _ _ (am_P 172).2 (12, [(0, .ref 73), (1, .ref 78), (2, .int (nI r))], [.int (I 75 r), .int (M_sh I 78 r)]) (HH I J R T) _
    refine Z_eqI (y := (nI (D.2.1 r).2.1)) (eb) ?_
    show Zs _ _ (am_P 172).2 (12, [(0, .ref 73), (1, .ref 78), (2, .int (nI r))], [.int (nI (D.2.1 r).2.1), .int (M_sh I 78 r)]) (HH I J R T) _
    refine Z_jump 1 rfl ?_
    refine Z_bd (fun (c12 : (M_sh I 78 r) < (nI (D.2.1 r).2.1)) => ?_) (fun (c12 : ¬ ((M_sh I 78 r) < (nI (D.2.1 r).2.1))) => ?_)
    · refine Z_jump 1 rfl ?_
      show Zs _ _ (am_P 172).2 (26, [(0, .ref 73), (1, .ref 78), (2, .int (nI r))], [.int (-1 : Int32)]) (HH I J R T) _
      refine Z_rI rfl (by first | exact am_nw0 _ | exact am_nw01 | rfl | assumption) ?_
      rw [if_pos c12]
      exact ⟨rfl, rfl⟩
    · refine Z_jump 5 rfl ?_
      show Zs _ _ (am_P 172).2 (22, [(0, .ref 73), (1, .ref 78), (2, .int (nI r))], [.int ((I 73 0) - (1 : Int32)), .int (nI r)]) (HH I J R T) _
      refine Z_eqI (y := (nI D.1 - 1)) (en) ?_
      show Zs _ _ (am_P 172).2 (22, [(0, .ref 73), (1, .ref 78), (2, .int (nI r))], [.int (nI D.1 - 1), .int (nI r)]) (HH I J R T) _
      refine Z_jump 1 rfl ?_
      refine Z_bn (fun c22 => ?_) (fun c22 => absurd c22 (hl))
      refine Z_jump 6 rfl ?_
      show Zs _ _ (am_P 172).2 (33, [(0, .ref 73), (1, .ref 78), (2, .int (nI r))], [.int (nI r), .ref 78, .ref 73, .int (nI r), .ref 78, .ref 73]) (HH I J R T) _
      refine Z_c1 rfl rfl rfl (m_shows (by decide) rfl (by omega)) ?_
      show Zs _ _ (am_P 172).2 (36, [(0, .ref 73), (1, .ref 78), (2, .int (nI r))], [.int (M_sh I 78 r), .int (nI r), .ref 78, .ref 73]) (HH I J R T) _
      refine Z_jump 3 rfl ?_
      show Zs _ _ (am_P 172).2 (41, [(0, .ref 73), (1, .ref 78), (2, .int (nI r))], [.int (nI r), .ref 75, .int (M_sh I 78 r), .int (nI r), .ref 78, .ref 73]) (HH I J R T) _
      refine Z_ialK (r) rfl rfl (rfl) (by omega) (by decide) ?_
      show Zs _ _ (am_P 172).2 (42, [(0, .ref 73), (1, .ref 78), (2, .int (nI r))], [.int (I 75 r), .int (M_sh I 78 r), .int (nI r), .ref 78, .ref 73]) (HH I J R T) _
      show Zs _ _ (am_P 172).2 (42, [(0, .ref 73), (1, .ref 78), (2, .int (nI r))], [.int (I 75 r), .int (M_sh I 78 r), .int (nI r), .ref 78, .ref 73]) (HH I J R T) _
      refine Z_eqI (y := (nI (D.2.1 r).2.1)) (eb) ?_
      show Zs _ _ (am_P 172).2 (42, [(0, .ref 73), (1, .ref 78), (2, .int (nI r))], [.int (nI (D.2.1 r).2.1), .int (M_sh I 78 r), .int (nI r), .ref 78, .ref 73]) (HH I J R T) _
      refine Z_jump 1 rfl ?_
      show Zs _ _ (am_P 172).2 (43, [(0, .ref 73), (1, .ref 78), (2, .int (nI r))], [.int ((M_sh I 78 r) - (nI (D.2.1 r).2.1)), .int (nI r), .ref 78, .ref 73]) (HH I J R T) _
      refine Z_c1 rfl rfl rfl (m_alone5 hD hr) ?_
      show Zs _ _ (am_P 172).2 (46, [(0, .ref 73), (1, .ref 78), (2, .int (nI r))], [.int (ca1 I D 78 r)]) (HH I J R T) _
      refine Z_jump 6 rfl ?_
      show Zs _ _ (am_P 172).2 (52, [(0, .ref 73), (1, .ref 78), (2, .int (nI r)), (3, .int (ca1 I D 78 r))], [.int ((nI r) + (1 : Int32)), .ref 78, .ref 73]) (HH I J R T) _
      refine Z_eqI (y := (nI (r + 1))) (e1) ?_
      show Zs _ _ (am_P 172).2 (52, [(0, .ref 73), (1, .ref 78), (2, .int (nI r)), (3, .int (ca1 I D 78 r))], [.int (nI (r + 1)), .ref 78, .ref 73]) (HH I J R T) _
      refine Z_jump 5 rfl ?_
      show Zs _ _ (am_P 172).2 (57, [(0, .ref 73), (1, .ref 78), (2, .int (nI r)), (3, .int (ca1 I D 78 r))], [.int ((nI r) + (1 : Int32)), .ref 78, .ref 73, .int (nI (r + 1)), .ref 78, .ref 73]) (HH I J R T) _
      refine Z_eqI (y := (nI (r + 1))) (e1) ?_
      show Zs _ _ (am_P 172).2 (57, [(0, .ref 73), (1, .ref 78), (2, .int (nI r)), (3, .int (ca1 I D 78 r))], [.int (nI (r + 1)), .ref 78, .ref 73, .int (nI (r + 1)), .ref 78, .ref 73]) (HH I J R T) _
      show Zs _ _ (am_P 172).2 (57, [(0, .ref 73), (1, .ref 78), (2, .int (nI r)), (3, .int (ca1 I D 78 r))], [.int (nI (r + 1)), .ref 78, .ref 73, .int (nI (r + 1)), .ref 78, .ref 73]) (HH I J R T) _
      refine Z_c1 rfl rfl rfl (m_shows (by decide) rfl (by omega)) ?_
      show Zs _ _ (am_P 172).2 (60, [(0, .ref 73), (1, .ref 78), (2, .int (nI r)), (3, .int (ca1 I D 78 r))], [.int (M_sh I 78 (r + 1)), .int (nI (r + 1)), .ref 78, .ref 73]) (HH I J R T) _
      refine Z_jump 2 rfl ?_
      show Zs _ _ (am_P 172).2 (62, [(0, .ref 73), (1, .ref 78), (2, .int (nI r)), (3, .int (ca1 I D 78 r))], [.int ((M_sh I 78 (r + 1)) + (1 : Int32)), .int (nI (r + 1)), .ref 78, .ref 73]) (HH I J R T) _
      refine Z_c1 rfl rfl rfl (m_alone5 hD hr2) ?_
      show Zs _ _ (am_P 172).2 (65, [(0, .ref 73), (1, .ref 78), (2, .int (nI r)), (3, .int (ca1 I D 78 r))], [.int (ca2 I D 78 r)]) (HH I J R T) _
      refine Z_jump 3 rfl ?_
      refine Z_bd (fun (c68 : (ca1 I D 78 r) < (0 : Int32)) => ?_) (fun (c68 : ¬ ((ca1 I D 78 r) < (0 : Int32))) => ?_)
      · refine Z_jump 1 rfl ?_
        show Zs _ _ (am_P 172).2 (77, [(0, .ref 73), (1, .ref 78), (2, .int (nI r)), (3, .int (ca1 I D 78 r)), (4, .int (ca2 I D 78 r))], [.int (-1 : Int32)]) (HH I J R T) _
        refine Z_rI rfl (by first | exact am_nw0 _ | exact am_nw01 | rfl | assumption) ?_
        rw [if_neg c12, if_neg hl]
        first | (rw [if_neg c68, if_pos c73]; exact ⟨rfl, rfl⟩) | (rw [if_neg c68, if_neg c73]; exact ⟨rfl, rfl⟩) | (rw [if_pos c68]; exact ⟨rfl, rfl⟩)
      · refine Z_jump 2 rfl ?_
        refine Z_bd (fun (c73 : (0 : Int32) ≤ (ca2 I D 78 r)) => ?_) (fun (c73 : ¬ ((0 : Int32) ≤ (ca2 I D 78 r))) => ?_)
        · refine Z_jump 6 rfl ?_
          show Zs _ _ (am_P 172).2 (85, [(0, .ref 73), (1, .ref 78), (2, .int (nI r)), (3, .int (ca1 I D 78 r)), (4, .int (ca2 I D 78 r))], [.int ((ca1 I D 78 r) - (ca1 I D 78 r) / (10 : Int32) * (10 : Int32)), .int (nI r), .ref 78, .ref 73]) (HH I J R T) _
          refine Z_eqI (y := (dL (ca1 I D 78 r))) (rfl) ?_
          show Zs _ _ (am_P 172).2 (85, [(0, .ref 73), (1, .ref 78), (2, .int (nI r)), (3, .int (ca1 I D 78 r)), (4, .int (ca2 I D 78 r))], [.int (dL (ca1 I D 78 r)), .int (nI r), .ref 78, .ref 73]) (HH I J R T) _
          refine Z_jump 3 rfl ?_
          show Zs _ _ (am_P 172).2 (89, [(0, .ref 73), (1, .ref 78), (2, .int (nI r)), (3, .int (ca1 I D 78 r)), (4, .int (ca2 I D 78 r))], [.int ((ca1 I D 78 r) / (10 : Int32)), .int (dL (ca1 I D 78 r)), .int (nI r), .ref 78, .ref 73]) (HH I J R T) _
          refine Z_eqI (y := (dH (ca1 I D 78 r))) (rfl) ?_
          show Zs _ _ (am_P 172).2 (89, [(0, .ref 73), (1, .ref 78), (2, .int (nI r)), (3, .int (ca1 I D 78 r)), (4, .int (ca2 I D 78 r))], [.int (dH (ca1 I D 78 r)), .int (dL (ca1 I D 78 r)), .int (nI r), .ref 78, .ref 73]) (HH I J R T) _
          show Zs _ _ (am_P 172).2 (89, [(0, .ref 73), (1, .ref 78), (2, .int (nI r)), (3, .int (ca1 I D 78 r)), (4, .int (ca2 I D 78 r))], [.int (dH (ca1 I D 78 r)), .int (dL (ca1 I D 78 r)), .int (nI r), .ref 78, .ref 73]) (HH I J R T) _
          refine Z_c1 rfl rfl rfl (m_change (by decide) rfl (by omega)) ?_
          show Zs _ _ (am_P 172).2 (92, [(0, .ref 73), (1, .ref 78), (2, .int (nI r)), (3, .int (ca1 I D 78 r)), (4, .int (ca2 I D 78 r))], [.int (M_ch I 78 r (dL (ca1 I D 78 r)) (dH (ca1 I D 78 r)))]) (HH I J R T) _
          refine Z_jump 5 rfl ?_
          show Zs _ _ (am_P 172).2 (97, [(0, .ref 73), (1, .ref 78), (2, .int (nI r)), (3, .int (ca1 I D 78 r)), (4, .int (ca2 I D 78 r))], [.int ((nI r) + (1 : Int32)), .ref 78, .ref 73, .int (M_ch I 78 r (dL (ca1 I D 78 r)) (dH (ca1 I D 78 r)))]) (HH I J R T) _
          refine Z_eqI (y := (nI (r + 1))) (e1) ?_
          show Zs _ _ (am_P 172).2 (97, [(0, .ref 73), (1, .ref 78), (2, .int (nI r)), (3, .int (ca1 I D 78 r)), (4, .int (ca2 I D 78 r))], [.int (nI (r + 1)), .ref 78, .ref 73, .int (M_ch I 78 r (dL (ca1 I D 78 r)) (dH (ca1 I D 78 r)))]) (HH I J R T) _
          refine Z_jump 3 rfl ?_
          show Zs _ _ (am_P 172).2 (102, [(0, .ref 73), (1, .ref 78), (2, .int (nI r)), (3, .int (ca1 I D 78 r)), (4, .int (ca2 I D 78 r))], [.int ((ca2 I D 78 r) - (ca2 I D 78 r) / (10 : Int32) * (10 : Int32)), .int (nI (r + 1)), .ref 78, .ref 73, .int (M_ch I 78 r (dL (ca1 I D 78 r)) (dH (ca1 I D 78 r)))]) (HH I J R T) _
          refine Z_eqI (y := (dL (ca2 I D 78 r))) (rfl) ?_
          show Zs _ _ (am_P 172).2 (102, [(0, .ref 73), (1, .ref 78), (2, .int (nI r)), (3, .int (ca1 I D 78 r)), (4, .int (ca2 I D 78 r))], [.int (dL (ca2 I D 78 r)), .int (nI (r + 1)), .ref 78, .ref 73, .int (M_ch I 78 r (dL (ca1 I D 78 r)) (dH (ca1 I D 78 r)))]) (HH I J R T) _
          refine Z_jump 3 rfl ?_
          show Zs _ _ (am_P 172).2 (107, [(0, .ref 73), (1, .ref 78), (2, .int (nI r)), (3, .int (ca1 I D 78 r)), (4, .int (ca2 I D 78 r))], [.int ((ca2 I D 78 r) / (10 : Int32)), .int (dL (ca2 I D 78 r)), .int (nI (r + 1)), .ref 78, .ref 73, .int (M_ch I 78 r (dL (ca1 I D 78 r)) (dH (ca1 I D 78 r)))]) (HH I J R T) _
          refine Z_eqI (y := (dH (ca2 I D 78 r))) (rfl) ?_
          show Zs _ _ (am_P 172).2 (107, [(0, .ref 73), (1, .ref 78), (2, .int (nI r)), (3, .int (ca1 I D 78 r)), (4, .int (ca2 I D 78 r))], [.int (dH (ca2 I D 78 r)), .int (dL (ca2 I D 78 r)), .int (nI (r + 1)), .ref 78, .ref 73, .int (M_ch I 78 r (dL (ca1 I D 78 r)) (dH (ca1 I D 78 r)))]) (HH I J R T) _
          show Zs _ _ (am_P 172).2 (107, [(0, .ref 73), (1, .ref 78), (2, .int (nI r)), (3, .int (ca1 I D 78 r)), (4, .int (ca2 I D 78 r))], [.int (dH (ca2 I D 78 r)), .int (dL (ca2 I D 78 r)), .int (nI (r + 1)), .ref 78, .ref 73, .int (M_ch I 78 r (dL (ca1 I D 78 r)) (dH (ca1 I D 78 r)))]) (HH I J R T) _
          refine Z_c1 rfl rfl rfl (m_change (by decide) rfl (by omega)) ?_
          show Zs _ _ (am_P 172).2 (110, [(0, .ref 73), (1, .ref 78), (2, .int (nI r)), (3, .int (ca1 I D 78 r)), (4, .int (ca2 I D 78 r))], [.int (M_ch I 78 (r + 1) (dL (ca2 I D 78 r)) (dH (ca2 I D 78 r))), .int (M_ch I 78 r (dL (ca1 I D 78 r)) (dH (ca1 I D 78 r)))]) (HH I J R T) _
          refine Z_jump 1 rfl ?_
          show Zs _ _ (am_P 172).2 (111, [(0, .ref 73), (1, .ref 78), (2, .int (nI r)), (3, .int (ca1 I D 78 r)), (4, .int (ca2 I D 78 r))], [.int ((M_ch I 78 r (dL (ca1 I D 78 r)) (dH (ca1 I D 78 r))) + (M_ch I 78 (r + 1) (dL (ca2 I D 78 r)) (dH (ca2 I D 78 r))))]) (HH I J R T) _
          refine Z_eqI (y := (caT I D 78 r)) (rfl) ?_
          show Zs _ _ (am_P 172).2 (111, [(0, .ref 73), (1, .ref 78), (2, .int (nI r)), (3, .int (ca1 I D 78 r)), (4, .int (ca2 I D 78 r))], [.int (caT I D 78 r)]) (HH I J R T) _
          refine Z_jump 8 rfl ?_
          show Zs _ _ (am_P 172).2 (121, [(0, .ref 73), (1, .ref 78), (2, .int (nI r)), (3, .int (ca1 I D 78 r)), (4, .int (ca2 I D 78 r)), (5, .int (caT I D 78 r))], [.int ((ca1 I D 78 r) - (ca1 I D 78 r) / (10 : Int32) * (10 : Int32)), .int ((0 : Int32) + (nI r)), .ref 78]) (HH I J R T) _
          refine Z_eqI (y := (dL (ca1 I D 78 r))) (rfl) ?_
          show Zs _ _ (am_P 172).2 (121, [(0, .ref 73), (1, .ref 78), (2, .int (nI r)), (3, .int (ca1 I D 78 r)), (4, .int (ca2 I D 78 r)), (5, .int (caT I D 78 r))], [.int (dL (ca1 I D 78 r)), .int ((0 : Int32) + (nI r)), .ref 78]) (HH I J R T) _
          show Zs _ _ (am_P 172).2 (121, [(0, .ref 73), (1, .ref 78), (2, .int (nI r)), (3, .int (ca1 I D 78 r)), (4, .int (ca2 I D 78 r)), (5, .int (caT I D 78 r))], [.int (dL (ca1 I D 78 r)), .int ((0 : Int32) + (nI r)), .ref 78]) (HH I J R T) _
          refine Z_iasK (r) rfl rfl (nI_z r) (by omega) (by decide) ?_
          show Zs _ _ (am_P 172).2 (122, [(0, .ref 73), (1, .ref 78), (2, .int (nI r)), (3, .int (ca1 I D 78 r)), (4, .int (ca2 I D 78 r)), (5, .int (caT I D 78 r))], []) (HH (sf I 78 r (dL (ca1 I D 78 r))) J R T) _
          refine Z_jump 7 rfl ?_
          show Zs _ _ (am_P 172).2 (131, [(0, .ref 73), (1, .ref 78), (2, .int (nI r)), (3, .int (ca1 I D 78 r)), (4, .int (ca2 I D 78 r)), (5, .int (caT I D 78 r))], [.int ((ca1 I D 78 r) / (10 : Int32)), .int ((6 : Int32) + (nI r)), .ref 78]) (HH (sf I 78 r (dL (ca1 I D 78 r))) J R T) _
          refine Z_eqI (y := (dH (ca1 I D 78 r))) (rfl) ?_
          show Zs _ _ (am_P 172).2 (131, [(0, .ref 73), (1, .ref 78), (2, .int (nI r)), (3, .int (ca1 I D 78 r)), (4, .int (ca2 I D 78 r)), (5, .int (caT I D 78 r))], [.int (dH (ca1 I D 78 r)), .int ((6 : Int32) + (nI r)), .ref 78]) (HH (sf I 78 r (dL (ca1 I D 78 r))) J R T) _
          show Zs _ _ (am_P 172).2 (131, [(0, .ref 73), (1, .ref 78), (2, .int (nI r)), (3, .int (ca1 I D 78 r)), (4, .int (ca2 I D 78 r)), (5, .int (caT I D 78 r))], [.int (dH (ca1 I D 78 r)), .int ((6 : Int32) + (nI r)), .ref 78]) (HH (sf I 78 r (dL (ca1 I D 78 r))) J R T) _
          refine Z_iasK (6 + r) rfl rfl (nI_6 r) (by omega) (by decide) ?_
          show Zs _ _ (am_P 172).2 (132, [(0, .ref 73), (1, .ref 78), (2, .int (nI r)), (3, .int (ca1 I D 78 r)), (4, .int (ca2 I D 78 r)), (5, .int (caT I D 78 r))], []) (HH (sf (sf I 78 r (dL (ca1 I D 78 r))) 78 (6 + r) (dH (ca1 I D 78 r))) J R T) _
          refine Z_jump 9 rfl ?_
          show Zs _ _ (am_P 172).2 (143, [(0, .ref 73), (1, .ref 78), (2, .int (nI r)), (3, .int (ca1 I D 78 r)), (4, .int (ca2 I D 78 r)), (5, .int (caT I D 78 r))], [.int ((ca2 I D 78 r) - (ca2 I D 78 r) / (10 : Int32) * (10 : Int32)), .int (((0 : Int32) + (nI r)) + (1 : Int32)), .ref 78]) (HH (sf (sf I 78 r (dL (ca1 I D 78 r))) 78 (6 + r) (dH (ca1 I D 78 r))) J R T) _
          refine Z_eqI (y := (dL (ca2 I D 78 r))) (rfl) ?_
          show Zs _ _ (am_P 172).2 (143, [(0, .ref 73), (1, .ref 78), (2, .int (nI r)), (3, .int (ca1 I D 78 r)), (4, .int (ca2 I D 78 r)), (5, .int (caT I D 78 r))], [.int (dL (ca2 I D 78 r)), .int (((0 : Int32) + (nI r)) + (1 : Int32)), .ref 78]) (HH (sf (sf I 78 r (dL (ca1 I D 78 r))) 78 (6 + r) (dH (ca1 I D 78 r))) J R T) _
          show Zs _ _ (am_P 172).2 (143, [(0, .ref 73), (1, .ref 78), (2, .int (nI r)), (3, .int (ca1 I D 78 r)), (4, .int (ca2 I D 78 r)), (5, .int (caT I D 78 r))], [.int (dL (ca2 I D 78 r)), .int (((0 : Int32) + (nI r)) + (1 : Int32)), .ref 78]) (HH (sf (sf I 78 r (dL (ca1 I D 78 r))) 78 (6 + r) (dH (ca1 I D 78 r))) J R T) _
          refine Z_iasK (r + 1) rfl rfl (i1) (by omega) (by decide) ?_
          show Zs _ _ (am_P 172).2 (144, [(0, .ref 73), (1, .ref 78), (2, .int (nI r)), (3, .int (ca1 I D 78 r)), (4, .int (ca2 I D 78 r)), (5, .int (caT I D 78 r))], []) (HH (sf (sf (sf I 78 r (dL (ca1 I D 78 r))) 78 (6 + r) (dH (ca1 I D 78 r))) 78 (r + 1) (dL (ca2 I D 78 r))) J R T) _
          refine Z_jump 9 rfl ?_
          show Zs _ _ (am_P 172).2 (156, [(0, .ref 73), (1, .ref 78), (2, .int (nI r)), (3, .int (ca1 I D 78 r)), (4, .int (ca2 I D 78 r)), (5, .int (caT I D 78 r))], [.int ((ca2 I D 78 r) / (10 : Int32)), .int (((6 : Int32) + (nI r)) + (1 : Int32)), .ref 78]) (HH (sf (sf (sf I 78 r (dL (ca1 I D 78 r))) 78 (6 + r) (dH (ca1 I D 78 r))) 78 (r + 1) (dL (ca2 I D 78 r))) J R T) _
          refine Z_eqI (y := (dH (ca2 I D 78 r))) (rfl) ?_
          show Zs _ _ (am_P 172).2 (156, [(0, .ref 73), (1, .ref 78), (2, .int (nI r)), (3, .int (ca1 I D 78 r)), (4, .int (ca2 I D 78 r)), (5, .int (caT I D 78 r))], [.int (dH (ca2 I D 78 r)), .int (((6 : Int32) + (nI r)) + (1 : Int32)), .ref 78]) (HH (sf (sf (sf I 78 r (dL (ca1 I D 78 r))) 78 (6 + r) (dH (ca1 I D 78 r))) 78 (r + 1) (dL (ca2 I D 78 r))) J R T) _
          show Zs _ _ (am_P 172).2 (156, [(0, .ref 73), (1, .ref 78), (2, .int (nI r)), (3, .int (ca1 I D 78 r)), (4, .int (ca2 I D 78 r)), (5, .int (caT I D 78 r))], [.int (dH (ca2 I D 78 r)), .int (((6 : Int32) + (nI r)) + (1 : Int32)), .ref 78]) (HH (sf (sf (sf I 78 r (dL (ca1 I D 78 r))) 78 (6 + r) (dH (ca1 I D 78 r))) 78 (r + 1) (dL (ca2 I D 78 r))) J R T) _
          refine Z_iasK (6 + r + 1) rfl rfl (i2) (by omega) (by decide) ?_
          show Zs _ _ (am_P 172).2 (157, [(0, .ref 73), (1, .ref 78), (2, .int (nI r)), (3, .int (ca1 I D 78 r)), (4, .int (ca2 I D 78 r)), (5, .int (caT I D 78 r))], []) (HH (sf (sf (sf (sf I 78 r (dL (ca1 I D 78 r))) 78 (6 + r) (dH (ca1 I D 78 r))) 78 (r + 1) (dL (ca2 I D 78 r))) 78 (6 + r + 1) (dH (ca2 I D 78 r))) J R T) _
          refine Z_jump 7 rfl ?_
          show Zs _ _ (am_P 172).2 (167, [(0, .ref 73), (1, .ref 78), (2, .int (nI r)), (3, .int (ca1 I D 78 r)), (4, .int (ca2 I D 78 r)), (5, .int (caT I D 78 r))], [.int (((sf (sf (sf (sf I 78 r (dL (ca1 I D 78 r))) 78 (6 + r) (dH (ca1 I D 78 r))) 78 (r + 1) (dL (ca2 I D 78 r))) 78 (6 + r + 1) (dH (ca2 I D 78 r))) 78 13) + (caT I D 78 r)), .int (13 : Int32), .ref 78]) (HH (sf (sf (sf (sf I 78 r (dL (ca1 I D 78 r))) 78 (6 + r) (dH (ca1 I D 78 r))) 78 (r + 1) (dL (ca2 I D 78 r))) 78 (6 + r + 1) (dH (ca2 I D 78 r))) J R T) _
          refine Z_c1 rfl rfl rfl (m_counted) ?_
          show Zs _ _ (am_P 172).2 (170, [(0, .ref 73), (1, .ref 78), (2, .int (nI r)), (3, .int (ca1 I D 78 r)), (4, .int (ca2 I D 78 r)), (5, .int (caT I D 78 r))], [.int (cap ((sf (sf (sf (sf I 78 r (dL (ca1 I D 78 r))) 78 (6 + r) (dH (ca1 I D 78 r))) 78 (r + 1) (dL (ca2 I D 78 r))) 78 (6 + r + 1) (dH (ca2 I D 78 r))) 78 13 + caT I D 78 r)), .int (13 : Int32), .ref 78]) (HH (sf (sf (sf (sf I 78 r (dL (ca1 I D 78 r))) 78 (6 + r) (dH (ca1 I D 78 r))) 78 (r + 1) (dL (ca2 I D 78 r))) 78 (6 + r + 1) (dH (ca2 I D 78 r))) J R T) _
          refine Z_jump 1 rfl ?_
          show Zs _ _ (am_P 172).2 (171, [(0, .ref 73), (1, .ref 78), (2, .int (nI r)), (3, .int (ca1 I D 78 r)), (4, .int (ca2 I D 78 r)), (5, .int (caT I D 78 r))], []) (HH (sf (sf (sf (sf (sf I 78 r (dL (ca1 I D 78 r))) 78 (6 + r) (dH (ca1 I D 78 r))) 78 (r + 1) (dL (ca2 I D 78 r))) 78 (6 + r + 1) (dH (ca2 I D 78 r))) 78 13 (cap ((sf (sf (sf (sf I 78 r (dL (ca1 I D 78 r))) 78 (6 + r) (dH (ca1 I D 78 r))) 78 (r + 1) (dL (ca2 I D 78 r))) 78 (6 + r + 1) (dH (ca2 I D 78 r))) 78 13 + caT I D 78 r))) J R T) _
          refine Z_jump 1 rfl ?_
          show Zs _ _ (am_P 172).2 (173, [(0, .ref 73), (1, .ref 78), (2, .int (nI r)), (3, .int (ca1 I D 78 r)), (4, .int (ca2 I D 78 r)), (5, .int (caT I D 78 r))], [.int (caT I D 78 r)]) (HH (sf (sf (sf (sf (sf I 78 r (dL (ca1 I D 78 r))) 78 (6 + r) (dH (ca1 I D 78 r))) 78 (r + 1) (dL (ca2 I D 78 r))) 78 (6 + r + 1) (dH (ca2 I D 78 r))) 78 13 (cap ((sf (sf (sf (sf I 78 r (dL (ca1 I D 78 r))) 78 (6 + r) (dH (ca1 I D 78 r))) 78 (r + 1) (dL (ca2 I D 78 r))) 78 (6 + r + 1) (dH (ca2 I D 78 r))) 78 13 + caT I D 78 r))) J R T) _
          refine Z_rI rfl (by first | exact am_nw0 _ | exact am_nw01 | rfl | assumption) ?_
          rw [if_neg c12, if_neg hl]
          first | (rw [if_neg c68, if_pos c73]; exact ⟨rfl, rfl⟩) | (rw [if_neg c68, if_neg c73]; exact ⟨rfl, rfl⟩) | (rw [if_pos c68]; exact ⟨rfl, rfl⟩)
        · refine Z_jump 1 rfl ?_
          show Zs _ _ (am_P 172).2 (77, [(0, .ref 73), (1, .ref 78), (2, .int (nI r)), (3, .int (ca1 I D 78 r)), (4, .int (ca2 I D 78 r))], [.int (-1 : Int32)]) (HH I J R T) _
          refine Z_rI rfl (by first | exact am_nw0 _ | exact am_nw01 | rfl | assumption) ?_
          rw [if_neg c12, if_neg hl]
          first | (rw [if_neg c68, if_pos c73]; exact ⟨rfl, rfl⟩) | (rw [if_neg c68, if_neg c73]; exact ⟨rfl, rfl⟩) | (rw [if_pos c68]; exact ⟨rfl, rfl⟩)
theorem m_cll5 {J : hJ} {D : FD} : ∀ (n r : Nat) (t : Int32) (I : hI) (x : Int32), r + n = D.1 → x = nI r → D.1 ≤ 6 → I 73 0 = nI D.1 → Zs sc (d + 3) (am_P 173).2 (93, [(0, .ref 73), (1, .ref 78), (2, .int (cll 78 n r t I).1)], []) (HH (cll 78 n r t I).2 J R T) Q → Zs sc (d + 3) (am_P 173).2 (4, [(0, .ref 73), (1, .ref 78), (2, .int t), (3, .int x)], []) (HH I J R T) Q
  | 0, r, t, I, x, hr, hx, h6, hn, H => by
    refine Z_jump 4 rfl ?_
    refine Z_bd (fun c9 => ?_) (fun c9 => absurd ((show I 73 0 ≤ x by rw [hn, hx]; exact nI_le (by omega) (by omega))) c9)
    show Zs _ _ (am_P 173).2 (93, [(0, .ref 73), (1, .ref 78), (2, .int t), (3, .int x)], []) (HH I J R T) _
    exact Zs_wk (H) (lnD rfl) (lnD rfl) (by repeat (first | exact trivial | refine ⟨rfl, ?_⟩))
  | n + 1, r, t, I, x, hr, hx, h6, hn, H => by
    have ex : x + 1 = nI (r + 1) := by rw [hx]; exact nI_1 r
    have hn1 : clI I 78 r 73 0 = nI D.1 := by unfold clI; rw [sf_c (by decide), sf_c (by decide)]; exact hn
    subst hx
    have W : ∀ (y z : Int32), cLo I 78 r = y → cHi I 78 r = z → Zs sc (d + 3) (am_P 173).2 (59, [(0, .ref 73), (1, .ref 78), (2, .int t), (3, .int (nI r)), (4, .int y), (5, .int z)], []) (HH I J R T) Q := fun y z hy hz => by
      subst hy
      subst hz
      refine Z_jump 6 rfl ?_
      show Zs _ _ (am_P 173).2 (67, [(0, .ref 73), (1, .ref 78), (2, .int t), (3, .int (nI r)), (4, .int (cLo I 78 r)), (5, .int (cHi I 78 r))], [.int (cHi I 78 r), .int (cLo I 78 r), .int (nI r), .ref 78, .ref 73, .int t]) (HH I J R T) _
      refine Z_c1 rfl rfl rfl (m_change (by decide) rfl (by omega)) ?_
      show Zs _ _ (am_P 173).2 (70, [(0, .ref 73), (1, .ref 78), (2, .int t), (3, .int (nI r)), (4, .int (cLo I 78 r)), (5, .int (cHi I 78 r))], [.int (M_ch I 78 r (cLo I 78 r) (cHi I 78 r)), .int t]) (HH I J R T) _
      refine Z_jump 7 rfl ?_
      show Zs _ _ (am_P 173).2 (78, [(0, .ref 73), (1, .ref 78), (2, .int (t + (M_ch I 78 r (cLo I 78 r) (cHi I 78 r)))), (3, .int (nI r)), (4, .int (cLo I 78 r)), (5, .int (cHi I 78 r))], [.int (cLo I 78 r), .int ((0 : Int32) + (nI r)), .ref 78]) (HH I J R T) _
      refine Z_iasK (r) rfl rfl (nI_z r) (by omega) (by decide) ?_
      show Zs _ _ (am_P 173).2 (79, [(0, .ref 73), (1, .ref 78), (2, .int (t + (M_ch I 78 r (cLo I 78 r) (cHi I 78 r)))), (3, .int (nI r)), (4, .int (cLo I 78 r)), (5, .int (cHi I 78 r))], []) (HH (sf I 78 r (cLo I 78 r)) J R T) _
      refine Z_jump 5 rfl ?_
      show Zs _ _ (am_P 173).2 (86, [(0, .ref 73), (1, .ref 78), (2, .int (t + (M_ch I 78 r (cLo I 78 r) (cHi I 78 r)))), (3, .int (nI r)), (4, .int (cLo I 78 r)), (5, .int (cHi I 78 r))], [.int (cHi I 78 r), .int ((6 : Int32) + (nI r)), .ref 78]) (HH (sf I 78 r (cLo I 78 r)) J R T) _
      refine Z_iasK (6 + r) rfl rfl (nI_6 r) (by omega) (by decide) ?_
      show Zs _ _ (am_P 173).2 (87, [(0, .ref 73), (1, .ref 78), (2, .int (t + (M_ch I 78 r (cLo I 78 r) (cHi I 78 r)))), (3, .int (nI r)), (4, .int (cLo I 78 r)), (5, .int (cHi I 78 r))], []) (HH (sf (sf I 78 r (cLo I 78 r)) 78 (6 + r) (cHi I 78 r)) J R T) _
      refine Z_jump 2 rfl ?_
      show Zs _ _ (am_P 173).2 (4, [(0, .ref 73), (1, .ref 78), (2, .int (t + (M_ch I 78 r (cLo I 78 r) (cHi I 78 r)))), (3, .int ((nI r) + 1)), (4, .int (cLo I 78 r)), (5, .int (cHi I 78 r))], []) (HH (sf (sf I 78 r (cLo I 78 r)) 78 (6 + r) (cHi I 78 r)) J R T) _
      exact Zs_wk (m_cll5 n (r + 1) _ (clI I 78 r) _ (by omega) ex h6 hn1 H) (lnD rfl) (lnD rfl) (by repeat (first | exact trivial | refine ⟨rfl, ?_⟩))
    unfold cLo cHi at W
    refine Z_jump 4 rfl ?_
    refine Z_bd (fun c9 => absurd c9 ((show ¬ I 73 0 ≤ nI r by rw [hn]; exact nI_ge (by omega) (by omega)))) (fun c9 => ?_)
    refine Z_jump 5 rfl ?_
    show Zs _ _ (am_P 173).2 (18, [(0, .ref 73), (1, .ref 78), (2, .int t), (3, .int (nI r))], [.int (0 : Int32), .int (nI r), .int (I 78 12)]) (HH I J R T) _
    by_cases b18 : M_bit (I 78 12) (nI r) 0
    · refine Z_c1 rfl rfl rfl (E_pos (m_isStuck) b18) ?_
      show Zs _ _ (am_P 173).2 (21, [(0, .ref 73), (1, .ref 78), (2, .int t), (3, .int (nI r))], [.int (1 : Int32)]) (HH I J R T) _
      refine Z_jump 5 rfl ?_
      show Zs _ _ (am_P 173).2 (28, [(0, .ref 73), (1, .ref 78), (2, .int t), (3, .int (nI r))], [.int ((0 : Int32) + (nI r)), .ref 78]) (HH I J R T) _
      refine Z_ialK (r) rfl rfl (nI_z r) (by omega) (by decide) ?_
      show Zs _ _ (am_P 173).2 (29, [(0, .ref 73), (1, .ref 78), (2, .int t), (3, .int (nI r))], [.int (I 78 r)]) (HH I J R T) _
      refine Z_jump 7 rfl ?_
      show Zs _ _ (am_P 173).2 (41, [(0, .ref 73), (1, .ref 78), (2, .int t), (3, .int (nI r)), (4, .int (I 78 r))], [.int (1 : Int32), .int (nI r), .int (I 78 12)]) (HH I J R T) _
      by_cases b41 : M_bit (I 78 12) (nI r) 1
      · refine Z_c1 rfl rfl rfl (E_pos (m_isStuck) b41) ?_
        show Zs _ _ (am_P 173).2 (44, [(0, .ref 73), (1, .ref 78), (2, .int t), (3, .int (nI r)), (4, .int (I 78 r))], [.int (1 : Int32)]) (HH I J R T) _
        refine Z_jump 5 rfl ?_
        show Zs _ _ (am_P 173).2 (52, [(0, .ref 73), (1, .ref 78), (2, .int t), (3, .int (nI r)), (4, .int (I 78 r))], [.int ((6 : Int32) + (nI r)), .ref 78]) (HH I J R T) _
        refine Z_ialK (6 + r) rfl rfl (nI_6 r) (by omega) (by decide) ?_
        show Zs _ _ (am_P 173).2 (53, [(0, .ref 73), (1, .ref 78), (2, .int t), (3, .int (nI r)), (4, .int (I 78 r))], [.int (I 78 (6 + r))]) (HH I J R T) _
        refine Z_jump 2 rfl ?_
        show Zs _ _ (am_P 173).2 (59, [(0, .ref 73), (1, .ref 78), (2, .int t), (3, .int (nI r)), (4, .int (I 78 r)), (5, .int (I 78 (6 + r)))], []) (HH I J R T) _
        first | exact W _ _ (if_pos b18) (if_pos b41) | exact W _ _ (if_pos b18) (if_neg b41) | exact W _ _ (if_neg b18) (if_pos b41) | exact W _ _ (if_neg b18) (if_neg b41)
      · refine Z_c1 rfl rfl rfl (E_neg (m_isStuck) b41) ?_
        show Zs _ _ (am_P 173).2 (44, [(0, .ref 73), (1, .ref 78), (2, .int t), (3, .int (nI r)), (4, .int (I 78 r))], [.int (0 : Int32)]) (HH I J R T) _
        refine Z_jump 3 rfl ?_
        show Zs _ _ (am_P 173).2 (59, [(0, .ref 73), (1, .ref 78), (2, .int t), (3, .int (nI r)), (4, .int (I 78 r)), (5, .int (0 : Int32))], []) (HH I J R T) _
        first | exact W _ _ (if_pos b18) (if_pos b41) | exact W _ _ (if_pos b18) (if_neg b41) | exact W _ _ (if_neg b18) (if_pos b41) | exact W _ _ (if_neg b18) (if_neg b41)
    · refine Z_c1 rfl rfl rfl (E_neg (m_isStuck) b18) ?_
      show Zs _ _ (am_P 173).2 (21, [(0, .ref 73), (1, .ref 78), (2, .int t), (3, .int (nI r))], [.int (0 : Int32)]) (HH I J R T) _
      refine Z_jump 8 rfl ?_
      show Zs _ _ (am_P 173).2 (41, [(0, .ref 73), (1, .ref 78), (2, .int t), (3, .int (nI r)), (4, .int (0 : Int32))], [.int (1 : Int32), .int (nI r), .int (I 78 12)]) (HH I J R T) _
      by_cases b41 : M_bit (I 78 12) (nI r) 1
      · refine Z_c1 rfl rfl rfl (E_pos (m_isStuck) b41) ?_
        show Zs _ _ (am_P 173).2 (44, [(0, .ref 73), (1, .ref 78), (2, .int t), (3, .int (nI r)), (4, .int (0 : Int32))], [.int (1 : Int32)]) (HH I J R T) _
        refine Z_jump 5 rfl ?_
        show Zs _ _ (am_P 173).2 (52, [(0, .ref 73), (1, .ref 78), (2, .int t), (3, .int (nI r)), (4, .int (0 : Int32))], [.int ((6 : Int32) + (nI r)), .ref 78]) (HH I J R T) _
        refine Z_ialK (6 + r) rfl rfl (nI_6 r) (by omega) (by decide) ?_
        show Zs _ _ (am_P 173).2 (53, [(0, .ref 73), (1, .ref 78), (2, .int t), (3, .int (nI r)), (4, .int (0 : Int32))], [.int (I 78 (6 + r))]) (HH I J R T) _
        refine Z_jump 2 rfl ?_
        show Zs _ _ (am_P 173).2 (59, [(0, .ref 73), (1, .ref 78), (2, .int t), (3, .int (nI r)), (4, .int (0 : Int32)), (5, .int (I 78 (6 + r)))], []) (HH I J R T) _
        first | exact W _ _ (if_pos b18) (if_pos b41) | exact W _ _ (if_pos b18) (if_neg b41) | exact W _ _ (if_neg b18) (if_pos b41) | exact W _ _ (if_neg b18) (if_neg b41)
      · refine Z_c1 rfl rfl rfl (E_neg (m_isStuck) b41) ?_
        show Zs _ _ (am_P 173).2 (44, [(0, .ref 73), (1, .ref 78), (2, .int t), (3, .int (nI r)), (4, .int (0 : Int32))], [.int (0 : Int32)]) (HH I J R T) _
        refine Z_jump 3 rfl ?_
        show Zs _ _ (am_P 173).2 (59, [(0, .ref 73), (1, .ref 78), (2, .int t), (3, .int (nI r)), (4, .int (0 : Int32)), (5, .int (0 : Int32))], []) (HH I J R T) _
        first | exact W _ _ (if_pos b18) (if_pos b41) | exact W _ _ (if_pos b18) (if_neg b41) | exact W _ _ (if_neg b18) (if_pos b41) | exact W _ _ (if_neg b18) (if_neg b41)
theorem m_clears5 {I : hI} {J : hJ} {D : FD} (hD : DMf D I) : am_E sc (d + 4) 173 [.ref 73, .ref 78] (HH I J R T) none (HH (clF I 78 D.1) J R T) := by
  refine E_Z (Ze_of (Nat.le_of_ble_eq_true rfl) ?_)
  have h6 := hD.2.1
  unfold clF
  have W : Zs sc (d + 3) (am_P 173).2 (93, [(0, .ref 73), (1, .ref 78), (2, .int (cll 78 D.1 0 0 I).1)], []) (HH (cll 78 D.1 0 0 I).2 J R T) (fun r h => r = none ∧ h = HH (sf (cll 78 D.1 0 0 I).2 78 13 (cap ((cll 78 D.1 0 0 I).2 78 13 + (cll 78 D.1 0 0 I).1))) J R T) := by
    generalize cll 78 D.1 0 0 I = w
    refine Z_jump 7 rfl ?_
    show Zs _ _ (am_P 173).2 (102, [(0, .ref 73), (1, .ref 78), (2, .int w.1)], [.int ((w.2 78 13) + w.1), .int (13 : Int32), .ref 78]) (HH w.2 J R T) _
    refine Z_c1 rfl rfl rfl (m_counted) ?_
    show Zs _ _ (am_P 173).2 (105, [(0, .ref 73), (1, .ref 78), (2, .int w.1)], [.int (cap (w.2 78 13 + w.1)), .int (13 : Int32), .ref 78]) (HH w.2 J R T) _
    refine Z_jump 1 rfl ?_
    show Zs _ _ (am_P 173).2 (106, [(0, .ref 73), (1, .ref 78), (2, .int w.1)], []) (HH (sf w.2 78 13 (cap (w.2 78 13 + w.1))) J R T) _
    show Zs _ _ (am_P 173).2 (106, [(0, .ref 73), (1, .ref 78), (2, .int w.1)], []) (HH (sf w.2 78 13 (cap (w.2 78 13 + w.1))) J R T) _
    refine Z_ret rfl rfl rfl ?_
    exact ⟨rfl, rfl⟩
  refine Z_jump 4 rfl ?_
  show Zs _ _ (am_P 173).2 (4, [(0, .ref 73), (1, .ref 78), (2, .int (0 : Int32)), (3, .int (0 : Int32))], []) (HH I J R T) _
  exact m_cll5 D.1 0 _ _ _ (by omega) rfl h6 hD.1 W

theorem m_carries6 {I : hI} {J : hJ} {D : FD} {r : Nat} {x : Int32} (hD : DMf D I) (hx : x = nI r) (hr : r < D.1) : am_E sc (d + 5) 172 [.ref 73, .ref 79, .int x] (HH I J R T) (some (.int (caF I D 79 r).1)) (HH (caF I D 79 r).2 J R T) := by
  refine E_Z (Ze_of (Nat.le_of_ble_eq_true rfl) ?_)
  have h6 := hD.2.1
  have hq := hD.2.2.2 r hr
  have eb : I 75 r = nI (D.2.1 r).2.1 := hq.2.2.1
  have e1 : nI r + 1 = nI (r + 1) := nI_1 r
  have en : I 73 0 - 1 = nI D.1 - 1 := by rw [hD.1]
  have i1 : (0 : Int32) + nI r + 1 = nI (r + 1) := by rw [nI_z]; exact e1
  have i2 : (6 : Int32) + nI r + 1 = nI (6 + r + 1) := by rw [nI_6]; exact nI_1 _
  subst hx
  unfold caF
  by_cases hl : nI r = nI D.1 - 1
  · by_cases hs : M_sh I 79 r < nI (D.2.1 r).2.1
    · rw [if_pos hs]
      refine Z_jump 3 rfl ?_
      show Zs _ _ (am_P 172).2 (3, [(0, .ref 73), (1, .ref 79), (2, .int (nI r))], [.int (nI r), .ref 79, .ref 73]) (HH I J R T) _
      refine Z_c1 rfl rfl rfl (m_shows (by decide) rfl (by omega)) ?_
      show Zs _ _ (am_P 172).2 (6, [(0, .ref 73), (1, .ref 79), (2, .int (nI r))], [.int (M_sh I 79 r)]) (HH I J R T) _
      refine Z_jump 3 rfl ?_
      show Zs _ _ (am_P 172).2 (11, [(0, .ref 73), (1, .ref 79), (2, .int (nI r))], [.int (nI r), .ref 75, .int (M_sh I 79 r)]) (HH I J R T) _
      refine Z_ialK (r) rfl rfl (rfl) (by omega) (by decide) ?_
      show Zs _ _ (am_P 172).2 (12, [(0, .ref 73), (1, .ref 79), (2, .int (nI r))], [.int (I 75 r), .int (M_sh I 79 r)]) (HH I J R T) _
      show Zs _ _ (am_P 172).2 (12, [(0, .ref 73), (1, .ref 79), (2, .int (nI r))], [.int (I 75 r), .int (M_sh I 79 r)]) (HH I J R T) _
      refine Z_eqI (y := (nI (D.2.1 r).2.1)) (eb) ?_
      show Zs _ _ (am_P 172).2 (12, [(0, .ref 73), (1, .ref 79), (2, .int (nI r))], [.int (nI (D.2.1 r).2.1), .int (M_sh I 79 r)]) (HH I J R T) _
      refine Z_jump 1 rfl ?_
      refine Z_bd (fun c12 => ?_) (fun c12 => absurd (hs) c12)
      refine Z_jump 1 rfl ?_
      show Zs _ _ (am_P 172).2 (26, [(0, .ref 73), (1, .ref 79), (2, .int (nI r))], [.int (-1 : Int32)]) (HH I J R T) _
      refine Z_rI rfl (by first | exact am_nw0 _ | exact am_nw01 | rfl | assumption) ?_
      exact ⟨rfl, rfl⟩
    · rw [if_neg hs, if_pos hl]
      refine Z_jump 3 rfl ?_
      show Zs _ _ (am_P 172).2 (3, [(0, .ref 73), (1, .ref 79), (2, .int (nI r))], [.int (nI r), .ref 79, .ref 73]) (HH I J R T) _
      refine Z_c1 rfl rfl rfl (m_shows (by decide) rfl (by omega)) ?_
      show Zs _ _ (am_P 172).2 (6, [(0, .ref 73), (1, .ref 79), (2, .int (nI r))], [.int (M_sh I 79 r)]) (HH I J R T) _
      refine Z_jump 3 rfl ?_
      show Zs _ _ (am_P 172).2 (11, [(0, .ref 73), (1, .ref 79), (2, .int (nI r))], [.int (nI r), .ref 75, .int (M_sh I 79 r)]) (HH I J R T) _
      refine Z_ialK (r) rfl rfl (rfl) (by omega) (by decide) ?_
      show Zs _ _ (am_P 172).2 (12, [(0, .ref 73), (1, .ref 79), (2, .int (nI r))], [.int (I 75 r), .int (M_sh I 79 r)]) (HH I J R T) _
      show Zs _ _ (am_P 172).2 (12, [(0, .ref 73), (1, .ref 79), (2, .int (nI r))], [.int (I 75 r), .int (M_sh I 79 r)]) (HH I J R T) _
      refine Z_eqI (y := (nI (D.2.1 r).2.1)) (eb) ?_
      show Zs _ _ (am_P 172).2 (12, [(0, .ref 73), (1, .ref 79), (2, .int (nI r))], [.int (nI (D.2.1 r).2.1), .int (M_sh I 79 r)]) (HH I J R T) _
      refine Z_jump 1 rfl ?_
      refine Z_bd (fun c12 => absurd c12 (hs)) (fun c12 => ?_)
      refine Z_jump 5 rfl ?_
      show Zs _ _ (am_P 172).2 (22, [(0, .ref 73), (1, .ref 79), (2, .int (nI r))], [.int ((I 73 0) - (1 : Int32)), .int (nI r)]) (HH I J R T) _
      refine Z_eqI (y := (nI D.1 - 1)) (en) ?_
      show Zs _ _ (am_P 172).2 (22, [(0, .ref 73), (1, .ref 79), (2, .int (nI r))], [.int (nI D.1 - 1), .int (nI r)]) (HH I J R T) _
      refine Z_jump 1 rfl ?_
      refine Z_bn (fun c22 => absurd (hl) c22) (fun c22 => ?_)
      refine Z_jump 1 rfl ?_
      show Zs _ _ (am_P 172).2 (26, [(0, .ref 73), (1, .ref 79), (2, .int (nI r))], [.int (-1 : Int32)]) (HH I J R T) _
      refine Z_rI rfl (by first | exact am_nw0 _ | exact am_nw01 | rfl | assumption) ?_
      exact ⟨rfl, rfl⟩
  · have hr2 : r + 1 < D.1 := by
      by_cases z : r + 1 < D.1
      · exact z
      · exact absurd (by rw [show D.1 = r + 1 by omega]; exact (nI_pred r).symm) hl
    have hD4 : ∀ a b : Int32, caI I 79 r a b 73 = I 73 := fun a b => by unfold caI; rw [sf_c (by decide), sf_c (by decide), sf_c (by decide), sf_c (by decide)]
    refine Z_jump 3 rfl ?_
    show Zs _ _ (am_P 172).2 (3, [(0, .ref 73), (1, .ref 79), (2, .int (nI r))], [.int (nI r), .ref 79, .ref 73]) (HH I J R T) _
    refine Z_c1 rfl rfl rfl (m_shows (by decide) rfl (by omega)) ?_
    show Zs _ _ (am_P 172).2 (6, [(0, .ref 73), (1, .ref 79), (2, .int (nI r))], [.int (M_sh I 79 r)]) (HH I J R T) _
    refine Z_jump 3 rfl ?_
    show Zs _ _ (am_P 172).2 (11, [(0, .ref 73), (1, .ref 79), (2, .int (nI r))], [.int (nI r), .ref 75, .int (M_sh I 79 r)]) (HH I J R T) _
    refine Z_ialK (r) rfl rfl (rfl) (by omega) (by decide) ?_
    show Zs _ _ (am_P 172).2 (12, [(0, .ref 73), (1, .ref 79), (2, .int (nI r))], [.int (I 75 r), .int (M_sh I 79 r)]) (HH I J R T) _
    show Zs _ _ (am_P 172).2 (12, [(0, .ref 73), (1, .ref 79), (2, .int (nI r))], [.int (I 75 r), .int (M_sh I 79 r)]) (HH I J R T) _
    refine Z_eqI (y := (nI (D.2.1 r).2.1)) (eb) ?_
    show Zs _ _ (am_P 172).2 (12, [(0, .ref 73), (1, .ref 79), (2, .int (nI r))], [.int (nI (D.2.1 r).2.1), .int (M_sh I 79 r)]) (HH I J R T) _
    refine Z_jump 1 rfl ?_
    refine Z_bd (fun (c12 : (M_sh I 79 r) < (nI (D.2.1 r).2.1)) => ?_) (fun (c12 : ¬ ((M_sh I 79 r) < (nI (D.2.1 r).2.1))) => ?_)
    · refine Z_jump 1 rfl ?_
      show Zs _ _ (am_P 172).2 (26, [(0, .ref 73), (1, .ref 79), (2, .int (nI r))], [.int (-1 : Int32)]) (HH I J R T) _
      refine Z_rI rfl (by first | exact am_nw0 _ | exact am_nw01 | rfl | assumption) ?_
      rw [if_pos c12]
      exact ⟨rfl, rfl⟩
    · refine Z_jump 5 rfl ?_
      show Zs _ _ (am_P 172).2 (22, [(0, .ref 73), (1, .ref 79), (2, .int (nI r))], [.int ((I 73 0) - (1 : Int32)), .int (nI r)]) (HH I J R T) _
      refine Z_eqI (y := (nI D.1 - 1)) (en) ?_
      show Zs _ _ (am_P 172).2 (22, [(0, .ref 73), (1, .ref 79), (2, .int (nI r))], [.int (nI D.1 - 1), .int (nI r)]) (HH I J R T) _
      refine Z_jump 1 rfl ?_
      refine Z_bn (fun c22 => ?_) (fun c22 => absurd c22 (hl))
      refine Z_jump 6 rfl ?_
      show Zs _ _ (am_P 172).2 (33, [(0, .ref 73), (1, .ref 79), (2, .int (nI r))], [.int (nI r), .ref 79, .ref 73, .int (nI r), .ref 79, .ref 73]) (HH I J R T) _
      refine Z_c1 rfl rfl rfl (m_shows (by decide) rfl (by omega)) ?_
      show Zs _ _ (am_P 172).2 (36, [(0, .ref 73), (1, .ref 79), (2, .int (nI r))], [.int (M_sh I 79 r), .int (nI r), .ref 79, .ref 73]) (HH I J R T) _
      refine Z_jump 3 rfl ?_
      show Zs _ _ (am_P 172).2 (41, [(0, .ref 73), (1, .ref 79), (2, .int (nI r))], [.int (nI r), .ref 75, .int (M_sh I 79 r), .int (nI r), .ref 79, .ref 73]) (HH I J R T) _
      refine Z_ialK (r) rfl rfl (rfl) (by omega) (by decide) ?_
      show Zs _ _ (am_P 172).2 (42, [(0, .ref 73), (1, .ref 79), (2, .int (nI r))], [.int (I 75 r), .int (M_sh I 79 r), .int (nI r), .ref 79, .ref 73]) (HH I J R T) _
      show Zs _ _ (am_P 172).2 (42, [(0, .ref 73), (1, .ref 79), (2, .int (nI r))], [.int (I 75 r), .int (M_sh I 79 r), .int (nI r), .ref 79, .ref 73]) (HH I J R T) _
      refine Z_eqI (y := (nI (D.2.1 r).2.1)) (eb) ?_
      show Zs _ _ (am_P 172).2 (42, [(0, .ref 73), (1, .ref 79), (2, .int (nI r))], [.int (nI (D.2.1 r).2.1), .int (M_sh I 79 r), .int (nI r), .ref 79, .ref 73]) (HH I J R T) _
      refine Z_jump 1 rfl ?_
      show Zs _ _ (am_P 172).2 (43, [(0, .ref 73), (1, .ref 79), (2, .int (nI r))], [.int ((M_sh I 79 r) - (nI (D.2.1 r).2.1)), .int (nI r), .ref 79, .ref 73]) (HH I J R T) _
      refine Z_c1 rfl rfl rfl (m_alone6 hD hr) ?_
      show Zs _ _ (am_P 172).2 (46, [(0, .ref 73), (1, .ref 79), (2, .int (nI r))], [.int (ca1 I D 79 r)]) (HH I J R T) _
      refine Z_jump 6 rfl ?_
      show Zs _ _ (am_P 172).2 (52, [(0, .ref 73), (1, .ref 79), (2, .int (nI r)), (3, .int (ca1 I D 79 r))], [.int ((nI r) + (1 : Int32)), .ref 79, .ref 73]) (HH I J R T) _
      refine Z_eqI (y := (nI (r + 1))) (e1) ?_
      show Zs _ _ (am_P 172).2 (52, [(0, .ref 73), (1, .ref 79), (2, .int (nI r)), (3, .int (ca1 I D 79 r))], [.int (nI (r + 1)), .ref 79, .ref 73]) (HH I J R T) _
      refine Z_jump 5 rfl ?_
      show Zs _ _ (am_P 172).2 (57, [(0, .ref 73), (1, .ref 79), (2, .int (nI r)), (3, .int (ca1 I D 79 r))], [.int ((nI r) + (1 : Int32)), .ref 79, .ref 73, .int (nI (r + 1)), .ref 79, .ref 73]) (HH I J R T) _
      refine Z_eqI (y := (nI (r + 1))) (e1) ?_
      show Zs _ _ (am_P 172).2 (57, [(0, .ref 73), (1, .ref 79), (2, .int (nI r)), (3, .int (ca1 I D 79 r))], [.int (nI (r + 1)), .ref 79, .ref 73, .int (nI (r + 1)), .ref 79, .ref 73]) (HH I J R T) _
      show Zs _ _ (am_P 172).2 (57, [(0, .ref 73), (1, .ref 79), (2, .int (nI r)), (3, .int (ca1 I D 79 r))], [.int (nI (r + 1)), .ref 79, .ref 73, .int (nI (r + 1)), .ref 79, .ref 73]) (HH I J R T) _
      refine Z_c1 rfl rfl rfl (m_shows (by decide) rfl (by omega)) ?_
      show Zs _ _ (am_P 172).2 (60, [(0, .ref 73), (1, .ref 79), (2, .int (nI r)), (3, .int (ca1 I D 79 r))], [.int (M_sh I 79 (r + 1)), .int (nI (r + 1)), .ref 79, .ref 73]) (HH I J R T) _
      refine Z_jump 2 rfl ?_
      show Zs _ _ (am_P 172).2 (62, [(0, .ref 73), (1, .ref 79), (2, .int (nI r)), (3, .int (ca1 I D 79 r))], [.int ((M_sh I 79 (r + 1)) + (1 : Int32)), .int (nI (r + 1)), .ref 79, .ref 73]) (HH I J R T) _
      refine Z_c1 rfl rfl rfl (m_alone6 hD hr2) ?_
      show Zs _ _ (am_P 172).2 (65, [(0, .ref 73), (1, .ref 79), (2, .int (nI r)), (3, .int (ca1 I D 79 r))], [.int (ca2 I D 79 r)]) (HH I J R T) _
      refine Z_jump 3 rfl ?_
      refine Z_bd (fun (c68 : (ca1 I D 79 r) < (0 : Int32)) => ?_) (fun (c68 : ¬ ((ca1 I D 79 r) < (0 : Int32))) => ?_)
      · refine Z_jump 1 rfl ?_
        show Zs _ _ (am_P 172).2 (77, [(0, .ref 73), (1, .ref 79), (2, .int (nI r)), (3, .int (ca1 I D 79 r)), (4, .int (ca2 I D 79 r))], [.int (-1 : Int32)]) (HH I J R T) _
        refine Z_rI rfl (by first | exact am_nw0 _ | exact am_nw01 | rfl | assumption) ?_
        rw [if_neg c12, if_neg hl]
        first | (rw [if_neg c68, if_pos c73]; exact ⟨rfl, rfl⟩) | (rw [if_neg c68, if_neg c73]; exact ⟨rfl, rfl⟩) | (rw [if_pos c68]; exact ⟨rfl, rfl⟩)
      · refine Z_jump 2 rfl ?_
        refine Z_bd (fun (c73 : (0 : Int32) ≤ (ca2 I D 79 r)) => ?_) (fun (c73 : ¬ ((0 : Int32) ≤ (ca2 I D 79 r))) => ?_)
        · refine Z_jump 6 rfl ?_
          show Zs _ _ (am_P 172).2 (85, [(0, .ref 73), (1, .ref 79), (2, .int (nI r)), (3, .int (ca1 I D 79 r)), (4, .int (ca2 I D 79 r))], [.int ((ca1 I D 79 r) - (ca1 I D 79 r) / (10 : Int32) * (10 : Int32)), .int (nI r), .ref 79, .ref 73]) (HH I J R T) _
          refine Z_eqI (y := (dL (ca1 I D 79 r))) (rfl) ?_
          show Zs _ _ (am_P 172).2 (85, [(0, .ref 73), (1, .ref 79), (2, .int (nI r)), (3, .int (ca1 I D 79 r)), (4, .int (ca2 I D 79 r))], [.int (dL (ca1 I D 79 r)), .int (nI r), .ref 79, .ref 73]) (HH I J R T) _
          refine Z_jump 3 rfl ?_
          show Zs _ _ (am_P 172).2 (89, [(0, .ref 73), (1, .ref 79), (2, .int (nI r)), (3, .int (ca1 I D 79 r)), (4, .int (ca2 I D 79 r))], [.int ((ca1 I D 79 r) / (10 : Int32)), .int (dL (ca1 I D 79 r)), .int (nI r), .ref 79, .ref 73]) (HH I J R T) _
          refine Z_eqI (y := (dH (ca1 I D 79 r))) (rfl) ?_
          show Zs _ _ (am_P 172).2 (89, [(0, .ref 73), (1, .ref 79), (2, .int (nI r)), (3, .int (ca1 I D 79 r)), (4, .int (ca2 I D 79 r))], [.int (dH (ca1 I D 79 r)), .int (dL (ca1 I D 79 r)), .int (nI r), .ref 79, .ref 73]) (HH I J R T) _
          show Zs _ _ (am_P 172).2 (89, [(0, .ref 73), (1, .ref 79), (2, .int (nI r)), (3, .int (ca1 I D 79 r)), (4, .int (ca2 I D 79 r))], [.int (dH (ca1 I D 79 r)), .int (dL (ca1 I D 79 r)), .int (nI r), .ref 79, .ref 73]) (HH I J R T) _
          refine Z_c1 rfl rfl rfl (m_change (by decide) rfl (by omega)) ?_
          show Zs _ _ (am_P 172).2 (92, [(0, .ref 73), (1, .ref 79), (2, .int (nI r)), (3, .int (ca1 I D 79 r)), (4, .int (ca2 I D 79 r))], [.int (M_ch I 79 r (dL (ca1 I D 79 r)) (dH (ca1 I D 79 r)))]) (HH I J R T) _
          refine Z_jump 5 rfl ?_
          show Zs _ _ (am_P 172).2 (97, [(0, .ref 73), (1, .ref 79), (2, .int (nI r)), (3, .int (ca1 I D 79 r)), (4, .int (ca2 I D 79 r))], [.int ((nI r) + (1 : Int32)), .ref 79, .ref 73, .int (M_ch I 79 r (dL (ca1 I D 79 r)) (dH (ca1 I D 79 r)))]) (HH I J R T) _
          refine Z_eqI (y := (nI (r + 1))) (e1) ?_
          show Zs _ _ (am_P 172).2 (97, [(0, .ref 73), (1, .ref 79), (2, .int (nI r)), (3, .int (ca1 I D 79 r)), (4, .int (ca2 I D 79 r))], [.int (nI (r + 1)), .ref 79, .ref 73, .int (M_ch I 79 r (dL (ca1 I D 79 r)) (dH (ca1 I D 79 r)))]) (HH I J R T) _
          refine Z_jump 3 rfl ?_
          show Zs _ _ (am_P 172).2 (102, [(0, .ref 73), (1, .ref 79), (2, .int (nI r)), (3, .int (ca1 I D 79 r)), (4, .int (ca2 I D 79 r))], [.int ((ca2 I D 79 r) - (ca2 I D 79 r) / (10 : Int32) * (10 : Int32)), .int (nI (r + 1)), .ref 79, .ref 73, .int (M_ch I 79 r (dL (ca1 I D 79 r)) (dH (ca1 I D 79 r)))]) (HH I J R T) _
          refine Z_eqI (y := (dL (ca2 I D 79 r))) (rfl) ?_
          show Zs _ _ (am_P 172).2 (102, [(0, .ref 73), (1, .ref 79), (2, .int (nI r)), (3, .int (ca1 I D 79 r)), (4, .int (ca2 I D 79 r))], [.int (dL (ca2 I D 79 r)), .int (nI (r + 1)), .ref 79, .ref 73, .int (M_ch I 79 r (dL (ca1 I D 79 r)) (dH (ca1 I D 79 r)))]) (HH I J R T) _
          refine Z_jump 3 rfl ?_
          show Zs _ _ (am_P 172).2 (107, [(0, .ref 73), (1, .ref 79), (2, .int (nI r)), (3, .int (ca1 I D 79 r)), (4, .int (ca2 I D 79 r))], [.int ((ca2 I D 79 r) / (10 : Int32)), .int (dL (ca2 I D 79 r)), .int (nI (r + 1)), .ref 79, .ref 73, .int (M_ch I 79 r (dL (ca1 I D 79 r)) (dH (ca1 I D 79 r)))]) (HH I J R T) _
          refine Z_eqI (y := (dH (ca2 I D 79 r))) (rfl) ?_
          show Zs _ _ (am_P 172).2 (107, [(0, .ref 73), (1, .ref 79), (2, .int (nI r)), (3, .int (ca1 I D 79 r)), (4, .int (ca2 I D 79 r))], [.int (dH (ca2 I D 79 r)), .int (dL (ca2 I D 79 r)), .int (nI (r + 1)), .ref 79, .ref 73, .int (M_ch I 79 r (dL (ca1 I D 79 r)) (dH (ca1 I D 79 r)))]) (HH I J R T) _
          show Zs _ _ (am_P 172).2 (107, [(0, .ref 73), (1, .ref 79), (2, .int (nI r)), (3, .int (ca1 I D 79 r)), (4, .int (ca2 I D 79 r))], [.int (dH (ca2 I D 79 r)), .int (dL (ca2 I D 79 r)), .int (nI (r + 1)), .ref 79, .ref 73, .int (M_ch I 79 r (dL (ca1 I D 79 r)) (dH (ca1 I D 79 r)))]) (HH I J R T) _
          refine Z_c1 rfl rfl rfl (m_change (by decide) rfl (by omega)) ?_
          show Zs _ _ (am_P 172).2 (110, [(0, .ref 73), (1, .ref 79), (2, .int (nI r)), (3, .int (ca1 I D 79 r)), (4, .int (ca2 I D 79 r))], [.int (M_ch I 79 (r + 1) (dL (ca2 I D 79 r)) (dH (ca2 I D 79 r))), .int (M_ch I 79 r (dL (ca1 I D 79 r)) (dH (ca1 I D 79 r)))]) (HH I J R T) _
          refine Z_jump 1 rfl ?_
          show Zs _ _ (am_P 172).2 (111, [(0, .ref 73), (1, .ref 79), (2, .int (nI r)), (3, .int (ca1 I D 79 r)), (4, .int (ca2 I D 79 r))], [.int ((M_ch I 79 r (dL (ca1 I D 79 r)) (dH (ca1 I D 79 r))) + (M_ch I 79 (r + 1) (dL (ca2 I D 79 r)) (dH (ca2 I D 79 r))))]) (HH I J R T) _
          refine Z_eqI (y := (caT I D 79 r)) (rfl) ?_
          show Zs _ _ (am_P 172).2 (111, [(0, .ref 73), (1, .ref 79), (2, .int (nI r)), (3, .int (ca1 I D 79 r)), (4, .int (ca2 I D 79 r))], [.int (caT I D 79 r)]) (HH I J R T) _
          refine Z_jump 8 rfl ?_
          show Zs _ _ (am_P 172).2 (121, [(0, .ref 73), (1, .ref 79), (2, .int (nI r)), (3, .int (ca1 I D 79 r)), (4, .int (ca2 I D 79 r)), (5, .int (caT I D 79 r))], [.int ((ca1 I D 79 r) - (ca1 I D 79 r) / (10 : Int32) * (10 : Int32)), .int ((0 : Int32) + (nI r)), .ref 79]) (HH I J R T) _
          refine Z_eqI (y := (dL (ca1 I D 79 r))) (rfl) ?_
          show Zs _ _ (am_P 172).2 (121, [(0, .ref 73), (1, .ref 79), (2, .int (nI r)), (3, .int (ca1 I D 79 r)), (4, .int (ca2 I D 79 r)), (5, .int (caT I D 79 r))], [.int (dL (ca1 I D 79 r)), .int ((0 : Int32) + (nI r)), .ref 79]) (HH I J R T) _
          show Zs _ _ (am_P 172).2 (121, [(0, .ref 73), (1, .ref 79), (2, .int (nI r)), (3, .int (ca1 I D 79 r)), (4, .int (ca2 I D 79 r)), (5, .int (caT I D 79 r))], [.int (dL (ca1 I D 79 r)), .int ((0 : Int32) + (nI r)), .ref 79]) (HH I J R T) _
          refine Z_iasK (r) rfl rfl (nI_z r) (by omega) (by decide) ?_
          show Zs _ _ (am_P 172).2 (122, [(0, .ref 73), (1, .ref 79), (2, .int (nI r)), (3, .int (ca1 I D 79 r)), (4, .int (ca2 I D 79 r)), (5, .int (caT I D 79 r))], []) (HH (sf I 79 r (dL (ca1 I D 79 r))) J R T) _
          refine Z_jump 7 rfl ?_
          show Zs _ _ (am_P 172).2 (131, [(0, .ref 73), (1, .ref 79), (2, .int (nI r)), (3, .int (ca1 I D 79 r)), (4, .int (ca2 I D 79 r)), (5, .int (caT I D 79 r))], [.int ((ca1 I D 79 r) / (10 : Int32)), .int ((6 : Int32) + (nI r)), .ref 79]) (HH (sf I 79 r (dL (ca1 I D 79 r))) J R T) _
          refine Z_eqI (y := (dH (ca1 I D 79 r))) (rfl) ?_
          show Zs _ _ (am_P 172).2 (131, [(0, .ref 73), (1, .ref 79), (2, .int (nI r)), (3, .int (ca1 I D 79 r)), (4, .int (ca2 I D 79 r)), (5, .int (caT I D 79 r))], [.int (dH (ca1 I D 79 r)), .int ((6 : Int32) + (nI r)), .ref 79]) (HH (sf I 79 r (dL (ca1 I D 79 r))) J R T) _
          show Zs _ _ (am_P 172).2 (131, [(0, .ref 73), (1, .ref 79), (2, .int (nI r)), (3, .int (ca1 I D 79 r)), (4, .int (ca2 I D 79 r)), (5, .int (caT I D 79 r))], [.int (dH (ca1 I D 79 r)), .int ((6 : Int32) + (nI r)), .ref 79]) (HH (sf I 79 r (dL (ca1 I D 79 r))) J R T) _
          refine Z_iasK (6 + r) rfl rfl (nI_6 r) (by omega) (by decide) ?_
          show Zs _ _ (am_P 172).2 (132, [(0, .ref 73), (1, .ref 79), (2, .int (nI r)), (3, .int (ca1 I D 79 r)), (4, .int (ca2 I D 79 r)), (5, .int (caT I D 79 r))], []) (HH (sf (sf I 79 r (dL (ca1 I D 79 r))) 79 (6 + r) (dH (ca1 I D 79 r))) J R T) _
          refine Z_jump 9 rfl ?_
          show Zs _ _ (am_P 172).2 (143, [(0, .ref 73), (1, .ref 79), (2, .int (nI r)), (3, .int (ca1 I D 79 r)), (4, .int (ca2 I D 79 r)), (5, .int (caT I D 79 r))], [.int ((ca2 I D 79 r) - (ca2 I D 79 r) / (10 : Int32) * (10 : Int32)), .int (((0 : Int32) + (nI r)) + (1 : Int32)), .ref 79]) (HH (sf (sf I 79 r (dL (ca1 I D 79 r))) 79 (6 + r) (dH (ca1 I D 79 r))) J R T) _
          refine Z_eqI (y := (dL (ca2 I D 79 r))) (rfl) ?_
          show Zs _ _ (am_P 172).2 (143, [(0, .ref 73), (1, .ref 79), (2, .int (nI r)), (3, .int (ca1 I D 79 r)), (4, .int (ca2 I D 79 r)), (5, .int (caT I D 79 r))], [.int (dL (ca2 I D 79 r)), .int (((0 : Int32) + (nI r)) + (1 : Int32)), .ref 79]) (HH (sf (sf I 79 r (dL (ca1 I D 79 r))) 79 (6 + r) (dH (ca1 I D 79 r))) J R T) _
          show Zs _ _ (am_P 172).2 (143, [(0, .ref 73), (1, .ref 79), (2, .int (nI r)), (3, .int (ca1 I D 79 r)), (4, .int (ca2 I D 79 r)), (5, .int (caT I D 79 r))], [.int (dL (ca2 I D 79 r)), .int (((0 : Int32) + (nI r)) + (1 : Int32)), .ref 79]) (HH (sf (sf I 79 r (dL (ca1 I D 79 r))) 79 (6 + r) (dH (ca1 I D 79 r))) J R T) _
          refine Z_iasK (r + 1) rfl rfl (i1) (by omega) (by decide) ?_
          show Zs _ _ (am_P 172).2 (144, [(0, .ref 73), (1, .ref 79), (2, .int (nI r)), (3, .int (ca1 I D 79 r)), (4, .int (ca2 I D 79 r)), (5, .int (caT I D 79 r))], []) (HH (sf (sf (sf I 79 r (dL (ca1 I D 79 r))) 79 (6 + r) (dH (ca1 I D 79 r))) 79 (r + 1) (dL (ca2 I D 79 r))) J R T) _
          refine Z_jump 9 rfl ?_
          show Zs _ _ (am_P 172).2 (156, [(0, .ref 73), (1, .ref 79), (2, .int (nI r)), (3, .int (ca1 I D 79 r)), (4, .int (ca2 I D 79 r)), (5, .int (caT I D 79 r))], [.int ((ca2 I D 79 r) / (10 : Int32)), .int (((6 : Int32) + (nI r)) + (1 : Int32)), .ref 79]) (HH (sf (sf (sf I 79 r (dL (ca1 I D 79 r))) 79 (6 + r) (dH (ca1 I D 79 r))) 79 (r + 1) (dL (ca2 I D 79 r))) J R T) _
          refine Z_eqI (y := (dH (ca2 I D 79 r))) (rfl) ?_
          show Zs _ _ (am_P 172).2 (156, [(0, .ref 73), (1, .ref 79), (2, .int (nI r)), (3, .int (ca1 I D 79 r)), (4, .int (ca2 I D 79 r)), (5, .int (caT I D 79 r))], [.int (dH (ca2 I D 79 r)), .int (((6 : Int32) + (nI r)) + (1 : Int32)), .ref 79]) (HH (sf (sf (sf I 79 r (dL (ca1 I D 79 r))) 79 (6 + r) (dH (ca1 I D 79 r))) 79 (r + 1) (dL (ca2 I D 79 r))) J R T) _
          show Zs _ _ (am_P 172).2 (156, [(0, .ref 73), (1, .ref 79), (2, .int (nI r)), (3, .int (ca1 I D 79 r)), (4, .int (ca2 I D 79 r)), (5, .int (caT I D 79 r))], [.int (dH (ca2 I D 79 r)), .int (((6 : Int32) + (nI r)) + (1 : Int32)), .ref 79]) (HH (sf (sf (sf I 79 r (dL (ca1 I D 79 r))) 79 (6 + r) (dH (ca1 I D 79 r))) 79 (r + 1) (dL (ca2 I D 79 r))) J R T) _
          refine Z_iasK (6 + r + 1) rfl rfl (i2) (by omega) (by decide) ?_
          show Zs _ _ (am_P 172).2 (157, [(0, .ref 73), (1, .ref 79), (2, .int (nI r)), (3, .int (ca1 I D 79 r)), (4, .int (ca2 I D 79 r)), (5, .int (caT I D 79 r))], []) (HH (sf (sf (sf (sf I 79 r (dL (ca1 I D 79 r))) 79 (6 + r) (dH (ca1 I D 79 r))) 79 (r + 1) (dL (ca2 I D 79 r))) 79 (6 + r + 1) (dH (ca2 I D 79 r))) J R T) _
          refine Z_jump 7 rfl ?_
          show Zs _ _ (am_P 172).2 (167, [(0, .ref 73), (1, .ref 79), (2, .int (nI r)), (3, .int (ca1 I D 79 r)), (4, .int (ca2 I D 79 r)), (5, .int (caT I D 79 r))], [.int (((sf (sf (sf (sf I 79 r (dL (ca1 I D 79 r))) 79 (6 + r) (dH (ca1 I D 79 r))) 79 (r + 1) (dL (ca2 I D 79 r))) 79 (6 + r + 1) (dH (ca2 I D 79 r))) 79 13) + (caT I D 79 r)), .int (13 : Int32), .ref 79]) (HH (sf (sf (sf (sf I 79 r (dL (ca1 I D 79 r))) 79 (6 + r) (dH (ca1 I D 79 r))) 79 (r + 1) (dL (ca2 I D 79 r))) 79 (6 + r + 1) (dH (ca2 I D 79 r))) J R T) _
          refine Z_c1 rfl rfl rfl (m_counted) ?_
          show Zs _ _ (am_P 172).2 (170, [(0, .ref 73), (1, .ref 79), (2, .int (nI r)), (3, .int (ca1 I D 79 r)), (4, .int (ca2 I D 79 r)), (5, .int (caT I D 79 r))], [.int (cap ((sf (sf (sf (sf I 79 r (dL (ca1 I D 79 r))) 79 (6 + r) (dH (ca1 I D 79 r))) 79 (r + 1) (dL (ca2 I D 79 r))) 79 (6 + r + 1) (dH (ca2 I D 79 r))) 79 13 + caT I D 79 r)), .int (13 : Int32), .ref 79]) (HH (sf (sf (sf (sf I 79 r (dL (ca1 I D 79 r))) 79 (6 + r) (dH (ca1 I D 79 r))) 79 (r + 1) (dL (ca2 I D 79 r))) 79 (6 + r + 1) (dH (ca2 I D 79 r))) J R T) _
          refine Z_jump 1 rfl ?_
          show Zs _ _ (am_P 172).2 (171, [(0, .ref 73), (1, .ref 79), (2, .int (nI r)), (3, .int (ca1 I D 79 r)), (4, .int (ca2 I D 79 r)), (5, .int (caT I D 79 r))], []) (HH (sf (sf (sf (sf (sf I 79 r (dL (ca1 I D 79 r))) 79 (6 + r) (dH (ca1 I D 79 r))) 79 (r + 1) (dL (ca2 I D 79 r))) 79 (6 + r + 1) (dH (ca2 I D 79 r))) 79 13 (cap ((sf (sf (sf (sf I 79 r (dL (ca1 I D 79 r))) 79 (6 + r) (dH (ca1 I D 79 r))) 79 (r + 1) (dL (ca2 I D 79 r))) 79 (6 + r + 1) (dH (ca2 I D 79 r))) 79 13 + caT I D 79 r))) J R T) _
          refine Z_jump 1 rfl ?_
          show Zs _ _ (am_P 172).2 (173, [(0, .ref 73), (1, .ref 79), (2, .int (nI r)), (3, .int (ca1 I D 79 r)), (4, .int (ca2 I D 79 r)), (5, .int (caT I D 79 r))], [.int (caT I D 79 r)]) (HH (sf (sf (sf (sf (sf I 79 r (dL (ca1 I D 79 r))) 79 (6 + r) (dH (ca1 I D 79 r))) 79 (r + 1) (dL (ca2 I D 79 r))) 79 (6 + r + 1) (dH (ca2 I D 79 r))) 79 13 (cap ((sf (sf (sf (sf I 79 r (dL (ca1 I D 79 r))) 79 (6 + r) (dH (ca1 I D 79 r))) 79 (r + 1) (dL (ca2 I D 79 r))) 79 (6 + r + 1) (dH (ca2 I D 79 r))) 79 13 + caT I D 79 r))) J R T) _
          refine Z_rI rfl (by first | exact am_nw0 _ | exact am_nw01 | rfl | assumption) ?_
          rw [if_neg c12, if_neg hl]
          first | (rw [if_neg c68, if_pos c73]; exact ⟨rfl, rfl⟩) | (rw [if_neg c68, if_neg c73]; exact ⟨rfl, rfl⟩) | (rw [if_pos c68]; exact ⟨rfl, rfl⟩)
        · refine Z_jump 1 rfl ?_
          show Zs _ _ (am_P 172).2 (77, [(0, .ref 73), (1, .ref 79), (2, .int (nI r)), (3, .int (ca1 I D 79 r)), (4, .int (ca2 I D 79 r))], [.int (-1 : Int32)]) (HH I J R T) _
          refine Z_rI rfl (by first | exact am_nw0 _ | exact am_nw01 | rfl | assumption) ?_
          rw [if_neg c12, if_neg hl]
          first | (rw [if_neg c68, if_pos c73]; exact ⟨rfl, rfl⟩) | (rw [if_neg c68, if_neg c73]; exact ⟨rfl, rfl⟩) | (rw [if_pos c68]; exact ⟨rfl, rfl⟩)
theorem m_cll6 {J : hJ} {D : FD} : ∀ (n r : Nat) (t : Int32) (I : hI) (x : Int32), r + n = D.1 → x = nI r → D.1 ≤ 6 → I 73 0 = nI D.1 → Zs sc (d + 3) (am_P 173).2 (93, [(0, .ref 73), (1, .ref 79), (2, .int (cll 79 n r t I).1)], []) (HH (cll 79 n r t I).2 J R T) Q → Zs sc (d + 3) (am_P 173).2 (4, [(0, .ref 73), (1, .ref 79), (2, .int t), (3, .int x)], []) (HH I J R T) Q
  | 0, r, t, I, x, hr, hx, h6, hn, H => by
    refine Z_jump 4 rfl ?_
    refine Z_bd (fun c9 => ?_) (fun c9 => absurd ((show I 73 0 ≤ x by rw [hn, hx]; exact nI_le (by omega) (by omega))) c9)
    show Zs _ _ (am_P 173).2 (93, [(0, .ref 73), (1, .ref 79), (2, .int t), (3, .int x)], []) (HH I J R T) _
    exact Zs_wk (H) (lnD rfl) (lnD rfl) (by repeat (first | exact trivial | refine ⟨rfl, ?_⟩))
  | n + 1, r, t, I, x, hr, hx, h6, hn, H => by
    have ex : x + 1 = nI (r + 1) := by rw [hx]; exact nI_1 r
    have hn1 : clI I 79 r 73 0 = nI D.1 := by unfold clI; rw [sf_c (by decide), sf_c (by decide)]; exact hn
    subst hx
    have W : ∀ (y z : Int32), cLo I 79 r = y → cHi I 79 r = z → Zs sc (d + 3) (am_P 173).2 (59, [(0, .ref 73), (1, .ref 79), (2, .int t), (3, .int (nI r)), (4, .int y), (5, .int z)], []) (HH I J R T) Q := fun y z hy hz => by
      subst hy
      subst hz
      refine Z_jump 6 rfl ?_
      show Zs _ _ (am_P 173).2 (67, [(0, .ref 73), (1, .ref 79), (2, .int t), (3, .int (nI r)), (4, .int (cLo I 79 r)), (5, .int (cHi I 79 r))], [.int (cHi I 79 r), .int (cLo I 79 r), .int (nI r), .ref 79, .ref 73, .int t]) (HH I J R T) _
      refine Z_c1 rfl rfl rfl (m_change (by decide) rfl (by omega)) ?_
      show Zs _ _ (am_P 173).2 (70, [(0, .ref 73), (1, .ref 79), (2, .int t), (3, .int (nI r)), (4, .int (cLo I 79 r)), (5, .int (cHi I 79 r))], [.int (M_ch I 79 r (cLo I 79 r) (cHi I 79 r)), .int t]) (HH I J R T) _
      refine Z_jump 7 rfl ?_
      show Zs _ _ (am_P 173).2 (78, [(0, .ref 73), (1, .ref 79), (2, .int (t + (M_ch I 79 r (cLo I 79 r) (cHi I 79 r)))), (3, .int (nI r)), (4, .int (cLo I 79 r)), (5, .int (cHi I 79 r))], [.int (cLo I 79 r), .int ((0 : Int32) + (nI r)), .ref 79]) (HH I J R T) _
      refine Z_iasK (r) rfl rfl (nI_z r) (by omega) (by decide) ?_
      show Zs _ _ (am_P 173).2 (79, [(0, .ref 73), (1, .ref 79), (2, .int (t + (M_ch I 79 r (cLo I 79 r) (cHi I 79 r)))), (3, .int (nI r)), (4, .int (cLo I 79 r)), (5, .int (cHi I 79 r))], []) (HH (sf I 79 r (cLo I 79 r)) J R T) _
      refine Z_jump 5 rfl ?_
      show Zs _ _ (am_P 173).2 (86, [(0, .ref 73), (1, .ref 79), (2, .int (t + (M_ch I 79 r (cLo I 79 r) (cHi I 79 r)))), (3, .int (nI r)), (4, .int (cLo I 79 r)), (5, .int (cHi I 79 r))], [.int (cHi I 79 r), .int ((6 : Int32) + (nI r)), .ref 79]) (HH (sf I 79 r (cLo I 79 r)) J R T) _
      refine Z_iasK (6 + r) rfl rfl (nI_6 r) (by omega) (by decide) ?_
      show Zs _ _ (am_P 173).2 (87, [(0, .ref 73), (1, .ref 79), (2, .int (t + (M_ch I 79 r (cLo I 79 r) (cHi I 79 r)))), (3, .int (nI r)), (4, .int (cLo I 79 r)), (5, .int (cHi I 79 r))], []) (HH (sf (sf I 79 r (cLo I 79 r)) 79 (6 + r) (cHi I 79 r)) J R T) _
      refine Z_jump 2 rfl ?_
      show Zs _ _ (am_P 173).2 (4, [(0, .ref 73), (1, .ref 79), (2, .int (t + (M_ch I 79 r (cLo I 79 r) (cHi I 79 r)))), (3, .int ((nI r) + 1)), (4, .int (cLo I 79 r)), (5, .int (cHi I 79 r))], []) (HH (sf (sf I 79 r (cLo I 79 r)) 79 (6 + r) (cHi I 79 r)) J R T) _
      exact Zs_wk (m_cll6 n (r + 1) _ (clI I 79 r) _ (by omega) ex h6 hn1 H) (lnD rfl) (lnD rfl) (by repeat (first | exact trivial | refine ⟨rfl, ?_⟩))
    unfold cLo cHi at W
    refine Z_jump 4 rfl ?_
    refine Z_bd (fun c9 => absurd c9 ((show ¬ I 73 0 ≤ nI r by rw [hn]; exact nI_ge (by omega) (by omega)))) (fun c9 => ?_)
    refine Z_jump 5 rfl ?_
    show Zs _ _ (am_P 173).2 (18, [(0, .ref 73), (1, .ref 79), (2, .int t), (3, .int (nI r))], [.int (0 : Int32), .int (nI r), .int (I 79 12)]) (HH I J R T) _
    by_cases b18 : M_bit (I 79 12) (nI r) 0
    · refine Z_c1 rfl rfl rfl (E_pos (m_isStuck) b18) ?_
      show Zs _ _ (am_P 173).2 (21, [(0, .ref 73), (1, .ref 79), (2, .int t), (3, .int (nI r))], [.int (1 : Int32)]) (HH I J R T) _
      refine Z_jump 5 rfl ?_
      show Zs _ _ (am_P 173).2 (28, [(0, .ref 73), (1, .ref 79), (2, .int t), (3, .int (nI r))], [.int ((0 : Int32) + (nI r)), .ref 79]) (HH I J R T) _
      refine Z_ialK (r) rfl rfl (nI_z r) (by omega) (by decide) ?_
      show Zs _ _ (am_P 173).2 (29, [(0, .ref 73), (1, .ref 79), (2, .int t), (3, .int (nI r))], [.int (I 79 r)]) (HH I J R T) _
      refine Z_jump 7 rfl ?_
      show Zs _ _ (am_P 173).2 (41, [(0, .ref 73), (1, .ref 79), (2, .int t), (3, .int (nI r)), (4, .int (I 79 r))], [.int (1 : Int32), .int (nI r), .int (I 79 12)]) (HH I J R T) _
      by_cases b41 : M_bit (I 79 12) (nI r) 1
      · refine Z_c1 rfl rfl rfl (E_pos (m_isStuck) b41) ?_
        show Zs _ _ (am_P 173).2 (44, [(0, .ref 73), (1, .ref 79), (2, .int t), (3, .int (nI r)), (4, .int (I 79 r))], [.int (1 : Int32)]) (HH I J R T) _
        refine Z_jump 5 rfl ?_
        show Zs _ _ (am_P 173).2 (52, [(0, .ref 73), (1, .ref 79), (2, .int t), (3, .int (nI r)), (4, .int (I 79 r))], [.int ((6 : Int32) + (nI r)), .ref 79]) (HH I J R T) _
        refine Z_ialK (6 + r) rfl rfl (nI_6 r) (by omega) (by decide) ?_
        show Zs _ _ (am_P 173).2 (53, [(0, .ref 73), (1, .ref 79), (2, .int t), (3, .int (nI r)), (4, .int (I 79 r))], [.int (I 79 (6 + r))]) (HH I J R T) _
        refine Z_jump 2 rfl ?_
        show Zs _ _ (am_P 173).2 (59, [(0, .ref 73), (1, .ref 79), (2, .int t), (3, .int (nI r)), (4, .int (I 79 r)), (5, .int (I 79 (6 + r)))], []) (HH I J R T) _
        first | exact W _ _ (if_pos b18) (if_pos b41) | exact W _ _ (if_pos b18) (if_neg b41) | exact W _ _ (if_neg b18) (if_pos b41) | exact W _ _ (if_neg b18) (if_neg b41)
      · refine Z_c1 rfl rfl rfl (E_neg (m_isStuck) b41) ?_
        show Zs _ _ (am_P 173).2 (44, [(0, .ref 73), (1, .ref 79), (2, .int t), (3, .int (nI r)), (4, .int (I 79 r))], [.int (0 : Int32)]) (HH I J R T) _
        refine Z_jump 3 rfl ?_
        show Zs _ _ (am_P 173).2 (59, [(0, .ref 73), (1, .ref 79), (2, .int t), (3, .int (nI r)), (4, .int (I 79 r)), (5, .int (0 : Int32))], []) (HH I J R T) _
        first | exact W _ _ (if_pos b18) (if_pos b41) | exact W _ _ (if_pos b18) (if_neg b41) | exact W _ _ (if_neg b18) (if_pos b41) | exact W _ _ (if_neg b18) (if_neg b41)
    · refine Z_c1 rfl rfl rfl (E_neg (m_isStuck) b18) ?_
      show Zs _ _ (am_P 173).2 (21, [(0, .ref 73), (1, .ref 79), (2, .int t), (3, .int (nI r))], [.int (0 : Int32)]) (HH I J R T) _
      refine Z_jump 8 rfl ?_
      show Zs _ _ (am_P 173).2 (41, [(0, .ref 73), (1, .ref 79), (2, .int t), (3, .int (nI r)), (4, .int (0 : Int32))], [.int (1 : Int32), .int (nI r), .int (I 79 12)]) (HH I J R T) _
      by_cases b41 : M_bit (I 79 12) (nI r) 1
      · refine Z_c1 rfl rfl rfl (E_pos (m_isStuck) b41) ?_
        show Zs _ _ (am_P 173).2 (44, [(0, .ref 73), (1, .ref 79), (2, .int t), (3, .int (nI r)), (4, .int (0 : Int32))], [.int (1 : Int32)]) (HH I J R T) _
        refine Z_jump 5 rfl ?_
        show Zs _ _ (am_P 173).2 (52, [(0, .ref 73), (1, .ref 79), (2, .int t), (3, .int (nI r)), (4, .int (0 : Int32))], [.int ((6 : Int32) + (nI r)), .ref 79]) (HH I J R T) _
        refine Z_ialK (6 + r) rfl rfl (nI_6 r) (by omega) (by decide) ?_
        show Zs _ _ (am_P 173).2 (53, [(0, .ref 73), (1, .ref 79), (2, .int t), (3, .int (nI r)), (4, .int (0 : Int32))], [.int (I 79 (6 + r))]) (HH I J R T) _
        refine Z_jump 2 rfl ?_
        show Zs _ _ (am_P 173).2 (59, [(0, .ref 73), (1, .ref 79), (2, .int t), (3, .int (nI r)), (4, .int (0 : Int32)), (5, .int (I 79 (6 + r)))], []) (HH I J R T) _
        first | exact W _ _ (if_pos b18) (if_pos b41) | exact W _ _ (if_pos b18) (if_neg b41) | exact W _ _ (if_neg b18) (if_pos b41) | exact W _ _ (if_neg b18) (if_neg b41)
      · refine Z_c1 rfl rfl rfl (E_neg (m_isStuck) b41) ?_
        show Zs _ _ (am_P 173).2 (44, [(0, .ref 73), (1, .ref 79), (2, .int t), (3, .int (nI r)), (4, .int (0 : Int32))], [.int (0 : Int32)]) (HH I J R T) _
        refine Z_jump 3 rfl ?_
        show Zs _ _ (am_P 173).2 (59, [(0, .ref 73), (1, .ref 79), (2, .int t), (3, .int (nI r)), (4, .int (0 : Int32)), (5, .int (0 : Int32))], []) (HH I J R T) _
        first | exact W _ _ (if_pos b18) (if_pos b41) | exact W _ _ (if_pos b18) (if_neg b41) | exact W _ _ (if_neg b18) (if_pos b41) | exact W _ _ (if_neg b18) (if_neg b41)
theorem m_clears6 {I : hI} {J : hJ} {D : FD} (hD : DMf D I) : am_E sc (d + 4) 173 [.ref 73, .ref 79] (HH I J R T) none (HH (clF I 79 D.1) J R T) := by
  refine E_Z (Ze_of (Nat.le_of_ble_eq_true rfl) ?_)
  have h6 := hD.2.1
  unfold clF
  have W : Zs sc (d + 3) (am_P 173).2 (93, [(0, .ref 73), (1, .ref 79), (2, .int (cll 79 D.1 0 0 I).1)], []) (HH (cll 79 D.1 0 0 I).2 J R T) (fun r h => r = none ∧ h = HH (sf (cll 79 D.1 0 0 I).2 79 13 (cap ((cll 79 D.1 0 0 I).2 79 13 + (cll 79 D.1 0 0 I).1))) J R T) := by
    generalize cll 79 D.1 0 0 I = w
    refine Z_jump 7 rfl ?_
    show Zs _ _ (am_P 173).2 (102, [(0, .ref 73), (1, .ref 79), (2, .int w.1)], [.int ((w.2 79 13) + w.1), .int (13 : Int32), .ref 79]) (HH w.2 J R T) _
    refine Z_c1 rfl rfl rfl (m_counted) ?_
    show Zs _ _ (am_P 173).2 (105, [(0, .ref 73), (1, .ref 79), (2, .int w.1)], [.int (cap (w.2 79 13 + w.1)), .int (13 : Int32), .ref 79]) (HH w.2 J R T) _
    refine Z_jump 1 rfl ?_
    show Zs _ _ (am_P 173).2 (106, [(0, .ref 73), (1, .ref 79), (2, .int w.1)], []) (HH (sf w.2 79 13 (cap (w.2 79 13 + w.1))) J R T) _
    show Zs _ _ (am_P 173).2 (106, [(0, .ref 73), (1, .ref 79), (2, .int w.1)], []) (HH (sf w.2 79 13 (cap (w.2 79 13 + w.1))) J R T) _
    refine Z_ret rfl rfl rfl ?_
    exact ⟨rfl, rfl⟩
  refine Z_jump 4 rfl ?_
  show Zs _ _ (am_P 173).2 (4, [(0, .ref 73), (1, .ref 79), (2, .int (0 : Int32)), (3, .int (0 : Int32))], []) (HH I J R T) _
  exact m_cll6 D.1 0 _ _ _ (by omega) rfl h6 hD.1 W

theorem m_pu_a {I : hI} {J : hJ} {D : FD} {k : Nat} {v p : Int32} (hk : k < D.1) (h6 : D.1 ≤ 6) (hp : p = 0) (H : Q (some (.int (I 83 k))) (HH I J R T)) : Zs sc d (am_P 214).2 (63, [(0, .ref 73), (1, .int v), (2, .int (nI k)), (3, .int p)], [.ref 83]) (HH I J R T) Q := by
  refine Z_jump 2 rfl ?_
  refine Z_bn (fun c64 => absurd (hp) c64) (fun c64 => ?_)
  refine Z_jump 4 rfl ?_
  show Zs _ _ (am_P 214).2 (77, [(0, .ref 73), (1, .int v), (2, .int (nI k)), (3, .int p)], [.int ((0 : Int32) + (nI k)), .ref 83]) (HH I J R T) _
  refine Z_ialK (k) rfl rfl (nI_z k) (by omega) (by decide) ?_
  show Zs _ _ (am_P 214).2 (78, [(0, .ref 73), (1, .int v), (2, .int (nI k)), (3, .int p)], [.int (I 83 k)]) (HH I J R T) _
  show Zs _ _ (am_P 214).2 (78, [(0, .ref 73), (1, .int v), (2, .int (nI k)), (3, .int p)], [.int (I 83 k)]) (HH I J R T) _
  refine Z_rI rfl (by first | exact am_nw0 _ | exact am_nw01 | rfl | assumption) ?_
  exact H
theorem m_pu_b {I : hI} {J : hJ} {D : FD} {k : Nat} {v p : Int32} (hk : k < D.1) (h6 : D.1 ≤ 6) (hp : ¬ p = 0) (H : Q (some (.int (I 83 (6 + k)))) (HH I J R T)) : Zs sc d (am_P 214).2 (63, [(0, .ref 73), (1, .int v), (2, .int (nI k)), (3, .int p)], [.ref 83]) (HH I J R T) Q := by
  refine Z_jump 2 rfl ?_
  refine Z_bn (fun c64 => ?_) (fun c64 => absurd c64 (hp))
  refine Z_jump 3 rfl ?_
  show Zs _ _ (am_P 214).2 (77, [(0, .ref 73), (1, .int v), (2, .int (nI k)), (3, .int p)], [.int ((6 : Int32) + (nI k)), .ref 83]) (HH I J R T) _
  refine Z_ialK (6 + k) rfl rfl (nI_6 k) (by omega) (by decide) ?_
  show Zs _ _ (am_P 214).2 (78, [(0, .ref 73), (1, .int v), (2, .int (nI k)), (3, .int p)], [.int (I 83 (6 + k))]) (HH I J R T) _
  show Zs _ _ (am_P 214).2 (78, [(0, .ref 73), (1, .int v), (2, .int (nI k)), (3, .int p)], [.int (I 83 (6 + k))]) (HH I J R T) _
  refine Z_rI rfl (by first | exact am_nw0 _ | exact am_nw01 | rfl | assumption) ?_
  exact H
theorem DM_rm {I I2 : hI} {D : FD} {u m : Nat} (hD : DMf D I) (h : RMm u m I I2) : DMf D I2 := by
  refine ⟨?_, hD.2.1, ?_, fun k hk => ?_⟩
  · rw [h.2.2.1 0 (by decide) (by decide)]; exact hD.1
  · rw [h.2.2.1 7 (by decide) (by decide)]; exact hD.2.2.1
  · have q := hD.2.2.2 k hk
    exact ⟨q.1, by rw [h.1 _ (by decide) (by decide)]; exact q.2.1, (congrFun (h.1 _ (by decide) (by decide)) k).trans q.2.2.1, (congrFun (h.1 _ (by decide) (by decide)) k).trans q.2.2.2.1, (congrFun (h.1 _ (by decide) (by decide)) k).trans q.2.2.2.2⟩
theorem DMf_w {I : hI} {J : hJ} {D : FD} {o : Nat} {st : Int32} {to : Int64} (hD : DMf D I) : DMf D (isP I J D o st to).2.1 := DMf_9 hD (fun a ha => isP_I ha)
theorem m_set {I : hI} {J : hJ} {D : FD} {u m : Nat} {v : Int32} (hD : DMf D I) (hu : I 73 36 = nI u) (h8 : u < 8) (hm : I 73 35 = nI m) (hm8 : m ≤ 8) : Ze sc (d + 8) 205 [.ref 73, .int v] (HH I J R T) (fun r h => (¬ M_num v ∧ r = some (.int (-3)) ∧ h = HH I J R T) ∨
    (M_num v ∧ (isP I J D 78 (I 78 12) v.toInt64).1 = 0 ∧ r = some (.int (-4)) ∧ h = HH (isP I J D 78 (I 78 12) v.toInt64).2.1 (isP I J D 78 (I 78 12) v.toInt64).2.2 R T) ∨
    (M_num v ∧ ¬ (isP I J D 78 (I 78 12) v.toInt64).1 = 0 ∧ ∃ I2, RMm u m (isP I J D 78 (I 78 12) v.toInt64).2.1 I2 ∧ r = some (.int (seF I2 (isP I J D 78 (I 78 12) v.toInt64).2.2 D 78 v.toInt64).1) ∧ h = HH (seF I2 (isP I J D 78 (I 78 12) v.toInt64).2.2 D 78 v.toInt64).2.1 (seF I2 (isP I J D 78 (I 78 12) v.toInt64).2.2 D 78 v.toInt64).2.2 R T)) := by
  refine Ze_of (Nat.le_of_ble_eq_true rfl) ?_
  have hDw : DMf D (isP I J D 78 (I 78 12) v.toInt64).2.1 := DMf_w hD
  have hu' : (isP I J D 78 (I 78 12) v.toInt64).2.1 73 36 = nI u := (congrFun (isP_I (by decide)) _).trans hu
  have hm' : (isP I J D 78 (I 78 12) v.toInt64).2.1 73 35 = nI m := (congrFun (isP_I (by decide)) _).trans hm
  have hE := m_isShown (sc := sc) (d := d + 1) (R := R) (T := T) (J := J) (o := 78) (st := I 78 12) (due := v.toInt64) (by decide) hD
  generalize isP I J D 78 (I 78 12) v.toInt64 = w at hDw hu' hm' hE ⊢
  refine Z_jump 1 rfl ?_
  show Zs _ _ (am_P 205).2 (1, [(0, .ref 73), (1, .int v)], [.int v]) (HH I J R T) _
  by_cases b1 : M_num v
  · refine Z_c1 rfl rfl rfl (E_pos (m_isNumber) b1) ?_
    show Zs _ _ (am_P 205).2 (4, [(0, .ref 73), (1, .int v)], [.int (1 : Int32)]) (HH I J R T) _
    refine Z_jump 10 rfl ?_
    show Zs _ _ (am_P 205).2 (24, [(0, .ref 73), (1, .int v)], [.long (Int32.toInt64 v), .int (I 78 12), .ref 78, .ref 73]) (HH I J R T) _
    refine Z_c1 rfl rfl rfl (hE) ?_
    show Zs _ _ (am_P 205).2 (27, [(0, .ref 73), (1, .int v)], [.int w.1]) (HH w.2.1 w.2.2 R T) _
    refine Z_jump 1 rfl ?_
    refine Z_bn (fun (c27 : ¬ (w.1 = (0 : Int32))) => ?_) (fun (c27 : w.1 = (0 : Int32)) => ?_)
    · refine Z_jump 1 rfl ?_
      show Zs _ _ (am_P 205).2 (34, [(0, .ref 73), (1, .int v)], [.ref 73]) (HH w.2.1 w.2.2 R T) _
      refine Z_cQ rfl rfl rfl (Ze_deep (d := 1) (by omega) (m_remember (d := 0) hu' h8 hm' hm8)) (fun v h1 hq => ?_)
      obtain ⟨rfl, I2, rfl, hq⟩ := hq
      have hD2 : DMf D I2 := DM_rm hDw hq
      show Zs _ _ (am_P 205).2 (37, [(0, .ref 73), (1, .int v)], []) (HH I2 w.2.2 R T) _
      refine Z_jump 5 rfl ?_
      show Zs _ _ (am_P 205).2 (44, [(0, .ref 73), (1, .int v)], [.long (Int32.toInt64 v), .ref 78, .ref 73]) (HH I2 w.2.2 R T) _
      refine Z_c1 rfl rfl rfl (m_sets5 hD2) ?_
      show Zs _ _ (am_P 205).2 (47, [(0, .ref 73), (1, .int v)], [.int (seF I2 w.2.2 D 78 v.toInt64).1]) (HH (seF I2 w.2.2 D 78 v.toInt64).2.1 (seF I2 w.2.2 D 78 v.toInt64).2.2 R T) _
      show Zs _ _ (am_P 205).2 (47, [(0, .ref 73), (1, .int v)], [.int (seF I2 w.2.2 D 78 v.toInt64).1]) (HH (seF I2 w.2.2 D 78 v.toInt64).2.1 (seF I2 w.2.2 D 78 v.toInt64).2.2 R T) _
      refine Z_rI rfl (by first | exact am_nw0 _ | exact am_nw01 | rfl | assumption) ?_
      exact Or.inr (Or.inr ⟨b1, c27, I2, hq, rfl, rfl⟩)
    · refine Z_jump 1 rfl ?_
      show Zs _ _ (am_P 205).2 (32, [(0, .ref 73), (1, .int v)], [.int (-4 : Int32)]) (HH w.2.1 w.2.2 R T) _
      refine Z_rI rfl (by first | exact am_nw0 _ | exact am_nw01 | rfl | assumption) ?_
      exact Or.inr (Or.inl ⟨b1, c27, rfl, rfl⟩)
  · refine Z_c1 rfl rfl rfl (E_neg (m_isNumber) b1) ?_
    show Zs _ _ (am_P 205).2 (4, [(0, .ref 73), (1, .int v)], [.int (0 : Int32)]) (HH I J R T) _
    refine Z_jump 2 rfl ?_
    show Zs _ _ (am_P 205).2 (9, [(0, .ref 73), (1, .int v)], [.int (-3 : Int32)]) (HH I J R T) _
    refine Z_rI rfl (by first | exact am_nw0 _ | exact am_nw01 | rfl | assumption) ?_
    exact Or.inl ⟨b1, rfl, rfl⟩
def cpN (I : hI) : hI := va_up I 79 (fun j => if j < 14 then I 78 j else I 79 j)
theorem m_carry {I : hI} {J : hJ} {D : FD} {u m : Nat} {x : Int32} (hD : DMf D I) (hu : I 73 36 = nI u) (h8 : u < 8) (hm : I 73 35 = nI m) (hm8 : m ≤ 8) : Ze sc (d + 6) 207 [.ref 73, .int x] (HH I J R T) (fun r h => (¬ M_rod D.1 x ∧ r = some (.int (-2)) ∧ h = HH I J R T) ∨
    (∃ k, k < D.1 ∧ x = nI k ∧ (caF (cpN I) D 79 k).1 < 0 ∧ r = some (.int (-4)) ∧ h = HH (caF (cpN I) D 79 k).2 J R T) ∨
    (∃ k, k < D.1 ∧ x = nI k ∧ ¬ (caF (cpN I) D 79 k).1 < 0 ∧ ∃ I2, RMm u m (caF (cpN I) D 79 k).2 I2 ∧ r = some (.int (caF I2 D 78 k).1) ∧ h = HH (caF I2 D 78 k).2 J R T)) := by
  refine Ze_of (Nat.le_of_ble_eq_true rfl) ?_
  have hD1 : DMf D (cpN I) := DMf_of hD (up_ne (by decide)) (up_ne (by decide)) (up_ne (by decide)) (up_ne (by decide)) (up_ne (by decide))
  have c1 : ∀ a, a ≠ 79 → cpN I a = I a := fun a ha => up_ne ha
  by_cases hr : M_rod D.1 x
  · obtain ⟨k, hk, hx⟩ := rod_n hr
    have hDw : DMf D (caF (cpN I) D 79 k).2 := DMf_of hD1 (caF_c (by decide)) (caF_c (by decide)) (caF_c (by decide)) (caF_c (by decide)) (caF_c (by decide))
    have hu' : (caF (cpN I) D 79 k).2 73 36 = nI u := by rw [caF_c (by decide), c1 _ (by decide)]; exact hu
    have hm' : (caF (cpN I) D 79 k).2 73 35 = nI m := by rw [caF_c (by decide), c1 _ (by decide)]; exact hm
    refine Z_jump 2 rfl ?_
    show Zs _ _ (am_P 207).2 (2, [(0, .ref 73), (1, .int x)], [.int x, .ref 73]) (HH I J R T) _
    refine Z_c1 rfl rfl rfl (E_pos (m_isRodN hD.1 hD.2.1) hr) ?_
    show Zs _ _ (am_P 207).2 (5, [(0, .ref 73), (1, .int x)], [.int (1 : Int32)]) (HH I J R T) _
    refine Z_jump 2 rfl ?_
    show Zs _ _ (am_P 207).2 (12, [(0, .ref 73), (1, .int x)], [.ref 73]) (HH I J R T) _
    refine Z_c0 rfl rfl rfl (m_copyNow) ?_
    show Zs _ _ (am_P 207).2 (15, [(0, .ref 73), (1, .int x)], []) (HH (cpN I) J R T) _
    refine Z_jump 4 rfl ?_
    show Zs _ _ (am_P 207).2 (21, [(0, .ref 73), (1, .int x)], [.int x, .ref 79, .ref 73]) (HH (cpN I) J R T) _
    refine Z_c1 rfl rfl rfl (m_carries6 hD1 hx hk) ?_
    show Zs _ _ (am_P 207).2 (24, [(0, .ref 73), (1, .int x)], [.int (caF (cpN I) D 79 k).1]) (HH (caF (cpN I) D 79 k).2 J R T) _
    refine Z_jump 1 rfl ?_
    refine Z_bd (fun (c24 : (0 : Int32) ≤ (caF (cpN I) D 79 k).1) => ?_) (fun (c24 : ¬ ((0 : Int32) ≤ (caF (cpN I) D 79 k).1)) => ?_)
    · refine Z_jump 1 rfl ?_
      show Zs _ _ (am_P 207).2 (31, [(0, .ref 73), (1, .int x)], [.ref 73]) (HH (caF (cpN I) D 79 k).2 J R T) _
      refine Z_cQ rfl rfl rfl (Ze_deep (d := 1) (by omega) (m_remember (d := 0) hu' h8 hm' hm8)) (fun v h1 hq => ?_)
      obtain ⟨rfl, I2, rfl, hq⟩ := hq
      have hD2 : DMf D I2 := DM_rm hDw hq
      show Zs _ _ (am_P 207).2 (34, [(0, .ref 73), (1, .int x)], []) (HH I2 J R T) _
      refine Z_jump 4 rfl ?_
      show Zs _ _ (am_P 207).2 (40, [(0, .ref 73), (1, .int x)], [.int x, .ref 78, .ref 73]) (HH I2 J R T) _
      refine Z_c1 rfl rfl rfl (m_carries5 hD2 hx hk) ?_
      show Zs _ _ (am_P 207).2 (43, [(0, .ref 73), (1, .int x)], [.int (caF I2 D 78 k).1]) (HH (caF I2 D 78 k).2 J R T) _
      show Zs _ _ (am_P 207).2 (43, [(0, .ref 73), (1, .int x)], [.int (caF I2 D 78 k).1]) (HH (caF I2 D 78 k).2 J R T) _
      refine Z_rI rfl (by first | exact am_nw0 _ | exact am_nw01 | rfl | assumption) ?_
      exact Or.inr (Or.inr ⟨k, hk, hx, (by rw [fi_le] at c24; rw [fi_lt]; omega), I2, hq, rfl, rfl⟩)
    · refine Z_jump 1 rfl ?_
      show Zs _ _ (am_P 207).2 (29, [(0, .ref 73), (1, .int x)], [.int (-4 : Int32)]) (HH (caF (cpN I) D 79 k).2 J R T) _
      refine Z_rI rfl (by first | exact am_nw0 _ | exact am_nw01 | rfl | assumption) ?_
      exact Or.inr (Or.inl ⟨k, hk, hx, (by rw [fi_le] at c24; rw [fi_lt]; omega), rfl, rfl⟩)
  · refine Z_jump 2 rfl ?_
    show Zs _ _ (am_P 207).2 (2, [(0, .ref 73), (1, .int x)], [.int x, .ref 73]) (HH I J R T) _
    refine Z_c1 rfl rfl rfl (E_neg (m_isRodN hD.1 hD.2.1) hr) ?_
    show Zs _ _ (am_P 207).2 (5, [(0, .ref 73), (1, .int x)], [.int (0 : Int32)]) (HH I J R T) _
    refine Z_jump 2 rfl ?_
    show Zs _ _ (am_P 207).2 (10, [(0, .ref 73), (1, .int x)], [.int (-2 : Int32)]) (HH I J R T) _
    refine Z_rI rfl (by first | exact am_nw0 _ | exact am_nw01 | rfl | assumption) ?_
    exact Or.inl ⟨hr, rfl, rfl⟩
def wyM (I : hI) (J : hJ) (D : FD) (v : Int32) : Int32 × hI × hJ := if M_num v then (if (isP I J D 78 (I 78 12) v.toInt64).1 = 0 then 0 else ((isP I J D 78 (I 78 12) v.toInt64).2.2 81 0).toInt32, (isP I J D 78 (I 78 12) v.toInt64).2) else (-3, I, J)
theorem m_ways {I : hI} {J : hJ} {D : FD} {v : Int32} (hD : DMf D I) : am_E sc (d + 7) 212 [.ref 73, .int v] (HH I J R T) (some (.int (wyM I J D v).1)) (HH (wyM I J D v).2.1 (wyM I J D v).2.2 R T) := by
  refine E_Z (Ze_of (Nat.le_of_ble_eq_true rfl) ?_)
  have hE := m_isShown (sc := sc) (d := d) (R := R) (T := T) (J := J) (o := 78) (st := I 78 12) (due := v.toInt64) (by decide) hD
  unfold wyM
  generalize isP I J D 78 (I 78 12) v.toInt64 = w at hE ⊢
  refine Z_jump 1 rfl ?_
  show Zs _ _ (am_P 212).2 (1, [(0, .ref 73), (1, .int v)], [.int v]) (HH I J R T) _
  by_cases b1 : M_num v
  · refine Z_c1 rfl rfl rfl (E_pos (m_isNumber) b1) ?_
    show Zs _ _ (am_P 212).2 (4, [(0, .ref 73), (1, .int v)], [.int (1 : Int32)]) (HH I J R T) _
    refine Z_jump 10 rfl ?_
    show Zs _ _ (am_P 212).2 (24, [(0, .ref 73), (1, .int v)], [.long (Int32.toInt64 v), .int (I 78 12), .ref 78, .ref 73]) (HH I J R T) _
    refine Z_c1 rfl rfl rfl (hE) ?_
    show Zs _ _ (am_P 212).2 (27, [(0, .ref 73), (1, .int v)], [.int w.1]) (HH w.2.1 w.2.2 R T) _
    refine Z_jump 1 rfl ?_
    refine Z_bd (fun (c27 : w.1 = (0 : Int32)) => ?_) (fun (c27 : ¬ (w.1 = (0 : Int32))) => ?_)
    · refine Z_jump 1 rfl ?_
      show Zs _ _ (am_P 212).2 (41, [(0, .ref 73), (1, .int v)], [.int (0 : Int32)]) (HH w.2.1 w.2.2 R T) _
      refine Z_rI rfl (by first | exact am_nw0 _ | exact am_nw01 | rfl | assumption) ?_
      rw [if_pos b1, if_pos c27]
      exact ⟨rfl, rfl⟩
    · refine Z_jump 6 rfl ?_
      show Zs _ _ (am_P 212).2 (41, [(0, .ref 73), (1, .int v)], [.int (Int64.toInt32 (w.2.2 81 0))]) (HH w.2.1 w.2.2 R T) _
      refine Z_rI rfl (by first | exact am_nw0 _ | exact am_nw01 | rfl | assumption) ?_
      rw [if_pos b1, if_neg c27]
      exact ⟨rfl, rfl⟩
  · refine Z_c1 rfl rfl rfl (E_neg (m_isNumber) b1) ?_
    show Zs _ _ (am_P 212).2 (4, [(0, .ref 73), (1, .int v)], [.int (0 : Int32)]) (HH I J R T) _
    refine Z_jump 2 rfl ?_
    show Zs _ _ (am_P 212).2 (9, [(0, .ref 73), (1, .int v)], [.int (-3 : Int32)]) (HH I J R T) _
    refine Z_rI rfl (by first | exact am_nw0 _ | exact am_nw01 | rfl | assumption) ?_
    rw [if_neg b1]
    exact ⟨rfl, rfl⟩
def tiM (I : hI) (J : hJ) (D : FD) (v : Int32) : Int32 × hI × hJ := if M_num v then (if (isP I J D 78 (I 78 12) v.toInt64).1 = 0 then -1 else (isP I J D 78 (I 78 12) v.toInt64).2.1 82 0, (isP I J D 78 (I 78 12) v.toInt64).2) else (-3, I, J)
theorem m_time {I : hI} {J : hJ} {D : FD} {v : Int32} (hD : DMf D I) : am_E sc (d + 7) 213 [.ref 73, .int v] (HH I J R T) (some (.int (tiM I J D v).1)) (HH (tiM I J D v).2.1 (tiM I J D v).2.2 R T) := by
  refine E_Z (Ze_of (Nat.le_of_ble_eq_true rfl) ?_)
  have hE := m_isShown (sc := sc) (d := d) (R := R) (T := T) (J := J) (o := 78) (st := I 78 12) (due := v.toInt64) (by decide) hD
  unfold tiM
  generalize isP I J D 78 (I 78 12) v.toInt64 = w at hE ⊢
  refine Z_jump 1 rfl ?_
  show Zs _ _ (am_P 213).2 (1, [(0, .ref 73), (1, .int v)], [.int v]) (HH I J R T) _
  by_cases b1 : M_num v
  · refine Z_c1 rfl rfl rfl (E_pos (m_isNumber) b1) ?_
    show Zs _ _ (am_P 213).2 (4, [(0, .ref 73), (1, .int v)], [.int (1 : Int32)]) (HH I J R T) _
    refine Z_jump 10 rfl ?_
    show Zs _ _ (am_P 213).2 (24, [(0, .ref 73), (1, .int v)], [.long (Int32.toInt64 v), .int (I 78 12), .ref 78, .ref 73]) (HH I J R T) _
    refine Z_c1 rfl rfl rfl (hE) ?_
    show Zs _ _ (am_P 213).2 (27, [(0, .ref 73), (1, .int v)], [.int w.1]) (HH w.2.1 w.2.2 R T) _
    refine Z_jump 1 rfl ?_
    refine Z_bd (fun (c27 : w.1 = (0 : Int32)) => ?_) (fun (c27 : ¬ (w.1 = (0 : Int32))) => ?_)
    · refine Z_jump 1 rfl ?_
      show Zs _ _ (am_P 213).2 (40, [(0, .ref 73), (1, .int v)], [.int (-1 : Int32)]) (HH w.2.1 w.2.2 R T) _
      refine Z_rI rfl (by first | exact am_nw0 _ | exact am_nw01 | rfl | assumption) ?_
      rw [if_pos b1, if_pos c27]
      exact ⟨rfl, rfl⟩
    · refine Z_jump 5 rfl ?_
      show Zs _ _ (am_P 213).2 (40, [(0, .ref 73), (1, .int v)], [.int (w.2.1 82 0)]) (HH w.2.1 w.2.2 R T) _
      refine Z_rI rfl (by first | exact am_nw0 _ | exact am_nw01 | rfl | assumption) ?_
      rw [if_pos b1, if_neg c27]
      exact ⟨rfl, rfl⟩
  · refine Z_c1 rfl rfl rfl (E_neg (m_isNumber) b1) ?_
    show Zs _ _ (am_P 213).2 (4, [(0, .ref 73), (1, .int v)], [.int (0 : Int32)]) (HH I J R T) _
    refine Z_jump 2 rfl ?_
    show Zs _ _ (am_P 213).2 (9, [(0, .ref 73), (1, .int v)], [.int (-3 : Int32)]) (HH I J R T) _
    refine Z_rI rfl (by first | exact am_nw0 _ | exact am_nw01 | rfl | assumption) ?_
    rw [if_neg b1]
    exact ⟨rfl, rfl⟩
def puW (J : hJ) (D : FD) (I : hI) : hI := duF J D 78 (I 78 12) D.1 0 0 I
theorem m_pushed {I : hI} {J : hJ} {D : FD} {v x p : Int32} (hD : DMf D I) : Ze sc (d + 7) 214 [.ref 73, .int v, .int x, .int p] (HH I J R T) (fun r h => (¬ (M_rod D.1 x ∧ (0 ≤ p.toInt ∧ p.toInt ≤ 1)) ∧ r = some (.int (-2)) ∧ h = HH I J R T) ∨ ((M_rod D.1 x ∧ (0 ≤ p.toInt ∧ p.toInt ≤ 1)) ∧ ¬ M_num v ∧ r = some (.int (-3)) ∧ h = HH I J R T) ∨
    (∃ k, k < D.1 ∧ x = nI k ∧ (0 ≤ p.toInt ∧ p.toInt ≤ 1) ∧ M_num v ∧ (isP I J D 78 (I 78 12) v.toInt64).1 = 0 ∧ r = some (.int (-1)) ∧ h = HH (isP I J D 78 (I 78 12) v.toInt64).2.1 (isP I J D 78 (I 78 12) v.toInt64).2.2 R T) ∨
    (∃ k, k < D.1 ∧ x = nI k ∧ (0 ≤ p.toInt ∧ p.toInt ≤ 1) ∧ M_num v ∧ ¬ (isP I J D 78 (I 78 12) v.toInt64).1 = 0 ∧ r = some (.int (if p = 0 then puW (isP I J D 78 (I 78 12) v.toInt64).2.2 D (isP I J D 78 (I 78 12) v.toInt64).2.1 83 k else puW (isP I J D 78 (I 78 12) v.toInt64).2.2 D (isP I J D 78 (I 78 12) v.toInt64).2.1 83 (6 + k))) ∧ h = HH (puW (isP I J D 78 (I 78 12) v.toInt64).2.2 D (isP I J D 78 (I 78 12) v.toInt64).2.1) (isP I J D 78 (I 78 12) v.toInt64).2.2 R T)) := by
  refine Ze_of (Nat.le_of_ble_eq_true rfl) ?_
  have h6 := hD.2.1
  have hE := m_isShown (sc := sc) (d := d) (R := R) (T := T) (J := J) (o := 78) (st := I 78 12) (due := v.toInt64) (by decide) hD
  have hDw : DMf D (isP I J D 78 (I 78 12) v.toInt64).2.1 := DMf_w hD
  have hU : ¬ (isP I J D 78 (I 78 12) v.toInt64).1 = 0 → DU (isP I J D 78 (I 78 12) v.toInt64).2.2 D := isP_DU
  generalize isP I J D 78 (I 78 12) v.toInt64 = w at hE hDw hU ⊢
  by_cases hr : M_rod D.1 x ∧ (0 ≤ p.toInt ∧ p.toInt ≤ 1)
  · obtain ⟨k, hk, hx⟩ := rod_n hr.1
    subst hx
    refine Z_jump 3 rfl ?_
    show Zs _ _ (am_P 214).2 (3, [(0, .ref 73), (1, .int v), (2, .int (nI k)), (3, .int p)], [.int p, .int (nI k), .ref 73]) (HH I J R T) _
    refine Z_c1 rfl rfl rfl (E_pos (m_isPart hD.1 hD.2.1) hr) ?_
    show Zs _ _ (am_P 214).2 (6, [(0, .ref 73), (1, .int v), (2, .int (nI k)), (3, .int p)], [.int (1 : Int32)]) (HH I J R T) _
    refine Z_jump 2 rfl ?_
    show Zs _ _ (am_P 214).2 (13, [(0, .ref 73), (1, .int v), (2, .int (nI k)), (3, .int p)], [.int v]) (HH I J R T) _
    by_cases b13 : M_num v
    · refine Z_c1 rfl rfl rfl (E_pos (m_isNumber) b13) ?_
      show Zs _ _ (am_P 214).2 (16, [(0, .ref 73), (1, .int v), (2, .int (nI k)), (3, .int p)], [.int (1 : Int32)]) (HH I J R T) _
      refine Z_jump 10 rfl ?_
      show Zs _ _ (am_P 214).2 (36, [(0, .ref 73), (1, .int v), (2, .int (nI k)), (3, .int p)], [.long (Int32.toInt64 v), .int (I 78 12), .ref 78, .ref 73]) (HH I J R T) _
      refine Z_c1 rfl rfl rfl (hE) ?_
      show Zs _ _ (am_P 214).2 (39, [(0, .ref 73), (1, .int v), (2, .int (nI k)), (3, .int p)], [.int w.1]) (HH w.2.1 w.2.2 R T) _
      refine Z_jump 1 rfl ?_
      refine Z_bn (fun (c39 : ¬ (w.1 = (0 : Int32))) => ?_) (fun (c39 : w.1 = (0 : Int32)) => ?_)
      · refine Z_jump 7 rfl ?_
        show Zs _ _ (am_P 214).2 (56, [(0, .ref 73), (1, .int v), (2, .int (nI k)), (3, .int p)], [.int (w.2.1 78 12), .ref 78, .ref 73]) (HH w.2.1 w.2.2 R T) _
        refine Z_c0 rfl rfl rfl (m_layDue (by decide) hDw (hU c39)) ?_
        show Zs _ _ (am_P 214).2 (59, [(0, .ref 73), (1, .int v), (2, .int (nI k)), (3, .int p)], []) (HH (puW w.2.2 D w.2.1) w.2.2 R T) _
        refine Z_jump 2 rfl ?_
        show Zs _ _ (am_P 214).2 (63, [(0, .ref 73), (1, .int v), (2, .int (nI k)), (3, .int p)], [.ref 83]) (HH (puW w.2.2 D w.2.1) w.2.2 R T) _
        by_cases hp : p = 0
        · exact m_pu_a hk h6 hp (Or.inr (Or.inr (Or.inr ⟨k, hk, rfl, hr.2, b13, c39, am_ii (if_pos hp).symm, rfl⟩)))
        · exact m_pu_b hk h6 hp (Or.inr (Or.inr (Or.inr ⟨k, hk, rfl, hr.2, b13, c39, am_ii (if_neg hp).symm, rfl⟩)))
      · refine Z_jump 1 rfl ?_
        show Zs _ _ (am_P 214).2 (43, [(0, .ref 73), (1, .int v), (2, .int (nI k)), (3, .int p)], [.int (-1 : Int32)]) (HH w.2.1 w.2.2 R T) _
        refine Z_rI rfl (by first | exact am_nw0 _ | exact am_nw01 | rfl | assumption) ?_
        exact Or.inr (Or.inr (Or.inl ⟨k, hk, rfl, hr.2, b13, c39, rfl, rfl⟩))
    · refine Z_c1 rfl rfl rfl (E_neg (m_isNumber) b13) ?_
      show Zs _ _ (am_P 214).2 (16, [(0, .ref 73), (1, .int v), (2, .int (nI k)), (3, .int p)], [.int (0 : Int32)]) (HH I J R T) _
      refine Z_jump 2 rfl ?_
      show Zs _ _ (am_P 214).2 (21, [(0, .ref 73), (1, .int v), (2, .int (nI k)), (3, .int p)], [.int (-3 : Int32)]) (HH I J R T) _
      refine Z_rI rfl (by first | exact am_nw0 _ | exact am_nw01 | rfl | assumption) ?_
      exact Or.inr (Or.inl ⟨hr, b13, rfl, rfl⟩)
  · refine Z_jump 3 rfl ?_
    show Zs _ _ (am_P 214).2 (3, [(0, .ref 73), (1, .int v), (2, .int x), (3, .int p)], [.int p, .int x, .ref 73]) (HH I J R T) _
    refine Z_c1 rfl rfl rfl (E_neg (m_isPart hD.1 hD.2.1) hr) ?_
    show Zs _ _ (am_P 214).2 (6, [(0, .ref 73), (1, .int v), (2, .int x), (3, .int p)], [.int (0 : Int32)]) (HH I J R T) _
    refine Z_jump 2 rfl ?_
    show Zs _ _ (am_P 214).2 (11, [(0, .ref 73), (1, .int v), (2, .int x), (3, .int p)], [.int (-2 : Int32)]) (HH I J R T) _
    refine Z_rI rfl (by first | exact am_nw0 _ | exact am_nw01 | rfl | assumption) ?_
    exact Or.inl ⟨hr, rfl, rfl⟩
end ML6

