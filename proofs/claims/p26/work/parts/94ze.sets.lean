/-! The reference: sets, alone, carries, clears. -/
section ML5
variable {sc : Nat × (Nat → Int32)} {d : Nat} {R : hR} {T : am_H} {Q : Option Value → am_H → Prop}
theorem isP_I {I : hI} {J : hJ} {D : FD} {o a : Nat} {st : Int32} {due : Int64} (h : a ≠ 82) : (isP I J D o st due).2.1 a = I a := by
  unfold isP
  split
  · rfl
  · split
    · exact lay_I h
    · rfl
theorem isP_J {I : hI} {J : hJ} {D : FD} {o a : Nat} {st : Int32} {due : Int64} (h : a ≠ 81) (h7 : a ≠ 80) : (isP I J D o st due).2.2 a = J a := by
  unfold isP
  split
  · rfl
  · split
    · exact lay_J h h7
    · rfl
theorem isP_DU {I : hI} {J : hJ} {D : FD} {o : Nat} {st : Int32} {due : Int64} (h : ¬ (isP I J D o st due).1 = 0) : DU (isP I J D o st due).2.2 D := by
  have z0 : (0 : Int64).toInt = 0 := rfl
  have z9 : (1000000000 : Int64).toInt = 1000000000 := rfl
  unfold isP at h ⊢
  split at h
  · exact absurd rfl h
  · split at h
    · rename_i c1 c2
      rw [if_neg c1, if_pos c2]
      rw [fi_ltL] at c1
      rw [fi_leL] at c2
      exact lay_DU (by omega) (by omega)
    · exact absurd rfl h
theorem isP_01 {I : hI} {J : hJ} {D : FD} {o : Nat} {st : Int32} {due : Int64} : (isP I J D o st due).1 = 0 ∨ (isP I J D o st due).1 = 1 := by
  unfold isP
  split
  · exact Or.inl rfl
  · split
    · dsimp only
      split
      · exact Or.inl rfl
      · exact Or.inr rfl
    · exact Or.inl rfl
def se1 (o r : Nat) (I : hI) : hI := sf (sf I o r (I 83 r)) o (6 + r) (sf I o r (I 83 r) 83 (6 + r))
def sel (o : Nat) : Nat → Nat → hI → hI
  | 0, _, I => I
  | n + 1, r, I => sel o n (r + 1) (se1 o r I)
theorem sel_c {o a : Nat} (h : a ≠ o) : ∀ (n r : Nat) (I : hI), sel o n r I a = I a
  | 0, r, I => rfl
  | n + 1, r, I => by unfold sel; rw [sel_c h n]; unfold se1; rw [sf_c h, sf_c h]
def cap (t : Int32) : Int32 := if 1000000 < t then 1000000 else t
def seF (I : hI) (J : hJ) (D : FD) (o : Nat) (to : Int64) : Int32 × hI × hJ :=
  if (isP I J D o (I o 12) to).1 = 0 then (-1, (isP I J D o (I o 12) to).2)
  else ((isP I J D o (I o 12) to).2.1 82 0, sf (sel o D.1 0 (duF (isP I J D o (I o 12) to).2.2 D o ((isP I J D o (I o 12) to).2.1 o 12) D.1 0 0 (isP I J D o (I o 12) to).2.1)) o 13 (cap (sel o D.1 0 (duF (isP I J D o (I o 12) to).2.2 D o ((isP I J D o (I o 12) to).2.1 o 12) D.1 0 0 (isP I J D o (I o 12) to).2.1) o 13 + (isP I J D o (I o 12) to).2.1 82 0)), (isP I J D o (I o 12) to).2.2)
theorem seF_c {I : hI} {J : hJ} {D : FD} {o a : Nat} {to : Int64} (h9 : a ≠ 82) (h10 : a ≠ 83) (ho : a ≠ o) : (seF I J D o to).2.1 a = I a := by
  unfold seF
  split
  · exact isP_I h9
  · show sf _ o 13 _ a = _
    rw [sf_c ho, sel_c ho, duF_c h10, isP_I h9]
theorem seF_J {I : hI} {J : hJ} {D : FD} {o a : Nat} {to : Int64} (h : a ≠ 81) (h7 : a ≠ 80) : (seF I J D o to).2.2 a = J a := by
  unfold seF
  split
  · exact isP_J h h7
  · exact isP_J h h7

theorem m_sel5 {J : hJ} {D : FD} {to : Int64} {t : Int32} : ∀ (n r : Nat) (I : hI) (x : Int32), r + n = D.1 → x = nI r → D.1 ≤ 6 → I 73 0 = nI D.1 → Zs sc d (am_P 170).2 (82, [(0, .ref 73), (1, .ref 78), (2, .long to), (4, .int t)], []) (HH (sel 78 n r I) J R T) Q → Zs sc d (am_P 170).2 (35, [(0, .ref 73), (1, .ref 78), (2, .long to), (4, .int t), (5, .int x)], []) (HH I J R T) Q
  | 0, r, I, x, hr, hx, h6, hn, H => by
    refine Z_jump 4 rfl ?_
    refine Z_bd (fun c41 => ?_) (fun c41 => absurd ((show I 73 0 ≤ x by rw [hn, hx]; exact nI_le (by omega) (by omega))) c41)
    show Zs _ _ (am_P 170).2 (82, [(0, .ref 73), (1, .ref 78), (2, .long to), (4, .int t), (5, .int x)], []) (HH I J R T) _
    exact Zs_wk (H) (lnD rfl) (lnD rfl) (by repeat (first | exact trivial | refine ⟨rfl, ?_⟩))
  | n + 1, r, I, x, hr, hx, h6, hn, H => by
    have ex : x + 1 = nI (r + 1) := by rw [hx]; exact nI_1 r
    have hn1 : se1 78 r I 73 0 = nI D.1 := by unfold se1; rw [sf_c (by decide), sf_c (by decide)]; exact hn
    subst hx
    refine Z_jump 4 rfl ?_
    refine Z_bd (fun c41 => absurd c41 ((show ¬ I 73 0 ≤ nI r by rw [hn]; exact nI_ge (by omega) (by omega)))) (fun c41 => ?_)
    refine Z_jump 9 rfl ?_
    show Zs _ _ (am_P 170).2 (57, [(0, .ref 73), (1, .ref 78), (2, .long to), (4, .int t), (5, .int (nI r))], [.int ((0 : Int32) + (nI r)), .ref 83, .int ((0 : Int32) + (nI r)), .ref 78]) (HH I J R T) _
    refine Z_ialK (r) rfl rfl (nI_z r) (by omega) (by decide) ?_
    show Zs _ _ (am_P 170).2 (58, [(0, .ref 73), (1, .ref 78), (2, .long to), (4, .int t), (5, .int (nI r))], [.int (I 83 r), .int ((0 : Int32) + (nI r)), .ref 78]) (HH I J R T) _
    show Zs _ _ (am_P 170).2 (58, [(0, .ref 73), (1, .ref 78), (2, .long to), (4, .int t), (5, .int (nI r))], [.int (I 83 r), .int ((0 : Int32) + (nI r)), .ref 78]) (HH I J R T) _
    refine Z_iasK (r) rfl rfl (nI_z r) (by omega) (by decide) ?_
    show Zs _ _ (am_P 170).2 (59, [(0, .ref 73), (1, .ref 78), (2, .long to), (4, .int t), (5, .int (nI r))], []) (HH (sf I 78 r (I 83 r)) J R T) _
    refine Z_jump 9 rfl ?_
    show Zs _ _ (am_P 170).2 (74, [(0, .ref 73), (1, .ref 78), (2, .long to), (4, .int t), (5, .int (nI r))], [.int ((6 : Int32) + (nI r)), .ref 83, .int ((6 : Int32) + (nI r)), .ref 78]) (HH (sf I 78 r (I 83 r)) J R T) _
    refine Z_ialK (6 + r) rfl rfl (nI_6 r) (by omega) (by decide) ?_
    show Zs _ _ (am_P 170).2 (75, [(0, .ref 73), (1, .ref 78), (2, .long to), (4, .int t), (5, .int (nI r))], [.int (I 83 (6 + r)), .int ((6 : Int32) + (nI r)), .ref 78]) (HH (sf I 78 r (I 83 r)) J R T) _
    show Zs _ _ (am_P 170).2 (75, [(0, .ref 73), (1, .ref 78), (2, .long to), (4, .int t), (5, .int (nI r))], [.int (I 83 (6 + r)), .int ((6 : Int32) + (nI r)), .ref 78]) (HH (sf I 78 r (I 83 r)) J R T) _
    refine Z_iasK (6 + r) rfl rfl (nI_6 r) (by omega) (by decide) ?_
    show Zs _ _ (am_P 170).2 (76, [(0, .ref 73), (1, .ref 78), (2, .long to), (4, .int t), (5, .int (nI r))], []) (HH (sf (sf I 78 r (I 83 r)) 78 (6 + r) (I 83 (6 + r))) J R T) _
    refine Z_jump 2 rfl ?_
    show Zs _ _ (am_P 170).2 (35, [(0, .ref 73), (1, .ref 78), (2, .long to), (4, .int t), (5, .int ((nI r) + 1))], []) (HH (sf (sf I 78 r (I 83 r)) 78 (6 + r) (I 83 (6 + r))) J R T) _
    exact m_sel5 n (r + 1) (se1 78 r I) _ (by omega) ex h6 hn1 H
theorem m_sets5 {I : hI} {J : hJ} {D : FD} {to : Int64} (hD : DMf D I) : am_E sc (d + 7) 170 [.ref 73, .ref 78, .long to] (HH I J R T) (some (.int (seF I J D 78 to).1)) (HH (seF I J D 78 to).2.1 (seF I J D 78 to).2.2 R T) := by
  refine E_Z (Ze_of (Nat.le_of_ble_eq_true rfl) ?_)
  have h6 := hD.2.1
  have hDw : DMf D (isP I J D 78 (I 78 12) to).2.1 := DMf_9 hD (fun a ha => isP_I ha)
  have hU : ¬ (isP I J D 78 (I 78 12) to).1 = 0 → DU (isP I J D 78 (I 78 12) to).2.2 D := isP_DU
  have hE := m_isShown (sc := sc) (d := d) (R := R) (T := T) (J := J) (o := 78) (st := I 78 12) (due := to) (by decide) hD
  unfold seF
  generalize isP I J D 78 (I 78 12) to = w at hDw hU hE ⊢
  by_cases hw : w.1 = 0
  · rw [if_pos hw]
    rw [hw] at hE
    refine Z_jump 6 rfl ?_
    show Zs _ _ (am_P 170).2 (7, [(0, .ref 73), (1, .ref 78), (2, .long to)], [.long to, .int (I 78 12), .ref 78, .ref 73]) (HH I J R T) _
    refine Z_c1 rfl rfl rfl (hE) ?_
    show Zs _ _ (am_P 170).2 (10, [(0, .ref 73), (1, .ref 78), (2, .long to)], [.int (0 : Int32)]) (HH w.2.1 w.2.2 R T) _
    refine Z_jump 2 rfl ?_
    show Zs _ _ (am_P 170).2 (14, [(0, .ref 73), (1, .ref 78), (2, .long to)], [.int (-1 : Int32)]) (HH w.2.1 w.2.2 R T) _
    refine Z_rI rfl (by first | exact am_nw0 _ | exact am_nw01 | rfl | assumption) ?_
    exact ⟨rfl, rfl⟩
  · rw [if_neg hw]
    have hDd : (duF w.2.2 D 78 (w.2.1 78 12) D.1 0 0 w.2.1) 73 0 = nI D.1 := by rw [duF_c (by decide)]; exact hDw.1
    have W : Zs sc (d + 6) (am_P 170).2 (82, [(0, .ref 73), (1, .ref 78), (2, .long to), (4, .int (w.2.1 82 0))], []) (HH (sel 78 D.1 0 (duF w.2.2 D 78 (w.2.1 78 12) D.1 0 0 w.2.1)) w.2.2 R T) (fun r h => r = some (.int (w.2.1 82 0)) ∧ h = HH (sf (sel 78 D.1 0 (duF w.2.2 D 78 (w.2.1 78 12) D.1 0 0 w.2.1)) 78 13 (cap (sel 78 D.1 0 (duF w.2.2 D 78 (w.2.1 78 12) D.1 0 0 w.2.1) 78 13 + w.2.1 82 0))) w.2.2 R T) := by
      generalize sel 78 D.1 0 (duF w.2.2 D 78 (w.2.1 78 12) D.1 0 0 w.2.1) = I2
      refine Z_jump 7 rfl ?_
      show Zs _ _ (am_P 170).2 (92, [(0, .ref 73), (1, .ref 78), (2, .long to), (4, .int (w.2.1 82 0))], [.int ((I2 78 13) + (w.2.1 82 0)), .int (13 : Int32), .ref 78]) (HH I2 w.2.2 R T) _
      refine Z_c1 rfl rfl rfl (m_counted) ?_
      show Zs _ _ (am_P 170).2 (95, [(0, .ref 73), (1, .ref 78), (2, .long to), (4, .int (w.2.1 82 0))], [.int (cap (I2 78 13 + w.2.1 82 0)), .int (13 : Int32), .ref 78]) (HH I2 w.2.2 R T) _
      refine Z_jump 1 rfl ?_
      show Zs _ _ (am_P 170).2 (96, [(0, .ref 73), (1, .ref 78), (2, .long to), (4, .int (w.2.1 82 0))], []) (HH (sf I2 78 13 (cap (I2 78 13 + w.2.1 82 0))) w.2.2 R T) _
      refine Z_jump 1 rfl ?_
      show Zs _ _ (am_P 170).2 (98, [(0, .ref 73), (1, .ref 78), (2, .long to), (4, .int (w.2.1 82 0))], [.int (w.2.1 82 0)]) (HH (sf I2 78 13 (cap (I2 78 13 + w.2.1 82 0))) w.2.2 R T) _
      refine Z_rI rfl (by first | exact am_nw0 _ | exact am_nw01 | rfl | assumption) ?_
      exact ⟨rfl, rfl⟩
    refine Z_jump 6 rfl ?_
    show Zs _ _ (am_P 170).2 (7, [(0, .ref 73), (1, .ref 78), (2, .long to)], [.long to, .int (I 78 12), .ref 78, .ref 73]) (HH I J R T) _
    refine Z_c1 rfl rfl rfl (hE) ?_
    show Zs _ _ (am_P 170).2 (10, [(0, .ref 73), (1, .ref 78), (2, .long to)], [.int w.1]) (HH w.2.1 w.2.2 R T) _
    refine Z_jump 1 rfl ?_
    refine Z_bn (fun c10 => ?_) (fun c10 => absurd c10 (hw))
    refine Z_jump 10 rfl ?_
    show Zs _ _ (am_P 170).2 (29, [(0, .ref 73), (1, .ref 78), (2, .long to), (4, .int (w.2.1 82 0))], [.int (w.2.1 78 12), .ref 78, .ref 73]) (HH w.2.1 w.2.2 R T) _
    refine Z_c0 rfl rfl rfl (m_layDue (by decide) hDw (hU hw)) ?_
    show Zs _ _ (am_P 170).2 (32, [(0, .ref 73), (1, .ref 78), (2, .long to), (4, .int (w.2.1 82 0))], []) (HH (duF w.2.2 D 78 (w.2.1 78 12) D.1 0 0 w.2.1) w.2.2 R T) _
    refine Z_jump 2 rfl ?_
    show Zs _ _ (am_P 170).2 (35, [(0, .ref 73), (1, .ref 78), (2, .long to), (4, .int (w.2.1 82 0)), (5, .int (0 : Int32))], []) (HH (duF w.2.2 D 78 (w.2.1 78 12) D.1 0 0 w.2.1) w.2.2 R T) _
    exact m_sel5 D.1 0 _ _ (by omega) rfl h6 hDd W

theorem m_sel6 {J : hJ} {D : FD} {to : Int64} {t : Int32} : ∀ (n r : Nat) (I : hI) (x : Int32), r + n = D.1 → x = nI r → D.1 ≤ 6 → I 73 0 = nI D.1 → Zs sc d (am_P 170).2 (82, [(0, .ref 73), (1, .ref 79), (2, .long to), (4, .int t)], []) (HH (sel 79 n r I) J R T) Q → Zs sc d (am_P 170).2 (35, [(0, .ref 73), (1, .ref 79), (2, .long to), (4, .int t), (5, .int x)], []) (HH I J R T) Q
  | 0, r, I, x, hr, hx, h6, hn, H => by
    refine Z_jump 4 rfl ?_
    refine Z_bd (fun c41 => ?_) (fun c41 => absurd ((show I 73 0 ≤ x by rw [hn, hx]; exact nI_le (by omega) (by omega))) c41)
    show Zs _ _ (am_P 170).2 (82, [(0, .ref 73), (1, .ref 79), (2, .long to), (4, .int t), (5, .int x)], []) (HH I J R T) _
    exact Zs_wk (H) (lnD rfl) (lnD rfl) (by repeat (first | exact trivial | refine ⟨rfl, ?_⟩))
  | n + 1, r, I, x, hr, hx, h6, hn, H => by
    have ex : x + 1 = nI (r + 1) := by rw [hx]; exact nI_1 r
    have hn1 : se1 79 r I 73 0 = nI D.1 := by unfold se1; rw [sf_c (by decide), sf_c (by decide)]; exact hn
    subst hx
    refine Z_jump 4 rfl ?_
    refine Z_bd (fun c41 => absurd c41 ((show ¬ I 73 0 ≤ nI r by rw [hn]; exact nI_ge (by omega) (by omega)))) (fun c41 => ?_)
    refine Z_jump 9 rfl ?_
    show Zs _ _ (am_P 170).2 (57, [(0, .ref 73), (1, .ref 79), (2, .long to), (4, .int t), (5, .int (nI r))], [.int ((0 : Int32) + (nI r)), .ref 83, .int ((0 : Int32) + (nI r)), .ref 79]) (HH I J R T) _
    refine Z_ialK (r) rfl rfl (nI_z r) (by omega) (by decide) ?_
    show Zs _ _ (am_P 170).2 (58, [(0, .ref 73), (1, .ref 79), (2, .long to), (4, .int t), (5, .int (nI r))], [.int (I 83 r), .int ((0 : Int32) + (nI r)), .ref 79]) (HH I J R T) _
    show Zs _ _ (am_P 170).2 (58, [(0, .ref 73), (1, .ref 79), (2, .long to), (4, .int t), (5, .int (nI r))], [.int (I 83 r), .int ((0 : Int32) + (nI r)), .ref 79]) (HH I J R T) _
    refine Z_iasK (r) rfl rfl (nI_z r) (by omega) (by decide) ?_
    show Zs _ _ (am_P 170).2 (59, [(0, .ref 73), (1, .ref 79), (2, .long to), (4, .int t), (5, .int (nI r))], []) (HH (sf I 79 r (I 83 r)) J R T) _
    refine Z_jump 9 rfl ?_
    show Zs _ _ (am_P 170).2 (74, [(0, .ref 73), (1, .ref 79), (2, .long to), (4, .int t), (5, .int (nI r))], [.int ((6 : Int32) + (nI r)), .ref 83, .int ((6 : Int32) + (nI r)), .ref 79]) (HH (sf I 79 r (I 83 r)) J R T) _
    refine Z_ialK (6 + r) rfl rfl (nI_6 r) (by omega) (by decide) ?_
    show Zs _ _ (am_P 170).2 (75, [(0, .ref 73), (1, .ref 79), (2, .long to), (4, .int t), (5, .int (nI r))], [.int (I 83 (6 + r)), .int ((6 : Int32) + (nI r)), .ref 79]) (HH (sf I 79 r (I 83 r)) J R T) _
    show Zs _ _ (am_P 170).2 (75, [(0, .ref 73), (1, .ref 79), (2, .long to), (4, .int t), (5, .int (nI r))], [.int (I 83 (6 + r)), .int ((6 : Int32) + (nI r)), .ref 79]) (HH (sf I 79 r (I 83 r)) J R T) _
    refine Z_iasK (6 + r) rfl rfl (nI_6 r) (by omega) (by decide) ?_
    show Zs _ _ (am_P 170).2 (76, [(0, .ref 73), (1, .ref 79), (2, .long to), (4, .int t), (5, .int (nI r))], []) (HH (sf (sf I 79 r (I 83 r)) 79 (6 + r) (I 83 (6 + r))) J R T) _
    refine Z_jump 2 rfl ?_
    show Zs _ _ (am_P 170).2 (35, [(0, .ref 73), (1, .ref 79), (2, .long to), (4, .int t), (5, .int ((nI r) + 1))], []) (HH (sf (sf I 79 r (I 83 r)) 79 (6 + r) (I 83 (6 + r))) J R T) _
    exact m_sel6 n (r + 1) (se1 79 r I) _ (by omega) ex h6 hn1 H
theorem m_sets6 {I : hI} {J : hJ} {D : FD} {to : Int64} (hD : DMf D I) : am_E sc (d + 7) 170 [.ref 73, .ref 79, .long to] (HH I J R T) (some (.int (seF I J D 79 to).1)) (HH (seF I J D 79 to).2.1 (seF I J D 79 to).2.2 R T) := by
  refine E_Z (Ze_of (Nat.le_of_ble_eq_true rfl) ?_)
  have h6 := hD.2.1
  have hDw : DMf D (isP I J D 79 (I 79 12) to).2.1 := DMf_9 hD (fun a ha => isP_I ha)
  have hU : ¬ (isP I J D 79 (I 79 12) to).1 = 0 → DU (isP I J D 79 (I 79 12) to).2.2 D := isP_DU
  have hE := m_isShown (sc := sc) (d := d) (R := R) (T := T) (J := J) (o := 79) (st := I 79 12) (due := to) (by decide) hD
  unfold seF
  generalize isP I J D 79 (I 79 12) to = w at hDw hU hE ⊢
  by_cases hw : w.1 = 0
  · rw [if_pos hw]
    rw [hw] at hE
    refine Z_jump 6 rfl ?_
    show Zs _ _ (am_P 170).2 (7, [(0, .ref 73), (1, .ref 79), (2, .long to)], [.long to, .int (I 79 12), .ref 79, .ref 73]) (HH I J R T) _
    refine Z_c1 rfl rfl rfl (hE) ?_
    show Zs _ _ (am_P 170).2 (10, [(0, .ref 73), (1, .ref 79), (2, .long to)], [.int (0 : Int32)]) (HH w.2.1 w.2.2 R T) _
    refine Z_jump 2 rfl ?_
    show Zs _ _ (am_P 170).2 (14, [(0, .ref 73), (1, .ref 79), (2, .long to)], [.int (-1 : Int32)]) (HH w.2.1 w.2.2 R T) _
    refine Z_rI rfl (by first | exact am_nw0 _ | exact am_nw01 | rfl | assumption) ?_
    exact ⟨rfl, rfl⟩
  · rw [if_neg hw]
    have hDd : (duF w.2.2 D 79 (w.2.1 79 12) D.1 0 0 w.2.1) 73 0 = nI D.1 := by rw [duF_c (by decide)]; exact hDw.1
    have W : Zs sc (d + 6) (am_P 170).2 (82, [(0, .ref 73), (1, .ref 79), (2, .long to), (4, .int (w.2.1 82 0))], []) (HH (sel 79 D.1 0 (duF w.2.2 D 79 (w.2.1 79 12) D.1 0 0 w.2.1)) w.2.2 R T) (fun r h => r = some (.int (w.2.1 82 0)) ∧ h = HH (sf (sel 79 D.1 0 (duF w.2.2 D 79 (w.2.1 79 12) D.1 0 0 w.2.1)) 79 13 (cap (sel 79 D.1 0 (duF w.2.2 D 79 (w.2.1 79 12) D.1 0 0 w.2.1) 79 13 + w.2.1 82 0))) w.2.2 R T) := by
      generalize sel 79 D.1 0 (duF w.2.2 D 79 (w.2.1 79 12) D.1 0 0 w.2.1) = I2
      refine Z_jump 7 rfl ?_
      show Zs _ _ (am_P 170).2 (92, [(0, .ref 73), (1, .ref 79), (2, .long to), (4, .int (w.2.1 82 0))], [.int ((I2 79 13) + (w.2.1 82 0)), .int (13 : Int32), .ref 79]) (HH I2 w.2.2 R T) _
      refine Z_c1 rfl rfl rfl (m_counted) ?_
      show Zs _ _ (am_P 170).2 (95, [(0, .ref 73), (1, .ref 79), (2, .long to), (4, .int (w.2.1 82 0))], [.int (cap (I2 79 13 + w.2.1 82 0)), .int (13 : Int32), .ref 79]) (HH I2 w.2.2 R T) _
      refine Z_jump 1 rfl ?_
      show Zs _ _ (am_P 170).2 (96, [(0, .ref 73), (1, .ref 79), (2, .long to), (4, .int (w.2.1 82 0))], []) (HH (sf I2 79 13 (cap (I2 79 13 + w.2.1 82 0))) w.2.2 R T) _
      refine Z_jump 1 rfl ?_
      show Zs _ _ (am_P 170).2 (98, [(0, .ref 73), (1, .ref 79), (2, .long to), (4, .int (w.2.1 82 0))], [.int (w.2.1 82 0)]) (HH (sf I2 79 13 (cap (I2 79 13 + w.2.1 82 0))) w.2.2 R T) _
      refine Z_rI rfl (by first | exact am_nw0 _ | exact am_nw01 | rfl | assumption) ?_
      exact ⟨rfl, rfl⟩
    refine Z_jump 6 rfl ?_
    show Zs _ _ (am_P 170).2 (7, [(0, .ref 73), (1, .ref 79), (2, .long to)], [.long to, .int (I 79 12), .ref 79, .ref 73]) (HH I J R T) _
    refine Z_c1 rfl rfl rfl (hE) ?_
    show Zs _ _ (am_P 170).2 (10, [(0, .ref 73), (1, .ref 79), (2, .long to)], [.int w.1]) (HH w.2.1 w.2.2 R T) _
    refine Z_jump 1 rfl ?_
    refine Z_bn (fun c10 => ?_) (fun c10 => absurd c10 (hw))
    refine Z_jump 10 rfl ?_
    show Zs _ _ (am_P 170).2 (29, [(0, .ref 73), (1, .ref 79), (2, .long to), (4, .int (w.2.1 82 0))], [.int (w.2.1 79 12), .ref 79, .ref 73]) (HH w.2.1 w.2.2 R T) _
    refine Z_c0 rfl rfl rfl (m_layDue (by decide) hDw (hU hw)) ?_
    show Zs _ _ (am_P 170).2 (32, [(0, .ref 73), (1, .ref 79), (2, .long to), (4, .int (w.2.1 82 0))], []) (HH (duF w.2.2 D 79 (w.2.1 79 12) D.1 0 0 w.2.1) w.2.2 R T) _
    refine Z_jump 2 rfl ?_
    show Zs _ _ (am_P 170).2 (35, [(0, .ref 73), (1, .ref 79), (2, .long to), (4, .int (w.2.1 82 0)), (5, .int (0 : Int32))], []) (HH (duF w.2.2 D 79 (w.2.1 79 12) D.1 0 0 w.2.1) w.2.2 R T) _
    exact m_sel6 D.1 0 _ _ (by omega) rfl h6 hDd W

/-- alone -/
def al1 (I : hI) (D : FD) (o r : Nat) (sh : Int32) (k : Nat) : Int32 :=
  if nI (D.2.1 r).2.2.2 < nI (k / 10) then 1000000000 else if nI (D.2.1 r).2.2.1 < nI (k % 10) then 1000000000 else if M_may I o (I o 12) r (nI (k % 10)) (nI (k / 10)) then
    (if shF D r (nI (k % 10)) (nI (k / 10)) = sh then M_ch I o r (nI (k % 10)) (nI (k / 10)) else 1000000000) else 1000000000
def all (I : hI) (D : FD) (o r : Nat) (sh : Int32) : Nat → Nat → Int32 → Int32 → Int32
  | 0, _, b, _ => b
  | n + 1, k, b, le => if le ≤ al1 I D o r sh k then all I D o r sh n (k + 1) b le else all I D o r sh n (k + 1) (nI k) (al1 I D o r sh k)
def alF (I : hI) (D : FD) (o r : Nat) (sh : Int32) : Int32 := all I D o r sh 40 0 (-1) 1000000000

theorem m_all5 {I : hI} {J : hJ} {D : FD} {r : Nat} {sh : Int32} (hD : DMf D I) (hr : r < D.1) : ∀ (n k : Nat) (b le x : Int32), k + n = 40 → x = nI k → Q (some (.int (all I D 78 r sh n k b le))) (HH I J R T) → Zs sc (d + 3) (am_P 171).2 (10, [(0, .ref 73), (1, .ref 78), (2, .int (nI r)), (3, .int sh), (4, .int b), (5, .int le), (6, .int x)], []) (HH I J R T) Q
  | 0, k, b, le, x, hk, hx, H => by
    refine Z_jump 3 rfl ?_
    refine Z_bd (fun c14 => ?_) (fun c14 => absurd ((show (40 : Int32) ≤ x by rw [hx]; exact nI_le (a := 40) (by omega) (by omega))) c14)
    refine Z_jump 1 rfl ?_
    show Zs _ _ (am_P 171).2 (153, [(0, .ref 73), (1, .ref 78), (2, .int (nI r)), (3, .int sh), (4, .int b), (5, .int le), (6, .int x)], [.int b]) (HH I J R T) _
    refine Z_rI rfl (by first | exact am_nw0 _ | exact am_nw01 | rfl | assumption) ?_
    exact H
  | n + 1, k, b, le, x, hk, hx, H => by
    have h6 := hD.2.1
    have hq := hD.2.2.2 r hr
    have e3 : I 76 r = nI (D.2.1 r).2.2.1 := hq.2.2.2.1
    have e4 : I 77 r = nI (D.2.1 r).2.2.2 := hq.2.2.2.2
    have ex : x + 1 = nI (k + 1) := by rw [hx]; exact nI_1 k
    subst hx
    unfold all at H
    have W : ∀ (y : Int32) (f : Int32), al1 I D 78 r sh k = y → Zs sc (d + 3) (am_P 171).2 (113, [(0, .ref 73), (1, .ref 78), (2, .int (nI r)), (3, .int sh), (4, .int b), (5, .int le), (6, .int (nI k)), (7, .int (nI (k / 10))), (8, .int (nI (k % 10))), (9, .int f), (10, .int y)], []) (HH I J R T) Q := fun y f hy => by
      rw [hy] at H
      refine Z_jump 3 rfl ?_
      refine Z_bd (fun (c117 : le ≤ y) => ?_) (fun (c117 : ¬ (le ≤ y)) => ?_)
      · refine Z_jump 5 rfl ?_
        refine Z_bd (fun (c133 : le ≤ y) => ?_) (fun (c133 : ¬ (le ≤ y)) => ?_)
        · refine Z_jump 4 rfl ?_
          show Zs _ _ (am_P 171).2 (10, [(0, .ref 73), (1, .ref 78), (2, .int (nI r)), (3, .int sh), (4, .int b), (5, .int le), (6, .int ((nI k) + 1)), (7, .int (nI (k / 10))), (8, .int (nI (k % 10))), (9, .int f), (10, .int y)], []) (HH I J R T) _
          first | exact absurd c117 c133 | exact absurd c133 c117 | (rw [if_pos c117] at H; exact Zs_wk (m_all5 hD hr n (k + 1) _ _ _ (by omega) ex H) (lnD rfl) (lnD rfl) (by repeat (first | exact trivial | refine ⟨rfl, ?_⟩))) | (rw [if_neg c117] at H; exact Zs_wk (m_all5 hD hr n (k + 1) _ _ _ (by omega) ex H) (lnD rfl) (lnD rfl) (by repeat (first | exact trivial | refine ⟨rfl, ?_⟩)))
        · refine Z_jump 5 rfl ?_
          show Zs _ _ (am_P 171).2 (10, [(0, .ref 73), (1, .ref 78), (2, .int (nI r)), (3, .int sh), (4, .int b), (5, .int y), (6, .int ((nI k) + 1)), (7, .int (nI (k / 10))), (8, .int (nI (k % 10))), (9, .int f), (10, .int y)], []) (HH I J R T) _
          first | exact absurd c117 c133 | exact absurd c133 c117 | (rw [if_pos c117] at H; exact Zs_wk (m_all5 hD hr n (k + 1) _ _ _ (by omega) ex H) (lnD rfl) (lnD rfl) (by repeat (first | exact trivial | refine ⟨rfl, ?_⟩))) | (rw [if_neg c117] at H; exact Zs_wk (m_all5 hD hr n (k + 1) _ _ _ (by omega) ex H) (lnD rfl) (lnD rfl) (by repeat (first | exact trivial | refine ⟨rfl, ?_⟩)))
      · refine Z_jump 6 rfl ?_
        refine Z_bd (fun (c133 : le ≤ y) => ?_) (fun (c133 : ¬ (le ≤ y)) => ?_)
        · refine Z_jump 4 rfl ?_
          show Zs _ _ (am_P 171).2 (10, [(0, .ref 73), (1, .ref 78), (2, .int (nI r)), (3, .int sh), (4, .int (nI k)), (5, .int le), (6, .int ((nI k) + 1)), (7, .int (nI (k / 10))), (8, .int (nI (k % 10))), (9, .int f), (10, .int y)], []) (HH I J R T) _
          first | exact absurd c117 c133 | exact absurd c133 c117 | (rw [if_pos c117] at H; exact Zs_wk (m_all5 hD hr n (k + 1) _ _ _ (by omega) ex H) (lnD rfl) (lnD rfl) (by repeat (first | exact trivial | refine ⟨rfl, ?_⟩))) | (rw [if_neg c117] at H; exact Zs_wk (m_all5 hD hr n (k + 1) _ _ _ (by omega) ex H) (lnD rfl) (lnD rfl) (by repeat (first | exact trivial | refine ⟨rfl, ?_⟩)))
        · refine Z_jump 5 rfl ?_
          show Zs _ _ (am_P 171).2 (10, [(0, .ref 73), (1, .ref 78), (2, .int (nI r)), (3, .int sh), (4, .int (nI k)), (5, .int y), (6, .int ((nI k) + 1)), (7, .int (nI (k / 10))), (8, .int (nI (k % 10))), (9, .int f), (10, .int y)], []) (HH I J R T) _
          first | exact absurd c117 c133 | exact absurd c133 c117 | (rw [if_pos c117] at H; exact Zs_wk (m_all5 hD hr n (k + 1) _ _ _ (by omega) ex H) (lnD rfl) (lnD rfl) (by repeat (first | exact trivial | refine ⟨rfl, ?_⟩))) | (rw [if_neg c117] at H; exact Zs_wk (m_all5 hD hr n (k + 1) _ _ _ (by omega) ex H) (lnD rfl) (lnD rfl) (by repeat (first | exact trivial | refine ⟨rfl, ?_⟩)))
    unfold al1 at W
    have h3 := hq.1.2.2.2.1
    have h9 := hq.1.2.2.1.2
    refine Z_jump 3 rfl ?_
    refine Z_bd (fun c14 => absurd c14 ((show ¬ (40 : Int32) ≤ nI k from nI_ge (b := 40) (by omega) (by omega)))) (fun c14 => ?_)
    refine Z_jump 3 rfl ?_
    show Zs _ _ (am_P 171).2 (22, [(0, .ref 73), (1, .ref 78), (2, .int (nI r)), (3, .int sh), (4, .int b), (5, .int le), (6, .int (nI k))], [.int ((nI k) / (10 : Int32))]) (HH I J R T) _
    refine Z_eqI (y := (nI (k / 10))) (n_d10 (by omega)) ?_
    show Zs _ _ (am_P 171).2 (22, [(0, .ref 73), (1, .ref 78), (2, .int (nI r)), (3, .int sh), (4, .int b), (5, .int le), (6, .int (nI k))], [.int (nI (k / 10))]) (HH I J R T) _
    refine Z_jump 4 rfl ?_
    show Zs _ _ (am_P 171).2 (29, [(0, .ref 73), (1, .ref 78), (2, .int (nI r)), (3, .int sh), (4, .int b), (5, .int le), (6, .int (nI k)), (7, .int (nI (k / 10)))], [.int ((nI k) - (nI k) / (10 : Int32) * (10 : Int32))]) (HH I J R T) _
    refine Z_eqI (y := (nI (k % 10))) (n_m10 (by omega)) ?_
    show Zs _ _ (am_P 171).2 (29, [(0, .ref 73), (1, .ref 78), (2, .int (nI r)), (3, .int sh), (4, .int b), (5, .int le), (6, .int (nI k)), (7, .int (nI (k / 10)))], [.int (nI (k % 10))]) (HH I J R T) _
    refine Z_jump 5 rfl ?_
    show Zs _ _ (am_P 171).2 (38, [(0, .ref 73), (1, .ref 78), (2, .int (nI r)), (3, .int sh), (4, .int b), (5, .int le), (6, .int (nI k)), (7, .int (nI (k / 10))), (8, .int (nI (k % 10)))], [.int (nI r), .ref 77, .int (nI (k / 10))]) (HH I J R T) _
    refine Z_ialK (r) rfl rfl (rfl) (by omega) (by decide) ?_
    show Zs _ _ (am_P 171).2 (39, [(0, .ref 73), (1, .ref 78), (2, .int (nI r)), (3, .int sh), (4, .int b), (5, .int le), (6, .int (nI k)), (7, .int (nI (k / 10))), (8, .int (nI (k % 10)))], [.int (I 77 r), .int (nI (k / 10))]) (HH I J R T) _
    show Zs _ _ (am_P 171).2 (39, [(0, .ref 73), (1, .ref 78), (2, .int (nI r)), (3, .int sh), (4, .int b), (5, .int le), (6, .int (nI k)), (7, .int (nI (k / 10))), (8, .int (nI (k % 10)))], [.int (I 77 r), .int (nI (k / 10))]) (HH I J R T) _
    refine Z_eqI (y := (nI (D.2.1 r).2.2.2)) (e4) ?_
    show Zs _ _ (am_P 171).2 (39, [(0, .ref 73), (1, .ref 78), (2, .int (nI r)), (3, .int sh), (4, .int b), (5, .int le), (6, .int (nI k)), (7, .int (nI (k / 10))), (8, .int (nI (k % 10)))], [.int (nI (D.2.1 r).2.2.2), .int (nI (k / 10))]) (HH I J R T) _
    refine Z_jump 1 rfl ?_
    refine Z_bd (fun (c39 : (nI (D.2.1 r).2.2.2) < (nI (k / 10))) => ?_) (fun (c39 : ¬ ((nI (D.2.1 r).2.2.2) < (nI (k / 10)))) => ?_)
    · refine Z_jump 6 rfl ?_
      show Zs _ _ (am_P 171).2 (113, [(0, .ref 73), (1, .ref 78), (2, .int (nI r)), (3, .int sh), (4, .int b), (5, .int le), (6, .int (nI k)), (7, .int (nI (k / 10))), (8, .int (nI (k % 10))), (9, .int (0 : Int32)), (10, .int (1000000000 : Int32))], []) (HH I J R T) _
      exact W _ _ (by rw [if_pos c39])
    · refine Z_jump 4 rfl ?_
      show Zs _ _ (am_P 171).2 (49, [(0, .ref 73), (1, .ref 78), (2, .int (nI r)), (3, .int sh), (4, .int b), (5, .int le), (6, .int (nI k)), (7, .int (nI (k / 10))), (8, .int (nI (k % 10)))], [.int (nI r), .ref 76, .int (nI (k % 10))]) (HH I J R T) _
      refine Z_ialK (r) rfl rfl (rfl) (by omega) (by decide) ?_
      show Zs _ _ (am_P 171).2 (50, [(0, .ref 73), (1, .ref 78), (2, .int (nI r)), (3, .int sh), (4, .int b), (5, .int le), (6, .int (nI k)), (7, .int (nI (k / 10))), (8, .int (nI (k % 10)))], [.int (I 76 r), .int (nI (k % 10))]) (HH I J R T) _
      show Zs _ _ (am_P 171).2 (50, [(0, .ref 73), (1, .ref 78), (2, .int (nI r)), (3, .int sh), (4, .int b), (5, .int le), (6, .int (nI k)), (7, .int (nI (k / 10))), (8, .int (nI (k % 10)))], [.int (I 76 r), .int (nI (k % 10))]) (HH I J R T) _
      refine Z_eqI (y := (nI (D.2.1 r).2.2.1)) (e3) ?_
      show Zs _ _ (am_P 171).2 (50, [(0, .ref 73), (1, .ref 78), (2, .int (nI r)), (3, .int sh), (4, .int b), (5, .int le), (6, .int (nI k)), (7, .int (nI (k / 10))), (8, .int (nI (k % 10)))], [.int (nI (D.2.1 r).2.2.1), .int (nI (k % 10))]) (HH I J R T) _
      refine Z_jump 1 rfl ?_
      refine Z_bd (fun (c50 : (nI (D.2.1 r).2.2.1) < (nI (k % 10))) => ?_) (fun (c50 : ¬ ((nI (D.2.1 r).2.2.1) < (nI (k % 10)))) => ?_)
      · refine Z_jump 6 rfl ?_
        show Zs _ _ (am_P 171).2 (113, [(0, .ref 73), (1, .ref 78), (2, .int (nI r)), (3, .int sh), (4, .int b), (5, .int le), (6, .int (nI k)), (7, .int (nI (k / 10))), (8, .int (nI (k % 10))), (9, .int (0 : Int32)), (10, .int (1000000000 : Int32))], []) (HH I J R T) _
        exact W _ _ (by rw [if_neg c39, if_pos c50])
      · refine Z_jump 7 rfl ?_
        show Zs _ _ (am_P 171).2 (63, [(0, .ref 73), (1, .ref 78), (2, .int (nI r)), (3, .int sh), (4, .int b), (5, .int le), (6, .int (nI k)), (7, .int (nI (k / 10))), (8, .int (nI (k % 10)))], [.int (nI (k / 10)), .int (nI (k % 10)), .int (nI r), .int (I 78 12), .ref 78]) (HH I J R T) _
        by_cases b63 : M_may I 78 (I 78 12) r (nI (k % 10)) (nI (k / 10))
        · refine Z_c1 rfl rfl rfl (E_pos (m_may (by decide) rfl (by omega)) b63) ?_
          show Zs _ _ (am_P 171).2 (66, [(0, .ref 73), (1, .ref 78), (2, .int (nI r)), (3, .int sh), (4, .int b), (5, .int le), (6, .int (nI k)), (7, .int (nI (k / 10))), (8, .int (nI (k % 10)))], [.int (1 : Int32)]) (HH I J R T) _
          refine Z_jump 5 rfl ?_
          show Zs _ _ (am_P 171).2 (75, [(0, .ref 73), (1, .ref 78), (2, .int (nI r)), (3, .int sh), (4, .int b), (5, .int le), (6, .int (nI k)), (7, .int (nI (k / 10))), (8, .int (nI (k % 10)))], [.int (nI r), .ref 73, .int (nI (k / 10)), .int (nI (k % 10))]) (HH I J R T) _
          refine Z_c1 rfl rfl rfl (m_worthD hD rfl hr) ?_
          show Zs _ _ (am_P 171).2 (78, [(0, .ref 73), (1, .ref 78), (2, .int (nI r)), (3, .int sh), (4, .int b), (5, .int le), (6, .int (nI k)), (7, .int (nI (k / 10))), (8, .int (nI (k % 10)))], [.int (nI (hwv (D.2.1 r))), .int (nI (k / 10)), .int (nI (k % 10))]) (HH I J R T) _
          refine Z_jump 2 rfl ?_
          show Zs _ _ (am_P 171).2 (80, [(0, .ref 73), (1, .ref 78), (2, .int (nI r)), (3, .int sh), (4, .int b), (5, .int le), (6, .int (nI k)), (7, .int (nI (k / 10))), (8, .int (nI (k % 10)))], [.int ((nI (k % 10)) + ((nI (k / 10)) * (nI (hwv (D.2.1 r)))))]) (HH I J R T) _
          refine Z_eqI (y := (shF D r (nI (k % 10)) (nI (k / 10)))) (rfl) ?_
          show Zs _ _ (am_P 171).2 (80, [(0, .ref 73), (1, .ref 78), (2, .int (nI r)), (3, .int sh), (4, .int b), (5, .int le), (6, .int (nI k)), (7, .int (nI (k / 10))), (8, .int (nI (k % 10)))], [.int (shF D r (nI (k % 10)) (nI (k / 10)))]) (HH I J R T) _
          refine Z_jump 2 rfl ?_
          refine Z_bn (fun (c81 : ¬ ((shF D r (nI (k % 10)) (nI (k / 10))) = sh)) => ?_) (fun (c81 : (shF D r (nI (k % 10)) (nI (k / 10))) = sh) => ?_)
          · refine Z_jump 6 rfl ?_
            show Zs _ _ (am_P 171).2 (113, [(0, .ref 73), (1, .ref 78), (2, .int (nI r)), (3, .int sh), (4, .int b), (5, .int le), (6, .int (nI k)), (7, .int (nI (k / 10))), (8, .int (nI (k % 10))), (9, .int (0 : Int32)), (10, .int (1000000000 : Int32))], []) (HH I J R T) _
            exact W _ _ (by rw [if_neg c39, if_neg c50, if_pos b63, if_neg c81])
          · refine Z_jump 10 rfl ?_
            show Zs _ _ (am_P 171).2 (103, [(0, .ref 73), (1, .ref 78), (2, .int (nI r)), (3, .int sh), (4, .int b), (5, .int le), (6, .int (nI k)), (7, .int (nI (k / 10))), (8, .int (nI (k % 10))), (9, .int (1 : Int32))], [.int (nI (k / 10)), .int (nI (k % 10)), .int (nI r), .ref 78, .ref 73]) (HH I J R T) _
            refine Z_c1 rfl rfl rfl (m_change (by decide) rfl (by omega)) ?_
            show Zs _ _ (am_P 171).2 (106, [(0, .ref 73), (1, .ref 78), (2, .int (nI r)), (3, .int sh), (4, .int b), (5, .int le), (6, .int (nI k)), (7, .int (nI (k / 10))), (8, .int (nI (k % 10))), (9, .int (1 : Int32))], [.int (M_ch I 78 r (nI (k % 10)) (nI (k / 10)))]) (HH I J R T) _
            refine Z_jump 2 rfl ?_
            show Zs _ _ (am_P 171).2 (113, [(0, .ref 73), (1, .ref 78), (2, .int (nI r)), (3, .int sh), (4, .int b), (5, .int le), (6, .int (nI k)), (7, .int (nI (k / 10))), (8, .int (nI (k % 10))), (9, .int (1 : Int32)), (10, .int (M_ch I 78 r (nI (k % 10)) (nI (k / 10))))], []) (HH I J R T) _
            exact W _ _ (by rw [if_neg c39, if_neg c50, if_pos b63, if_pos c81])
        · refine Z_c1 rfl rfl rfl (E_neg (m_may (by decide) rfl (by omega)) b63) ?_
          show Zs _ _ (am_P 171).2 (66, [(0, .ref 73), (1, .ref 78), (2, .int (nI r)), (3, .int sh), (4, .int b), (5, .int le), (6, .int (nI k)), (7, .int (nI (k / 10))), (8, .int (nI (k % 10)))], [.int (0 : Int32)]) (HH I J R T) _
          refine Z_jump 7 rfl ?_
          show Zs _ _ (am_P 171).2 (113, [(0, .ref 73), (1, .ref 78), (2, .int (nI r)), (3, .int sh), (4, .int b), (5, .int le), (6, .int (nI k)), (7, .int (nI (k / 10))), (8, .int (nI (k % 10))), (9, .int (0 : Int32)), (10, .int (1000000000 : Int32))], []) (HH I J R T) _
          exact W _ _ (by rw [if_neg c39, if_neg c50, if_neg b63])
theorem m_alone5 {I : hI} {J : hJ} {D : FD} {r : Nat} {sh : Int32} (hD : DMf D I) (hr : r < D.1) : am_E sc (d + 4) 171 [.ref 73, .ref 78, .int (nI r), .int sh] (HH I J R T) (some (.int (alF I D 78 r sh))) (HH I J R T) := by
  refine E_Z (Ze_of (Nat.le_of_ble_eq_true rfl) ?_)
  refine Z_jump 6 rfl ?_
  show Zs _ _ (am_P 171).2 (10, [(0, .ref 73), (1, .ref 78), (2, .int (nI r)), (3, .int sh), (4, .int (-1 : Int32)), (5, .int (1000000000 : Int32)), (6, .int (0 : Int32))], []) (HH I J R T) _
  exact m_all5 hD hr 40 0 _ _ _ (by omega) rfl ⟨rfl, rfl⟩

theorem m_all6 {I : hI} {J : hJ} {D : FD} {r : Nat} {sh : Int32} (hD : DMf D I) (hr : r < D.1) : ∀ (n k : Nat) (b le x : Int32), k + n = 40 → x = nI k → Q (some (.int (all I D 79 r sh n k b le))) (HH I J R T) → Zs sc (d + 3) (am_P 171).2 (10, [(0, .ref 73), (1, .ref 79), (2, .int (nI r)), (3, .int sh), (4, .int b), (5, .int le), (6, .int x)], []) (HH I J R T) Q
  | 0, k, b, le, x, hk, hx, H => by
    refine Z_jump 3 rfl ?_
    refine Z_bd (fun c14 => ?_) (fun c14 => absurd ((show (40 : Int32) ≤ x by rw [hx]; exact nI_le (a := 40) (by omega) (by omega))) c14)
    refine Z_jump 1 rfl ?_
    show Zs _ _ (am_P 171).2 (153, [(0, .ref 73), (1, .ref 79), (2, .int (nI r)), (3, .int sh), (4, .int b), (5, .int le), (6, .int x)], [.int b]) (HH I J R T) _
    refine Z_rI rfl (by first | exact am_nw0 _ | exact am_nw01 | rfl | assumption) ?_
    exact H
  | n + 1, k, b, le, x, hk, hx, H => by
    have h6 := hD.2.1
    have hq := hD.2.2.2 r hr
    have e3 : I 76 r = nI (D.2.1 r).2.2.1 := hq.2.2.2.1
    have e4 : I 77 r = nI (D.2.1 r).2.2.2 := hq.2.2.2.2
    have ex : x + 1 = nI (k + 1) := by rw [hx]; exact nI_1 k
    subst hx
    unfold all at H
    have W : ∀ (y : Int32) (f : Int32), al1 I D 79 r sh k = y → Zs sc (d + 3) (am_P 171).2 (113, [(0, .ref 73), (1, .ref 79), (2, .int (nI r)), (3, .int sh), (4, .int b), (5, .int le), (6, .int (nI k)), (7, .int (nI (k / 10))), (8, .int (nI (k % 10))), (9, .int f), (10, .int y)], []) (HH I J R T) Q := fun y f hy => by
      rw [hy] at H
      refine Z_jump 3 rfl ?_
      refine Z_bd (fun (c117 : le ≤ y) => ?_) (fun (c117 : ¬ (le ≤ y)) => ?_)
      · refine Z_jump 5 rfl ?_
        refine Z_bd (fun (c133 : le ≤ y) => ?_) (fun (c133 : ¬ (le ≤ y)) => ?_)
        · refine Z_jump 4 rfl ?_
          show Zs _ _ (am_P 171).2 (10, [(0, .ref 73), (1, .ref 79), (2, .int (nI r)), (3, .int sh), (4, .int b), (5, .int le), (6, .int ((nI k) + 1)), (7, .int (nI (k / 10))), (8, .int (nI (k % 10))), (9, .int f), (10, .int y)], []) (HH I J R T) _
          first | exact absurd c117 c133 | exact absurd c133 c117 | (rw [if_pos c117] at H; exact Zs_wk (m_all6 hD hr n (k + 1) _ _ _ (by omega) ex H) (lnD rfl) (lnD rfl) (by repeat (first | exact trivial | refine ⟨rfl, ?_⟩))) | (rw [if_neg c117] at H; exact Zs_wk (m_all6 hD hr n (k + 1) _ _ _ (by omega) ex H) (lnD rfl) (lnD rfl) (by repeat (first | exact trivial | refine ⟨rfl, ?_⟩)))
        · refine Z_jump 5 rfl ?_
          show Zs _ _ (am_P 171).2 (10, [(0, .ref 73), (1, .ref 79), (2, .int (nI r)), (3, .int sh), (4, .int b), (5, .int y), (6, .int ((nI k) + 1)), (7, .int (nI (k / 10))), (8, .int (nI (k % 10))), (9, .int f), (10, .int y)], []) (HH I J R T) _
          first | exact absurd c117 c133 | exact absurd c133 c117 | (rw [if_pos c117] at H; exact Zs_wk (m_all6 hD hr n (k + 1) _ _ _ (by omega) ex H) (lnD rfl) (lnD rfl) (by repeat (first | exact trivial | refine ⟨rfl, ?_⟩))) | (rw [if_neg c117] at H; exact Zs_wk (m_all6 hD hr n (k + 1) _ _ _ (by omega) ex H) (lnD rfl) (lnD rfl) (by repeat (first | exact trivial | refine ⟨rfl, ?_⟩)))
      · refine Z_jump 6 rfl ?_
        refine Z_bd (fun (c133 : le ≤ y) => ?_) (fun (c133 : ¬ (le ≤ y)) => ?_)
        · refine Z_jump 4 rfl ?_
          show Zs _ _ (am_P 171).2 (10, [(0, .ref 73), (1, .ref 79), (2, .int (nI r)), (3, .int sh), (4, .int (nI k)), (5, .int le), (6, .int ((nI k) + 1)), (7, .int (nI (k / 10))), (8, .int (nI (k % 10))), (9, .int f), (10, .int y)], []) (HH I J R T) _
          first | exact absurd c117 c133 | exact absurd c133 c117 | (rw [if_pos c117] at H; exact Zs_wk (m_all6 hD hr n (k + 1) _ _ _ (by omega) ex H) (lnD rfl) (lnD rfl) (by repeat (first | exact trivial | refine ⟨rfl, ?_⟩))) | (rw [if_neg c117] at H; exact Zs_wk (m_all6 hD hr n (k + 1) _ _ _ (by omega) ex H) (lnD rfl) (lnD rfl) (by repeat (first | exact trivial | refine ⟨rfl, ?_⟩)))
        · refine Z_jump 5 rfl ?_
          show Zs _ _ (am_P 171).2 (10, [(0, .ref 73), (1, .ref 79), (2, .int (nI r)), (3, .int sh), (4, .int (nI k)), (5, .int y), (6, .int ((nI k) + 1)), (7, .int (nI (k / 10))), (8, .int (nI (k % 10))), (9, .int f), (10, .int y)], []) (HH I J R T) _
          first | exact absurd c117 c133 | exact absurd c133 c117 | (rw [if_pos c117] at H; exact Zs_wk (m_all6 hD hr n (k + 1) _ _ _ (by omega) ex H) (lnD rfl) (lnD rfl) (by repeat (first | exact trivial | refine ⟨rfl, ?_⟩))) | (rw [if_neg c117] at H; exact Zs_wk (m_all6 hD hr n (k + 1) _ _ _ (by omega) ex H) (lnD rfl) (lnD rfl) (by repeat (first | exact trivial | refine ⟨rfl, ?_⟩)))
    unfold al1 at W
    have h3 := hq.1.2.2.2.1
    have h9 := hq.1.2.2.1.2
    refine Z_jump 3 rfl ?_
    refine Z_bd (fun c14 => absurd c14 ((show ¬ (40 : Int32) ≤ nI k from nI_ge (b := 40) (by omega) (by omega)))) (fun c14 => ?_)
    refine Z_jump 3 rfl ?_
    show Zs _ _ (am_P 171).2 (22, [(0, .ref 73), (1, .ref 79), (2, .int (nI r)), (3, .int sh), (4, .int b), (5, .int le), (6, .int (nI k))], [.int ((nI k) / (10 : Int32))]) (HH I J R T) _
    refine Z_eqI (y := (nI (k / 10))) (n_d10 (by omega)) ?_
    show Zs _ _ (am_P 171).2 (22, [(0, .ref 73), (1, .ref 79), (2, .int (nI r)), (3, .int sh), (4, .int b), (5, .int le), (6, .int (nI k))], [.int (nI (k / 10))]) (HH I J R T) _
    refine Z_jump 4 rfl ?_
    show Zs _ _ (am_P 171).2 (29, [(0, .ref 73), (1, .ref 79), (2, .int (nI r)), (3, .int sh), (4, .int b), (5, .int le), (6, .int (nI k)), (7, .int (nI (k / 10)))], [.int ((nI k) - (nI k) / (10 : Int32) * (10 : Int32))]) (HH I J R T) _
    refine Z_eqI (y := (nI (k % 10))) (n_m10 (by omega)) ?_
    show Zs _ _ (am_P 171).2 (29, [(0, .ref 73), (1, .ref 79), (2, .int (nI r)), (3, .int sh), (4, .int b), (5, .int le), (6, .int (nI k)), (7, .int (nI (k / 10)))], [.int (nI (k % 10))]) (HH I J R T) _
    refine Z_jump 5 rfl ?_
    show Zs _ _ (am_P 171).2 (38, [(0, .ref 73), (1, .ref 79), (2, .int (nI r)), (3, .int sh), (4, .int b), (5, .int le), (6, .int (nI k)), (7, .int (nI (k / 10))), (8, .int (nI (k % 10)))], [.int (nI r), .ref 77, .int (nI (k / 10))]) (HH I J R T) _
    refine Z_ialK (r) rfl rfl (rfl) (by omega) (by decide) ?_
    show Zs _ _ (am_P 171).2 (39, [(0, .ref 73), (1, .ref 79), (2, .int (nI r)), (3, .int sh), (4, .int b), (5, .int le), (6, .int (nI k)), (7, .int (nI (k / 10))), (8, .int (nI (k % 10)))], [.int (I 77 r), .int (nI (k / 10))]) (HH I J R T) _
    show Zs _ _ (am_P 171).2 (39, [(0, .ref 73), (1, .ref 79), (2, .int (nI r)), (3, .int sh), (4, .int b), (5, .int le), (6, .int (nI k)), (7, .int (nI (k / 10))), (8, .int (nI (k % 10)))], [.int (I 77 r), .int (nI (k / 10))]) (HH I J R T) _
    refine Z_eqI (y := (nI (D.2.1 r).2.2.2)) (e4) ?_
    show Zs _ _ (am_P 171).2 (39, [(0, .ref 73), (1, .ref 79), (2, .int (nI r)), (3, .int sh), (4, .int b), (5, .int le), (6, .int (nI k)), (7, .int (nI (k / 10))), (8, .int (nI (k % 10)))], [.int (nI (D.2.1 r).2.2.2), .int (nI (k / 10))]) (HH I J R T) _
    refine Z_jump 1 rfl ?_
    refine Z_bd (fun (c39 : (nI (D.2.1 r).2.2.2) < (nI (k / 10))) => ?_) (fun (c39 : ¬ ((nI (D.2.1 r).2.2.2) < (nI (k / 10)))) => ?_)
    · refine Z_jump 6 rfl ?_
      show Zs _ _ (am_P 171).2 (113, [(0, .ref 73), (1, .ref 79), (2, .int (nI r)), (3, .int sh), (4, .int b), (5, .int le), (6, .int (nI k)), (7, .int (nI (k / 10))), (8, .int (nI (k % 10))), (9, .int (0 : Int32)), (10, .int (1000000000 : Int32))], []) (HH I J R T) _
      exact W _ _ (by rw [if_pos c39])
    · refine Z_jump 4 rfl ?_
      show Zs _ _ (am_P 171).2 (49, [(0, .ref 73), (1, .ref 79), (2, .int (nI r)), (3, .int sh), (4, .int b), (5, .int le), (6, .int (nI k)), (7, .int (nI (k / 10))), (8, .int (nI (k % 10)))], [.int (nI r), .ref 76, .int (nI (k % 10))]) (HH I J R T) _
      refine Z_ialK (r) rfl rfl (rfl) (by omega) (by decide) ?_
      show Zs _ _ (am_P 171).2 (50, [(0, .ref 73), (1, .ref 79), (2, .int (nI r)), (3, .int sh), (4, .int b), (5, .int le), (6, .int (nI k)), (7, .int (nI (k / 10))), (8, .int (nI (k % 10)))], [.int (I 76 r), .int (nI (k % 10))]) (HH I J R T) _
      show Zs _ _ (am_P 171).2 (50, [(0, .ref 73), (1, .ref 79), (2, .int (nI r)), (3, .int sh), (4, .int b), (5, .int le), (6, .int (nI k)), (7, .int (nI (k / 10))), (8, .int (nI (k % 10)))], [.int (I 76 r), .int (nI (k % 10))]) (HH I J R T) _
      refine Z_eqI (y := (nI (D.2.1 r).2.2.1)) (e3) ?_
      show Zs _ _ (am_P 171).2 (50, [(0, .ref 73), (1, .ref 79), (2, .int (nI r)), (3, .int sh), (4, .int b), (5, .int le), (6, .int (nI k)), (7, .int (nI (k / 10))), (8, .int (nI (k % 10)))], [.int (nI (D.2.1 r).2.2.1), .int (nI (k % 10))]) (HH I J R T) _
      refine Z_jump 1 rfl ?_
      refine Z_bd (fun (c50 : (nI (D.2.1 r).2.2.1) < (nI (k % 10))) => ?_) (fun (c50 : ¬ ((nI (D.2.1 r).2.2.1) < (nI (k % 10)))) => ?_)
      · refine Z_jump 6 rfl ?_
        show Zs _ _ (am_P 171).2 (113, [(0, .ref 73), (1, .ref 79), (2, .int (nI r)), (3, .int sh), (4, .int b), (5, .int le), (6, .int (nI k)), (7, .int (nI (k / 10))), (8, .int (nI (k % 10))), (9, .int (0 : Int32)), (10, .int (1000000000 : Int32))], []) (HH I J R T) _
        exact W _ _ (by rw [if_neg c39, if_pos c50])
      · refine Z_jump 7 rfl ?_
        show Zs _ _ (am_P 171).2 (63, [(0, .ref 73), (1, .ref 79), (2, .int (nI r)), (3, .int sh), (4, .int b), (5, .int le), (6, .int (nI k)), (7, .int (nI (k / 10))), (8, .int (nI (k % 10)))], [.int (nI (k / 10)), .int (nI (k % 10)), .int (nI r), .int (I 79 12), .ref 79]) (HH I J R T) _
        by_cases b63 : M_may I 79 (I 79 12) r (nI (k % 10)) (nI (k / 10))
        · refine Z_c1 rfl rfl rfl (E_pos (m_may (by decide) rfl (by omega)) b63) ?_
          show Zs _ _ (am_P 171).2 (66, [(0, .ref 73), (1, .ref 79), (2, .int (nI r)), (3, .int sh), (4, .int b), (5, .int le), (6, .int (nI k)), (7, .int (nI (k / 10))), (8, .int (nI (k % 10)))], [.int (1 : Int32)]) (HH I J R T) _
          refine Z_jump 5 rfl ?_
          show Zs _ _ (am_P 171).2 (75, [(0, .ref 73), (1, .ref 79), (2, .int (nI r)), (3, .int sh), (4, .int b), (5, .int le), (6, .int (nI k)), (7, .int (nI (k / 10))), (8, .int (nI (k % 10)))], [.int (nI r), .ref 73, .int (nI (k / 10)), .int (nI (k % 10))]) (HH I J R T) _
          refine Z_c1 rfl rfl rfl (m_worthD hD rfl hr) ?_
          show Zs _ _ (am_P 171).2 (78, [(0, .ref 73), (1, .ref 79), (2, .int (nI r)), (3, .int sh), (4, .int b), (5, .int le), (6, .int (nI k)), (7, .int (nI (k / 10))), (8, .int (nI (k % 10)))], [.int (nI (hwv (D.2.1 r))), .int (nI (k / 10)), .int (nI (k % 10))]) (HH I J R T) _
          refine Z_jump 2 rfl ?_
          show Zs _ _ (am_P 171).2 (80, [(0, .ref 73), (1, .ref 79), (2, .int (nI r)), (3, .int sh), (4, .int b), (5, .int le), (6, .int (nI k)), (7, .int (nI (k / 10))), (8, .int (nI (k % 10)))], [.int ((nI (k % 10)) + ((nI (k / 10)) * (nI (hwv (D.2.1 r)))))]) (HH I J R T) _
          refine Z_eqI (y := (shF D r (nI (k % 10)) (nI (k / 10)))) (rfl) ?_
          show Zs _ _ (am_P 171).2 (80, [(0, .ref 73), (1, .ref 79), (2, .int (nI r)), (3, .int sh), (4, .int b), (5, .int le), (6, .int (nI k)), (7, .int (nI (k / 10))), (8, .int (nI (k % 10)))], [.int (shF D r (nI (k % 10)) (nI (k / 10)))]) (HH I J R T) _
          refine Z_jump 2 rfl ?_
          refine Z_bn (fun (c81 : ¬ ((shF D r (nI (k % 10)) (nI (k / 10))) = sh)) => ?_) (fun (c81 : (shF D r (nI (k % 10)) (nI (k / 10))) = sh) => ?_)
          · refine Z_jump 6 rfl ?_
            show Zs _ _ (am_P 171).2 (113, [(0, .ref 73), (1, .ref 79), (2, .int (nI r)), (3, .int sh), (4, .int b), (5, .int le), (6, .int (nI k)), (7, .int (nI (k / 10))), (8, .int (nI (k % 10))), (9, .int (0 : Int32)), (10, .int (1000000000 : Int32))], []) (HH I J R T) _
            exact W _ _ (by rw [if_neg c39, if_neg c50, if_pos b63, if_neg c81])
          · refine Z_jump 10 rfl ?_
            show Zs _ _ (am_P 171).2 (103, [(0, .ref 73), (1, .ref 79), (2, .int (nI r)), (3, .int sh), (4, .int b), (5, .int le), (6, .int (nI k)), (7, .int (nI (k / 10))), (8, .int (nI (k % 10))), (9, .int (1 : Int32))], [.int (nI (k / 10)), .int (nI (k % 10)), .int (nI r), .ref 79, .ref 73]) (HH I J R T) _
            refine Z_c1 rfl rfl rfl (m_change (by decide) rfl (by omega)) ?_
            show Zs _ _ (am_P 171).2 (106, [(0, .ref 73), (1, .ref 79), (2, .int (nI r)), (3, .int sh), (4, .int b), (5, .int le), (6, .int (nI k)), (7, .int (nI (k / 10))), (8, .int (nI (k % 10))), (9, .int (1 : Int32))], [.int (M_ch I 79 r (nI (k % 10)) (nI (k / 10)))]) (HH I J R T) _
            refine Z_jump 2 rfl ?_
            show Zs _ _ (am_P 171).2 (113, [(0, .ref 73), (1, .ref 79), (2, .int (nI r)), (3, .int sh), (4, .int b), (5, .int le), (6, .int (nI k)), (7, .int (nI (k / 10))), (8, .int (nI (k % 10))), (9, .int (1 : Int32)), (10, .int (M_ch I 79 r (nI (k % 10)) (nI (k / 10))))], []) (HH I J R T) _
            exact W _ _ (by rw [if_neg c39, if_neg c50, if_pos b63, if_pos c81])
        · refine Z_c1 rfl rfl rfl (E_neg (m_may (by decide) rfl (by omega)) b63) ?_
          show Zs _ _ (am_P 171).2 (66, [(0, .ref 73), (1, .ref 79), (2, .int (nI r)), (3, .int sh), (4, .int b), (5, .int le), (6, .int (nI k)), (7, .int (nI (k / 10))), (8, .int (nI (k % 10)))], [.int (0 : Int32)]) (HH I J R T) _
          refine Z_jump 7 rfl ?_
          show Zs _ _ (am_P 171).2 (113, [(0, .ref 73), (1, .ref 79), (2, .int (nI r)), (3, .int sh), (4, .int b), (5, .int le), (6, .int (nI k)), (7, .int (nI (k / 10))), (8, .int (nI (k % 10))), (9, .int (0 : Int32)), (10, .int (1000000000 : Int32))], []) (HH I J R T) _
          exact W _ _ (by rw [if_neg c39, if_neg c50, if_neg b63])
theorem m_alone6 {I : hI} {J : hJ} {D : FD} {r : Nat} {sh : Int32} (hD : DMf D I) (hr : r < D.1) : am_E sc (d + 4) 171 [.ref 73, .ref 79, .int (nI r), .int sh] (HH I J R T) (some (.int (alF I D 79 r sh))) (HH I J R T) := by
  refine E_Z (Ze_of (Nat.le_of_ble_eq_true rfl) ?_)
  refine Z_jump 6 rfl ?_
  show Zs _ _ (am_P 171).2 (10, [(0, .ref 73), (1, .ref 79), (2, .int (nI r)), (3, .int sh), (4, .int (-1 : Int32)), (5, .int (1000000000 : Int32)), (6, .int (0 : Int32))], []) (HH I J R T) _
  exact m_all6 hD hr 40 0 _ _ _ (by omega) rfl ⟨rfl, rfl⟩

end ML5

