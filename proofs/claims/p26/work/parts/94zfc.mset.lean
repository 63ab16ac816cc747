section ML6
variable {sc : Nat × (Nat → Int32)} {d : Nat} {R : hR} {T : am_H} {Q : Option Value → am_H → Prop}
theorem m_cll5 {J : hJ} {D : FD} : ∀ (n r : Nat) (t : Int32) (I : hI) (x : Int32), r + n = D.1 → x = nI r → D.1 ≤ 6 → I 73 0 = nI D.1 → Zs sc (d + 3) (am_P 173).2 (93, [(0, .ref 73), (1, .ref 78), (2, .int (cll 78 n r t I).1)], []) (HH (cll 78 n r t I).2 J R T) Q → Zs sc (d + 3) (am_P 173).2 (4, [(0, .ref 73), (1, .ref 78), (2, .int t), (3, .int x)], []) (HH I J R T) Q
  | 0, r, t, I, x, hr, hx, h6, hn, H => by
    refine Z_jump 4 rfl ?_
    refine Z_bd (fun c9 => ?_) (fun c9 => absurd ((show I 73 0 ≤ x by rw [hn, hx]; exact nI_le (by omega) (by omega))) c9)
    show Zs _ _ (am_P 173).2 (93, [(0, .ref 73), (1, .ref 78), (2, .int t), (3, .int x)], []) (HH I J R T) _
    exact Zs_wk (H) (lnD rfl) (lnD rfl) (by repeat (first | exact trivial | refine ⟨rfl, ?_⟩))
  | n + 1, r, t, I, x, hr, hx, h6, hn, H => by
    have ex : x + 1 = nI (r + 1) := by rw [hx]; exact nI_1 r
    have hn1 : clI I 78 r 73 0 = nI D.1 := by unfold clI; rw [sf_c (by decide), sf_c (by decide)]; exact hn
    subst hx
    have W : ∀ (y z : Int32), cLo I 78 r = y → cHi I 78 r = z → Zs sc (d + 3) (am_P 173).2 (59, [(0, .ref 73), (1, .ref 78), (2, .int t), (3, .int (nI r)), (4, .int y), (5, .int z)], []) (HH I J R T) Q := fun y z hy hz => by
      subst hy
      subst hz
      refine Z_jump 6 rfl ?_
      show Zs _ _ (am_P 173).2 (67, [(0, .ref 73), (1, .ref 78), (2, .int t), (3, .int (nI r)), (4, .int (cLo I 78 r)), (5, .int (cHi I 78 r))], [.int (cHi I 78 r), .int (cLo I 78 r), .int (nI r), .ref 78, .ref 73, .int t]) (HH I J R T) _
      refine Z_c1 rfl rfl rfl (m_change (by decide) rfl (by omega)) ?_
      show Zs _ _ (am_P 173).2 (70, [(0, .ref 73), (1, .ref 78), (2, .int t), (3, .int (nI r)), (4, .int (cLo I 78 r)), (5, .int (cHi I 78 r))], [.int (M_ch I 78 r (cLo I 78 r) (cHi I 78 r)), .int t]) (HH I J R T) _
      refine Z_jump 7 rfl ?_
      show Zs _ _ (am_P 173).2 (78, [(0, .ref 73), (1, .ref 78), (2, .int (t + (M_ch I 78 r (cLo I 78 r) (cHi I 78 r)))), (3, .int (nI r)), (4, .int (cLo I 78 r)), (5, .int (cHi I 78 r))], [.int (cLo I 78 r), .int ((0 : Int32) + (nI r)), .ref 78]) (HH I J R T) _
      refine Z_iasK (r) rfl rfl (nI_z r) (by omega) (by decide) ?_
      show Zs _ _ (am_P 173).2 (79, [(0, .ref 73), (1, .ref 78), (2, .int (t + (M_ch I 78 r (cLo I 78 r) (cHi I 78 r)))), (3, .int (nI r)), (4, .int (cLo I 78 r)), (5, .int (cHi I 78 r))], []) (HH (sf I 78 r (cLo I 78 r)) J R T) _
      refine Z_jump 5 rfl ?_
      show Zs _ _ (am_P 173).2 (86, [(0, .ref 73), (1, .ref 78), (2, .int (t + (M_ch I 78 r (cLo I 78 r) (cHi I 78 r)))), (3, .int (nI r)), (4, .int (cLo I 78 r)), (5, .int (cHi I 78 r))], [.int (cHi I 78 r), .int ((6 : Int32) + (nI r)), .ref 78]) (HH (sf I 78 r (cLo I 78 r)) J R T) _
      refine Z_iasK (6 + r) rfl rfl (nI_6 r) (by omega) (by decide) ?_
      show Zs _ _ (am_P 173).2 (87, [(0, .ref 73), (1, .ref 78), (2, .int (t + (M_ch I 78 r (cLo I 78 r) (cHi I 78 r)))), (3, .int (nI r)), (4, .int (cLo I 78 r)), (5, .int (cHi I 78 r))], []) (HH (sf (sf I 78 r (cLo I 78 r)) 78 (6 + r) (cHi I 78 r)) J R T) _
      refine Z_jump 2 rfl ?_
      show Zs _ _ (am_P 173).2 (4, [(0, .ref 73), (1, .ref 78), (2, .int (t + (M_ch I 78 r (cLo I 78 r) (cHi I 78 r)))), (3, .int ((nI r) + 1)), (4, .int (cLo I 78 r)), (5, .int (cHi I 78 r))], []) (HH (sf (sf I 78 r (cLo I 78 r)) 78 (6 + r) (cHi I 78 r)) J R T) _
      exact Zs_wk (m_cll5 n (r + 1) _ (clI I 78 r) _ (by omega) ex h6 hn1 H) (lnD rfl) (lnD rfl) (by repeat (first | exact trivial | refine ⟨rfl, ?_⟩))
    unfold cLo cHi at W
    refine Z_jump 4 rfl ?_
    refine Z_bd (fun c9 => absurd c9 ((show ¬ I 73 0 ≤ nI r by rw [hn]; exact nI_ge (by omega) (by omega)))) (fun c9 => ?_)
    refine Z_jump 5 rfl ?_
    show Zs _ _ (am_P 173).2 (18, [(0, .ref 73), (1, .ref 78), (2, .int t), (3, .int (nI r))], [.int (0 : Int32), .int (nI r), .int (I 78 12)]) (HH I J R T) _
    by_cases b18 : M_bit (I 78 12) (nI r) 0
    · refine Z_c1 rfl rfl rfl (E_pos (m_isStuck) b18) ?_
      show Zs _ _ (am_P 173).2 (21, [(0, .ref 73), (1, .ref 78), (2, .int t), (3, .int (nI r))], [.int (1 : Int32)]) (HH I J R T) _
      refine Z_jump 5 rfl ?_
      show Zs _ _ (am_P 173).2 (28, [(0, .ref 73), (1, .ref 78), (2, .int t), (3, .int (nI r))], [.int ((0 : Int32) + (nI r)), .ref 78]) (HH I J R T) _
      refine Z_ialK (r) rfl rfl (nI_z r) (by omega) (by decide) ?_
      show Zs _ _ (am_P 173).2 (29, [(0, .ref 73), (1, .ref 78), (2, .int t), (3, .int (nI r))], [.int (I 78 r)]) (HH I J R T) _
      refine Z_jump 7 rfl ?_
      show Zs _ _ (am_P 173).2 (41, [(0, .ref 73), (1, .ref 78), (2, .int t), (3, .int (nI r)), (4, .int (I 78 r))], [.int (1 : Int32), .int (nI r), .int (I 78 12)]) (HH I J R T) _
      by_cases b41 : M_bit (I 78 12) (nI r) 1
      · refine Z_c1 rfl rfl rfl (E_pos (m_isStuck) b41) ?_
        show Zs _ _ (am_P 173).2 (44, [(0, .ref 73), (1, .ref 78), (2, .int t), (3, .int (nI r)), (4, .int (I 78 r))], [.int (1 : Int32)]) (HH I J R T) _
        refine Z_jump 5 rfl ?_
        show Zs _ _ (am_P 173).2 (52, [(0, .ref 73), (1, .ref 78), (2, .int t), (3, .int (nI r)), (4, .int (I 78 r))], [.int ((6 : Int32) + (nI r)), .ref 78]) (HH I J R T) _
        refine Z_ialK (6 + r) rfl rfl (nI_6 r) (by omega) (by decide) ?_
        show Zs _ _ (am_P 173).2 (53, [(0, .ref 73), (1, .ref 78), (2, .int t), (3, .int (nI r)), (4, .int (I 78 r))], [.int (I 78 (6 + r))]) (HH I J R T) _
        refine Z_jump 2 rfl ?_
        show Zs _ _ (am_P 173).2 (59, [(0, .ref 73), (1, .ref 78), (2, .int t), (3, .int (nI r)), (4, .int (I 78 r)), (5, .int (I 78 (6 + r)))], []) (HH I J R T) _
        first | exact W _ _ (if_pos b18) (if_pos b41) | exact W _ _ (if_pos b18) (if_neg b41) | exact W _ _ (if_neg b18) (if_pos b41) | exact W _ _ (if_neg b18) (if_neg b41)
      · refine Z_c1 rfl rfl rfl (E_neg (m_isStuck) b41) ?_
        show Zs _ _ (am_P 173).2 (44, [(0, .ref 73), (1, .ref 78), (2, .int t), (3, .int (nI r)), (4, .int (I 78 r))], [.int (0 : Int32)]) (HH I J R T) _
        refine Z_jump 3 rfl ?_
        show Zs _ _ (am_P 173).2 (59, [(0, .ref 73), (1, .ref 78), (2, .int t), (3, .int (nI r)), (4, .int (I 78 r)), (5, .int (0 : Int32))], []) (HH I J R T) _
        first | exact W _ _ (if_pos b18) (if_pos b41) | exact W _ _ (if_pos b18) (if_neg b41) | exact W _ _ (if_neg b18) (if_pos b41) | exact W _ _ (if_neg b18) (if_neg b41)
    · refine Z_c1 rfl rfl rfl (E_neg (m_isStuck) b18) ?_
      show Zs _ _ (am_P 173).2 (21, [(0, .ref 73), (1, .ref 78), (2, .int t), (3, .int (nI r))], [.int (0 : Int32)]) (HH I J R T) _
      refine Z_jump 8 rfl ?_
      show Zs _ _ (am_P 173).2 (41, [(0, .ref 73), (1, .ref 78), (2, .int t), (3, .int (nI r)), (4, .int (0 : Int32))], [.int (1 : Int32), .int (nI r), .int (I 78 12)]) (HH I J R T) _
      by_cases b41 : M_bit (I 78 12) (nI r) 1
      · refine Z_c1 rfl rfl rfl (E_pos (m_isStuck) b41) ?_
        show Zs _ _ (am_P 173).2 (44, [(0, .ref 73), (1, .ref 78), (2, .int t), (3, .int (nI r)), (4, .int (0 : Int32))], [.int (1 : Int32)]) (HH I J R T) _
        refine Z_jump 5 rfl ?_
        show Zs _ _ (am_P 173).2 (52, [(0, .ref 73), (1, .ref 78), (2, .int t), (3, .int (nI r)), (4, .int (0 : Int32))], [.int ((6 : Int32) + (nI r)), .ref 78]) (HH I J R T) _
        refine Z_ialK (6 + r) rfl rfl (nI_6 r) (by omega) (by decide) ?_
        show Zs _ _ (am_P 173).2 (53, [(0, .ref 73), (1, .ref 78), (2, .int t), (3, .int (nI r)), (4, .int (0 : Int32))], [.int (I 78 (6 + r))]) (HH I J R T) _
        refine Z_jump 2 rfl ?_
        show Zs _ _ (am_P 173).2 (59, [(0, .ref 73), (1, .ref 78), (2, .int t), (3, .int (nI r)), (4, .int (0 : Int32)), (5, .int (I 78 (6 + r)))], []) (HH I J R T) _
        first | exact W _ _ (if_pos b18) (if_pos b41) | exact W _ _ (if_pos b18) (if_neg b41) | exact W _ _ (if_neg b18) (if_pos b41) | exact W _ _ (if_neg b18) (if_neg b41)
      · refine Z_c1 rfl rfl rfl (E_neg (m_isStuck) b41) ?_
        show Zs _ _ (am_P 173).2 (44, [(0, .ref 73), (1, .ref 78), (2, .int t), (3, .int (nI r)), (4, .int (0 : Int32))], [.int (0 : Int32)]) (HH I J R T) _
        refine Z_jump 3 rfl ?_
        show Zs _ _ (am_P 173).2 (59, [(0, .ref 73), (1, .ref 78), (2, .int t), (3, .int (nI r)), (4, .int (0 : Int32)), (5, .int (0 : Int32))], []) (HH I J R T) _
        first | exact W _ _ (if_pos b18) (if_pos b41) | exact W _ _ (if_pos b18) (if_neg b41) | exact W _ _ (if_neg b18) (if_pos b41) | exact W _ _ (if_neg b18) (if_neg b41)
theorem m_clears5 {I : hI} {J : hJ} {D : FD} (hD : DMf D I) : am_E sc (d + 4) 173 [.ref 73, .ref 78] (HH I J R T) none (HH (clF I 78 D.1) J R T) := by
  refine E_Z (Ze_of (Nat.le_of_ble_eq_true rfl) ?_)
  have h6 := hD.2.1
  unfold clF
  have W : Zs sc (d + 3) (am_P 173).2 (93, [(0, .ref 73), (1, .ref 78), (2, .int (cll 78 D.1 0 0 I).1)], []) (HH (cll 78 D.1 0 0 I).2 J R T) (fun r h => r = none ∧ h = HH (sf (cll 78 D.1 0 0 I).2 78 13 (cap ((cll 78 D.1 0 0 I).2 78 13 + (cll 78 D.1 0 0 I).1))) J R T) := by
    generalize cll 78 D.1 0 0 I = w
    refine Z_jump 7 rfl ?_
    show Zs _ _ (am_P 173).2 (102, [(0, .ref 73), (1, .ref 78), (2, .int w.1)], [.int ((w.2 78 13) + w.1), .int (13 : Int32), .ref 78]) (HH w.2 J R T) _
    refine Z_c1 rfl rfl rfl (m_counted) ?_
    show Zs _ _ (am_P 173).2 (105, [(0, .ref 73), (1, .ref 78), (2, .int w.1)], [.int (cap (w.2 78 13 + w.1)), .int (13 : Int32), .ref 78]) (HH w.2 J R T) _
    refine Z_jump 1 rfl ?_
    show Zs _ _ (am_P 173).2 (106, [(0, .ref 73), (1, .ref 78), (2, .int w.1)], []) (HH (sf w.2 78 13 (cap (w.2 78 13 + w.1))) J R T) _
    show Zs _ _ (am_P 173).2 (106, [(0, .ref 73), (1, .ref 78), (2, .int w.1)], []) (HH (sf w.2 78 13 (cap (w.2 78 13 + w.1))) J R T) _
    refine Z_ret rfl rfl rfl ?_
    exact ⟨rfl, rfl⟩
  refine Z_jump 4 rfl ?_
  show Zs _ _ (am_P 173).2 (4, [(0, .ref 73), (1, .ref 78), (2, .int (0 : Int32)), (3, .int (0 : Int32))], []) (HH I J R T) _
  exact m_cll5 D.1 0 _ _ _ (by omega) rfl h6 hD.1 W
end ML6

