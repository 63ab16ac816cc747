/-! count (both): any state. -/
section CNT
variable {sc : Nat × (Nat → Int32)} {d : Nat} {I : hI} {J : hJ} {R : hR} {T : am_H} {Q : Option Value → am_H → Prop}
def cfr (I : hI) (D : FD) : Nat → Nat → Int32 → Int32
  | 0, _, s => s
  | k + 1, i, s => cfr I D k (i + 1) (if shw I 22 i (D.2.1 i) < nI (D.2.1 i).2.1 then s else s ||| (1 <<< (nI i &&& 31)))
theorem c_full_l {D : FD} (hD : DC 18 D I R T) : ∀ (k i : Nat) (x s : Int32) (t : am_L), i + k = D.1 → x = nI i → (t = [] ∨ ∃ r, t = [(3, Value.ref r)]) → Zs sc (d + 3) (am_P 126).2 (4, (0, .ref 0) :: (1, .int s) :: (2, .int x) :: t, []) (HH I J R T) (fun r h => r = some (.int (cfr I D k i s)) ∧ h = HH I J R T)
  | 0, i, x, s, t, hi, hx, ht => by
    have h6 := hD.2.1
    rcases ht with rfl | ⟨r, rfl⟩
    · refine Z_jump 5 rfl ?_
      refine Z_bd (fun c12 => ?_) (fun c12 => absurd ((show I 18 1 ≤ x by rw [hD.1, hx]; exact nI_le (by omega) (by omega))) c12)
      refine Z_jump 1 rfl ?_
      show Zs _ _ (am_P 126).2 (57, [(0, .ref 0), (1, .int s), (2, .int x)], [.int s]) (HH I J R T) _
      refine Z_rI rfl (by first | exact am_nw0 _ | exact am_nw01 | rfl | assumption) ?_
      exact ⟨rfl, rfl⟩
    · refine Z_jump 5 rfl ?_
      refine Z_bd (fun c12 => ?_) (fun c12 => absurd ((show I 18 1 ≤ x by rw [hD.1, hx]; exact nI_le (by omega) (by omega))) c12)
      refine Z_jump 1 rfl ?_
      show Zs _ _ (am_P 126).2 (57, [(0, .ref 0), (1, .int s), (2, .int x), (3, .ref r)], [.int s]) (HH I J R T) _
      refine Z_rI rfl (by first | exact am_nw0 _ | exact am_nw01 | rfl | assumption) ?_
      exact ⟨rfl, rfl⟩
  | k + 1, i, x, s, t, hi, hx, ht => by
    have h6 := hD.2.1
    obtain ⟨hq, a, hR, hT⟩ := hD.2.2.2 i (by omega)
    have hL : (HH I J R T)[99 + a]? = some (rodC (D.2.1 i)) := HH_at a hT
    unfold cfr
    by_cases hs : shw I 22 i (D.2.1 i) < nI (D.2.1 i).2.1
    · rw [if_pos hs]
      rcases ht with rfl | ⟨r, rfl⟩
      · refine Z_jump 5 rfl ?_
        refine Z_bd (fun c12 => absurd c12 ((show ¬ I 18 1 ≤ x by rw [hD.1, hx]; exact nI_ge (by omega) (by omega)))) (fun c12 => ?_)
        refine Z_jump 3 rfl ?_
        show Zs _ _ (am_P 126).2 (20, [(0, .ref 0), (1, .int s), (2, .int x)], [.int x, .ref 18]) (HH I J R T) _
        refine Z_c1 rfl rfl rfl (c_rodAt18 hD hx (by omega) hR) ?_
        show Zs _ _ (am_P 126).2 (23, [(0, .ref 0), (1, .int s), (2, .int x)], [.ref (99 + a)]) (HH I J R T) _
        refine Z_jump 7 rfl ?_
        show Zs _ _ (am_P 126).2 (34, [(0, .ref 0), (1, .int s), (2, .int x), (3, .ref (99 + a))], [.ref (99 + a), .int x, .ref 22]) (HH I J R T) _
        refine Z_c1 rfl rfl rfl (c_shows (a := 22) (by decide) hx (by omega) hL hq.1) ?_
        show Zs _ _ (am_P 126).2 (37, [(0, .ref 0), (1, .int s), (2, .int x), (3, .ref (99 + a))], [.int (shw I 22 i (D.2.1 i))]) (HH I J R T) _
        refine Z_jump 1 rfl ?_
        show Zs _ _ (am_P 126).2 (38, [(0, .ref 0), (1, .int s), (2, .int x), (3, .ref (99 + a))], [.ref (99 + a), .int (shw I 22 i (D.2.1 i))]) (HH I J R T) _
        refine Z_gfR rfl hL hq.1 rfl ?_
        refine Z_jump 1 rfl ?_
        refine Z_bd (fun c41 => ?_) (fun c41 => absurd (hs) c41)
        refine Z_jump 2 rfl ?_
        show Zs _ _ (am_P 126).2 (4, [(0, .ref 0), (1, .int s), (2, .int (x + 1)), (3, .ref (99 + a))], []) (HH I J R T) _
        exact c_full_l hD k (i + 1) _ _ _ (by omega) (by rw [hx]; exact nI_1 i) (Or.inr ⟨_, rfl⟩)
      · refine Z_jump 5 rfl ?_
        refine Z_bd (fun c12 => absurd c12 ((show ¬ I 18 1 ≤ x by rw [hD.1, hx]; exact nI_ge (by omega) (by omega)))) (fun c12 => ?_)
        refine Z_jump 3 rfl ?_
        show Zs _ _ (am_P 126).2 (20, [(0, .ref 0), (1, .int s), (2, .int x), (3, .ref r)], [.int x, .ref 18]) (HH I J R T) _
        refine Z_c1 rfl rfl rfl (c_rodAt18 hD hx (by omega) hR) ?_
        show Zs _ _ (am_P 126).2 (23, [(0, .ref 0), (1, .int s), (2, .int x), (3, .ref r)], [.ref (99 + a)]) (HH I J R T) _
        refine Z_jump 7 rfl ?_
        show Zs _ _ (am_P 126).2 (34, [(0, .ref 0), (1, .int s), (2, .int x), (3, .ref (99 + a))], [.ref (99 + a), .int x, .ref 22]) (HH I J R T) _
        refine Z_c1 rfl rfl rfl (c_shows (a := 22) (by decide) hx (by omega) hL hq.1) ?_
        show Zs _ _ (am_P 126).2 (37, [(0, .ref 0), (1, .int s), (2, .int x), (3, .ref (99 + a))], [.int (shw I 22 i (D.2.1 i))]) (HH I J R T) _
        refine Z_jump 1 rfl ?_
        show Zs _ _ (am_P 126).2 (38, [(0, .ref 0), (1, .int s), (2, .int x), (3, .ref (99 + a))], [.ref (99 + a), .int (shw I 22 i (D.2.1 i))]) (HH I J R T) _
        refine Z_gfR rfl hL hq.1 rfl ?_
        refine Z_jump 1 rfl ?_
        refine Z_bd (fun c41 => ?_) (fun c41 => absurd (hs) c41)
        refine Z_jump 2 rfl ?_
        show Zs _ _ (am_P 126).2 (4, [(0, .ref 0), (1, .int s), (2, .int (x + 1)), (3, .ref (99 + a))], []) (HH I J R T) _
        exact c_full_l hD k (i + 1) _ _ _ (by omega) (by rw [hx]; exact nI_1 i) (Or.inr ⟨_, rfl⟩)
    · rw [if_neg hs, ← hx]
      rcases ht with rfl | ⟨r, rfl⟩
      · refine Z_jump 5 rfl ?_
        refine Z_bd (fun c12 => absurd c12 ((show ¬ I 18 1 ≤ x by rw [hD.1, hx]; exact nI_ge (by omega) (by omega)))) (fun c12 => ?_)
        refine Z_jump 3 rfl ?_
        show Zs _ _ (am_P 126).2 (20, [(0, .ref 0), (1, .int s), (2, .int x)], [.int x, .ref 18]) (HH I J R T) _
        refine Z_c1 rfl rfl rfl (c_rodAt18 hD hx (by omega) hR) ?_
        show Zs _ _ (am_P 126).2 (23, [(0, .ref 0), (1, .int s), (2, .int x)], [.ref (99 + a)]) (HH I J R T) _
        refine Z_jump 7 rfl ?_
        show Zs _ _ (am_P 126).2 (34, [(0, .ref 0), (1, .int s), (2, .int x), (3, .ref (99 + a))], [.ref (99 + a), .int x, .ref 22]) (HH I J R T) _
        refine Z_c1 rfl rfl rfl (c_shows (a := 22) (by decide) hx (by omega) hL hq.1) ?_
        show Zs _ _ (am_P 126).2 (37, [(0, .ref 0), (1, .int s), (2, .int x), (3, .ref (99 + a))], [.int (shw I 22 i (D.2.1 i))]) (HH I J R T) _
        refine Z_jump 1 rfl ?_
        show Zs _ _ (am_P 126).2 (38, [(0, .ref 0), (1, .int s), (2, .int x), (3, .ref (99 + a))], [.ref (99 + a), .int (shw I 22 i (D.2.1 i))]) (HH I J R T) _
        refine Z_gfR rfl hL hq.1 rfl ?_
        refine Z_jump 1 rfl ?_
        refine Z_bd (fun c41 => absurd c41 (hs)) (fun c41 => ?_)
        refine Z_jump 8 rfl ?_
        show Zs _ _ (am_P 126).2 (4, [(0, .ref 0), (1, .int (s ||| ((1 : Int32) <<< (x &&& 31)))), (2, .int (x + 1)), (3, .ref (99 + a))], []) (HH I J R T) _
        exact c_full_l hD k (i + 1) _ _ _ (by omega) (by rw [hx]; exact nI_1 i) (Or.inr ⟨_, rfl⟩)
      · refine Z_jump 5 rfl ?_
        refine Z_bd (fun c12 => absurd c12 ((show ¬ I 18 1 ≤ x by rw [hD.1, hx]; exact nI_ge (by omega) (by omega)))) (fun c12 => ?_)
        refine Z_jump 3 rfl ?_
        show Zs _ _ (am_P 126).2 (20, [(0, .ref 0), (1, .int s), (2, .int x), (3, .ref r)], [.int x, .ref 18]) (HH I J R T) _
        refine Z_c1 rfl rfl rfl (c_rodAt18 hD hx (by omega) hR) ?_
        show Zs _ _ (am_P 126).2 (23, [(0, .ref 0), (1, .int s), (2, .int x), (3, .ref r)], [.ref (99 + a)]) (HH I J R T) _
        refine Z_jump 7 rfl ?_
        show Zs _ _ (am_P 126).2 (34, [(0, .ref 0), (1, .int s), (2, .int x), (3, .ref (99 + a))], [.ref (99 + a), .int x, .ref 22]) (HH I J R T) _
        refine Z_c1 rfl rfl rfl (c_shows (a := 22) (by decide) hx (by omega) hL hq.1) ?_
        show Zs _ _ (am_P 126).2 (37, [(0, .ref 0), (1, .int s), (2, .int x), (3, .ref (99 + a))], [.int (shw I 22 i (D.2.1 i))]) (HH I J R T) _
        refine Z_jump 1 rfl ?_
        show Zs _ _ (am_P 126).2 (38, [(0, .ref 0), (1, .int s), (2, .int x), (3, .ref (99 + a))], [.ref (99 + a), .int (shw I 22 i (D.2.1 i))]) (HH I J R T) _
        refine Z_gfR rfl hL hq.1 rfl ?_
        refine Z_jump 1 rfl ?_
        refine Z_bd (fun c41 => absurd c41 (hs)) (fun c41 => ?_)
        refine Z_jump 8 rfl ?_
        show Zs _ _ (am_P 126).2 (4, [(0, .ref 0), (1, .int (s ||| ((1 : Int32) <<< (x &&& 31)))), (2, .int (x + 1)), (3, .ref (99 + a))], []) (HH I J R T) _
        exact c_full_l hD k (i + 1) _ _ _ (by omega) (by rw [hx]; exact nI_1 i) (Or.inr ⟨_, rfl⟩)
theorem c_fullRods {D : FD} (hD : DC 18 D I R T) : am_E sc (d + 4) 126 [.ref 0] (HH I J R T) (some (.int (cfr I D D.1 0 0))) (HH I J R T) := by
  refine E_Z (Ze_of (Nat.le_of_ble_eq_true rfl) ?_)
  refine Z_jump 4 rfl ?_
  show Zs _ _ (am_P 126).2 (4, [(0, .ref 0), (1, .int (0 : Int32)), (2, .int (0 : Int32))], []) (HH I J R T) _
  exact c_full_l hD D.1 0 _ _ _ (by omega) rfl (Or.inl rfl)
def cntC (I : hI) (D : FD) (w : Int32) : Int32 := if w = 0 then I 18 1 else if w = 1 then C_ap I 22 0 0 6 else if w = 2 then I 22 2 else if w = 3 then I 22 3 else if w = 4 then I 0 15 else if w = 5 then I 0 9 else if w = 6 then I 1 1 else if w = 7 then cfr I D D.1 0 0 else -3
theorem w_c7 {w : Int32} (h : ¬ (w.toInt < 0 ∨ 7 < w.toInt)) : w = 0 ∨ w = 1 ∨ w = 2 ∨ w = 3 ∨ w = 4 ∨ w = 5 ∨ w = 6 ∨ w = 7 := by
  obtain ⟨j, hj, e⟩ := nI_of (x := w) (by rw [fi_lt]; have z : (0 : Int32).toInt = 0 := rfl; omega)
  rw [e, nI_toInt hj] at h
  rcases (show j = 0 ∨ j = 1 ∨ j = 2 ∨ j = 3 ∨ j = 4 ∨ j = 5 ∨ j = 6 ∨ j = 7 by omega) with rfl | rfl | rfl | rfl | rfl | rfl | rfl | rfl <;> (subst e; decide)
theorem w_o7 {w : Int32} (h : w.toInt < 0 ∨ 7 < w.toInt) : w ≠ 0 ∧ w ≠ 1 ∧ w ≠ 2 ∧ w ≠ 3 ∧ w ≠ 4 ∧ w ≠ 5 ∧ w ≠ 6 ∧ w ≠ 7 := by
  refine ⟨?_, ?_, ?_, ?_, ?_, ?_, ?_, ?_⟩ <;> (intro z; subst z; revert h; decide)
theorem c_count {D : FD} {w : Int32} (hD : DC 18 D I R T) : am_E sc (d + 5) 117 [.ref 0, .int w] (HH I J R T) (some (.int (cntC I D w))) (HH I J R T) := by
  refine E_Z (Ze_of (Nat.le_of_ble_eq_true rfl) ?_)
  by_cases hw : w.toInt < 0 ∨ 7 < w.toInt
  · have e : cntC I D w = -3 := by
      obtain ⟨a0, a1, a2, a3, a4, a5, a6, a7⟩ := w_o7 hw
      unfold cntC
      rw [if_neg a0, if_neg a1, if_neg a2, if_neg a3, if_neg a4, if_neg a5, if_neg a6, if_neg a7]
    refine Z_jump 1 rfl ?_
    show Zs _ _ (am_P 117).2 (1, [(0, .ref 0), (1, .int w)], [.int w]) (HH I J R T) _
    refine Z_tsO rfl (hw) ?_
    show Zs _ _ (am_P 117).2 (103, [(0, .ref 0), (1, .int w)], []) (HH I J R T) _
    refine Z_jump 1 rfl ?_
    show Zs _ _ (am_P 117).2 (105, [(0, .ref 0), (1, .int w)], [.int (-3 : Int32)]) (HH I J R T) _
    refine Z_rI rfl (by first | exact am_nw0 _ | exact am_nw01 | rfl | assumption) ?_
    exact ⟨am_ii e.symm, rfl⟩
  · rcases w_c7 hw with rfl | rfl | rfl | rfl | rfl | rfl | rfl | rfl
    · refine Z_jump 5 rfl ?_
      show Zs _ _ (am_P 117).2 (55, [(0, .ref 0), (1, .int (0 : Int32))], [.int (I 18 1)]) (HH I J R T) _
      refine Z_rI rfl (by first | exact am_nw0 _ | exact am_nw01 | rfl | assumption) ?_
      exact ⟨rfl, rfl⟩
    · refine Z_jump 4 rfl ?_
      show Zs _ _ (am_P 117).2 (60, [(0, .ref 0), (1, .int (1 : Int32))], [.ref 22]) (HH I J R T) _
      refine Z_c1 rfl rfl rfl (c_beadsInAll (a := 22) (by decide)) ?_
      show Zs _ _ (am_P 117).2 (63, [(0, .ref 0), (1, .int (1 : Int32))], [.int (C_ap I 22 0 0 6)]) (HH I J R T) _
      show Zs _ _ (am_P 117).2 (63, [(0, .ref 0), (1, .int (1 : Int32))], [.int (C_ap I 22 0 0 6)]) (HH I J R T) _
      refine Z_rI rfl (by first | exact am_nw0 _ | exact am_nw01 | rfl | assumption) ?_
      exact ⟨rfl, rfl⟩
    · refine Z_jump 5 rfl ?_
      show Zs _ _ (am_P 117).2 (71, [(0, .ref 0), (1, .int (2 : Int32))], [.int (I 22 2)]) (HH I J R T) _
      refine Z_rI rfl (by first | exact am_nw0 _ | exact am_nw01 | rfl | assumption) ?_
      exact ⟨rfl, rfl⟩
    · refine Z_jump 5 rfl ?_
      show Zs _ _ (am_P 117).2 (79, [(0, .ref 0), (1, .int (3 : Int32))], [.int (I 22 3)]) (HH I J R T) _
      refine Z_rI rfl (by first | exact am_nw0 _ | exact am_nw01 | rfl | assumption) ?_
      exact ⟨rfl, rfl⟩
    · refine Z_jump 4 rfl ?_
      show Zs _ _ (am_P 117).2 (84, [(0, .ref 0), (1, .int (4 : Int32))], [.int (I 0 15)]) (HH I J R T) _
      refine Z_rI rfl (by first | exact am_nw0 _ | exact am_nw01 | rfl | assumption) ?_
      exact ⟨rfl, rfl⟩
    · refine Z_jump 4 rfl ?_
      show Zs _ _ (am_P 117).2 (89, [(0, .ref 0), (1, .int (5 : Int32))], [.int (I 0 9)]) (HH I J R T) _
      refine Z_rI rfl (by first | exact am_nw0 _ | exact am_nw01 | rfl | assumption) ?_
      exact ⟨rfl, rfl⟩
    · refine Z_jump 5 rfl ?_
      show Zs _ _ (am_P 117).2 (97, [(0, .ref 0), (1, .int (6 : Int32))], [.int (I 1 1)]) (HH I J R T) _
      refine Z_rI rfl (by first | exact am_nw0 _ | exact am_nw01 | rfl | assumption) ?_
      exact ⟨rfl, rfl⟩
    · refine Z_jump 3 rfl ?_
      show Zs _ _ (am_P 117).2 (99, [(0, .ref 0), (1, .int (7 : Int32))], [.ref 0]) (HH I J R T) _
      refine Z_c1 rfl rfl rfl (c_fullRods hD) ?_
      show Zs _ _ (am_P 117).2 (102, [(0, .ref 0), (1, .int (7 : Int32))], [.int (cfr I D D.1 0 0)]) (HH I J R T) _
      show Zs _ _ (am_P 117).2 (102, [(0, .ref 0), (1, .int (7 : Int32))], [.int (cfr I D D.1 0 0)]) (HH I J R T) _
      refine Z_rI rfl (by first | exact am_nw0 _ | exact am_nw01 | rfl | assumption) ?_
      exact ⟨rfl, rfl⟩
def mfr (I : hI) : Nat → Nat → Int32 → Int32
  | 0, _, s => s
  | k + 1, i, s => mfr I k (i + 1) (s ||| (if M_sh I 78 i < I 75 i then (0 : Int32) else 1 <<< (nI i &&& 31)))
theorem m_full_l {n : Nat} (hn : I 73 0 = nI n) (h6 : n ≤ 6) : ∀ (k i : Nat) (x s : Int32), i + k = n → x = nI i → Zs sc (d + 3) (am_P 228).2 (93, [(0, .ref 73), (1, .int 7), (2, .int s), (3, .int x)], []) (HH I J R T) (fun r h => r = some (.int (mfr I k i s)) ∧ h = HH I J R T)
  | 0, i, x, s, hi, hx => by
    refine Z_jump 4 rfl ?_
    refine Z_bd (fun c98 => ?_) (fun c98 => absurd ((show I 73 0 ≤ x by rw [hn, hx]; exact nI_le (by omega) (by omega))) c98)
    refine Z_jump 1 rfl ?_
    show Zs _ _ (am_P 228).2 (136, [(0, .ref 73), (1, .int (7 : Int32)), (2, .int s), (3, .int x)], [.int s]) (HH I J R T) _
    refine Z_rI rfl (by first | exact am_nw0 _ | exact am_nw01 | rfl | assumption) ?_
    exact ⟨rfl, rfl⟩
  | k + 1, i, x, s, hi, hx => by
    unfold mfr
    by_cases hs : M_sh I 78 i < I 75 i
    · rw [if_pos hs]
      refine Z_jump 4 rfl ?_
      refine Z_bd (fun c98 => absurd c98 ((show ¬ I 73 0 ≤ x by rw [hn, hx]; exact nI_ge (by omega) (by omega)))) (fun c98 => ?_)
      refine Z_jump 5 rfl ?_
      show Zs _ _ (am_P 228).2 (108, [(0, .ref 73), (1, .int (7 : Int32)), (2, .int s), (3, .int x)], [.int x, .ref 78, .ref 73, .int s]) (HH I J R T) _
      refine Z_c1 rfl rfl rfl (m_shows (Or.inl rfl) hx (show i < 6 by omega)) ?_
      show Zs _ _ (am_P 228).2 (111, [(0, .ref 73), (1, .int (7 : Int32)), (2, .int s), (3, .int x)], [.int (M_sh I 78 i), .int s]) (HH I J R T) _
      refine Z_jump 3 rfl ?_
      show Zs _ _ (am_P 228).2 (116, [(0, .ref 73), (1, .int (7 : Int32)), (2, .int s), (3, .int x)], [.int x, .ref 75, .int (M_sh I 78 i), .int s]) (HH I J R T) _
      refine Z_ialK (i) rfl rfl (hx) (by omega) (by decide) ?_
      show Zs _ _ (am_P 228).2 (117, [(0, .ref 73), (1, .int (7 : Int32)), (2, .int s), (3, .int x)], [.int (I 75 i), .int (M_sh I 78 i), .int s]) (HH I J R T) _
      refine Z_jump 1 rfl ?_
      refine Z_bd (fun c117 => ?_) (fun c117 => absurd (hs) c117)
      refine Z_jump 5 rfl ?_
      show Zs _ _ (am_P 228).2 (93, [(0, .ref 73), (1, .int (7 : Int32)), (2, .int (s ||| (0 : Int32))), (3, .int (x + 1))], []) (HH I J R T) _
      exact m_full_l hn h6 k (i + 1) _ _ (by omega) (by rw [hx]; exact nI_1 i)
    · rw [if_neg hs, ← hx]
      refine Z_jump 4 rfl ?_
      refine Z_bd (fun c98 => absurd c98 ((show ¬ I 73 0 ≤ x by rw [hn, hx]; exact nI_ge (by omega) (by omega)))) (fun c98 => ?_)
      refine Z_jump 5 rfl ?_
      show Zs _ _ (am_P 228).2 (108, [(0, .ref 73), (1, .int (7 : Int32)), (2, .int s), (3, .int x)], [.int x, .ref 78, .ref 73, .int s]) (HH I J R T) _
      refine Z_c1 rfl rfl rfl (m_shows (Or.inl rfl) hx (show i < 6 by omega)) ?_
      show Zs _ _ (am_P 228).2 (111, [(0, .ref 73), (1, .int (7 : Int32)), (2, .int s), (3, .int x)], [.int (M_sh I 78 i), .int s]) (HH I J R T) _
      refine Z_jump 3 rfl ?_
      show Zs _ _ (am_P 228).2 (116, [(0, .ref 73), (1, .int (7 : Int32)), (2, .int s), (3, .int x)], [.int x, .ref 75, .int (M_sh I 78 i), .int s]) (HH I J R T) _
      refine Z_ialK (i) rfl rfl (hx) (by omega) (by decide) ?_
      show Zs _ _ (am_P 228).2 (117, [(0, .ref 73), (1, .int (7 : Int32)), (2, .int s), (3, .int x)], [.int (I 75 i), .int (M_sh I 78 i), .int s]) (HH I J R T) _
      refine Z_jump 1 rfl ?_
      refine Z_bd (fun c117 => absurd c117 (hs)) (fun c117 => ?_)
      refine Z_jump 8 rfl ?_
      show Zs _ _ (am_P 228).2 (93, [(0, .ref 73), (1, .int (7 : Int32)), (2, .int (s ||| ((1 : Int32) <<< (x &&& 31)))), (3, .int (x + 1))], []) (HH I J R T) _
      exact m_full_l hn h6 k (i + 1) _ _ (by omega) (by rw [hx]; exact nI_1 i)
def cntM (I : hI) (n : Nat) (w : Int32) : Int32 := if w = 0 then I 73 0 else if w = 1 then M_ap I 0 0 n else if w = 2 then I 78 12 else if w = 3 then I 78 13 else if w = 4 then I 73 40 else if w = 5 then I 73 35 else if w = 6 then I 73 12 else if w = 7 then mfr I n 0 0 else -3
theorem m_count {n : Nat} {w : Int32} (hn : I 73 0 = nI n) (h6 : n ≤ 6) : am_E sc (d + 4) 228 [.ref 73, .int w] (HH I J R T) (some (.int (cntM I n w))) (HH I J R T) := by
  refine E_Z (Ze_of (Nat.le_of_ble_eq_true rfl) ?_)
  by_cases hw : w.toInt < 0 ∨ 7 < w.toInt
  · have e : cntM I n w = -3 := by
      obtain ⟨a0, a1, a2, a3, a4, a5, a6, a7⟩ := w_o7 hw
      unfold cntM
      rw [if_neg a0, if_neg a1, if_neg a2, if_neg a3, if_neg a4, if_neg a5, if_neg a6, if_neg a7]
    refine Z_jump 1 rfl ?_
    show Zs _ _ (am_P 228).2 (1, [(0, .ref 73), (1, .int w)], [.int w]) (HH I J R T) _
    refine Z_tsO rfl (hw) ?_
    show Zs _ _ (am_P 228).2 (137, [(0, .ref 73), (1, .int w)], []) (HH I J R T) _
    refine Z_jump 1 rfl ?_
    show Zs _ _ (am_P 228).2 (139, [(0, .ref 73), (1, .int w)], [.int (-3 : Int32)]) (HH I J R T) _
    refine Z_rI rfl (by first | exact am_nw0 _ | exact am_nw01 | rfl | assumption) ?_
    exact ⟨am_ii e.symm, rfl⟩
  · rcases w_c7 hw with rfl | rfl | rfl | rfl | rfl | rfl | rfl | rfl
    · refine Z_jump 4 rfl ?_
      show Zs _ _ (am_P 228).2 (52, [(0, .ref 73), (1, .int (0 : Int32))], [.int (I 73 0)]) (HH I J R T) _
      refine Z_rI rfl (by first | exact am_nw0 _ | exact am_nw01 | rfl | assumption) ?_
      exact ⟨rfl, rfl⟩
    · refine Z_jump 3 rfl ?_
      show Zs _ _ (am_P 228).2 (54, [(0, .ref 73), (1, .int (1 : Int32))], [.ref 73]) (HH I J R T) _
      refine Z_c1 rfl rfl rfl (m_allPushed (n := n) hn h6) ?_
      show Zs _ _ (am_P 228).2 (57, [(0, .ref 73), (1, .int (1 : Int32))], [.int (M_ap I 0 0 n)]) (HH I J R T) _
      show Zs _ _ (am_P 228).2 (57, [(0, .ref 73), (1, .int (1 : Int32))], [.int (M_ap I 0 0 n)]) (HH I J R T) _
      refine Z_rI rfl (by first | exact am_nw0 _ | exact am_nw01 | rfl | assumption) ?_
      exact ⟨rfl, rfl⟩
    · refine Z_jump 6 rfl ?_
      show Zs _ _ (am_P 228).2 (65, [(0, .ref 73), (1, .int (2 : Int32))], [.int (I 78 12)]) (HH I J R T) _
      refine Z_rI rfl (by first | exact am_nw0 _ | exact am_nw01 | rfl | assumption) ?_
      exact ⟨rfl, rfl⟩
    · refine Z_jump 6 rfl ?_
      show Zs _ _ (am_P 228).2 (73, [(0, .ref 73), (1, .int (3 : Int32))], [.int (I 78 13)]) (HH I J R T) _
      refine Z_rI rfl (by first | exact am_nw0 _ | exact am_nw01 | rfl | assumption) ?_
      exact ⟨rfl, rfl⟩
    · refine Z_jump 4 rfl ?_
      show Zs _ _ (am_P 228).2 (78, [(0, .ref 73), (1, .int (4 : Int32))], [.int (I 73 40)]) (HH I J R T) _
      refine Z_rI rfl (by first | exact am_nw0 _ | exact am_nw01 | rfl | assumption) ?_
      exact ⟨rfl, rfl⟩
    · refine Z_jump 4 rfl ?_
      show Zs _ _ (am_P 228).2 (83, [(0, .ref 73), (1, .int (5 : Int32))], [.int (I 73 35)]) (HH I J R T) _
      refine Z_rI rfl (by first | exact am_nw0 _ | exact am_nw01 | rfl | assumption) ?_
      exact ⟨rfl, rfl⟩
    · refine Z_jump 4 rfl ?_
      show Zs _ _ (am_P 228).2 (88, [(0, .ref 73), (1, .int (6 : Int32))], [.int (I 73 12)]) (HH I J R T) _
      refine Z_rI rfl (by first | exact am_nw0 _ | exact am_nw01 | rfl | assumption) ?_
      exact ⟨rfl, rfl⟩
    · refine Z_jump 6 rfl ?_
      show Zs _ _ (am_P 228).2 (93, [(0, .ref 73), (1, .int (7 : Int32)), (2, .int (0 : Int32)), (3, .int (0 : Int32))], []) (HH I J R T) _
      exact m_full_l hn h6 n 0 _ _ (by omega) rfl
end CNT

