/-! back (class); stick, undo, keep, back (reference): any state. -/
section ML1
variable {sc : Nat × (Nat → Int32)} {d : Nat} {I : hI} {J : hJ} {R : hR} {T : am_H} {Q : Option Value → am_H → Prop}
abbrev keptIs (I : hI) (k : Int32) : Prop := ¬ I 0 11 &&& (1 <<< (k &&& 31)) = 0
theorem c_back {k : Int32} (hR0 : R 63 0 = some 64) (hR1 : R 63 1 = some 67) : Ze sc (d + 4) 105 [.ref 0, .int k] (HH I J R T) (fun r h => (¬ M_01 k ∧ r = some (.int (-2)) ∧ h = HH I J R T) ∨ (M_01 k ∧ ¬ keptIs I k ∧ r = some (.int (-4)) ∧ h = HH I J R T) ∨ ∃ c a, (c = 0 ∧ a = 64 ∨ c = 1 ∧ a = 67) ∧ k = nI c ∧ keptIs I k ∧ ∃ I1, r = some (.int (C_ap I1 22 0 0 6)) ∧ h = HH (sf I1 0 9 0) J R T ∧ CP 22 a I I1) := by
  refine Ze_of (Nat.le_of_ble_eq_true rfl) ?_
  by_cases hb : M_01 k
  · by_cases hz : I 0 11 &&& (1 <<< (k &&& 31)) = 0
    · rcases bit_c hb with rfl | rfl
      · refine Z_jump 3 rfl ?_
        show Zs _ _ (am_P 105).2 (5, [(0, .ref 0), (1, .int (0 : Int32))], [.int (0 : Int32), .ref 63]) (HH I J R T) _
        refine Z_c1 rfl rfl rfl (c_stAt63 (K := 0) hR0 rfl (by omega)) ?_
        show Zs _ _ (am_P 105).2 (8, [(0, .ref 0), (1, .int (0 : Int32))], [.ref 64]) (HH I J R T) _
        refine Z_jump 10 rfl ?_
        refine Z_bn (fun c24 => absurd (hz) c24) (fun c24 => ?_)
        refine Z_jump 1 rfl ?_
        show Zs _ _ (am_P 105).2 (29, [(0, .ref 0), (1, .int (0 : Int32)), (2, .ref 64)], [.int (-4 : Int32)]) (HH I J R T) _
        refine Z_rI rfl (by first | exact am_nw0 _ | exact am_nw01 | rfl | assumption) ?_
        exact Or.inr (Or.inl ⟨hb, fun z => z hz, rfl, rfl⟩)
      · refine Z_jump 3 rfl ?_
        show Zs _ _ (am_P 105).2 (5, [(0, .ref 0), (1, .int (1 : Int32))], [.int (1 : Int32), .ref 63]) (HH I J R T) _
        refine Z_c1 rfl rfl rfl (c_stAt63 (K := 1) hR1 rfl (by omega)) ?_
        show Zs _ _ (am_P 105).2 (8, [(0, .ref 0), (1, .int (1 : Int32))], [.ref 67]) (HH I J R T) _
        refine Z_jump 10 rfl ?_
        refine Z_bn (fun c24 => absurd (hz) c24) (fun c24 => ?_)
        refine Z_jump 1 rfl ?_
        show Zs _ _ (am_P 105).2 (29, [(0, .ref 0), (1, .int (1 : Int32)), (2, .ref 67)], [.int (-4 : Int32)]) (HH I J R T) _
        refine Z_rI rfl (by first | exact am_nw0 _ | exact am_nw01 | rfl | assumption) ?_
        exact Or.inr (Or.inl ⟨hb, fun z => z hz, rfl, rfl⟩)
    · rcases bit_c hb with rfl | rfl
      · refine Z_jump 3 rfl ?_
        show Zs _ _ (am_P 105).2 (5, [(0, .ref 0), (1, .int (0 : Int32))], [.int (0 : Int32), .ref 63]) (HH I J R T) _
        refine Z_c1 rfl rfl rfl (c_stAt63 (K := 0) hR0 rfl (by omega)) ?_
        show Zs _ _ (am_P 105).2 (8, [(0, .ref 0), (1, .int (0 : Int32))], [.ref 64]) (HH I J R T) _
        refine Z_jump 10 rfl ?_
        refine Z_bn (fun c24 => ?_) (fun c24 => absurd c24 (hz))
        refine Z_jump 3 rfl ?_
        show Zs _ _ (am_P 105).2 (35, [(0, .ref 0), (1, .int (0 : Int32)), (2, .ref 64)], [.ref 64, .ref 22]) (HH I J R T) _
        refine Z_cQ rfl rfl rfl (Ze_deep (d := 2) (by omega) (c_copy (d := 0) (a := 22) (b := 64) (by decide) (by decide) (by decide))) (fun v h1 hq => ?_)
        obtain ⟨rfl, I1, rfl, hC⟩ := hq
        show Zs _ _ (am_P 105).2 (38, [(0, .ref 0), (1, .int (0 : Int32)), (2, .ref 64)], []) (HH I1 J R T) _
        refine Z_jump 3 rfl ?_
        show Zs _ _ (am_P 105).2 (43, [(0, .ref 0), (1, .int (0 : Int32)), (2, .ref 64)], []) (HH (sf I1 0 9 (0 : Int32)) J R T) _
        refine Z_jump 2 rfl ?_
        show Zs _ _ (am_P 105).2 (47, [(0, .ref 0), (1, .int (0 : Int32)), (2, .ref 64)], [.ref 22]) (HH (sf I1 0 9 (0 : Int32)) J R T) _
        refine Z_c1 rfl rfl rfl (c_beadsInAll (a := 22) (by decide)) ?_
        show Zs _ _ (am_P 105).2 (50, [(0, .ref 0), (1, .int (0 : Int32)), (2, .ref 64)], [.int (C_ap (sf I1 0 9 (0 : Int32)) 22 0 0 6)]) (HH (sf I1 0 9 (0 : Int32)) J R T) _
        show Zs _ _ (am_P 105).2 (50, [(0, .ref 0), (1, .int (0 : Int32)), (2, .ref 64)], [.int (C_ap (sf I1 0 9 (0 : Int32)) 22 0 0 6)]) (HH (sf I1 0 9 (0 : Int32)) J R T) _
        refine Z_rI rfl (by first | exact am_nw0 _ | exact am_nw01 | rfl | assumption) ?_
        exact Or.inr (Or.inr ⟨0, 64, Or.inl ⟨rfl, rfl⟩, rfl, hz, I1, rfl, rfl, hC⟩)
      · refine Z_jump 3 rfl ?_
        show Zs _ _ (am_P 105).2 (5, [(0, .ref 0), (1, .int (1 : Int32))], [.int (1 : Int32), .ref 63]) (HH I J R T) _
        refine Z_c1 rfl rfl rfl (c_stAt63 (K := 1) hR1 rfl (by omega)) ?_
        show Zs _ _ (am_P 105).2 (8, [(0, .ref 0), (1, .int (1 : Int32))], [.ref 67]) (HH I J R T) _
        refine Z_jump 10 rfl ?_
        refine Z_bn (fun c24 => ?_) (fun c24 => absurd c24 (hz))
        refine Z_jump 3 rfl ?_
        show Zs _ _ (am_P 105).2 (35, [(0, .ref 0), (1, .int (1 : Int32)), (2, .ref 67)], [.ref 67, .ref 22]) (HH I J R T) _
        refine Z_cQ rfl rfl rfl (Ze_deep (d := 2) (by omega) (c_copy (d := 0) (a := 22) (b := 67) (by decide) (by decide) (by decide))) (fun v h1 hq => ?_)
        obtain ⟨rfl, I1, rfl, hC⟩ := hq
        show Zs _ _ (am_P 105).2 (38, [(0, .ref 0), (1, .int (1 : Int32)), (2, .ref 67)], []) (HH I1 J R T) _
        refine Z_jump 3 rfl ?_
        show Zs _ _ (am_P 105).2 (43, [(0, .ref 0), (1, .int (1 : Int32)), (2, .ref 67)], []) (HH (sf I1 0 9 (0 : Int32)) J R T) _
        refine Z_jump 2 rfl ?_
        show Zs _ _ (am_P 105).2 (47, [(0, .ref 0), (1, .int (1 : Int32)), (2, .ref 67)], [.ref 22]) (HH (sf I1 0 9 (0 : Int32)) J R T) _
        refine Z_c1 rfl rfl rfl (c_beadsInAll (a := 22) (by decide)) ?_
        show Zs _ _ (am_P 105).2 (50, [(0, .ref 0), (1, .int (1 : Int32)), (2, .ref 67)], [.int (C_ap (sf I1 0 9 (0 : Int32)) 22 0 0 6)]) (HH (sf I1 0 9 (0 : Int32)) J R T) _
        show Zs _ _ (am_P 105).2 (50, [(0, .ref 0), (1, .int (1 : Int32)), (2, .ref 67)], [.int (C_ap (sf I1 0 9 (0 : Int32)) 22 0 0 6)]) (HH (sf I1 0 9 (0 : Int32)) J R T) _
        refine Z_rI rfl (by first | exact am_nw0 _ | exact am_nw01 | rfl | assumption) ?_
        exact Or.inr (Or.inr ⟨1, 67, Or.inr ⟨rfl, rfl⟩, rfl, hz, I1, rfl, rfl, hC⟩)
  · refine Z_jump 3 rfl ?_
    show Zs _ _ (am_P 105).2 (5, [(0, .ref 0), (1, .int k)], [.int k, .ref 63]) (HH I J R T) _
    refine Z_c1 rfl rfl rfl (c_stAt63_no hb) ?_
    show Zs _ _ (am_P 105).2 (8, [(0, .ref 0), (1, .int k)], [.null]) (HH I J R T) _
    refine Z_jump 4 rfl ?_
    show Zs _ _ (am_P 105).2 (15, [(0, .ref 0), (1, .int k), (2, .null)], [.int (-2 : Int32)]) (HH I J R T) _
    refine Z_rI rfl (by first | exact am_nw0 _ | exact am_nw01 | rfl | assumption) ?_
    exact Or.inl ⟨hb, rfl, rfl⟩
/-- what remember() leaves of the reference's -/
def RMm (u m : Nat) (I I' : hI) : Prop := (∀ a, a ≠ 73 → a ≠ 93 → I' a = I a) ∧ (∀ j, I' 93 j = if 14 * u ≤ j ∧ j < 14 * u + 14 then I 78 (j - 14 * u) else I 93 j) ∧ (∀ k, k ≠ 35 → k ≠ 36 → I' 73 k = I 73 k) ∧ I' 73 36 = nI ((u + 1) % 8) ∧ I' 73 35 = nI (if m < 8 then m + 1 else 8)
abbrev stuckM (s x p : Int32) : Prop := (s >>> ((2 * x + p) &&& 31)) &&& 1 = 1
theorem m_stick {n u m : Nat} {x p : Int32} (hn : I 73 0 = nI n) (h6 : n ≤ 6) (hu : I 73 36 = nI u) (h8 : u < 8) (hm : I 73 35 = nI m) (hm8 : m ≤ 8) : Ze sc (d + 4) 203 [.ref 73, .int x, .int p] (HH I J R T) (fun r h =>
    (¬ (M_rod n x ∧ M_01 p) ∧ r = some (.int (-2)) ∧ h = HH I J R T) ∨
    ((M_rod n x ∧ M_01 p) ∧ r = some (.int (if stuckM (I 78 12 ^^^ bitOf x p) x p then 1 else 0)) ∧ ∃ I1, RMm u m I I1 ∧ h = HH (sf I1 78 12 (I 78 12 ^^^ bitOf x p)) J R T)) := by
  refine Ze_of (Nat.le_of_ble_eq_true rfl) ?_
  by_cases hr : M_rod n x ∧ M_01 p
  · refine Z_jump 3 rfl ?_
    show Zs _ _ (am_P 203).2 (3, [(0, .ref 73), (1, .int x), (2, .int p)], [.int p, .int x, .ref 73]) (HH I J R T) _
    refine Z_c1 rfl rfl rfl (m_isPart hn h6) ?_
    show Zs _ _ (am_P 203).2 (6, [(0, .ref 73), (1, .int x), (2, .int p)], [.int (if M_rod n x ∧ (0 ≤ p.toInt ∧ p.toInt ≤ 1) then 1 else 0)]) (HH I J R T) _
    refine Z_jump 1 rfl ?_
    refine Z_bn (fun c6 => ?_) (fun c6 => absurd c6 ((fun z => if10.mp z hr)))
    refine Z_jump 1 rfl ?_
    show Zs _ _ (am_P 203).2 (13, [(0, .ref 73), (1, .int x), (2, .int p)], [.ref 73]) (HH I J R T) _
    refine Z_cQ rfl rfl rfl (Ze_deep (d := 1) (by omega) (m_remember (d := 0) hu h8 hm hm8)) (fun v h1 hq => ?_)
    obtain ⟨rfl, I1, rfl, hq⟩ := hq
    have e12 : I1 78 12 = I 78 12 := congrFun (hq.1 78 (by decide) (by decide)) 12
    show Zs _ _ (am_P 203).2 (16, [(0, .ref 73), (1, .int x), (2, .int p)], []) (HH I1 J R T) _
    refine Z_jump 5 rfl ?_
    show Zs _ _ (am_P 203).2 (24, [(0, .ref 73), (1, .int x), (2, .int p)], [.int (I1 78 12), .int (12 : Int32), .ref 78]) (HH I1 J R T) _
    refine Z_eqI (y := (I 78 12)) (e12) ?_
    show Zs _ _ (am_P 203).2 (24, [(0, .ref 73), (1, .int x), (2, .int p)], [.int (I 78 12), .int (12 : Int32), .ref 78]) (HH I1 J R T) _
    refine Z_jump 9 rfl ?_
    show Zs _ _ (am_P 203).2 (33, [(0, .ref 73), (1, .int x), (2, .int p)], []) (HH (sf I1 78 12 ((I 78 12) ^^^ ((1 : Int32) <<< ((((2 : Int32) * x) + p) &&& 31)))) J R T) _
    refine Z_jump 6 rfl ?_
    show Zs _ _ (am_P 203).2 (42, [(0, .ref 73), (1, .int x), (2, .int p)], [.int p, .int x, .int ((I 78 12) ^^^ ((1 : Int32) <<< ((((2 : Int32) * x) + p) &&& 31)))]) (HH (sf I1 78 12 ((I 78 12) ^^^ ((1 : Int32) <<< ((((2 : Int32) * x) + p) &&& 31)))) J R T) _
    refine Z_c1 rfl rfl rfl (m_isStuck) ?_
    show Zs _ _ (am_P 203).2 (45, [(0, .ref 73), (1, .int x), (2, .int p)], [.int (if (((I 78 12) ^^^ ((1 : Int32) <<< ((((2 : Int32) * x) + p) &&& 31))) >>> ((2 * x + p) &&& 31)) &&& 1 = 1 then 1 else 0)]) (HH (sf I1 78 12 ((I 78 12) ^^^ ((1 : Int32) <<< ((((2 : Int32) * x) + p) &&& 31)))) J R T) _
    refine Z_jump 1 rfl ?_
    refine Z_bd (fun (c45 : (if (((I 78 12) ^^^ ((1 : Int32) <<< ((((2 : Int32) * x) + p) &&& 31))) >>> ((2 * x + p) &&& 31)) &&& 1 = 1 then 1 else 0) = (0 : Int32)) => ?_) (fun (c45 : ¬ ((if (((I 78 12) ^^^ ((1 : Int32) <<< ((((2 : Int32) * x) + p) &&& 31))) >>> ((2 * x + p) &&& 31)) &&& 1 = 1 then 1 else 0) = (0 : Int32))) => ?_)
    · refine Z_jump 1 rfl ?_
      show Zs _ _ (am_P 203).2 (53, [(0, .ref 73), (1, .int x), (2, .int p)], [.int (0 : Int32)]) (HH (sf I1 78 12 ((I 78 12) ^^^ ((1 : Int32) <<< ((((2 : Int32) * x) + p) &&& 31)))) J R T) _
      refine Z_rI rfl (by first | exact am_nw0 _ | exact am_nw01 | rfl | assumption) ?_
      exact Or.inr ⟨hr, am_ii (if_neg (if10.mp c45)).symm, I1, hq, rfl⟩
    · refine Z_jump 2 rfl ?_
      show Zs _ _ (am_P 203).2 (53, [(0, .ref 73), (1, .int x), (2, .int p)], [.int (1 : Int32)]) (HH (sf I1 78 12 ((I 78 12) ^^^ ((1 : Int32) <<< ((((2 : Int32) * x) + p) &&& 31)))) J R T) _
      refine Z_rI rfl (by first | exact am_nw0 _ | exact am_nw01 | rfl | assumption) ?_
      exact Or.inr ⟨hr, am_ii (if_pos (if10n c45)).symm, I1, hq, rfl⟩
  · refine Z_jump 3 rfl ?_
    show Zs _ _ (am_P 203).2 (3, [(0, .ref 73), (1, .int x), (2, .int p)], [.int p, .int x, .ref 73]) (HH I J R T) _
    refine Z_c1 rfl rfl rfl (m_isPart hn h6) ?_
    show Zs _ _ (am_P 203).2 (6, [(0, .ref 73), (1, .int x), (2, .int p)], [.int (if M_rod n x ∧ (0 ≤ p.toInt ∧ p.toInt ≤ 1) then 1 else 0)]) (HH I J R T) _
    refine Z_jump 1 rfl ?_
    refine Z_bn (fun c6 => absurd (if10.mpr hr) c6) (fun c6 => ?_)
    refine Z_jump 1 rfl ?_
    show Zs _ _ (am_P 203).2 (11, [(0, .ref 73), (1, .int x), (2, .int p)], [.int (-2 : Int32)]) (HH I J R T) _
    refine Z_rI rfl (by first | exact am_nw0 _ | exact am_nw01 | rfl | assumption) ?_
    exact Or.inl ⟨hr, rfl, rfl⟩
/-- a row copied to now -/
def BW (src off : Nat) (I0 : hI) (i : Nat) (I : hI) : Prop := (∀ a, a ≠ 78 → I a = I0 a) ∧ ∀ j, I 78 j = if j < i then I0 src (off + j) else I0 78 j
theorem BW_0 (src off : Nat) (I : hI) : BW src off I 0 I := ⟨fun _ _ => rfl, fun j => by rw [if_neg (by omega)]⟩
theorem BW_s {src off : Nat} {I0 I : hI} {i : Nat} (hd : src ≠ 78) (H : BW src off I0 i I) : BW src off I0 (i + 1) (sf I 78 i (I src (off + i))) := by
  obtain ⟨H1, H2⟩ := H
  refine ⟨fun a ha => by rw [sf_c ha]; exact H1 a ha, fun j => ?_⟩
  by_cases hj : j = i
  · subst hj
    rw [sf_s, if_pos (by omega), H1 src hd]
  · rw [sf_k hj, H2 j]
    by_cases h2 : j < i
    · rw [if_pos h2, if_pos (show j < i + 1 by omega)]
    · rw [if_neg h2, if_neg (show ¬ j < i + 1 by omega)]
theorem u7 {u : Nat} (h : u < 8) : nI u + 8 - 1 - (nI u + 8 - 1) / 8 * 8 = nI ((u + 7) % 8) := by
  rcases (show u = 0 ∨ u = 1 ∨ u = 2 ∨ u = 3 ∨ u = 4 ∨ u = 5 ∨ u = 6 ∨ u = 7 by omega) with rfl | rfl | rfl | rfl | rfl | rfl | rfl | rfl <;> decide
theorem m_undo_l {u : Nat} {I0 : hI} (hu : I0 73 36 = nI u) (h8 : u < 8) (H : ∀ I, BW 93 (14 * u) I0 14 I → Zs sc d (am_P 208).2 (70, [(0, .ref 73), (1, .int (nI 14))], []) (HH I J R T) Q) : ∀ (k i : Nat) (I : hI) (x : Int32), i + k = 14 → x = nI i → BW 93 (14 * u) I0 i I → Zs sc d (am_P 208).2 (38, [(0, .ref 73), (1, .int x)], []) (HH I J R T) Q
  | 0, i, I, x, hi, hx, hR => by
    have e : i = 14 := by omega
    subst e
    subst hx
    refine Z_jump 3 rfl ?_
    refine Z_bd (fun c41 => ?_) (fun c41 => absurd ((show (14 : Int32) ≤ nI 14 by decide)) c41)
    show Zs _ _ (am_P 208).2 (70, [(0, .ref 73), (1, .int (nI 14))], []) (HH I J R T) _
    exact H I hR
  | k + 1, i, I, x, hi, hx, hR => by
    have hu2 : (14 : Int32) * I 73 36 + x = nI (14 * u + i) := by rw [hR.1 73 (by decide), hu, hx]; exact n14
    refine Z_jump 3 rfl ?_
    refine Z_bd (fun c41 => absurd c41 ((show ¬ (14 : Int32) ≤ x by rw [hx]; exact nI_ge (b := 14) (by omega) (by omega)))) (fun c41 => ?_)
    refine Z_jump 11 rfl ?_
    show Zs _ _ (am_P 208).2 (62, [(0, .ref 73), (1, .int x)], [.int (((14 : Int32) * (I 73 36)) + x), .ref 93, .int x, .ref 78]) (HH I J R T) _
    refine Z_ialK (14 * u + i) rfl rfl (hu2) (by omega) (by decide) ?_
    show Zs _ _ (am_P 208).2 (63, [(0, .ref 73), (1, .int x)], [.int (I 93 (14 * u + i)), .int x, .ref 78]) (HH I J R T) _
    show Zs _ _ (am_P 208).2 (63, [(0, .ref 73), (1, .int x)], [.int (I 93 (14 * u + i)), .int x, .ref 78]) (HH I J R T) _
    refine Z_iasK (i) rfl rfl (hx) (by omega) (by decide) ?_
    show Zs _ _ (am_P 208).2 (64, [(0, .ref 73), (1, .int x)], []) (HH (sf I 78 i (I 93 (14 * u + i))) J R T) _
    refine Z_jump 2 rfl ?_
    show Zs _ _ (am_P 208).2 (38, [(0, .ref 73), (1, .int (x + 1))], []) (HH (sf I 78 i (I 93 (14 * u + i))) J R T) _
    exact m_undo_l hu h8 H k (i + 1) _ _ (by omega) (by rw [hx]; exact nI_1 i) (BW_s (by decide) hR)
theorem m_undo {u m : Nat} (hu : I 73 36 = nI u) (h8 : u < 8) (hm : I 73 35 = nI m) (hm8 : m ≤ 8) : Ze sc (d + 1) 208 [.ref 73] (HH I J R T) (fun r h => (m = 0 ∧ r = some (.int (-4)) ∧ h = HH I J R T) ∨ (0 < m ∧ r = some (.int (nI (m - 1))) ∧ ∃ I1, h = HH I1 J R T ∧ BW 93 (14 * ((u + 7) % 8)) (sf (sf I 73 36 (nI ((u + 7) % 8))) 73 35 (nI (m - 1))) 14 I1)) := by
  refine Ze_of (Nat.le_of_ble_eq_true rfl) ?_
  by_cases h0 : m = 0
  · subst h0
    refine Z_jump 2 rfl ?_
    show Zs _ _ (am_P 208).2 (4, [(0, .ref 73)], [.int (I 73 35)]) (HH I J R T) _
    refine Z_eqI (y := (0 : Int32)) (hm) ?_
    show Zs _ _ (am_P 208).2 (4, [(0, .ref 73)], [.int (0 : Int32)]) (HH I J R T) _
    refine Z_jump 2 rfl ?_
    show Zs _ _ (am_P 208).2 (9, [(0, .ref 73)], [.int (-4 : Int32)]) (HH I J R T) _
    refine Z_rI rfl (by first | exact am_nw0 _ | exact am_nw01 | rfl | assumption) ?_
    exact Or.inl ⟨rfl, rfl, rfl⟩
  · obtain ⟨m', rfl⟩ : ∃ m', m = m' + 1 := ⟨m - 1, by omega⟩
    have e1 : I 73 35 - 1 = nI m' := by rw [hm]; exact nI_pred m'
    have e7 : I 73 36 + 8 - 1 - (I 73 36 + 8 - 1) / 8 * 8 = nI ((u + 7) % 8) := by rw [hu]; exact u7 h8
    refine Z_jump 3 rfl ?_
    refine Z_bn (fun c4 => ?_) (fun c4 => absurd c4 ((show ¬ I 73 35 = 0 from fun z => by rw [hm] at z; have := congrArg Int32.toInt z; rw [nI_toInt (by omega)] at this; have z0 : (0 : Int32).toInt = 0 := rfl; omega)))
    refine Z_jump 9 rfl ?_
    show Zs _ _ (am_P 208).2 (23, [(0, .ref 73)], [.int ((((I 73 36) + (8 : Int32)) - (1 : Int32)) - (((I 73 36) + (8 : Int32)) - (1 : Int32)) / (8 : Int32) * (8 : Int32)), .ref 73]) (HH I J R T) _
    refine Z_eqI (y := (nI ((u + 7) % 8))) (e7) ?_
    show Zs _ _ (am_P 208).2 (23, [(0, .ref 73)], [.int (nI ((u + 7) % 8)), .ref 73]) (HH I J R T) _
    refine Z_jump 1 rfl ?_
    show Zs _ _ (am_P 208).2 (26, [(0, .ref 73)], []) (HH (sf I 73 36 (nI ((u + 7) % 8))) J R T) _
    refine Z_jump 5 rfl ?_
    show Zs _ _ (am_P 208).2 (33, [(0, .ref 73)], [.int ((I 73 35) - (1 : Int32)), .ref 73]) (HH (sf I 73 36 (nI ((u + 7) % 8))) J R T) _
    refine Z_eqI (y := (nI m')) (e1) ?_
    show Zs _ _ (am_P 208).2 (33, [(0, .ref 73)], [.int (nI m'), .ref 73]) (HH (sf I 73 36 (nI ((u + 7) % 8))) J R T) _
    refine Z_jump 1 rfl ?_
    show Zs _ _ (am_P 208).2 (36, [(0, .ref 73)], []) (HH (sf (sf I 73 36 (nI ((u + 7) % 8))) 73 35 (nI m')) J R T) _
    refine Z_jump 2 rfl ?_
    show Zs _ _ (am_P 208).2 (38, [(0, .ref 73), (1, .int (0 : Int32))], []) (HH (sf (sf I 73 36 (nI ((u + 7) % 8))) 73 35 (nI m')) J R T) _
    refine m_undo_l (u := (u + 7) % 8) (I0 := sf (sf I 73 36 (nI ((u + 7) % 8))) 73 35 (nI m')) rfl (by omega) (fun I' hR => ?_) 14 0 _ _ (by omega) rfl (BW_0 _ _ _)
    have e35 : I' 73 35 = nI m' := (congrFun (hR.1 73 (by decide)) 35).trans (sf_s _ _ _ _)
    refine Z_jump 2 rfl ?_
    show Zs _ _ (am_P 208).2 (74, [(0, .ref 73), (1, .int (nI 14))], [.int (I' 73 35)]) (HH I' J R T) _
    refine Z_rI rfl (by first | exact am_nw0 _ | exact am_nw01 | rfl | assumption) ?_
    exact Or.inr ⟨by omega, am_ii e35, I', rfl, hR⟩
end ML1

