/-! The reference: edge, span, nearest, bits, loosen. -/
section ML7
variable {sc : Nat × (Nat → Int32)} {d : Nat} {R : hR} {T : am_H} {Q : Option Value → am_H → Prop}
def edLo (I : hI) (mo : Int32) (r : Nat) : Int32 := if M_bit (I 78 12) (nI r) 0 then I 78 r else if mo = 0 then 0 else I 76 r
def edHi (I : hI) (mo : Int32) (r : Nat) : Int32 := if M_bit (I 78 12) (nI r) 1 then I 78 (6 + r) else if mo = 0 then 0 else I 77 r
def edS (I : hI) (D : FD) (mo : Int32) (r : Nat) (s : Int64) : Int64 := s * bsL D r + (edLo I mo r).toInt64 + (edHi I mo r * nI (hwv (D.2.1 r))).toInt64
def edl (I : hI) (D : FD) (mo : Int32) : Nat → Int64 → Int64
  | 0, s => s
  | r + 1, s => edl I D mo r (edS I D mo r s)
theorem m_edl {I : hI} {J : hJ} {D : FD} {mo : Int32} (hD : DMf D I) : ∀ (r : Nat) (s : Int64) (x : Int32), r ≤ D.1 → x = nI r - 1 → Q (some (.long (edl I D mo r s))) (HH I J R T) → Zs sc (d + 3) (am_P 215).2 (10, [(0, .ref 73), (1, .int mo), (2, .long s), (4, .int x)], []) (HH I J R T) Q
  | 0, s, x, hr, hx, H => by
    subst hx
    refine Z_jump 2 rfl ?_
    refine Z_bd (fun c12 => ?_) (fun c12 => absurd ((by decide)) c12)
    refine Z_jump 1 rfl ?_
    show Zs _ _ (am_P 215).2 (139, [(0, .ref 73), (1, .int mo), (2, .long s), (4, .int (nI 0 - 1))], [.long s]) (HH I J R T) _
    refine Z_ret rfl rfl rfl ?_
    exact H
  | r + 1, s, x, hr, hx, H => by
    have h6 := hD.2.1
    have hq := hD.2.2.2 r (by omega)
    have eb : Int32.toInt64 (I 75 r) = bsL D r := by unfold bsL; rw [show I 75 r = nI (D.2.1 r).2.1 from hq.2.2.1]
    have e : x = nI r := by rw [hx]; exact nI_pred r
    subst e
    have W : ∀ (y z : Int32), edLo I mo r = y → edHi I mo r = z → Zs sc (d + 3) (am_P 215).2 (106, [(0, .ref 73), (1, .int mo), (2, .long s), (4, .int (nI r)), (5, .int y), (6, .int z)], []) (HH I J R T) Q := fun y z hy hz => by
      subst hy
      subst hz
      refine Z_jump 4 rfl ?_
      show Zs _ _ (am_P 215).2 (113, [(0, .ref 73), (1, .int mo), (2, .long s), (4, .int (nI r)), (5, .int (edLo I mo r)), (6, .int (edHi I mo r))], [.int (nI r), .ref 75, .long s]) (HH I J R T) _
      refine Z_ialK (r) rfl rfl (rfl) (by omega) (by decide) ?_
      show Zs _ _ (am_P 215).2 (114, [(0, .ref 73), (1, .int mo), (2, .long s), (4, .int (nI r)), (5, .int (edLo I mo r)), (6, .int (edHi I mo r))], [.int (I 75 r), .long s]) (HH I J R T) _
      refine Z_jump 1 rfl ?_
      show Zs _ _ (am_P 215).2 (115, [(0, .ref 73), (1, .int mo), (2, .long s), (4, .int (nI r)), (5, .int (edLo I mo r)), (6, .int (edHi I mo r))], [.long (Int32.toInt64 (I 75 r)), .long s]) (HH I J R T) _
      refine Z_eqL (y := (bsL D r)) (eb) ?_
      show Zs _ _ (am_P 215).2 (115, [(0, .ref 73), (1, .int mo), (2, .long s), (4, .int (nI r)), (5, .int (edLo I mo r)), (6, .int (edHi I mo r))], [.long (bsL D r), .long s]) (HH I J R T) _
      refine Z_jump 7 rfl ?_
      show Zs _ _ (am_P 215).2 (125, [(0, .ref 73), (1, .int mo), (2, .long s), (4, .int (nI r)), (5, .int (edLo I mo r)), (6, .int (edHi I mo r))], [.int (nI r), .ref 73, .int (edHi I mo r), .long ((s * (bsL D r)) + (Int32.toInt64 (edLo I mo r)))]) (HH I J R T) _
      refine Z_c1 rfl rfl rfl (m_worthD hD rfl (by omega)) ?_
      show Zs _ _ (am_P 215).2 (128, [(0, .ref 73), (1, .int mo), (2, .long s), (4, .int (nI r)), (5, .int (edLo I mo r)), (6, .int (edHi I mo r))], [.int (nI (hwv (D.2.1 r))), .int (edHi I mo r), .long ((s * (bsL D r)) + (Int32.toInt64 (edLo I mo r)))]) (HH I J R T) _
      refine Z_jump 6 rfl ?_
      show Zs _ _ (am_P 215).2 (10, [(0, .ref 73), (1, .int mo), (2, .long (((s * (bsL D r)) + (Int32.toInt64 (edLo I mo r))) + (Int32.toInt64 ((edHi I mo r) * (nI (hwv (D.2.1 r))))))), (4, .int ((nI r) + Int32.ofInt (-1))), (5, .int (edLo I mo r)), (6, .int (edHi I mo r))], []) (HH I J R T) _
      exact Zs_wk (m_edl hD r (edS I D mo r s) _ (by omega) (xm1 _) H) (lnD rfl) (lnD rfl) (by repeat (first | exact trivial | refine ⟨rfl, ?_⟩))
    unfold edLo edHi at W
    refine Z_jump 2 rfl ?_
    refine Z_bd (fun c12 => absurd c12 ((nI_pos (by omega)))) (fun c12 => ?_)
    refine Z_jump 6 rfl ?_
    show Zs _ _ (am_P 215).2 (25, [(0, .ref 73), (1, .int mo), (2, .long s), (4, .int (nI r))], [.int (0 : Int32), .int (nI r), .int (I 78 12)]) (HH I J R T) _
    by_cases b25 : M_bit (I 78 12) (nI r) 0
    · refine Z_c1 rfl rfl rfl (E_pos (m_isStuck) b25) ?_
      show Zs _ _ (am_P 215).2 (28, [(0, .ref 73), (1, .int mo), (2, .long s), (4, .int (nI r))], [.int (1 : Int32)]) (HH I J R T) _
      refine Z_jump 6 rfl ?_
      show Zs _ _ (am_P 215).2 (39, [(0, .ref 73), (1, .int mo), (2, .long s), (4, .int (nI r))], [.int ((0 : Int32) + (nI r)), .ref 78]) (HH I J R T) _
      refine Z_ialK (r) rfl rfl (nI_z r) (by omega) (by decide) ?_
      show Zs _ _ (am_P 215).2 (40, [(0, .ref 73), (1, .int mo), (2, .long s), (4, .int (nI r))], [.int (I 78 r)]) (HH I J R T) _
      refine Z_jump 8 rfl ?_
      show Zs _ _ (am_P 215).2 (70, [(0, .ref 73), (1, .int mo), (2, .long s), (4, .int (nI r)), (5, .int (I 78 r))], [.int (1 : Int32), .int (nI r), .int (I 78 12)]) (HH I J R T) _
      by_cases b70 : M_bit (I 78 12) (nI r) 1
      · refine Z_c1 rfl rfl rfl (E_pos (m_isStuck) b70) ?_
        show Zs _ _ (am_P 215).2 (73, [(0, .ref 73), (1, .int mo), (2, .long s), (4, .int (nI r)), (5, .int (I 78 r))], [.int (1 : Int32)]) (HH I J R T) _
        refine Z_jump 6 rfl ?_
        show Zs _ _ (am_P 215).2 (85, [(0, .ref 73), (1, .int mo), (2, .long s), (4, .int (nI r)), (5, .int (I 78 r))], [.int ((6 : Int32) + (nI r)), .ref 78]) (HH I J R T) _
        refine Z_ialK (6 + r) rfl rfl (nI_6 r) (by omega) (by decide) ?_
        show Zs _ _ (am_P 215).2 (86, [(0, .ref 73), (1, .int mo), (2, .long s), (4, .int (nI r)), (5, .int (I 78 r))], [.int (I 78 (6 + r))]) (HH I J R T) _
        refine Z_jump 2 rfl ?_
        show Zs _ _ (am_P 215).2 (106, [(0, .ref 73), (1, .int mo), (2, .long s), (4, .int (nI r)), (5, .int (I 78 r)), (6, .int (I 78 (6 + r)))], []) (HH I J R T) _
        exact W _ _ (by first | exact if_pos b25 | (rw [if_neg b25]; first | exact if_pos c44 | exact if_neg c44)) (by first | exact if_pos b70 | (rw [if_neg b70]; first | exact if_pos c90 | exact if_neg c90))
      · refine Z_c1 rfl rfl rfl (E_neg (m_isStuck) b70) ?_
        show Zs _ _ (am_P 215).2 (73, [(0, .ref 73), (1, .int mo), (2, .long s), (4, .int (nI r)), (5, .int (I 78 r))], [.int (0 : Int32)]) (HH I J R T) _
        refine Z_jump 3 rfl ?_
        refine Z_bd (fun (c90 : mo = (0 : Int32)) => ?_) (fun (c90 : ¬ (mo = (0 : Int32))) => ?_)
        · refine Z_jump 2 rfl ?_
          show Zs _ _ (am_P 215).2 (106, [(0, .ref 73), (1, .int mo), (2, .long s), (4, .int (nI r)), (5, .int (I 78 r)), (6, .int (0 : Int32))], []) (HH I J R T) _
          exact W _ _ (by first | exact if_pos b25 | (rw [if_neg b25]; first | exact if_pos c44 | exact if_neg c44)) (by first | exact if_pos b70 | (rw [if_neg b70]; first | exact if_pos c90 | exact if_neg c90))
        · refine Z_jump 3 rfl ?_
          show Zs _ _ (am_P 215).2 (99, [(0, .ref 73), (1, .int mo), (2, .long s), (4, .int (nI r)), (5, .int (I 78 r))], [.int (nI r), .ref 77]) (HH I J R T) _
          refine Z_ialK (r) rfl rfl (rfl) (by omega) (by decide) ?_
          show Zs _ _ (am_P 215).2 (100, [(0, .ref 73), (1, .int mo), (2, .long s), (4, .int (nI r)), (5, .int (I 78 r))], [.int (I 77 r)]) (HH I J R T) _
          refine Z_jump 2 rfl ?_
          show Zs _ _ (am_P 215).2 (106, [(0, .ref 73), (1, .int mo), (2, .long s), (4, .int (nI r)), (5, .int (I 78 r)), (6, .int (I 77 r))], []) (HH I J R T) _
          exact W _ _ (by first | exact if_pos b25 | (rw [if_neg b25]; first | exact if_pos c44 | exact if_neg c44)) (by first | exact if_pos b70 | (rw [if_neg b70]; first | exact if_pos c90 | exact if_neg c90))
    · refine Z_c1 rfl rfl rfl (E_neg (m_isStuck) b25) ?_
      show Zs _ _ (am_P 215).2 (28, [(0, .ref 73), (1, .int mo), (2, .long s), (4, .int (nI r))], [.int (0 : Int32)]) (HH I J R T) _
      refine Z_jump 3 rfl ?_
      refine Z_bd (fun (c44 : mo = (0 : Int32)) => ?_) (fun (c44 : ¬ (mo = (0 : Int32))) => ?_)
      · refine Z_jump 8 rfl ?_
        show Zs _ _ (am_P 215).2 (70, [(0, .ref 73), (1, .int mo), (2, .long s), (4, .int (nI r)), (5, .int (0 : Int32))], [.int (1 : Int32), .int (nI r), .int (I 78 12)]) (HH I J R T) _
        by_cases b70 : M_bit (I 78 12) (nI r) 1
        · refine Z_c1 rfl rfl rfl (E_pos (m_isStuck) b70) ?_
          show Zs _ _ (am_P 215).2 (73, [(0, .ref 73), (1, .int mo), (2, .long s), (4, .int (nI r)), (5, .int (0 : Int32))], [.int (1 : Int32)]) (HH I J R T) _
          refine Z_jump 6 rfl ?_
          show Zs _ _ (am_P 215).2 (85, [(0, .ref 73), (1, .int mo), (2, .long s), (4, .int (nI r)), (5, .int (0 : Int32))], [.int ((6 : Int32) + (nI r)), .ref 78]) (HH I J R T) _
          refine Z_ialK (6 + r) rfl rfl (nI_6 r) (by omega) (by decide) ?_
          show Zs _ _ (am_P 215).2 (86, [(0, .ref 73), (1, .int mo), (2, .long s), (4, .int (nI r)), (5, .int (0 : Int32))], [.int (I 78 (6 + r))]) (HH I J R T) _
          refine Z_jump 2 rfl ?_
          show Zs _ _ (am_P 215).2 (106, [(0, .ref 73), (1, .int mo), (2, .long s), (4, .int (nI r)), (5, .int (0 : Int32)), (6, .int (I 78 (6 + r)))], []) (HH I J R T) _
          exact W _ _ (by first | exact if_pos b25 | (rw [if_neg b25]; first | exact if_pos c44 | exact if_neg c44)) (by first | exact if_pos b70 | (rw [if_neg b70]; first | exact if_pos c90 | exact if_neg c90))
        · refine Z_c1 rfl rfl rfl (E_neg (m_isStuck) b70) ?_
          show Zs _ _ (am_P 215).2 (73, [(0, .ref 73), (1, .int mo), (2, .long s), (4, .int (nI r)), (5, .int (0 : Int32))], [.int (0 : Int32)]) (HH I J R T) _
          refine Z_jump 3 rfl ?_
          refine Z_bd (fun (c90 : mo = (0 : Int32)) => ?_) (fun (c90 : ¬ (mo = (0 : Int32))) => ?_)
          · refine Z_jump 2 rfl ?_
            show Zs _ _ (am_P 215).2 (106, [(0, .ref 73), (1, .int mo), (2, .long s), (4, .int (nI r)), (5, .int (0 : Int32)), (6, .int (0 : Int32))], []) (HH I J R T) _
            exact W _ _ (by first | exact if_pos b25 | (rw [if_neg b25]; first | exact if_pos c44 | exact if_neg c44)) (by first | exact if_pos b70 | (rw [if_neg b70]; first | exact if_pos c90 | exact if_neg c90))
          · refine Z_jump 3 rfl ?_
            show Zs _ _ (am_P 215).2 (99, [(0, .ref 73), (1, .int mo), (2, .long s), (4, .int (nI r)), (5, .int (0 : Int32))], [.int (nI r), .ref 77]) (HH I J R T) _
            refine Z_ialK (r) rfl rfl (rfl) (by omega) (by decide) ?_
            show Zs _ _ (am_P 215).2 (100, [(0, .ref 73), (1, .int mo), (2, .long s), (4, .int (nI r)), (5, .int (0 : Int32))], [.int (I 77 r)]) (HH I J R T) _
            refine Z_jump 2 rfl ?_
            show Zs _ _ (am_P 215).2 (106, [(0, .ref 73), (1, .int mo), (2, .long s), (4, .int (nI r)), (5, .int (0 : Int32)), (6, .int (I 77 r))], []) (HH I J R T) _
            exact W _ _ (by first | exact if_pos b25 | (rw [if_neg b25]; first | exact if_pos c44 | exact if_neg c44)) (by first | exact if_pos b70 | (rw [if_neg b70]; first | exact if_pos c90 | exact if_neg c90))
      · refine Z_jump 3 rfl ?_
        show Zs _ _ (am_P 215).2 (53, [(0, .ref 73), (1, .int mo), (2, .long s), (4, .int (nI r))], [.int (nI r), .ref 76]) (HH I J R T) _
        refine Z_ialK (r) rfl rfl (rfl) (by omega) (by decide) ?_
        show Zs _ _ (am_P 215).2 (54, [(0, .ref 73), (1, .int mo), (2, .long s), (4, .int (nI r))], [.int (I 76 r)]) (HH I J R T) _
        refine Z_jump 8 rfl ?_
        show Zs _ _ (am_P 215).2 (70, [(0, .ref 73), (1, .int mo), (2, .long s), (4, .int (nI r)), (5, .int (I 76 r))], [.int (1 : Int32), .int (nI r), .int (I 78 12)]) (HH I J R T) _
        by_cases b70 : M_bit (I 78 12) (nI r) 1
        · refine Z_c1 rfl rfl rfl (E_pos (m_isStuck) b70) ?_
          show Zs _ _ (am_P 215).2 (73, [(0, .ref 73), (1, .int mo), (2, .long s), (4, .int (nI r)), (5, .int (I 76 r))], [.int (1 : Int32)]) (HH I J R T) _
          refine Z_jump 6 rfl ?_
          show Zs _ _ (am_P 215).2 (85, [(0, .ref 73), (1, .int mo), (2, .long s), (4, .int (nI r)), (5, .int (I 76 r))], [.int ((6 : Int32) + (nI r)), .ref 78]) (HH I J R T) _
          refine Z_ialK (6 + r) rfl rfl (nI_6 r) (by omega) (by decide) ?_
          show Zs _ _ (am_P 215).2 (86, [(0, .ref 73), (1, .int mo), (2, .long s), (4, .int (nI r)), (5, .int (I 76 r))], [.int (I 78 (6 + r))]) (HH I J R T) _
          refine Z_jump 2 rfl ?_
          show Zs _ _ (am_P 215).2 (106, [(0, .ref 73), (1, .int mo), (2, .long s), (4, .int (nI r)), (5, .int (I 76 r)), (6, .int (I 78 (6 + r)))], []) (HH I J R T) _
          exact W _ _ (by first | exact if_pos b25 | (rw [if_neg b25]; first | exact if_pos c44 | exact if_neg c44)) (by first | exact if_pos b70 | (rw [if_neg b70]; first | exact if_pos c90 | exact if_neg c90))
        · refine Z_c1 rfl rfl rfl (E_neg (m_isStuck) b70) ?_
          show Zs _ _ (am_P 215).2 (73, [(0, .ref 73), (1, .int mo), (2, .long s), (4, .int (nI r)), (5, .int (I 76 r))], [.int (0 : Int32)]) (HH I J R T) _
          refine Z_jump 3 rfl ?_
          refine Z_bd (fun (c90 : mo = (0 : Int32)) => ?_) (fun (c90 : ¬ (mo = (0 : Int32))) => ?_)
          · refine Z_jump 2 rfl ?_
            show Zs _ _ (am_P 215).2 (106, [(0, .ref 73), (1, .int mo), (2, .long s), (4, .int (nI r)), (5, .int (I 76 r)), (6, .int (0 : Int32))], []) (HH I J R T) _
            exact W _ _ (by first | exact if_pos b25 | (rw [if_neg b25]; first | exact if_pos c44 | exact if_neg c44)) (by first | exact if_pos b70 | (rw [if_neg b70]; first | exact if_pos c90 | exact if_neg c90))
          · refine Z_jump 3 rfl ?_
            show Zs _ _ (am_P 215).2 (99, [(0, .ref 73), (1, .int mo), (2, .long s), (4, .int (nI r)), (5, .int (I 76 r))], [.int (nI r), .ref 77]) (HH I J R T) _
            refine Z_ialK (r) rfl rfl (rfl) (by omega) (by decide) ?_
            show Zs _ _ (am_P 215).2 (100, [(0, .ref 73), (1, .int mo), (2, .long s), (4, .int (nI r)), (5, .int (I 76 r))], [.int (I 77 r)]) (HH I J R T) _
            refine Z_jump 2 rfl ?_
            show Zs _ _ (am_P 215).2 (106, [(0, .ref 73), (1, .int mo), (2, .long s), (4, .int (nI r)), (5, .int (I 76 r)), (6, .int (I 77 r))], []) (HH I J R T) _
            exact W _ _ (by first | exact if_pos b25 | (rw [if_neg b25]; first | exact if_pos c44 | exact if_neg c44)) (by first | exact if_pos b70 | (rw [if_neg b70]; first | exact if_pos c90 | exact if_neg c90))
def edF (I : hI) (D : FD) (mo : Int32) : Int64 := edl I D mo D.1 0
theorem m_edge {I : hI} {J : hJ} {D : FD} {mo : Int32} (hD : DMf D I) : am_E sc (d + 4) 215 [.ref 73, .int mo] (HH I J R T) (some (.long (edF I D mo))) (HH I J R T) := by
  refine E_Z (Ze_of (Nat.le_of_ble_eq_true rfl) ?_)
  refine Z_jump 7 rfl ?_
  show Zs _ _ (am_P 215).2 (10, [(0, .ref 73), (1, .int mo), (2, .long (0 : Int64)), (4, .int ((I 73 0) - (1 : Int32)))], []) (HH I J R T) _
  exact m_edl hD D.1 0 _ (Nat.le_refl _) (by rw [hD.1]) ⟨rfl, rfl⟩
/-- span -/
def spn (D : FD) (f : Int64) : Nat → Nat → hI → hJ → Int64 × hI × hJ
  | 0, _, I, J => (-1, I, J)
  | n + 1, k, I, J => if (isP I J D 78 (I 78 12) (f + (nI k).toInt64)).1 = 0 then (f + (nI k).toInt64, (isP I J D 78 (I 78 12) (f + (nI k).toInt64)).2)
    else spn D f n (k + 1) (isP I J D 78 (I 78 12) (f + (nI k).toInt64)).2.1 (isP I J D 78 (I 78 12) (f + (nI k).toInt64)).2.2
theorem spn_I {D : FD} {f : Int64} {a : Nat} (h : a ≠ 82) : ∀ (n k : Nat) (I : hI) (J : hJ), (spn D f n k I J).2.1 a = I a
  | 0, k, I, J => rfl
  | n + 1, k, I, J => by
    unfold spn
    split
    · exact isP_I h
    · rw [spn_I h n, isP_I h]
theorem spn_J {D : FD} {f : Int64} {a : Nat} (h : a ≠ 81) (h7 : a ≠ 80) : ∀ (n k : Nat) (I : hI) (J : hJ), (spn D f n k I J).2.2 a = J a
  | 0, k, I, J => rfl
  | n + 1, k, I, J => by
    unfold spn
    split
    · exact isP_J h h7
    · rw [spn_J h h7 n, isP_J h h7]
theorem m_spn {D : FD} {f : Int64} {w0 : Int32} : ∀ (n k : Nat) (I : hI) (J : hJ) (x : Int32), k + n = 501 → x = nI k → DMf D I → Q (some (.long (spn D f n k I J).1)) (HH (spn D f n k I J).2.1 (spn D f n k I J).2.2 R T) → Zs sc (d + 6) (am_P 216).2 (44, [(0, .ref 73), (1, .int w0), (2, .long f), (4, .int x)], []) (HH I J R T) Q
  | 0, k, I, J, x, hk, hx, hD, H => by
    refine Z_jump 3 rfl ?_
    refine Z_bd (fun c49 => ?_) (fun c49 => absurd ((show (500 : Int32) < x by rw [hx]; exact nI_lt (a := 500) (by omega) (by omega))) c49)
    refine Z_jump 1 rfl ?_
    show Zs _ _ (am_P 216).2 (90, [(0, .ref 73), (1, .int w0), (2, .long f), (4, .int x)], [.long (-1 : Int64)]) (HH I J R T) _
    refine Z_ret rfl rfl rfl ?_
    exact H
  | n + 1, k, I, J, x, hk, hx, hD, H => by
    have ex : x + 1 = nI (k + 1) := by rw [hx]; exact nI_1 k
    have c : ¬ (500 : Int32) < x := by rw [hx, show (500 : Int32) = nI 500 from rfl, nI_ltI (by omega) (by omega)]; omega
    subst hx
    have hE := m_isShown (sc := sc) (d := d) (R := R) (T := T) (J := J) (o := 78) (st := I 78 12) (due := f + (nI k).toInt64) (by decide) hD
    have hDw : DMf D (isP I J D 78 (I 78 12) (f + (nI k).toInt64)).2.1 := DMf_w hD
    unfold spn at H
    generalize isP I J D 78 (I 78 12) (f + (nI k).toInt64) = w at hE hDw H
    refine Z_jump 3 rfl ?_
    refine Z_bd (fun c49 => absurd c49 (c)) (fun c49 => ?_)
    refine Z_jump 11 rfl ?_
    show Zs _ _ (am_P 216).2 (69, [(0, .ref 73), (1, .int w0), (2, .long f), (4, .int (nI k))], [.long (f + (Int32.toInt64 (nI k))), .int (I 78 12), .ref 78, .ref 73]) (HH I J R T) _
    refine Z_c1 rfl rfl rfl (hE) ?_
    show Zs _ _ (am_P 216).2 (72, [(0, .ref 73), (1, .int w0), (2, .long f), (4, .int (nI k))], [.int w.1]) (HH w.2.1 w.2.2 R T) _
    refine Z_jump 1 rfl ?_
    refine Z_bn (fun (c72 : ¬ (w.1 = (0 : Int32))) => ?_) (fun (c72 : w.1 = (0 : Int32)) => ?_)
    · refine Z_jump 2 rfl ?_
      show Zs _ _ (am_P 216).2 (44, [(0, .ref 73), (1, .int w0), (2, .long f), (4, .int ((nI k) + 1))], []) (HH w.2.1 w.2.2 R T) _
      rw [if_neg c72] at H
      exact m_spn n (k + 1) _ _ _ (by omega) ex hDw H
    · refine Z_jump 4 rfl ?_
      show Zs _ _ (am_P 216).2 (80, [(0, .ref 73), (1, .int w0), (2, .long f), (4, .int (nI k))], [.long (f + (Int32.toInt64 (nI k)))]) (HH w.2.1 w.2.2 R T) _
      refine Z_ret rfl rfl rfl ?_
      rw [if_pos c72] at H
      exact H
def spM (I : hI) (J : hJ) (D : FD) (w : Int32) : Int64 × hI × hJ :=
  if 0 ≤ w.toInt ∧ w.toInt ≤ 2 then (if 2 ≤ w then spn D (edF I D 0) 500 1 I J else if w = 0 then (edF I D 1, I, J) else (edF I D 0, I, J)) else (-3, I, J)
theorem m_span {I : hI} {J : hJ} {D : FD} {w : Int32} (hD : DMf D I) : am_E sc (d + 7) 216 [.ref 73, .int w] (HH I J R T) (some (.long (spM I J D w).1)) (HH (spM I J D w).2.1 (spM I J D w).2.2 R T) := by
  refine E_Z (Ze_of (Nat.le_of_ble_eq_true rfl) ?_)
  unfold spM
  refine Z_jump 4 rfl ?_
  show Zs _ _ (am_P 216).2 (6, [(0, .ref 73), (1, .int w)], [.long (2 : Int64), .long (0 : Int64), .long (Int32.toInt64 w)]) (HH I J R T) _
  by_cases b6 : 0 ≤ w.toInt ∧ w.toInt ≤ 2
  · refine Z_c1 rfl rfl rfl (E_pos (m_inI (a := 0) (b := 2) rfl rfl) b6) ?_
    show Zs _ _ (am_P 216).2 (9, [(0, .ref 73), (1, .int w)], [.int (1 : Int32)]) (HH I J R T) _
    refine Z_jump 4 rfl ?_
    refine Z_bd (fun (c18 : (2 : Int32) ≤ w) => ?_) (fun (c18 : ¬ ((2 : Int32) ≤ w)) => ?_)
    · refine Z_jump 2 rfl ?_
      show Zs _ _ (am_P 216).2 (37, [(0, .ref 73), (1, .int w)], [.int (0 : Int32), .ref 73]) (HH I J R T) _
      refine Z_c1 rfl rfl rfl (m_edge hD) ?_
      show Zs _ _ (am_P 216).2 (40, [(0, .ref 73), (1, .int w)], [.long (edF I D 0)]) (HH I J R T) _
      refine Z_jump 3 rfl ?_
      show Zs _ _ (am_P 216).2 (44, [(0, .ref 73), (1, .int w), (2, .long (edF I D 0)), (4, .int (1 : Int32))], []) (HH I J R T) _
      rw [if_pos b6, if_pos c18]
      exact m_spn 500 1 _ _ _ (by omega) rfl hD ⟨rfl, rfl⟩
    · refine Z_jump 3 rfl ?_
      refine Z_bn (fun (c23 : ¬ (w = (0 : Int32))) => ?_) (fun (c23 : w = (0 : Int32)) => ?_)
      · refine Z_jump 1 rfl ?_
        show Zs _ _ (am_P 216).2 (31, [(0, .ref 73), (1, .int w)], [.int (0 : Int32), .ref 73]) (HH I J R T) _
        refine Z_c1 rfl rfl rfl (m_edge hD) ?_
        show Zs _ _ (am_P 216).2 (34, [(0, .ref 73), (1, .int w)], [.long (edF I D (0 : Int32))]) (HH I J R T) _
        show Zs _ _ (am_P 216).2 (34, [(0, .ref 73), (1, .int w)], [.long (edF I D (0 : Int32))]) (HH I J R T) _
        refine Z_ret rfl rfl rfl ?_
        rw [if_pos b6, if_neg c18, if_neg c23]
        exact ⟨rfl, rfl⟩
      · refine Z_jump 2 rfl ?_
        show Zs _ _ (am_P 216).2 (31, [(0, .ref 73), (1, .int w)], [.int (1 : Int32), .ref 73]) (HH I J R T) _
        refine Z_c1 rfl rfl rfl (m_edge hD) ?_
        show Zs _ _ (am_P 216).2 (34, [(0, .ref 73), (1, .int w)], [.long (edF I D (1 : Int32))]) (HH I J R T) _
        show Zs _ _ (am_P 216).2 (34, [(0, .ref 73), (1, .int w)], [.long (edF I D (1 : Int32))]) (HH I J R T) _
        refine Z_ret rfl rfl rfl ?_
        rw [if_pos b6, if_neg c18, if_pos c23]
        exact ⟨rfl, rfl⟩
  · refine Z_c1 rfl rfl rfl (E_neg (m_inI (a := 0) (b := 2) rfl rfl) b6) ?_
    show Zs _ _ (am_P 216).2 (9, [(0, .ref 73), (1, .int w)], [.int (0 : Int32)]) (HH I J R T) _
    refine Z_jump 2 rfl ?_
    show Zs _ _ (am_P 216).2 (15, [(0, .ref 73), (1, .int w)], [.long (-3 : Int64)]) (HH I J R T) _
    refine Z_ret rfl rfl rfl ?_
    rw [if_neg b6]
    exact ⟨rfl, rfl⟩
/-- nearest -/
def ner (D : FD) (v : Int32) : Nat → Nat → hI → hJ → Int32 × hI × hJ
  | 0, _, I, J => (-1, I, J)
  | n + 1, k, I, J => if (isP I J D 78 (I 78 12) (v - nI k).toInt64).1 = 0 then
      (if (isP (isP I J D 78 (I 78 12) (v - nI k).toInt64).2.1 (isP I J D 78 (I 78 12) (v - nI k).toInt64).2.2 D 78 ((isP I J D 78 (I 78 12) (v - nI k).toInt64).2.1 78 12) (v.toInt64 + (nI k).toInt64)).1 = 0 then
        ner D v n (k + 1) (isP (isP I J D 78 (I 78 12) (v - nI k).toInt64).2.1 (isP I J D 78 (I 78 12) (v - nI k).toInt64).2.2 D 78 ((isP I J D 78 (I 78 12) (v - nI k).toInt64).2.1 78 12) (v.toInt64 + (nI k).toInt64)).2.1 (isP (isP I J D 78 (I 78 12) (v - nI k).toInt64).2.1 (isP I J D 78 (I 78 12) (v - nI k).toInt64).2.2 D 78 ((isP I J D 78 (I 78 12) (v - nI k).toInt64).2.1 78 12) (v.toInt64 + (nI k).toInt64)).2.2
       else (v + nI k, (isP (isP I J D 78 (I 78 12) (v - nI k).toInt64).2.1 (isP I J D 78 (I 78 12) (v - nI k).toInt64).2.2 D 78 ((isP I J D 78 (I 78 12) (v - nI k).toInt64).2.1 78 12) (v.toInt64 + (nI k).toInt64)).2))
    else (v - nI k, (isP I J D 78 (I 78 12) (v - nI k).toInt64).2)
theorem ner_I {D : FD} {v : Int32} {a : Nat} (h : a ≠ 82) : ∀ (n k : Nat) (I : hI) (J : hJ), (ner D v n k I J).2.1 a = I a
  | 0, k, I, J => rfl
  | n + 1, k, I, J => by
    unfold ner
    split
    · split
      · rw [ner_I h n, isP_I h, isP_I h]
      · show (isP _ _ _ _ _ _).2.1 a = _
        rw [isP_I h, isP_I h]
    · exact isP_I h
theorem ner_J {D : FD} {v : Int32} {a : Nat} (h : a ≠ 81) (h7 : a ≠ 80) : ∀ (n k : Nat) (I : hI) (J : hJ), (ner D v n k I J).2.2 a = J a
  | 0, k, I, J => rfl
  | n + 1, k, I, J => by
    unfold ner
    split
    · split
      · rw [ner_J h h7 n, isP_J h h7, isP_J h h7]
      · show (isP _ _ _ _ _ _).2.2 a = _
        rw [isP_J h h7, isP_J h h7]
    · exact isP_J h h7
theorem m_ner {D : FD} {v : Int32} : ∀ (n k : Nat) (I : hI) (J : hJ) (x : Int32), k + n = 501 → x = nI k → DMf D I → Q (some (.int (ner D v n k I J).1)) (HH (ner D v n k I J).2.1 (ner D v n k I J).2.2 R T) → Zs sc (d + 6) (am_P 217).2 (12, [(0, .ref 73), (1, .int v), (2, .int x)], []) (HH I J R T) Q
  | 0, k, I, J, x, hk, hx, hD, H => by
    refine Z_jump 3 rfl ?_
    refine Z_bd (fun c16 => ?_) (fun c16 => absurd ((show (500 : Int32) < x by rw [hx]; exact nI_lt (a := 500) (by omega) (by omega))) c16)
    refine Z_jump 1 rfl ?_
    show Zs _ _ (am_P 217).2 (79, [(0, .ref 73), (1, .int v), (2, .int x)], [.int (-1 : Int32)]) (HH I J R T) _
    refine Z_rI rfl (by first | exact am_nw0 _ | exact am_nw01 | rfl | assumption) ?_
    exact H
  | n + 1, k, I, J, x, hk, hx, hD, H => by
    have ex : x + 1 = nI (k + 1) := by rw [hx]; exact nI_1 k
    have c : ¬ (500 : Int32) < x := by rw [hx, show (500 : Int32) = nI 500 from rfl, nI_ltI (by omega) (by omega)]; omega
    subst hx
    have hE := m_isShown (sc := sc) (d := d) (R := R) (T := T) (J := J) (o := 78) (st := I 78 12) (due := (v - nI k).toInt64) (by decide) hD
    have hDw : DMf D (isP I J D 78 (I 78 12) (v - nI k).toInt64).2.1 := DMf_w hD
    unfold ner at H
    generalize isP I J D 78 (I 78 12) (v - nI k).toInt64 = w at hE hDw H
    have hE2 := m_isShown (sc := sc) (d := d) (R := R) (T := T) (J := w.2.2) (o := 78) (st := w.2.1 78 12) (due := v.toInt64 + (nI k).toInt64) (by decide) hDw
    have hDw2 : DMf D (isP w.2.1 w.2.2 D 78 (w.2.1 78 12) (v.toInt64 + (nI k).toInt64)).2.1 := DMf_w hDw
    generalize isP w.2.1 w.2.2 D 78 (w.2.1 78 12) (v.toInt64 + (nI k).toInt64) = w2 at hE2 hDw2 H
    refine Z_jump 3 rfl ?_
    refine Z_bd (fun c16 => absurd c16 (c)) (fun c16 => ?_)
    refine Z_jump 11 rfl ?_
    show Zs _ _ (am_P 217).2 (35, [(0, .ref 73), (1, .int v), (2, .int (nI k))], [.long (Int32.toInt64 (v - (nI k))), .int (I 78 12), .ref 78, .ref 73]) (HH I J R T) _
    refine Z_c1 rfl rfl rfl (hE) ?_
    show Zs _ _ (am_P 217).2 (38, [(0, .ref 73), (1, .int v), (2, .int (nI k))], [.int w.1]) (HH w.2.1 w.2.2 R T) _
    refine Z_jump 1 rfl ?_
    refine Z_bd (fun (c38 : w.1 = (0 : Int32)) => ?_) (fun (c38 : ¬ (w.1 = (0 : Int32))) => ?_)
    · refine Z_jump 12 rfl ?_
      show Zs _ _ (am_P 217).2 (62, [(0, .ref 73), (1, .int v), (2, .int (nI k))], [.long ((Int32.toInt64 v) + (Int32.toInt64 (nI k))), .int (w.2.1 78 12), .ref 78, .ref 73]) (HH w.2.1 w.2.2 R T) _
      refine Z_c1 rfl rfl rfl (hE2) ?_
      show Zs _ _ (am_P 217).2 (65, [(0, .ref 73), (1, .int v), (2, .int (nI k))], [.int w2.1]) (HH w2.2.1 w2.2.2 R T) _
      refine Z_jump 1 rfl ?_
      refine Z_bd (fun (c65 : w2.1 = (0 : Int32)) => ?_) (fun (c65 : ¬ (w2.1 = (0 : Int32))) => ?_)
      · refine Z_jump 2 rfl ?_
        show Zs _ _ (am_P 217).2 (12, [(0, .ref 73), (1, .int v), (2, .int ((nI k) + 1))], []) (HH w2.2.1 w2.2.2 R T) _
        rw [if_pos c38, if_pos c65] at H
        exact m_ner n (k + 1) _ _ _ (by omega) ex hDw2 H
      · refine Z_jump 3 rfl ?_
        show Zs _ _ (am_P 217).2 (71, [(0, .ref 73), (1, .int v), (2, .int (nI k))], [.int (v + (nI k))]) (HH w2.2.1 w2.2.2 R T) _
        refine Z_rI rfl (by first | exact am_nw0 _ | exact am_nw01 | rfl | assumption) ?_
        rw [if_pos c38, if_neg c65] at H
        exact H
    · refine Z_jump 3 rfl ?_
      show Zs _ _ (am_P 217).2 (44, [(0, .ref 73), (1, .int v), (2, .int (nI k))], [.int (v - (nI k))]) (HH w.2.1 w.2.2 R T) _
      refine Z_rI rfl (by first | exact am_nw0 _ | exact am_nw01 | rfl | assumption) ?_
      rw [if_neg c38] at H
      exact H
def neM (I : hI) (J : hJ) (D : FD) (v : Int32) : Int32 × hI × hJ := if M_num v then ner D v 501 0 I J else (-3, I, J)
theorem m_nearest {I : hI} {J : hJ} {D : FD} {v : Int32} (hD : DMf D I) : am_E sc (d + 7) 217 [.ref 73, .int v] (HH I J R T) (some (.int (neM I J D v).1)) (HH (neM I J D v).2.1 (neM I J D v).2.2 R T) := by
  refine E_Z (Ze_of (Nat.le_of_ble_eq_true rfl) ?_)
  unfold neM
  refine Z_jump 1 rfl ?_
  show Zs _ _ (am_P 217).2 (1, [(0, .ref 73), (1, .int v)], [.int v]) (HH I J R T) _
  by_cases b1 : M_num v
  · refine Z_c1 rfl rfl rfl (E_pos (m_isNumber) b1) ?_
    show Zs _ _ (am_P 217).2 (4, [(0, .ref 73), (1, .int v)], [.int (1 : Int32)]) (HH I J R T) _
    refine Z_jump 3 rfl ?_
    show Zs _ _ (am_P 217).2 (12, [(0, .ref 73), (1, .int v), (2, .int (0 : Int32))], []) (HH I J R T) _
    rw [if_pos b1]
    exact m_ner 501 0 _ _ _ (by omega) rfl hD ⟨rfl, rfl⟩
  · refine Z_c1 rfl rfl rfl (E_neg (m_isNumber) b1) ?_
    show Zs _ _ (am_P 217).2 (4, [(0, .ref 73), (1, .int v)], [.int (0 : Int32)]) (HH I J R T) _
    refine Z_jump 2 rfl ?_
    show Zs _ _ (am_P 217).2 (9, [(0, .ref 73), (1, .int v)], [.int (-3 : Int32)]) (HH I J R T) _
    refine Z_rI rfl (by first | exact am_nw0 _ | exact am_nw01 | rfl | assumption) ?_
    rw [if_neg b1]
    exact ⟨rfl, rfl⟩
/-- bits -/
def btl : Nat → Int32 → Int32 → Int32
  | 0, _, m => m
  | n + 1, s, m => if s = 0 then m else btl n (s &&& (s - 1)) (m + 1)
theorem and_dec {s : Int32} {n : Nat} (h0 : ¬ s = 0) (h1 : 0 ≤ s.toInt) (h2 : s.toInt ≤ (n : Int) + 1) : 0 ≤ (s &&& (s - 1)).toInt ∧ (s &&& (s - 1)).toInt ≤ (n : Int) := by
  obtain ⟨j, hj, e⟩ := nI_of (x := s) (by rw [fi_lt]; have z0 : (0 : Int32).toInt = 0 := rfl; omega)
  subst e
  rw [nI_toInt hj] at h2
  have hj0 : j ≠ 0 := fun z => h0 (by rw [z]; rfl)
  obtain ⟨i, rfl⟩ : ∃ i, j = i + 1 := ⟨j - 1, by omega⟩
  have e2 : nI (i + 1) - 1 = nI i := nI_pred i
  rw [e2]
  have e3 : nI (i + 1) &&& nI i = nI ((i + 1) &&& i) := by
    apply Int32.toBitVec_inj.mp
    show BitVec.ofNat 32 (i + 1) &&& BitVec.ofNat 32 i = BitVec.ofNat 32 ((i + 1) &&& i)
    rw [BitVec.ofNat_and]
  have h3 : (i + 1) &&& i ≤ i := Nat.and_le_right
  rw [e3, nI_toInt (by omega)]
  omega
theorem m_btl {I : hI} {J : hJ} {x0 : Int32} : ∀ (n : Nat) (s m : Int32), 0 ≤ s.toInt → s.toInt ≤ n → Q (some (.int (btl n s m))) (HH I J R T) → Zs sc d (am_P 147).2 (4, [(0, .int x0), (1, .int m), (2, .int s)], []) (HH I J R T) Q
  | 0, s, m, h0, hn, H => by
    have e : s = 0 := by rw [fi_eq]; have z0 : (0 : Int32).toInt = 0 := rfl; omega
    refine Z_jump 2 rfl ?_
    refine Z_bd (fun c5 => ?_) (fun c5 => absurd (e) c5)
    refine Z_jump 1 rfl ?_
    show Zs _ _ (am_P 147).2 (21, [(0, .int x0), (1, .int m), (2, .int s)], [.int m]) (HH I J R T) _
    refine Z_rI rfl (by first | exact am_nw0 _ | exact am_nw01 | rfl | assumption) ?_
    exact H
  | n + 1, s, m, h0, hn, H => by
    unfold btl at H
    refine Z_jump 2 rfl ?_
    refine Z_bd (fun (c5 : s = (0 : Int32)) => ?_) (fun (c5 : ¬ (s = (0 : Int32))) => ?_)
    · refine Z_jump 1 rfl ?_
      show Zs _ _ (am_P 147).2 (21, [(0, .int x0), (1, .int m), (2, .int s)], [.int m]) (HH I J R T) _
      refine Z_rI rfl (by first | exact am_nw0 _ | exact am_nw01 | rfl | assumption) ?_
      rw [if_pos c5] at H
      exact H
    · refine Z_jump 8 rfl ?_
      show Zs _ _ (am_P 147).2 (4, [(0, .int x0), (1, .int (m + 1)), (2, .int (s &&& (s - (1 : Int32))))], []) (HH I J R T) _
      rw [if_neg c5] at H
      exact m_btl n _ _ (and_dec (n := n) c5 h0 (by omega)).1 (and_dec (n := n) c5 h0 (by omega)).2 H
def bts (s : Int32) : Int32 := btl s.toInt.toNat s 0
theorem m_bits {I : hI} {J : hJ} {s : Int32} (h0 : 0 ≤ s.toInt) : am_E sc (d + 1) 147 [.int s] (HH I J R T) (some (.int (bts s))) (HH I J R T) := by
  refine E_Z (Ze_of (Nat.le_of_ble_eq_true rfl) ?_)
  refine Z_jump 4 rfl ?_
  show Zs _ _ (am_P 147).2 (4, [(0, .int s), (1, .int (0 : Int32)), (2, .int s)], []) (HH I J R T) _
  exact m_btl s.toInt.toNat _ _ h0 (by omega) ⟨rfl, rfl⟩
/-- loosen -/
def lsM (I : hI) (s b : Int32) : Int32 := if s &&& (I 78 12 ^^^ -1) = 0 then (if b = -1 then 1 else if bts b < bts s then 0 else 1) else 0
def lsl (D : FD) (v : Int32) : Nat → Int32 → Int32 → hI → hJ → Int32 × hI × hJ
  | 0, _, b, I, J => (b, I, J)
  | n + 1, s, b, I, J => if s < 0 then (b, I, J) else if lsM I s b = 0 then lsl D v n (s + Int32.ofInt (-1)) b I J
    else if (isP I J D 78 (I 78 12 &&& (s ^^^ -1)) v.toInt64).1 = 0 then lsl D v n (s + Int32.ofInt (-1)) b (isP I J D 78 (I 78 12 &&& (s ^^^ -1)) v.toInt64).2.1 (isP I J D 78 (I 78 12 &&& (s ^^^ -1)) v.toInt64).2.2
    else lsl D v n (s + Int32.ofInt (-1)) s (isP I J D 78 (I 78 12 &&& (s ^^^ -1)) v.toInt64).2.1 (isP I J D 78 (I 78 12 &&& (s ^^^ -1)) v.toInt64).2.2
theorem lsl_I {D : FD} {v : Int32} {a : Nat} (h : a ≠ 82) : ∀ (n : Nat) (s b : Int32) (I : hI) (J : hJ), (lsl D v n s b I J).2.1 a = I a
  | 0, s, b, I, J => rfl
  | n + 1, s, b, I, J => by
    unfold lsl
    split
    · rfl
    · split
      · exact lsl_I h n _ _ _ _
      · split
        · rw [lsl_I h n, isP_I h]
        · rw [lsl_I h n, isP_I h]
theorem lsl_J {D : FD} {v : Int32} {a : Nat} (h : a ≠ 81) (h7 : a ≠ 80) : ∀ (n : Nat) (s b : Int32) (I : hI) (J : hJ), (lsl D v n s b I J).2.2 a = J a
  | 0, s, b, I, J => rfl
  | n + 1, s, b, I, J => by
    unfold lsl
    split
    · rfl
    · split
      · exact lsl_J h h7 n _ _ _ _
      · split
        · rw [lsl_J h h7 n, isP_J h h7]
        · rw [lsl_J h h7 n, isP_J h h7]
theorem m_lsl {D : FD} {v : Int32} : ∀ (n : Nat) (s b : Int32) (I : hI) (J : hJ), s.toInt < n → (b = -1 ∨ 0 ≤ b.toInt) → DMf D I → Q (some (.int (lsl D v n s b I J).1)) (HH (lsl D v n s b I J).2.1 (lsl D v n s b I J).2.2 R T) → Zs sc (d + 6) (am_P 218).2 (20, [(0, .ref 73), (1, .int v), (2, .int b), (3, .int s)], []) (HH I J R T) Q
  | 0, s, b, I, J, hs, hb, hD, H => by
    refine Z_jump 2 rfl ?_
    refine Z_bd (fun c21 => ?_) (fun c21 => absurd ((show s < 0 by rw [fi_lt]; have z0 : (0 : Int32).toInt = 0 := rfl; omega)) c21)
    refine Z_jump 1 rfl ?_
    show Zs _ _ (am_P 218).2 (103, [(0, .ref 73), (1, .int v), (2, .int b), (3, .int s)], [.int b]) (HH I J R T) _
    refine Z_rI rfl (by first | exact am_nw0 _ | exact am_nw01 | rfl | assumption) ?_
    exact H
  | n + 1, s, b, I, J, hs, hb, hD, H => by
    have z0 : (0 : Int32).toInt = 0 := rfl
    have z1 : (Int32.ofInt (-1)).toInt = -1 := rfl
    unfold lsl at H
    by_cases h0 : s < 0
    · rw [if_pos h0] at H
      refine Z_jump 2 rfl ?_
      refine Z_bd (fun c21 => ?_) (fun c21 => absurd (h0) c21)
      refine Z_jump 1 rfl ?_
      show Zs _ _ (am_P 218).2 (103, [(0, .ref 73), (1, .int v), (2, .int b), (3, .int s)], [.int b]) (HH I J R T) _
      refine Z_rI rfl (by first | exact am_nw0 _ | exact am_nw01 | rfl | assumption) ?_
      exact H
    · rw [if_neg h0] at H
      have h0' := h0
      rw [fi_lt] at h0'
      have hlo := ti_lo s
      have hhi := ti_hi s
      have es : (s + Int32.ofInt (-1)).toInt = s.toInt - 1 := by rw [ti_add] <;> omega
      have hE := m_isShown (sc := sc) (d := d) (R := R) (T := T) (J := J) (o := 78) (st := I 78 12 &&& (s ^^^ -1)) (due := v.toInt64) (by decide) hD
      have hDw : DMf D (isP I J D 78 (I 78 12 &&& (s ^^^ -1)) v.toInt64).2.1 := DMf_w hD
      generalize isP I J D 78 (I 78 12 &&& (s ^^^ -1)) v.toInt64 = w at hE hDw H
      have W0 : lsM I s b = 0 → ∀ y : Int32, y = 0 → Zs sc (d + 6) (am_P 218).2 (61, [(0, .ref 73), (1, .int v), (2, .int b), (3, .int s), (4, .int y)], []) (HH I J R T) Q := fun hl y hy => by
        rw [if_pos hl] at H
        subst hy
        refine Z_jump 6 rfl ?_
        show Zs _ _ (am_P 218).2 (20, [(0, .ref 73), (1, .int v), (2, .int b), (3, .int (s + Int32.ofInt (-1))), (4, .int (0 : Int32))], []) (HH I J R T) _
        exact Zs_wk (m_lsl n _ _ _ _ (by omega) hb hD H) (lnD rfl) (lnD rfl) (by repeat (first | exact trivial | refine ⟨rfl, ?_⟩))
      have W1 : lsM I s b = 1 → ∀ y : Int32, y = 1 → Zs sc (d + 6) (am_P 218).2 (61, [(0, .ref 73), (1, .int v), (2, .int b), (3, .int s), (4, .int y)], []) (HH I J R T) Q := fun hl y hy => by
        rw [if_neg (by rw [hl]; decide)] at H
        subst hy
        refine Z_jump 15 rfl ?_
        show Zs _ _ (am_P 218).2 (84, [(0, .ref 73), (1, .int v), (2, .int b), (3, .int s), (4, .int (1 : Int32))], [.long (Int32.toInt64 v), .int ((I 78 12) &&& (s ^^^ (-1 : Int32))), .ref 78, .ref 73]) (HH I J R T) _
        refine Z_c1 rfl rfl rfl (hE) ?_
        show Zs _ _ (am_P 218).2 (87, [(0, .ref 73), (1, .int v), (2, .int b), (3, .int s), (4, .int (1 : Int32))], [.int w.1]) (HH w.2.1 w.2.2 R T) _
        refine Z_jump 1 rfl ?_
        refine Z_bd (fun (c87 : w.1 = (0 : Int32)) => ?_) (fun (c87 : ¬ (w.1 = (0 : Int32))) => ?_)
        · refine Z_jump 4 rfl ?_
          show Zs _ _ (am_P 218).2 (20, [(0, .ref 73), (1, .int v), (2, .int b), (3, .int (s + Int32.ofInt (-1))), (4, .int (1 : Int32))], []) (HH w.2.1 w.2.2 R T) _
          rw [if_pos c87] at H
          first | exact Zs_wk (m_lsl n _ _ _ _ (by omega) hb hDw H) (lnD rfl) (lnD rfl) (by repeat (first | exact trivial | refine ⟨rfl, ?_⟩)) | exact Zs_wk (m_lsl n _ _ _ _ (by omega) (Or.inr (by omega)) hDw H) (lnD rfl) (lnD rfl) (by repeat (first | exact trivial | refine ⟨rfl, ?_⟩))
        · refine Z_jump 5 rfl ?_
          show Zs _ _ (am_P 218).2 (20, [(0, .ref 73), (1, .int v), (2, .int s), (3, .int (s + Int32.ofInt (-1))), (4, .int (1 : Int32))], []) (HH w.2.1 w.2.2 R T) _
          rw [if_neg c87] at H
          first | exact Zs_wk (m_lsl n _ _ _ _ (by omega) hb hDw H) (lnD rfl) (lnD rfl) (by repeat (first | exact trivial | refine ⟨rfl, ?_⟩)) | exact Zs_wk (m_lsl n _ _ _ _ (by omega) (Or.inr (by omega)) hDw H) (lnD rfl) (lnD rfl) (by repeat (first | exact trivial | refine ⟨rfl, ?_⟩))
      unfold lsM at W0 W1
      refine Z_jump 2 rfl ?_
      refine Z_bd (fun c21 => absurd c21 (h0)) (fun c21 => ?_)
      refine Z_jump 9 rfl ?_
      refine Z_bn (fun (c35 : ¬ ((s &&& ((I 78 12) ^^^ (-1 : Int32))) = (0 : Int32))) => ?_) (fun (c35 : (s &&& ((I 78 12) ^^^ (-1 : Int32))) = (0 : Int32)) => ?_)
      · refine Z_jump 2 rfl ?_
        show Zs _ _ (am_P 218).2 (61, [(0, .ref 73), (1, .int v), (2, .int b), (3, .int s), (4, .int (0 : Int32))], []) (HH I J R T) _
        first | exact W1 (by rw [if_neg c35]) 1 rfl | exact W0 (by rw [if_neg c35]) 0 rfl
      · refine Z_jump 3 rfl ?_
        refine Z_bd (fun (c40 : b = (-1 : Int32)) => ?_) (fun (c40 : ¬ (b = (-1 : Int32))) => ?_)
        · refine Z_jump 3 rfl ?_
          show Zs _ _ (am_P 218).2 (61, [(0, .ref 73), (1, .int v), (2, .int b), (3, .int s), (4, .int (1 : Int32))], []) (HH I J R T) _
          first | exact W1 (by rw [if_pos c35, if_pos c40]) 1 rfl | exact W0 (by rw [if_pos c35, if_pos c40]) 0 rfl
        · refine Z_jump 1 rfl ?_
          show Zs _ _ (am_P 218).2 (44, [(0, .ref 73), (1, .int v), (2, .int b), (3, .int s)], [.int s]) (HH I J R T) _
          refine Z_c1 rfl rfl rfl (m_bits (by omega)) ?_
          show Zs _ _ (am_P 218).2 (47, [(0, .ref 73), (1, .int v), (2, .int b), (3, .int s)], [.int (bts s)]) (HH I J R T) _
          refine Z_jump 1 rfl ?_
          show Zs _ _ (am_P 218).2 (48, [(0, .ref 73), (1, .int v), (2, .int b), (3, .int s)], [.int b, .int (bts s)]) (HH I J R T) _
          refine Z_c1 rfl rfl rfl (m_bits (hb.resolve_left c40)) ?_
          show Zs _ _ (am_P 218).2 (51, [(0, .ref 73), (1, .int v), (2, .int b), (3, .int s)], [.int (bts b), .int (bts s)]) (HH I J R T) _
          refine Z_jump 1 rfl ?_
          refine Z_bd (fun (c51 : (bts b) < (bts s)) => ?_) (fun (c51 : ¬ ((bts b) < (bts s))) => ?_)
          · refine Z_jump 2 rfl ?_
            show Zs _ _ (am_P 218).2 (61, [(0, .ref 73), (1, .int v), (2, .int b), (3, .int s), (4, .int (0 : Int32))], []) (HH I J R T) _
            first | exact W1 (by rw [if_pos c35, if_neg c40, if_pos c51]) 1 rfl | exact W0 (by rw [if_pos c35, if_neg c40, if_pos c51]) 0 rfl
          · refine Z_jump 3 rfl ?_
            show Zs _ _ (am_P 218).2 (61, [(0, .ref 73), (1, .int v), (2, .int b), (3, .int s), (4, .int (1 : Int32))], []) (HH I J R T) _
            first | exact W1 (by rw [if_pos c35, if_neg c40, if_neg c51]) 1 rfl | exact W0 (by rw [if_pos c35, if_neg c40, if_neg c51]) 0 rfl
def loM (I : hI) (J : hJ) (D : FD) (v : Int32) : Int32 × hI × hJ := if M_num v then lsl D v ((I 78 12).toInt + 1).toNat (I 78 12) (-1) I J else (-3, I, J)
theorem m_loosen {I : hI} {J : hJ} {D : FD} {v : Int32} (hD : DMf D I) : am_E sc (d + 7) 218 [.ref 73, .int v] (HH I J R T) (some (.int (loM I J D v).1)) (HH (loM I J D v).2.1 (loM I J D v).2.2 R T) := by
  refine E_Z (Ze_of (Nat.le_of_ble_eq_true rfl) ?_)
  unfold loM
  refine Z_jump 1 rfl ?_
  show Zs _ _ (am_P 218).2 (1, [(0, .ref 73), (1, .int v)], [.int v]) (HH I J R T) _
  by_cases b1 : M_num v
  · refine Z_c1 rfl rfl rfl (E_pos (m_isNumber) b1) ?_
    show Zs _ _ (am_P 218).2 (4, [(0, .ref 73), (1, .int v)], [.int (1 : Int32)]) (HH I J R T) _
    refine Z_jump 8 rfl ?_
    show Zs _ _ (am_P 218).2 (20, [(0, .ref 73), (1, .int v), (2, .int (-1 : Int32)), (3, .int (I 78 12))], []) (HH I J R T) _
    rw [if_pos b1]
    exact m_lsl _ _ _ _ _ (by omega) (Or.inl rfl) hD ⟨rfl, rfl⟩
  · refine Z_c1 rfl rfl rfl (E_neg (m_isNumber) b1) ?_
    show Zs _ _ (am_P 218).2 (4, [(0, .ref 73), (1, .int v)], [.int (0 : Int32)]) (HH I J R T) _
    refine Z_jump 2 rfl ?_
    show Zs _ _ (am_P 218).2 (9, [(0, .ref 73), (1, .int v)], [.int (-3 : Int32)]) (HH I J R T) _
    refine Z_rI rfl (by first | exact am_nw0 _ | exact am_nw01 | rfl | assumption) ?_
    rw [if_neg b1]
    exact ⟨rfl, rfl⟩
end ML7

