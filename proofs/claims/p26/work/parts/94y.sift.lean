/-! The class's Ways: sift; gap, nearestShown, span, nearest. -/
section WY8
variable {sc : Nat × (Nat → Int32)} {d : Nat} {J : hJ} {R : hR} {T : am_H} {Q : Option Value → am_H → Prop}
/-- which of two rows -/
def svO (i : Nat) : Nat := if i % 2 = 0 then 16 else 17
theorem c_sieveOf {I : hI} {i : Nat} (hi : i < 7) : am_E sc (d + 1) 87 [.ref 4, .int (nI i)] (HH I J R T) (some (.ref (svO i))) (HH I J R T) := by
  rcases (show i = 0 ∨ i = 1 ∨ i = 2 ∨ i = 3 ∨ i = 4 ∨ i = 5 ∨ i = 6 by omega) with rfl | rfl | rfl | rfl | rfl | rfl | rfl <;> exact E_run 20 rfl
theorem sv_at {I : hI} {i : Nat} : (HH I J R T)[svO i]? = some (.inl (0, 1024, .inl (I (svO i)))) := by
  unfold svO
  split <;> rfl
theorem sv_set {I : hI} {i : Nat} {x v : Int32} : (HH I J R T).set (svO i) (.inl (0, 1024, .inl (am_wr 1024 (I (svO i)) x v))) = HH (wI I (svO i) 1024 x v) J R T := by
  unfold svO
  split <;> rfl
abbrev isfP (I : hI) (i : Nat) (n : Int32) : Prop := ¬ n < am_rd 7 (I 14) (nI i) ∧ ¬ am_rd 7 (I 15) (nI i) < n ∧ am_rd 1024 (I (svO i)) (n - am_rd 7 (I 14) (nI i)) = 1
theorem c_isSiftedFrom {I : hI} {i : Nat} {n : Int32} (hi : i < 7) : am_E sc (d + 2) 88 [.ref 4, .int (nI i), .int n] (HH I J R T) (some (.int (if isfP I i n then 1 else 0))) (HH I J R T) := by
  refine E_Z (Ze_of (Nat.le_of_ble_eq_true rfl) ?_)
  refine Z_jump 4 rfl ?_
  show Zs _ _ (am_P 88).2 (6, [(0, .ref 4), (1, .int (nI i)), (2, .int n)], [.int (nI i), .ref 14, .int n]) (HH I J R T) _
  refine Z_c1 rfl rfl rfl (k_at (a := 14) (L := 7) (f := I 14) rfl (by decide)) ?_
  show Zs _ _ (am_P 88).2 (9, [(0, .ref 4), (1, .int (nI i)), (2, .int n)], [.int (am_rd 7 (I 14) (nI i)), .int n]) (HH I J R T) _
  refine Z_jump 1 rfl ?_
  refine Z_bd (fun (c9 : n < (am_rd 7 (I 14) (nI i))) => ?_) (fun (c9 : ¬ (n < (am_rd 7 (I 14) (nI i)))) => ?_)
  · refine Z_jump 5 rfl ?_
    show Zs _ _ (am_P 88).2 (61, [(0, .ref 4), (1, .int (nI i)), (2, .int n), (3, .int (0 : Int32))], [.int (0 : Int32)]) (HH I J R T) _
    refine Z_rI rfl (by first | exact am_nw0 _ | exact am_nw01 | rfl | assumption) ?_
    first | exact ⟨am_ii (if_neg (fun z => z.1 (by assumption))).symm, rfl⟩ | exact ⟨am_ii (if_neg (fun z => z.2.1 (by assumption))).symm, rfl⟩ | exact ⟨am_ii (if_neg (fun z => c53 z.2.2)).symm, rfl⟩ | exact ⟨am_ii (if_pos ⟨c9, c21, c53⟩).symm, rfl⟩
  · refine Z_jump 4 rfl ?_
    show Zs _ _ (am_P 88).2 (18, [(0, .ref 4), (1, .int (nI i)), (2, .int n)], [.int (nI i), .ref 15, .int n]) (HH I J R T) _
    refine Z_c1 rfl rfl rfl (k_at (a := 15) (L := 7) (f := I 15) rfl (by decide)) ?_
    show Zs _ _ (am_P 88).2 (21, [(0, .ref 4), (1, .int (nI i)), (2, .int n)], [.int (am_rd 7 (I 15) (nI i)), .int n]) (HH I J R T) _
    refine Z_jump 1 rfl ?_
    refine Z_bd (fun (c21 : (am_rd 7 (I 15) (nI i)) < n) => ?_) (fun (c21 : ¬ ((am_rd 7 (I 15) (nI i)) < n)) => ?_)
    · refine Z_jump 5 rfl ?_
      show Zs _ _ (am_P 88).2 (61, [(0, .ref 4), (1, .int (nI i)), (2, .int n), (3, .int (0 : Int32))], [.int (0 : Int32)]) (HH I J R T) _
      refine Z_rI rfl (by first | exact am_nw0 _ | exact am_nw01 | rfl | assumption) ?_
      first | exact ⟨am_ii (if_neg (fun z => z.1 (by assumption))).symm, rfl⟩ | exact ⟨am_ii (if_neg (fun z => z.2.1 (by assumption))).symm, rfl⟩ | exact ⟨am_ii (if_neg (fun z => c53 z.2.2)).symm, rfl⟩ | exact ⟨am_ii (if_pos ⟨c9, c21, c53⟩).symm, rfl⟩
    · refine Z_jump 7 rfl ?_
      show Zs _ _ (am_P 88).2 (36, [(0, .ref 4), (1, .int (nI i)), (2, .int n), (3, .int (1 : Int32))], [.int (nI i), .ref 4]) (HH I J R T) _
      refine Z_c1 rfl rfl rfl (c_sieveOf hi) ?_
      show Zs _ _ (am_P 88).2 (39, [(0, .ref 4), (1, .int (nI i)), (2, .int n), (3, .int (1 : Int32))], [.ref (svO i)]) (HH I J R T) _
      refine Z_jump 4 rfl ?_
      show Zs _ _ (am_P 88).2 (45, [(0, .ref 4), (1, .int (nI i)), (2, .int n), (3, .int (1 : Int32))], [.int (nI i), .ref 14, .int n, .ref (svO i)]) (HH I J R T) _
      refine Z_c1 rfl rfl rfl (k_at (a := 14) (L := 7) (f := I 14) rfl (by decide)) ?_
      show Zs _ _ (am_P 88).2 (48, [(0, .ref 4), (1, .int (nI i)), (2, .int n), (3, .int (1 : Int32))], [.int (am_rd 7 (I 14) (nI i)), .int n, .ref (svO i)]) (HH I J R T) _
      refine Z_jump 1 rfl ?_
      show Zs _ _ (am_P 88).2 (49, [(0, .ref 4), (1, .int (nI i)), (2, .int n), (3, .int (1 : Int32))], [.int (n - (am_rd 7 (I 14) (nI i))), .ref (svO i)]) (HH I J R T) _
      refine Z_c1 rfl rfl rfl (k_at (a := svO i) (L := 1024) (f := I (svO i)) sv_at (by decide)) ?_
      show Zs _ _ (am_P 88).2 (52, [(0, .ref 4), (1, .int (nI i)), (2, .int n), (3, .int (1 : Int32))], [.int (am_rd 1024 (I (svO i)) (n - am_rd 7 (I 14) (nI i)))]) (HH I J R T) _
      refine Z_jump 2 rfl ?_
      refine Z_bn (fun (c53 : ¬ ((am_rd 1024 (I (svO i)) (n - am_rd 7 (I 14) (nI i))) = (1 : Int32))) => ?_) (fun (c53 : (am_rd 1024 (I (svO i)) (n - am_rd 7 (I 14) (nI i))) = (1 : Int32)) => ?_)
      · refine Z_jump 1 rfl ?_
        show Zs _ _ (am_P 88).2 (61, [(0, .ref 4), (1, .int (nI i)), (2, .int n), (3, .int (1 : Int32))], [.int (0 : Int32)]) (HH I J R T) _
        refine Z_rI rfl (by first | exact am_nw0 _ | exact am_nw01 | rfl | assumption) ?_
        first | exact ⟨am_ii (if_neg (fun z => z.1 (by assumption))).symm, rfl⟩ | exact ⟨am_ii (if_neg (fun z => z.2.1 (by assumption))).symm, rfl⟩ | exact ⟨am_ii (if_neg (fun z => c53 z.2.2)).symm, rfl⟩ | exact ⟨am_ii (if_pos ⟨c9, c21, c53⟩).symm, rfl⟩
      · refine Z_jump 2 rfl ?_
        show Zs _ _ (am_P 88).2 (61, [(0, .ref 4), (1, .int (nI i)), (2, .int n), (3, .int (1 : Int32))], [.int (1 : Int32)]) (HH I J R T) _
        refine Z_rI rfl (by first | exact am_nw0 _ | exact am_nw01 | rfl | assumption) ?_
        first | exact ⟨am_ii (if_neg (fun z => z.1 (by assumption))).symm, rfl⟩ | exact ⟨am_ii (if_neg (fun z => z.2.1 (by assumption))).symm, rfl⟩ | exact ⟨am_ii (if_neg (fun z => c53 z.2.2)).symm, rfl⟩ | exact ⟨am_ii (if_pos ⟨c9, c21, c53⟩).symm, rfl⟩
theorem c_isSifted {I : hI} {n : Int32} : am_E sc (d + 3) 89 [.ref 4, .int n] (HH I J R T) (some (.int (if isfP I 0 n then 1 else 0))) (HH I J R T) := by
  refine E_Z (Ze_of (Nat.le_of_ble_eq_true rfl) ?_)
  refine Z_jump 3 rfl ?_
  show Zs _ _ (am_P 89).2 (3, [(0, .ref 4), (1, .int n)], [.int n, .int (0 : Int32), .ref 4]) (HH I J R T) _
  refine Z_c1 rfl rfl rfl (c_isSiftedFrom (i := 0) (by omega)) ?_
  show Zs _ _ (am_P 89).2 (6, [(0, .ref 4), (1, .int n)], [.int (if isfP I 0 n then 1 else 0)]) (HH I J R T) _
  show Zs _ _ (am_P 89).2 (6, [(0, .ref 4), (1, .int n)], [.int (if isfP I 0 n then 1 else 0)]) (HH I J R T) _
  refine Z_rI rfl (by first | exact am_nw0 _ | exact am_nw01 | rfl | assumption) ?_
  exact ⟨rfl, rfl⟩
/-- canShow -/
def csl (I : hI) (i : Nat) (n b : Int32) : Nat → Int32 → Int32
  | 0, _ => 0
  | m + 1, s => if n < s then 0 else if 40 ≤ s then 0 else if 1048576 ≤ costF I (nI i) s then csl I i n b m (s + b) else if isfP I (i + 1) ((n - s) / b) then 1 else csl I i n b m (s + b)
def csF (I : hI) (i : Nat) (n : Int32) : Int32 := if inR I (nI i) n then csl I i n (baseF I (nI i)) 60 (n - n / baseF I (nI i) * baseF I (nI i)) else 0
theorem c_csl {I : hI} {i : Nat} {n b : Int32} (hi : i < 6) (hb : 2 ≤ b.toInt ∧ b.toInt ≤ 16) : ∀ (m : Nat) (s : Int32), 40 - s.toInt ≤ m → Q (some (.int (csl I i n b m s))) (HH I J R T) → Zs sc (d + 2) (am_P 86).2 (22, [(0, .ref 4), (1, .int (nI i)), (2, .int n), (3, .int b), (4, .int s)], []) (HH I J R T) Q
  | 0, s, hm, H => by
    have z40 : (40 : Int32).toInt = 40 := rfl
    refine Z_jump 3 rfl ?_
    refine Z_bd (fun (c25 : n < s) => ?_) (fun (c25 : ¬ (n < s)) => ?_)
    · refine Z_jump 1 rfl ?_
      show Zs _ _ (am_P 86).2 (75, [(0, .ref 4), (1, .int (nI i)), (2, .int n), (3, .int b), (4, .int s)], [.int (0 : Int32)]) (HH I J R T) _
      refine Z_rI rfl (by first | exact am_nw0 _ | exact am_nw01 | rfl | assumption) ?_
      exact H
    · refine Z_jump 3 rfl ?_
      refine Z_bd (fun c32 => ?_) (fun c32 => absurd ((show (40 : Int32) ≤ s by rw [fi_le]; omega)) c32)
      refine Z_jump 1 rfl ?_
      show Zs _ _ (am_P 86).2 (75, [(0, .ref 4), (1, .int (nI i)), (2, .int n), (3, .int b), (4, .int s)], [.int (0 : Int32)]) (HH I J R T) _
      refine Z_rI rfl (by first | exact am_nw0 _ | exact am_nw01 | rfl | assumption) ?_
      exact H
  | m + 1, s, hm, H => by
    have z40 : (40 : Int32).toInt = 40 := rfl
    have hlo := ti_lo s
    have hb0 : ¬ b = 0 := fun z => by rw [z] at hb; exact absurd hb.1 (by decide)
    have e1 : nI i + 1 = nI (i + 1) := nI_1 i
    unfold csl at H
    refine Z_jump 3 rfl ?_
    refine Z_bd (fun (c25 : n < s) => ?_) (fun (c25 : ¬ (n < s)) => ?_)
    · refine Z_jump 1 rfl ?_
      show Zs _ _ (am_P 86).2 (75, [(0, .ref 4), (1, .int (nI i)), (2, .int n), (3, .int b), (4, .int s)], [.int (0 : Int32)]) (HH I J R T) _
      refine Z_rI rfl (by first | exact am_nw0 _ | exact am_nw01 | rfl | assumption) ?_
      rw [if_pos c25] at H
      exact H
    · refine Z_jump 3 rfl ?_
      refine Z_bd (fun (c32 : (40 : Int32) ≤ s) => ?_) (fun (c32 : ¬ ((40 : Int32) ≤ s)) => ?_)
      · refine Z_jump 1 rfl ?_
        show Zs _ _ (am_P 86).2 (75, [(0, .ref 4), (1, .int (nI i)), (2, .int n), (3, .int b), (4, .int s)], [.int (0 : Int32)]) (HH I J R T) _
        refine Z_rI rfl (by first | exact am_nw0 _ | exact am_nw01 | rfl | assumption) ?_
        rw [if_neg c25, if_pos c32] at H
        exact H
      · refine Z_jump 3 rfl ?_
        show Zs _ _ (am_P 86).2 (39, [(0, .ref 4), (1, .int (nI i)), (2, .int n), (3, .int b), (4, .int s)], [.int s, .int (nI i), .ref 4]) (HH I J R T) _
        refine Z_c1 rfl rfl rfl (c_costOf) ?_
        show Zs _ _ (am_P 86).2 (42, [(0, .ref 4), (1, .int (nI i)), (2, .int n), (3, .int b), (4, .int s)], [.int (costF I (nI i) s)]) (HH I J R T) _
        refine Z_jump 2 rfl ?_
        refine Z_bd (fun (c44 : (1048576 : Int32) ≤ (costF I (nI i) s)) => ?_) (fun (c44 : ¬ ((1048576 : Int32) ≤ (costF I (nI i) s))) => ?_)
        · refine Z_jump 5 rfl ?_
          show Zs _ _ (am_P 86).2 (22, [(0, .ref 4), (1, .int (nI i)), (2, .int n), (3, .int b), (4, .int (s + b))], []) (HH I J R T) _
          rw [if_neg c25, if_neg c32, if_pos c44] at H
          rw [fi_le] at c32
          have es : (s + b).toInt = s.toInt + b.toInt := ti_add (by omega) (by omega)
          exact c_csl hi hb m _ (by omega) H
        · refine Z_jump 4 rfl ?_
          show Zs _ _ (am_P 86).2 (51, [(0, .ref 4), (1, .int (nI i)), (2, .int n), (3, .int b), (4, .int s)], [.int ((nI i) + (1 : Int32)), .ref 4]) (HH I J R T) _
          refine Z_eqI (y := (nI (i + 1))) (e1) ?_
          show Zs _ _ (am_P 86).2 (51, [(0, .ref 4), (1, .int (nI i)), (2, .int n), (3, .int b), (4, .int s)], [.int (nI (i + 1)), .ref 4]) (HH I J R T) _
          refine Z_jump 4 rfl ?_
          show Zs _ _ (am_P 86).2 (56, [(0, .ref 4), (1, .int (nI i)), (2, .int n), (3, .int b), (4, .int s)], [.int b, .int (n - s), .int (nI (i + 1)), .ref 4]) (HH I J R T) _
          refine Z_idiv rfl (by exact hb0) ?_
          show Zs _ _ (am_P 86).2 (57, [(0, .ref 4), (1, .int (nI i)), (2, .int n), (3, .int b), (4, .int s)], [.int ((n - s) / b), .int (nI (i + 1)), .ref 4]) (HH I J R T) _
          by_cases b57 : isfP I (i + 1) ((n - s) / b)
          · refine Z_c1 rfl rfl rfl (E_pos (c_isSiftedFrom (by omega)) b57) ?_
            show Zs _ _ (am_P 86).2 (60, [(0, .ref 4), (1, .int (nI i)), (2, .int n), (3, .int b), (4, .int s)], [.int (1 : Int32)]) (HH I J R T) _
            refine Z_jump 2 rfl ?_
            show Zs _ _ (am_P 86).2 (64, [(0, .ref 4), (1, .int (nI i)), (2, .int n), (3, .int b), (4, .int s)], [.int (1 : Int32)]) (HH I J R T) _
            refine Z_rI rfl (by first | exact am_nw0 _ | exact am_nw01 | rfl | assumption) ?_
            rw [if_neg c25, if_neg c32, if_neg c44, if_pos b57] at H
            exact H
          · refine Z_c1 rfl rfl rfl (E_neg (c_isSiftedFrom (by omega)) b57) ?_
            show Zs _ _ (am_P 86).2 (60, [(0, .ref 4), (1, .int (nI i)), (2, .int n), (3, .int b), (4, .int s)], [.int (0 : Int32)]) (HH I J R T) _
            refine Z_jump 6 rfl ?_
            show Zs _ _ (am_P 86).2 (22, [(0, .ref 4), (1, .int (nI i)), (2, .int n), (3, .int b), (4, .int (s + b))], []) (HH I J R T) _
            rw [if_neg c25, if_neg c32, if_neg c44, if_neg b57] at H
            rw [fi_le] at c32
            have es : (s + b).toInt = s.toInt + b.toInt := ti_add (by omega) (by omega)
            exact c_csl hi hb m _ (by omega) H
theorem csl_01 {I : hI} {i : Nat} {n b : Int32} : ∀ (m : Nat) (s : Int32), csl I i n b m s = 0 ∨ csl I i n b m s = 1
  | 0, s => Or.inl rfl
  | m + 1, s => by
    unfold csl
    split
    · exact Or.inl rfl
    · split
      · exact Or.inl rfl
      · split
        · exact csl_01 m _
        · split
          · exact Or.inr rfl
          · exact csl_01 m _
theorem csF_01 {I : hI} {i : Nat} {n : Int32} : csF I i n = 0 ∨ csF I i n = 1 := by
  unfold csF
  split
  · exact csl_01 _ _
  · exact Or.inl rfl
theorem c_canShow {I : hI} {i : Nat} {n : Int32} (hi : i < 6) (hB : BS I) : am_E sc (d + 3) 86 [.ref 4, .int (nI i), .int n] (HH I J R T) (some (.int (csF I i n))) (HH I J R T) := by
  refine E_Z (Ze_of (Nat.le_of_ble_eq_true rfl) ?_)
  have hb := baseF_b (x := nI i) hB
  have hr := ti_rem (x := n) hb.1
  have hr2 := tm_lt (a := n.toInt) hb.1
  unfold csF
  refine Z_jump 3 rfl ?_
  show Zs _ _ (am_P 86).2 (3, [(0, .ref 4), (1, .int (nI i)), (2, .int n)], [.int n, .int (nI i), .ref 4]) (HH I J R T) _
  by_cases b3 : inR I (nI i) n
  · refine Z_c1 rfl rfl rfl (E_pos (c_inReach) b3) ?_
    show Zs _ _ (am_P 86).2 (6, [(0, .ref 4), (1, .int (nI i)), (2, .int n)], [.int (1 : Int32)]) (HH I J R T) _
    refine Z_jump 3 rfl ?_
    show Zs _ _ (am_P 86).2 (13, [(0, .ref 4), (1, .int (nI i)), (2, .int n)], [.int (nI i), .ref 4]) (HH I J R T) _
    refine Z_c1 rfl rfl rfl (c_baseOf) ?_
    show Zs _ _ (am_P 86).2 (16, [(0, .ref 4), (1, .int (nI i)), (2, .int n)], [.int (baseF I (nI i))]) (HH I J R T) _
    refine Z_jump 3 rfl ?_
    show Zs _ _ (am_P 86).2 (19, [(0, .ref 4), (1, .int (nI i)), (2, .int n), (3, .int (baseF I (nI i)))], [.int (baseF I (nI i)), .int n]) (HH I J R T) _
    refine Z_irem rfl (by exact baseF_0) ?_
    refine Z_jump 1 rfl ?_
    show Zs _ _ (am_P 86).2 (22, [(0, .ref 4), (1, .int (nI i)), (2, .int n), (3, .int (baseF I (nI i))), (4, .int (n - n / (baseF I (nI i)) * (baseF I (nI i))))], []) (HH I J R T) _
    rw [if_pos b3]
    exact c_csl hi hb 60 _ (by omega) ⟨rfl, rfl⟩
  · refine Z_c1 rfl rfl rfl (E_neg (c_inReach) b3) ?_
    show Zs _ _ (am_P 86).2 (6, [(0, .ref 4), (1, .int (nI i)), (2, .int n)], [.int (0 : Int32)]) (HH I J R T) _
    refine Z_jump 2 rfl ?_
    show Zs _ _ (am_P 86).2 (10, [(0, .ref 4), (1, .int (nI i)), (2, .int n)], [.int (0 : Int32)]) (HH I J R T) _
    refine Z_rI rfl (by first | exact am_nw0 _ | exact am_nw01 | rfl | assumption) ?_
    rw [if_neg b3]
    exact ⟨rfl, rfl⟩
/-- siftFrom -/
def cnF (I : hI) (i : Nat) (n : Int32) : Int32 := if nI i < I 4 13 then csF I i n else if n = 0 then 1 else 0
def sfl (i : Nat) (fr up : Int32) : Nat → Int32 → hI → hI
  | 0, _, I => I
  | k + 1, n, I => if up < n then I else sfl i fr up k (n + 1) (wI I (svO i) 1024 (n - fr) (cnF I i n))
theorem sv_ne {i c : Nat} (h6 : c ≠ 16) (h7 : c ≠ 17) : c ≠ svO i := by
  unfold svO
  split <;> assumption
theorem sfl_c {i : Nat} {fr up : Int32} {c : Nat} (h6 : c ≠ 16) (h7 : c ≠ 17) : ∀ (k : Nat) (n : Int32) (I : hI), sfl i fr up k n I c = I c
  | 0, n, I => rfl
  | k + 1, n, I => by
    unfold sfl
    split
    · rfl
    · rw [sfl_c h6 h7 k, wI_c (sv_ne h6 h7)]
theorem c_sfl {i nn : Nat} {fr up : Int32} (hi : i ≤ nn) (hn6 : nn ≤ 6) (hu : up.toInt ≤ 2000000000) : ∀ (k : Nat) (n : Int32) (I : hI), up.toInt + 1 - n.toInt ≤ k → I 4 13 = nI nn → BS I → Q none (HH (sfl i fr up k n I) J R T) → Zs sc (d + 3) (am_P 85).2 (38, [(0, .ref 4), (1, .int (nI i)), (2, .ref (svO i)), (3, .int fr), (4, .int up), (5, .int n)], []) (HH I J R T) Q
  | 0, n, I, hk, hn, hB, H => by
    refine Z_jump 3 rfl ?_
    refine Z_bd (fun c42 => ?_) (fun c42 => absurd ((show up < n by rw [fi_lt]; omega)) c42)
    show Zs _ _ (am_P 85).2 (99, [(0, .ref 4), (1, .int (nI i)), (2, .ref (svO i)), (3, .int fr), (4, .int up), (5, .int n)], []) (HH I J R T) _
    refine Z_ret rfl rfl rfl ?_
    exact H
  | k + 1, n, I, hk, hn, hB, H => by
    unfold sfl at H
    have hlo := ti_lo n
    by_cases h1 : up < n
    · rw [if_pos h1] at H
      refine Z_jump 3 rfl ?_
      refine Z_bd (fun c42 => ?_) (fun c42 => absurd (h1) c42)
      show Zs _ _ (am_P 85).2 (99, [(0, .ref 4), (1, .int (nI i)), (2, .ref (svO i)), (3, .int fr), (4, .int up), (5, .int n)], []) (HH I J R T) _
      refine Z_ret rfl rfl rfl ?_
      exact H
    · rw [if_neg h1] at H
      have h1' := h1
      rw [fi_lt] at h1'
      have z1 : (1 : Int32).toInt = 1 := rfl
      have es : (n + 1).toInt = n.toInt + 1 := by rw [ti_add] <;> omega
      have hn' : wI I (svO i) 1024 (n - fr) (cnF I i n) 4 13 = nI nn := by rw [wI_c (sv_ne (by decide) (by decide))]; exact hn
      have hB' : BS (wI I (svO i) 1024 (n - fr) (cnF I i n)) := BS_of hB (wI_c (sv_ne (by decide) (by decide)))
      have K : ∀ (y : Int32), cnF I i n = y → Zs sc (d + 3) (am_P 85).2 (90, [(0, .ref 4), (1, .int (nI i)), (2, .ref (svO i)), (3, .int fr), (4, .int up), (5, .int n), (6, .int y)], [.int y, .int (n - fr), .ref (svO i)]) (HH I J R T) Q := fun y hy => by
        show Zs _ _ (am_P 85).2 (90, [(0, .ref 4), (1, .int (nI i)), (2, .ref (svO i)), (3, .int fr), (4, .int up), (5, .int n), (6, .int y)], [.int y, .int (n - fr), .ref (svO i)]) (HH I J R T) _
        refine Z_c0 rfl rfl rfl ((sv_set (I := I) (i := i) ▸ k_put (a := svO i) (L := 1024) (f := I (svO i)) sv_at (by decide))) ?_
        show Zs _ _ (am_P 85).2 (93, [(0, .ref 4), (1, .int (nI i)), (2, .ref (svO i)), (3, .int fr), (4, .int up), (5, .int n), (6, .int y)], []) (HH (wI I (svO i) 1024 (n - fr) y) J R T) _
        refine Z_jump 2 rfl ?_
        show Zs _ _ (am_P 85).2 (38, [(0, .ref 4), (1, .int (nI i)), (2, .ref (svO i)), (3, .int fr), (4, .int up), (5, .int (n + 1)), (6, .int y)], []) (HH (wI I (svO i) 1024 (n - fr) y) J R T) _
        exact Zs_wk (c_sfl hi hn6 hu k _ _ (by omega) (hy ▸ hn') (hy ▸ hB') (hy ▸ H)) (lnD rfl) (lnD rfl) (by repeat (first | exact trivial | refine ⟨rfl, ?_⟩))
      unfold cnF at K
      by_cases h2 : nI i < I 4 13
      · have hin : i < nn := by
          rw [hn, nI_ltI (by omega) (by omega)] at h2
          exact h2
        rw [if_pos h2] at K
        rcases csF_01 (I := I) (i := i) (n := n) with e | e
        · refine Z_jump 3 rfl ?_
          refine Z_bd (fun c42 => absurd c42 (h1)) (fun c42 => ?_)
          refine Z_jump 4 rfl ?_
          refine Z_bd (fun c50 => ?_) (fun c50 => absurd (h2) c50)
          refine Z_jump 3 rfl ?_
          show Zs _ _ (am_P 85).2 (70, [(0, .ref 4), (1, .int (nI i)), (2, .ref (svO i)), (3, .int fr), (4, .int up), (5, .int n)], [.int n, .int (nI i), .ref 4]) (HH I J R T) _
          refine Z_c1 rfl rfl rfl ((e ▸ c_canShow (by omega) hB)) ?_
          show Zs _ _ (am_P 85).2 (73, [(0, .ref 4), (1, .int (nI i)), (2, .ref (svO i)), (3, .int fr), (4, .int up), (5, .int n)], [.int (0 : Int32)]) (HH I J R T) _
          refine Z_jump 8 rfl ?_
          show Zs _ _ (am_P 85).2 (90, [(0, .ref 4), (1, .int (nI i)), (2, .ref (svO i)), (3, .int fr), (4, .int up), (5, .int n), (6, .int (0 : Int32))], [.int (0 : Int32), .int (n - fr), .ref (svO i)]) (HH I J R T) _
          exact K 0 e
        · refine Z_jump 3 rfl ?_
          refine Z_bd (fun c42 => absurd c42 (h1)) (fun c42 => ?_)
          refine Z_jump 4 rfl ?_
          refine Z_bd (fun c50 => ?_) (fun c50 => absurd (h2) c50)
          refine Z_jump 3 rfl ?_
          show Zs _ _ (am_P 85).2 (70, [(0, .ref 4), (1, .int (nI i)), (2, .ref (svO i)), (3, .int fr), (4, .int up), (5, .int n)], [.int n, .int (nI i), .ref 4]) (HH I J R T) _
          refine Z_c1 rfl rfl rfl ((e ▸ c_canShow (by omega) hB)) ?_
          show Zs _ _ (am_P 85).2 (73, [(0, .ref 4), (1, .int (nI i)), (2, .ref (svO i)), (3, .int fr), (4, .int up), (5, .int n)], [.int (1 : Int32)]) (HH I J R T) _
          refine Z_jump 9 rfl ?_
          show Zs _ _ (am_P 85).2 (90, [(0, .ref 4), (1, .int (nI i)), (2, .ref (svO i)), (3, .int fr), (4, .int up), (5, .int n), (6, .int (1 : Int32))], [.int (1 : Int32), .int (n - fr), .ref (svO i)]) (HH I J R T) _
          exact K 1 e
      · rw [if_neg h2] at K
        refine Z_jump 3 rfl ?_
        refine Z_bd (fun c42 => absurd c42 (h1)) (fun c42 => ?_)
        refine Z_jump 4 rfl ?_
        refine Z_bd (fun c50 => absurd c50 (h2)) (fun c50 => ?_)
        refine Z_jump 2 rfl ?_
        refine Z_bn (fun (c55 : ¬ (n = (0 : Int32))) => ?_) (fun (c55 : n = (0 : Int32)) => ?_)
        · refine Z_jump 10 rfl ?_
          show Zs _ _ (am_P 85).2 (90, [(0, .ref 4), (1, .int (nI i)), (2, .ref (svO i)), (3, .int fr), (4, .int up), (5, .int n), (6, .int (0 : Int32))], [.int (0 : Int32), .int (n - fr), .ref (svO i)]) (HH I J R T) _
          exact K _ (by rw [if_neg c55])
        · refine Z_jump 11 rfl ?_
          show Zs _ _ (am_P 85).2 (90, [(0, .ref 4), (1, .int (nI i)), (2, .ref (svO i)), (3, .int fr), (4, .int up), (5, .int n), (6, .int (1 : Int32))], [.int (1 : Int32), .int (n - fr), .ref (svO i)]) (HH I J R T) _
          exact K _ (by rw [if_pos c55])
def upF (I : hI) (i : Nat) : Int32 := if am_rd 7 (I 14) (nI i) + 1024 - 1 < am_rd 7 (I 15) (nI i) then am_rd 7 (I 14) (nI i) + 1024 - 1 else am_rd 7 (I 15) (nI i)
def sifF (I : hI) (i : Nat) : hI := sfl i (am_rd 7 (I 14) (nI i)) (upF I i) 1024 (am_rd 7 (I 14) (nI i)) I
theorem sifF_c {I : hI} {i c : Nat} (h6 : c ≠ 16) (h7 : c ≠ 17) : sifF I i c = I c := sfl_c h6 h7 _ _ _
/-- the bounds of the sieve are no giants -/
def SG (I : hI) : Prop := ∀ j, j < 7 → 0 ≤ (I 14 j).toInt ∧ (I 14 j).toInt ≤ 1500000000
theorem rd_7 {f : Nat → Int32} {i : Nat} (hi : i < 7) : am_rd 7 f (nI i) = f i := am_rdK rfl hi (by decide)
theorem c_siftFrom {I : hI} {i nn : Nat} (hi : i ≤ nn) (hn6 : nn ≤ 6) (hn : I 4 13 = nI nn) (hB : BS I) (hS : SG I) : am_E sc (d + 4) 85 [.ref 4, .int (nI i)] (HH I J R T) none (HH (sifF I i) J R T) := by
  refine E_Z (Ze_of (Nat.le_of_ble_eq_true rfl) ?_)
  have hg := hS i (by omega)
  have hfr : am_rd 7 (I 14) (nI i) = I 14 i := rd_7 (by omega)
  have z1 : (1 : Int32).toInt = 1 := rfl
  have z1024 : (1024 : Int32).toInt = 1024 := rfl
  have e1 : (am_rd 7 (I 14) (nI i) + 1024).toInt = (I 14 i).toInt + 1024 := by rw [hfr, ti_add] <;> omega
  have e2 : (am_rd 7 (I 14) (nI i) + 1024 - 1).toInt = (I 14 i).toInt + 1023 := by rw [ti_sub] <;> omega
  have hu : (upF I i).toInt ≤ (I 14 i).toInt + 1023 := by
    unfold upF
    split
    · omega
    · rename_i h
      rw [fi_lt] at h
      omega
  refine Z_jump 2 rfl ?_
  show Zs _ _ (am_P 85).2 (2, [(0, .ref 4), (1, .int (nI i))], [.int (nI i), .ref 4]) (HH I J R T) _
  refine Z_c1 rfl rfl rfl (c_sieveOf (by omega)) ?_
  show Zs _ _ (am_P 85).2 (5, [(0, .ref 4), (1, .int (nI i))], [.ref (svO i)]) (HH I J R T) _
  refine Z_jump 4 rfl ?_
  show Zs _ _ (am_P 85).2 (11, [(0, .ref 4), (1, .int (nI i)), (2, .ref (svO i))], [.int (nI i), .ref 14]) (HH I J R T) _
  refine Z_c1 rfl rfl rfl (k_at (a := 14) (L := 7) (f := I 14) rfl (by decide)) ?_
  show Zs _ _ (am_P 85).2 (14, [(0, .ref 4), (1, .int (nI i)), (2, .ref (svO i))], [.int (am_rd 7 (I 14) (nI i))]) (HH I J R T) _
  refine Z_jump 4 rfl ?_
  show Zs _ _ (am_P 85).2 (20, [(0, .ref 4), (1, .int (nI i)), (2, .ref (svO i)), (3, .int (am_rd 7 (I 14) (nI i)))], [.int (nI i), .ref 15]) (HH I J R T) _
  refine Z_c1 rfl rfl rfl (k_at (a := 15) (L := 7) (f := I 15) rfl (by decide)) ?_
  show Zs _ _ (am_P 85).2 (23, [(0, .ref 4), (1, .int (nI i)), (2, .ref (svO i)), (3, .int (am_rd 7 (I 14) (nI i)))], [.int (am_rd 7 (I 15) (nI i))]) (HH I J R T) _
  refine Z_jump 6 rfl ?_
  show Zs _ _ (am_P 85).2 (33, [(0, .ref 4), (1, .int (nI i)), (2, .ref (svO i)), (3, .int (am_rd 7 (I 14) (nI i)))], [.int (if (((am_rd 7 (I 14) (nI i)) + (1024 : Int32)) - (1 : Int32)) < (am_rd 7 (I 15) (nI i)) then (((am_rd 7 (I 14) (nI i)) + (1024 : Int32)) - (1 : Int32)) else (am_rd 7 (I 15) (nI i)))]) (HH I J R T) _
  refine Z_eqI (y := (upF I i)) (rfl) ?_
  show Zs _ _ (am_P 85).2 (33, [(0, .ref 4), (1, .int (nI i)), (2, .ref (svO i)), (3, .int (am_rd 7 (I 14) (nI i)))], [.int (upF I i)]) (HH I J R T) _
  refine Z_jump 3 rfl ?_
  show Zs _ _ (am_P 85).2 (38, [(0, .ref 4), (1, .int (nI i)), (2, .ref (svO i)), (3, .int (am_rd 7 (I 14) (nI i))), (4, .int (upF I i)), (5, .int (am_rd 7 (I 14) (nI i)))], []) (HH I J R T) _
  exact c_sfl hi hn6 (by omega) 1024 _ _ (by rw [hfr]; omega) hn hB ⟨rfl, rfl⟩
end WY8

