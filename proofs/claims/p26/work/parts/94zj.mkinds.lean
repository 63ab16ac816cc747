/-! The reference: tour, least, kinds. -/
section MLB
variable {sc : Nat × (Nat → Int32)} {d : Nat} {R : hR} {T : am_H} {Q : Option Value → am_H → Prop}
def tourM (I : hI) (J : hJ) (D : FD) (a b c w : Int32) : Option (Option (Int32 × Int32)) × hI × hJ :=
  if M_mil a then (if M_mil b then (if M_mil c then (if 0 ≤ w.toInt ∧ w.toInt ≤ 1 then (some (tm0 D a b c I J 1000000000 (-1)).1, (tm0 D a b c I J 1000000000 (-1)).2) else (none, I, J)) else (none, I, J)) else (none, I, J)) else (none, I, J)
theorem m_tour {I : hI} {J : hJ} {D : FD} {a b c w : Int32} (hD : DMf D I) : am_E sc (d + 8) 220 [.ref 73, .int a, .int b, .int c, .int w] (HH I J R T) (some (.int (match (tourM I J D a b c w).1 with
    | none => -3
    | some none => -1
    | some (some p) => if w = 0 then p.1 else p.2))) (HH (tourM I J D a b c w).2.1 (tourM I J D a b c w).2.2 R T) := by
  refine E_Z (Ze_of (Nat.le_of_ble_eq_true rfl) ?_)
  unfold tourM
  refine Z_jump 4 rfl ?_
  show Zs _ _ (am_P 220).2 (6, [(0, .ref 73), (1, .int a), (2, .int b), (3, .int c), (4, .int w)], [.long (1000000 : Int64), .long (0 : Int64), .long (Int32.toInt64 a)]) (HH I J R T) _
  by_cases b6 : M_mil a
  · refine Z_c1 rfl rfl rfl (E_pos (m_inI (a := 0) (b := 1000000) rfl rfl) b6) ?_
    show Zs _ _ (am_P 220).2 (9, [(0, .ref 73), (1, .int a), (2, .int b), (3, .int c), (4, .int w)], [.int (1 : Int32)]) (HH I J R T) _
    refine Z_jump 5 rfl ?_
    show Zs _ _ (am_P 220).2 (18, [(0, .ref 73), (1, .int a), (2, .int b), (3, .int c), (4, .int w)], [.long (1000000 : Int64), .long (0 : Int64), .long (Int32.toInt64 b)]) (HH I J R T) _
    by_cases b18 : M_mil b
    · refine Z_c1 rfl rfl rfl (E_pos (m_inI (a := 0) (b := 1000000) rfl rfl) b18) ?_
      show Zs _ _ (am_P 220).2 (21, [(0, .ref 73), (1, .int a), (2, .int b), (3, .int c), (4, .int w)], [.int (1 : Int32)]) (HH I J R T) _
      refine Z_jump 5 rfl ?_
      show Zs _ _ (am_P 220).2 (30, [(0, .ref 73), (1, .int a), (2, .int b), (3, .int c), (4, .int w)], [.long (1000000 : Int64), .long (0 : Int64), .long (Int32.toInt64 c)]) (HH I J R T) _
      by_cases b30 : M_mil c
      · refine Z_c1 rfl rfl rfl (E_pos (m_inI (a := 0) (b := 1000000) rfl rfl) b30) ?_
        show Zs _ _ (am_P 220).2 (33, [(0, .ref 73), (1, .int a), (2, .int b), (3, .int c), (4, .int w)], [.int (1 : Int32)]) (HH I J R T) _
        refine Z_jump 5 rfl ?_
        show Zs _ _ (am_P 220).2 (41, [(0, .ref 73), (1, .int a), (2, .int b), (3, .int c), (4, .int w)], [.long (1 : Int64), .long (0 : Int64), .long (Int32.toInt64 w)]) (HH I J R T) _
        by_cases b41 : 0 ≤ w.toInt ∧ w.toInt ≤ 1
        · refine Z_c1 rfl rfl rfl (E_pos (m_inI (a := 0) (b := 1) rfl rfl) b41) ?_
          show Zs _ _ (am_P 220).2 (44, [(0, .ref 73), (1, .int a), (2, .int b), (3, .int c), (4, .int w)], [.int (1 : Int32)]) (HH I J R T) _
          refine Z_jump 7 rfl ?_
          show Zs _ _ (am_P 220).2 (60, [(0, .ref 73), (1, .int a), (2, .int b), (3, .int c), (4, .int w), (5, .int (-1 : Int32)), (6, .int (1000000000 : Int32)), (7, .int (0 : Int32))], []) (HH I J R T) _
          rw [if_pos b6, if_pos b18, if_pos b30, if_pos b41]
          refine m_tm0 hD ?_
          unfold trQ
          generalize tm0 D a b c I J 1000000000 (-1) = x
          obtain ⟨x1, x2, x3⟩ := x
          cases x1 with
          | none => exact ⟨rfl, rfl⟩
          | some p => exact ⟨rfl, rfl⟩
        · refine Z_c1 rfl rfl rfl (E_neg (m_inI (a := 0) (b := 1) rfl rfl) b41) ?_
          show Zs _ _ (am_P 220).2 (44, [(0, .ref 73), (1, .int a), (2, .int b), (3, .int c), (4, .int w)], [.int (0 : Int32)]) (HH I J R T) _
          refine Z_jump 2 rfl ?_
          show Zs _ _ (am_P 220).2 (49, [(0, .ref 73), (1, .int a), (2, .int b), (3, .int c), (4, .int w)], [.int (-3 : Int32)]) (HH I J R T) _
          refine Z_rI rfl (by first | exact am_nw0 _ | exact am_nw01 | rfl | assumption) ?_
          rw [if_pos b6, if_pos b18, if_pos b30, if_neg b41]
          exact ⟨rfl, rfl⟩
      · refine Z_c1 rfl rfl rfl (E_neg (m_inI (a := 0) (b := 1000000) rfl rfl) b30) ?_
        show Zs _ _ (am_P 220).2 (33, [(0, .ref 73), (1, .int a), (2, .int b), (3, .int c), (4, .int w)], [.int (0 : Int32)]) (HH I J R T) _
        refine Z_jump 2 rfl ?_
        show Zs _ _ (am_P 220).2 (49, [(0, .ref 73), (1, .int a), (2, .int b), (3, .int c), (4, .int w)], [.int (-3 : Int32)]) (HH I J R T) _
        refine Z_rI rfl (by first | exact am_nw0 _ | exact am_nw01 | rfl | assumption) ?_
        rw [if_pos b6, if_pos b18, if_neg b30]
        exact ⟨rfl, rfl⟩
    · refine Z_c1 rfl rfl rfl (E_neg (m_inI (a := 0) (b := 1000000) rfl rfl) b18) ?_
      show Zs _ _ (am_P 220).2 (21, [(0, .ref 73), (1, .int a), (2, .int b), (3, .int c), (4, .int w)], [.int (0 : Int32)]) (HH I J R T) _
      refine Z_jump 2 rfl ?_
      show Zs _ _ (am_P 220).2 (49, [(0, .ref 73), (1, .int a), (2, .int b), (3, .int c), (4, .int w)], [.int (-3 : Int32)]) (HH I J R T) _
      refine Z_rI rfl (by first | exact am_nw0 _ | exact am_nw01 | rfl | assumption) ?_
      rw [if_pos b6, if_neg b18]
      exact ⟨rfl, rfl⟩
  · refine Z_c1 rfl rfl rfl (E_neg (m_inI (a := 0) (b := 1000000) rfl rfl) b6) ?_
    show Zs _ _ (am_P 220).2 (9, [(0, .ref 73), (1, .int a), (2, .int b), (3, .int c), (4, .int w)], [.int (0 : Int32)]) (HH I J R T) _
    refine Z_jump 2 rfl ?_
    show Zs _ _ (am_P 220).2 (49, [(0, .ref 73), (1, .int a), (2, .int b), (3, .int c), (4, .int w)], [.int (-3 : Int32)]) (HH I J R T) _
    refine Z_rI rfl (by first | exact am_nw0 _ | exact am_nw01 | rfl | assumption) ?_
    rw [if_neg b6]
    exact ⟨rfl, rfl⟩
def mls (q : RD4) (v : Int32) : Nat → Nat → Int32 → Int32
  | 0, _, s => s
  | k + 1, i, s => mls q v k (i + 1) (if 0 ≤ (ltl q v i).toInt ∧ (ltl q v i).toInt ≤ (q.2.2.1 : Int) then (if s ≤ ltt q v i then s else ltt q v i) else (if s ≤ 1000000000 then s else 1000000000))
theorem wbD {I : hI} {D : FD} {r kd : Nat} {x : Int32} (hD : DMf D I) (hr : r < D.1) (hx : x = nI kd) (hk : kd ≤ 3) (g : Nat) : M_wb I x (nI r) = nI (hwv (kd, (D.2.1 r).2.1, (D.2.1 r).2.2.1, g)) := by
  have h6 := hD.2.1
  have hq := hD.2.2.2 r hr
  have e3 : I 76 r = nI (D.2.1 r).2.2.1 := hq.2.2.2.1
  subst hx
  rcases kd_c hk with rfl | rfl | rfl | rfl
  · rfl
  · rfl
  · rfl
  · unfold M_wb
    rw [if_neg (by decide), if_pos (show nI 3 = 3 from rfl), nI_clamp (by omega), e3]
    exact nI_1 _
theorem m_mls0 {I : hI} {J : hJ} {D : FD} {r : Nat} {v : Int32} (hD : DMf D I) (hr : r < D.1) : ∀ (k i : Nat) (x s : Int32), i + k = 0 + 1 → x = nI i → Q (some (.int (mls (0, (D.2.1 r).2.1, (D.2.1 r).2.2.1, 0) v k i s))) (HH I J R T) → Zs sc (d + 1) (am_P 223).2 (7, [(0, .ref 73), (1, .int 0), (2, .int (nI r)), (3, .int v), (4, .int s), (5, .int x)], []) (HH I J R T) Q
  | 0, i, x, s, hi, hx, H => by
    have h6 := hD.2.1
    have hq := hD.2.2.2 r hr
    have h3 := hq.1.2.2.2.1
    have e4 : I 77 r = nI (D.2.1 r).2.2.2 := hq.2.2.2.2
    refine Z_jump 6 rfl ?_
    refine Z_bd (fun c23 => ?_) (fun c23 => absurd ((show 0 < x by rw [hx]; exact nI_lt (a := 0) (by omega) (by omega))) c23)
    refine Z_jump 1 rfl ?_
    show Zs _ _ (am_P 223).2 (104, [(0, .ref 73), (1, .int (0 : Int32)), (2, .int (nI r)), (3, .int v), (4, .int s), (5, .int x)], [.int s]) (HH I J R T) _
    refine Z_rI rfl (by first | exact am_nw0 _ | exact am_nw01 | rfl | assumption) ?_
    exact H
  | k + 1, i, x, s, hi, hx, H => by
    have h6 := hD.2.1
    have hq := hD.2.2.2 r hr
    have h3 := hq.1.2.2.2.1
    have h9 := hq.1.2.2.1.2
    have e4 : I 77 r = nI (D.2.1 r).2.2.2 := hq.2.2.2.2
    have e3 : (Int32.toInt64 (I 76 r)).toInt = ((D.2.1 r).2.2.1 : Int) := by rw [i64, show I 76 r = nI (D.2.1 r).2.2.1 from hq.2.2.2.1, nI_toInt (by omega)]
    have ew := wbD (x := 0) hD hr (kd := 0) rfl (by omega) 0
    have ex : x + 1 = nI (i + 1) := by rw [hx]; exact nI_1 i
    have k23 : ¬ 0 < x := by rw [hx, show (0 : Int32) = nI 0 from rfl, nI_ltI (by omega) (by omega)]; omega
    subst hx
    unfold mls at H
    have W : ∀ (z : Int32) (y : Int32), (if 0 ≤ (ltl (0, (D.2.1 r).2.1, (D.2.1 r).2.2.1, 0) v i).toInt ∧ (ltl (0, (D.2.1 r).2.1, (D.2.1 r).2.2.1, 0) v i).toInt ≤ ((D.2.1 r).2.2.1 : Int) then ltt (0, (D.2.1 r).2.1, (D.2.1 r).2.2.1, 0) v i else 1000000000) = y → Zs sc (d + 1) (am_P 223).2 (80, [(0, .ref 73), (1, .int 0), (2, .int (nI r)), (3, .int v), (4, .int s), (5, .int (nI i)), (6, .int z), (7, .int y)], []) (HH I J R T) Q := fun z y hy => by
      have H' : Q (some (.int (mls (0, (D.2.1 r).2.1, (D.2.1 r).2.2.1, 0) v k (i + 1) (if s ≤ y then s else y)))) (HH I J R T) := by
        by_cases hp : 0 ≤ (ltl (0, (D.2.1 r).2.1, (D.2.1 r).2.2.1, 0) v i).toInt ∧ (ltl (0, (D.2.1 r).2.1, (D.2.1 r).2.2.1, 0) v i).toInt ≤ ((D.2.1 r).2.2.1 : Int)
        · rw [if_pos hp] at hy H
          rw [hy] at H
          exact H
        · rw [if_neg hp] at hy H
          rw [← hy]
          exact H
      refine Z_jump 3 rfl ?_
      refine Z_bd (fun (c84 : s ≤ y) => ?_) (fun (c84 : ¬ (s ≤ y)) => ?_)
      · refine Z_jump 4 rfl ?_
        show Zs _ _ (am_P 223).2 (7, [(0, .ref 73), (1, .int (0 : Int32)), (2, .int (nI r)), (3, .int v), (4, .int s), (5, .int ((nI i) + 1)), (6, .int z), (7, .int y)], []) (HH I J R T) _
        rw [if_pos c84] at H'
        exact Zs_wk (m_mls0 hD hr k (i + 1) _ _ (by omega) ex H') (lnD rfl) (lnD rfl) (by repeat (first | exact trivial | refine ⟨rfl, ?_⟩))
      · refine Z_jump 5 rfl ?_
        show Zs _ _ (am_P 223).2 (7, [(0, .ref 73), (1, .int (0 : Int32)), (2, .int (nI r)), (3, .int v), (4, .int y), (5, .int ((nI i) + 1)), (6, .int z), (7, .int y)], []) (HH I J R T) _
        rw [if_neg c84] at H'
        exact Zs_wk (m_mls0 hD hr k (i + 1) _ _ (by omega) ex H') (lnD rfl) (lnD rfl) (by repeat (first | exact trivial | refine ⟨rfl, ?_⟩))
    refine Z_jump 6 rfl ?_
    refine Z_bd (fun c23 => absurd c23 (k23)) (fun c23 => ?_)
    refine Z_jump 5 rfl ?_
    show Zs _ _ (am_P 223).2 (32, [(0, .ref 73), (1, .int (0 : Int32)), (2, .int (nI r)), (3, .int v), (4, .int s), (5, .int (nI i))], [.int (nI r), .int (0 : Int32), .ref 73, .int (nI i), .int v]) (HH I J R T) _
    refine Z_c1 rfl rfl rfl (m_worthBy (vp_in_nI (by omega) (by omega))) ?_
    show Zs _ _ (am_P 223).2 (35, [(0, .ref 73), (1, .int (0 : Int32)), (2, .int (nI r)), (3, .int v), (4, .int s), (5, .int (nI i))], [.int (M_wb I 0 (nI r)), .int (nI i), .int v]) (HH I J R T) _
    show Zs _ _ (am_P 223).2 (35, [(0, .ref 73), (1, .int (0 : Int32)), (2, .int (nI r)), (3, .int v), (4, .int s), (5, .int (nI i))], [.int (M_wb I 0 (nI r)), .int (nI i), .int v]) (HH I J R T) _
    refine Z_eqI (y := (nI (hwv (0, (D.2.1 r).2.1, (D.2.1 r).2.2.1, 0)))) (ew) ?_
    show Zs _ _ (am_P 223).2 (35, [(0, .ref 73), (1, .int (0 : Int32)), (2, .int (nI r)), (3, .int v), (4, .int s), (5, .int (nI i))], [.int (nI (hwv (0, (D.2.1 r).2.1, (D.2.1 r).2.2.1, 0))), .int (nI i), .int v]) (HH I J R T) _
    refine Z_jump 2 rfl ?_
    show Zs _ _ (am_P 223).2 (37, [(0, .ref 73), (1, .int (0 : Int32)), (2, .int (nI r)), (3, .int v), (4, .int s), (5, .int (nI i))], [.int (v - ((nI i) * (nI (hwv (0, (D.2.1 r).2.1, (D.2.1 r).2.2.1, 0)))))]) (HH I J R T) _
    refine Z_eqI (y := (ltl (0, (D.2.1 r).2.1, (D.2.1 r).2.2.1, 0) v i)) (rfl) ?_
    show Zs _ _ (am_P 223).2 (37, [(0, .ref 73), (1, .int (0 : Int32)), (2, .int (nI r)), (3, .int v), (4, .int s), (5, .int (nI i))], [.int (ltl (0, (D.2.1 r).2.1, (D.2.1 r).2.2.1, 0) v i)]) (HH I J R T) _
    refine Z_jump 7 rfl ?_
    show Zs _ _ (am_P 223).2 (48, [(0, .ref 73), (1, .int (0 : Int32)), (2, .int (nI r)), (3, .int v), (4, .int s), (5, .int (nI i)), (6, .int (ltl (0, (D.2.1 r).2.1, (D.2.1 r).2.2.1, 0) v i))], [.int (nI r), .ref 76, .long (0 : Int64), .long (Int32.toInt64 (ltl (0, (D.2.1 r).2.1, (D.2.1 r).2.2.1, 0) v i))]) (HH I J R T) _
    refine Z_ialK (r) rfl rfl (rfl) (by omega) (by decide) ?_
    show Zs _ _ (am_P 223).2 (49, [(0, .ref 73), (1, .int (0 : Int32)), (2, .int (nI r)), (3, .int v), (4, .int s), (5, .int (nI i)), (6, .int (ltl (0, (D.2.1 r).2.1, (D.2.1 r).2.2.1, 0) v i))], [.int (I 76 r), .long (0 : Int64), .long (Int32.toInt64 (ltl (0, (D.2.1 r).2.1, (D.2.1 r).2.2.1, 0) v i))]) (HH I J R T) _
    refine Z_jump 1 rfl ?_
    show Zs _ _ (am_P 223).2 (50, [(0, .ref 73), (1, .int (0 : Int32)), (2, .int (nI r)), (3, .int v), (4, .int s), (5, .int (nI i)), (6, .int (ltl (0, (D.2.1 r).2.1, (D.2.1 r).2.2.1, 0) v i))], [.long (Int32.toInt64 (I 76 r)), .long (0 : Int64), .long (Int32.toInt64 (ltl (0, (D.2.1 r).2.1, (D.2.1 r).2.2.1, 0) v i))]) (HH I J R T) _
    by_cases b50 : 0 ≤ (ltl (0, (D.2.1 r).2.1, (D.2.1 r).2.2.1, 0) v i).toInt ∧ (ltl (0, (D.2.1 r).2.1, (D.2.1 r).2.2.1, 0) v i).toInt ≤ ((D.2.1 r).2.2.1 : Int)
    · refine Z_c1 rfl rfl rfl (E_pos (m_inI (a := 0) (b := ((D.2.1 r).2.2.1 : Int)) rfl e3) b50) ?_
      show Zs _ _ (am_P 223).2 (53, [(0, .ref 73), (1, .int (0 : Int32)), (2, .int (nI r)), (3, .int v), (4, .int s), (5, .int (nI i)), (6, .int (ltl (0, (D.2.1 r).2.1, (D.2.1 r).2.2.1, 0) v i))], [.int (1 : Int32)]) (HH I J R T) _
      refine Z_jump 4 rfl ?_
      show Zs _ _ (am_P 223).2 (60, [(0, .ref 73), (1, .int (0 : Int32)), (2, .int (nI r)), (3, .int v), (4, .int s), (5, .int (nI i)), (6, .int (ltl (0, (D.2.1 r).2.1, (D.2.1 r).2.2.1, 0) v i))], [.int (0 : Int32), .int (0 : Int32), .int (ltl (0, (D.2.1 r).2.1, (D.2.1 r).2.2.1, 0) v i)]) (HH I J R T) _
      refine Z_c1 rfl rfl rfl (m_takes) ?_
      show Zs _ _ (am_P 223).2 (63, [(0, .ref 73), (1, .int (0 : Int32)), (2, .int (nI r)), (3, .int v), (4, .int s), (5, .int (nI i)), (6, .int (ltl (0, (D.2.1 r).2.1, (D.2.1 r).2.2.1, 0) v i))], [.int (nI (ltv (0, (D.2.1 r).2.1, (D.2.1 r).2.2.1, 0))), .int (ltl (0, (D.2.1 r).2.1, (D.2.1 r).2.2.1, 0) v i)]) (HH I J R T) _
      refine Z_jump 4 rfl ?_
      show Zs _ _ (am_P 223).2 (68, [(0, .ref 73), (1, .int (0 : Int32)), (2, .int (nI r)), (3, .int v), (4, .int s), (5, .int (nI i)), (6, .int (ltl (0, (D.2.1 r).2.1, (D.2.1 r).2.2.1, 0) v i))], [.int (1 : Int32), .int (0 : Int32), .int (nI i), .int ((ltl (0, (D.2.1 r).2.1, (D.2.1 r).2.2.1, 0) v i) * (nI (ltv (0, (D.2.1 r).2.1, (D.2.1 r).2.2.1, 0))))]) (HH I J R T) _
      refine Z_c1 rfl rfl rfl (m_takes) ?_
      show Zs _ _ (am_P 223).2 (71, [(0, .ref 73), (1, .int (0 : Int32)), (2, .int (nI r)), (3, .int v), (4, .int s), (5, .int (nI i)), (6, .int (ltl (0, (D.2.1 r).2.1, (D.2.1 r).2.2.1, 0) v i))], [.int (nI (htv (0, (D.2.1 r).2.1, (D.2.1 r).2.2.1, 0))), .int (nI i), .int ((ltl (0, (D.2.1 r).2.1, (D.2.1 r).2.2.1, 0) v i) * (nI (ltv (0, (D.2.1 r).2.1, (D.2.1 r).2.2.1, 0))))]) (HH I J R T) _
      refine Z_jump 2 rfl ?_
      show Zs _ _ (am_P 223).2 (73, [(0, .ref 73), (1, .int (0 : Int32)), (2, .int (nI r)), (3, .int v), (4, .int s), (5, .int (nI i)), (6, .int (ltl (0, (D.2.1 r).2.1, (D.2.1 r).2.2.1, 0) v i))], [.int (((ltl (0, (D.2.1 r).2.1, (D.2.1 r).2.2.1, 0) v i) * (nI (ltv (0, (D.2.1 r).2.1, (D.2.1 r).2.2.1, 0)))) + ((nI i) * (nI (htv (0, (D.2.1 r).2.1, (D.2.1 r).2.2.1, 0)))))]) (HH I J R T) _
      refine Z_eqI (y := (ltt (0, (D.2.1 r).2.1, (D.2.1 r).2.2.1, 0) v i)) (rfl) ?_
      show Zs _ _ (am_P 223).2 (73, [(0, .ref 73), (1, .int (0 : Int32)), (2, .int (nI r)), (3, .int v), (4, .int s), (5, .int (nI i)), (6, .int (ltl (0, (D.2.1 r).2.1, (D.2.1 r).2.2.1, 0) v i))], [.int (ltt (0, (D.2.1 r).2.1, (D.2.1 r).2.2.1, 0) v i)]) (HH I J R T) _
      refine Z_jump 2 rfl ?_
      show Zs _ _ (am_P 223).2 (80, [(0, .ref 73), (1, .int (0 : Int32)), (2, .int (nI r)), (3, .int v), (4, .int s), (5, .int (nI i)), (6, .int (ltl (0, (D.2.1 r).2.1, (D.2.1 r).2.2.1, 0) v i)), (7, .int (ltt (0, (D.2.1 r).2.1, (D.2.1 r).2.2.1, 0) v i))], []) (HH I J R T) _
      exact W _ _ (by rw [if_pos b50])
    · refine Z_c1 rfl rfl rfl (E_neg (m_inI (a := 0) (b := ((D.2.1 r).2.2.1 : Int)) rfl e3) b50) ?_
      show Zs _ _ (am_P 223).2 (53, [(0, .ref 73), (1, .int (0 : Int32)), (2, .int (nI r)), (3, .int v), (4, .int s), (5, .int (nI i)), (6, .int (ltl (0, (D.2.1 r).2.1, (D.2.1 r).2.2.1, 0) v i))], [.int (0 : Int32)]) (HH I J R T) _
      refine Z_jump 3 rfl ?_
      show Zs _ _ (am_P 223).2 (80, [(0, .ref 73), (1, .int (0 : Int32)), (2, .int (nI r)), (3, .int v), (4, .int s), (5, .int (nI i)), (6, .int (ltl (0, (D.2.1 r).2.1, (D.2.1 r).2.2.1, 0) v i)), (7, .int (1000000000 : Int32))], []) (HH I J R T) _
      exact W _ _ (by rw [if_neg b50])
theorem m_least0 {I : hI} {J : hJ} {D : FD} {r : Nat} {v : Int32} (hD : DMf D I) (hr : r < D.1) : am_E sc (d + 2) 223 [.ref 73, .int 0, .int (nI r), .int v] (HH I J R T) (some (.int (mls (0, (D.2.1 r).2.1, (D.2.1 r).2.2.1, 0) v (0 + 1) 0 1000000000))) (HH I J R T) := by
  refine E_Z (Ze_of (Nat.le_of_ble_eq_true rfl) ?_)
  refine Z_jump 4 rfl ?_
  show Zs _ _ (am_P 223).2 (7, [(0, .ref 73), (1, .int (0 : Int32)), (2, .int (nI r)), (3, .int v), (4, .int (1000000000 : Int32)), (5, .int (0 : Int32))], []) (HH I J R T) _
  exact m_mls0 hD hr (0 + 1) 0 _ _ (by omega) rfl ⟨rfl, rfl⟩
theorem m_mls1 {I : hI} {J : hJ} {D : FD} {r : Nat} {v : Int32} (hD : DMf D I) (hr : r < D.1) : ∀ (k i : Nat) (x s : Int32), i + k = (D.2.1 r).2.2.2 + 1 → x = nI i → Q (some (.int (mls (1, (D.2.1 r).2.1, (D.2.1 r).2.2.1, (D.2.1 r).2.2.2) v k i s))) (HH I J R T) → Zs sc (d + 1) (am_P 223).2 (7, [(0, .ref 73), (1, .int 1), (2, .int (nI r)), (3, .int v), (4, .int s), (5, .int x)], []) (HH I J R T) Q
  | 0, i, x, s, hi, hx, H => by
    have h6 := hD.2.1
    have hq := hD.2.2.2 r hr
    have h3 := hq.1.2.2.2.1
    have e4 : I 77 r = nI (D.2.1 r).2.2.2 := hq.2.2.2.2
    refine Z_jump 6 rfl ?_
    show Zs _ _ (am_P 223).2 (22, [(0, .ref 73), (1, .int (1 : Int32)), (2, .int (nI r)), (3, .int v), (4, .int s), (5, .int x)], [.int (nI r), .ref 77, .int x]) (HH I J R T) _
    refine Z_ialK (r) rfl rfl (rfl) (by omega) (by decide) ?_
    show Zs _ _ (am_P 223).2 (23, [(0, .ref 73), (1, .int (1 : Int32)), (2, .int (nI r)), (3, .int v), (4, .int s), (5, .int x)], [.int (I 77 r), .int x]) (HH I J R T) _
    show Zs _ _ (am_P 223).2 (23, [(0, .ref 73), (1, .int (1 : Int32)), (2, .int (nI r)), (3, .int v), (4, .int s), (5, .int x)], [.int (I 77 r), .int x]) (HH I J R T) _
    refine Z_eqI (y := (nI (D.2.1 r).2.2.2)) (e4) ?_
    show Zs _ _ (am_P 223).2 (23, [(0, .ref 73), (1, .int (1 : Int32)), (2, .int (nI r)), (3, .int v), (4, .int s), (5, .int x)], [.int (nI (D.2.1 r).2.2.2), .int x]) (HH I J R T) _
    refine Z_jump 1 rfl ?_
    refine Z_bd (fun c23 => ?_) (fun c23 => absurd ((show nI (D.2.1 r).2.2.2 < x by rw [hx]; exact nI_lt (a := (D.2.1 r).2.2.2) (by omega) (by omega))) c23)
    refine Z_jump 1 rfl ?_
    show Zs _ _ (am_P 223).2 (104, [(0, .ref 73), (1, .int (1 : Int32)), (2, .int (nI r)), (3, .int v), (4, .int s), (5, .int x)], [.int s]) (HH I J R T) _
    refine Z_rI rfl (by first | exact am_nw0 _ | exact am_nw01 | rfl | assumption) ?_
    exact H
  | k + 1, i, x, s, hi, hx, H => by
    have h6 := hD.2.1
    have hq := hD.2.2.2 r hr
    have h3 := hq.1.2.2.2.1
    have h9 := hq.1.2.2.1.2
    have e4 : I 77 r = nI (D.2.1 r).2.2.2 := hq.2.2.2.2
    have e3 : (Int32.toInt64 (I 76 r)).toInt = ((D.2.1 r).2.2.1 : Int) := by rw [i64, show I 76 r = nI (D.2.1 r).2.2.1 from hq.2.2.2.1, nI_toInt (by omega)]
    have ew := wbD (x := 1) hD hr (kd := 1) rfl (by omega) (D.2.1 r).2.2.2
    have ex : x + 1 = nI (i + 1) := by rw [hx]; exact nI_1 i
    have k23 : ¬ nI (D.2.1 r).2.2.2 < x := by rw [hx, nI_ltI (by omega) (by omega)]; omega
    subst hx
    unfold mls at H
    have W : ∀ (z : Int32) (y : Int32), (if 0 ≤ (ltl (1, (D.2.1 r).2.1, (D.2.1 r).2.2.1, (D.2.1 r).2.2.2) v i).toInt ∧ (ltl (1, (D.2.1 r).2.1, (D.2.1 r).2.2.1, (D.2.1 r).2.2.2) v i).toInt ≤ ((D.2.1 r).2.2.1 : Int) then ltt (1, (D.2.1 r).2.1, (D.2.1 r).2.2.1, (D.2.1 r).2.2.2) v i else 1000000000) = y → Zs sc (d + 1) (am_P 223).2 (80, [(0, .ref 73), (1, .int 1), (2, .int (nI r)), (3, .int v), (4, .int s), (5, .int (nI i)), (6, .int z), (7, .int y)], []) (HH I J R T) Q := fun z y hy => by
      have H' : Q (some (.int (mls (1, (D.2.1 r).2.1, (D.2.1 r).2.2.1, (D.2.1 r).2.2.2) v k (i + 1) (if s ≤ y then s else y)))) (HH I J R T) := by
        by_cases hp : 0 ≤ (ltl (1, (D.2.1 r).2.1, (D.2.1 r).2.2.1, (D.2.1 r).2.2.2) v i).toInt ∧ (ltl (1, (D.2.1 r).2.1, (D.2.1 r).2.2.1, (D.2.1 r).2.2.2) v i).toInt ≤ ((D.2.1 r).2.2.1 : Int)
        · rw [if_pos hp] at hy H
          rw [hy] at H
          exact H
        · rw [if_neg hp] at hy H
          rw [← hy]
          exact H
      refine Z_jump 3 rfl ?_
      refine Z_bd (fun (c84 : s ≤ y) => ?_) (fun (c84 : ¬ (s ≤ y)) => ?_)
      · refine Z_jump 4 rfl ?_
        show Zs _ _ (am_P 223).2 (7, [(0, .ref 73), (1, .int (1 : Int32)), (2, .int (nI r)), (3, .int v), (4, .int s), (5, .int ((nI i) + 1)), (6, .int z), (7, .int y)], []) (HH I J R T) _
        rw [if_pos c84] at H'
        exact Zs_wk (m_mls1 hD hr k (i + 1) _ _ (by omega) ex H') (lnD rfl) (lnD rfl) (by repeat (first | exact trivial | refine ⟨rfl, ?_⟩))
      · refine Z_jump 5 rfl ?_
        show Zs _ _ (am_P 223).2 (7, [(0, .ref 73), (1, .int (1 : Int32)), (2, .int (nI r)), (3, .int v), (4, .int y), (5, .int ((nI i) + 1)), (6, .int z), (7, .int y)], []) (HH I J R T) _
        rw [if_neg c84] at H'
        exact Zs_wk (m_mls1 hD hr k (i + 1) _ _ (by omega) ex H') (lnD rfl) (lnD rfl) (by repeat (first | exact trivial | refine ⟨rfl, ?_⟩))
    refine Z_jump 6 rfl ?_
    show Zs _ _ (am_P 223).2 (22, [(0, .ref 73), (1, .int (1 : Int32)), (2, .int (nI r)), (3, .int v), (4, .int s), (5, .int (nI i))], [.int (nI r), .ref 77, .int (nI i)]) (HH I J R T) _
    refine Z_ialK (r) rfl rfl (rfl) (by omega) (by decide) ?_
    show Zs _ _ (am_P 223).2 (23, [(0, .ref 73), (1, .int (1 : Int32)), (2, .int (nI r)), (3, .int v), (4, .int s), (5, .int (nI i))], [.int (I 77 r), .int (nI i)]) (HH I J R T) _
    show Zs _ _ (am_P 223).2 (23, [(0, .ref 73), (1, .int (1 : Int32)), (2, .int (nI r)), (3, .int v), (4, .int s), (5, .int (nI i))], [.int (I 77 r), .int (nI i)]) (HH I J R T) _
    refine Z_eqI (y := (nI (D.2.1 r).2.2.2)) (e4) ?_
    show Zs _ _ (am_P 223).2 (23, [(0, .ref 73), (1, .int (1 : Int32)), (2, .int (nI r)), (3, .int v), (4, .int s), (5, .int (nI i))], [.int (nI (D.2.1 r).2.2.2), .int (nI i)]) (HH I J R T) _
    refine Z_jump 1 rfl ?_
    refine Z_bd (fun c23 => absurd c23 (k23)) (fun c23 => ?_)
    refine Z_jump 5 rfl ?_
    show Zs _ _ (am_P 223).2 (32, [(0, .ref 73), (1, .int (1 : Int32)), (2, .int (nI r)), (3, .int v), (4, .int s), (5, .int (nI i))], [.int (nI r), .int (1 : Int32), .ref 73, .int (nI i), .int v]) (HH I J R T) _
    refine Z_c1 rfl rfl rfl (m_worthBy (vp_in_nI (by omega) (by omega))) ?_
    show Zs _ _ (am_P 223).2 (35, [(0, .ref 73), (1, .int (1 : Int32)), (2, .int (nI r)), (3, .int v), (4, .int s), (5, .int (nI i))], [.int (M_wb I 1 (nI r)), .int (nI i), .int v]) (HH I J R T) _
    show Zs _ _ (am_P 223).2 (35, [(0, .ref 73), (1, .int (1 : Int32)), (2, .int (nI r)), (3, .int v), (4, .int s), (5, .int (nI i))], [.int (M_wb I 1 (nI r)), .int (nI i), .int v]) (HH I J R T) _
    refine Z_eqI (y := (nI (hwv (1, (D.2.1 r).2.1, (D.2.1 r).2.2.1, (D.2.1 r).2.2.2)))) (ew) ?_
    show Zs _ _ (am_P 223).2 (35, [(0, .ref 73), (1, .int (1 : Int32)), (2, .int (nI r)), (3, .int v), (4, .int s), (5, .int (nI i))], [.int (nI (hwv (1, (D.2.1 r).2.1, (D.2.1 r).2.2.1, (D.2.1 r).2.2.2))), .int (nI i), .int v]) (HH I J R T) _
    refine Z_jump 2 rfl ?_
    show Zs _ _ (am_P 223).2 (37, [(0, .ref 73), (1, .int (1 : Int32)), (2, .int (nI r)), (3, .int v), (4, .int s), (5, .int (nI i))], [.int (v - ((nI i) * (nI (hwv (1, (D.2.1 r).2.1, (D.2.1 r).2.2.1, (D.2.1 r).2.2.2)))))]) (HH I J R T) _
    refine Z_eqI (y := (ltl (1, (D.2.1 r).2.1, (D.2.1 r).2.2.1, (D.2.1 r).2.2.2) v i)) (rfl) ?_
    show Zs _ _ (am_P 223).2 (37, [(0, .ref 73), (1, .int (1 : Int32)), (2, .int (nI r)), (3, .int v), (4, .int s), (5, .int (nI i))], [.int (ltl (1, (D.2.1 r).2.1, (D.2.1 r).2.2.1, (D.2.1 r).2.2.2) v i)]) (HH I J R T) _
    refine Z_jump 7 rfl ?_
    show Zs _ _ (am_P 223).2 (48, [(0, .ref 73), (1, .int (1 : Int32)), (2, .int (nI r)), (3, .int v), (4, .int s), (5, .int (nI i)), (6, .int (ltl (1, (D.2.1 r).2.1, (D.2.1 r).2.2.1, (D.2.1 r).2.2.2) v i))], [.int (nI r), .ref 76, .long (0 : Int64), .long (Int32.toInt64 (ltl (1, (D.2.1 r).2.1, (D.2.1 r).2.2.1, (D.2.1 r).2.2.2) v i))]) (HH I J R T) _
    refine Z_ialK (r) rfl rfl (rfl) (by omega) (by decide) ?_
    show Zs _ _ (am_P 223).2 (49, [(0, .ref 73), (1, .int (1 : Int32)), (2, .int (nI r)), (3, .int v), (4, .int s), (5, .int (nI i)), (6, .int (ltl (1, (D.2.1 r).2.1, (D.2.1 r).2.2.1, (D.2.1 r).2.2.2) v i))], [.int (I 76 r), .long (0 : Int64), .long (Int32.toInt64 (ltl (1, (D.2.1 r).2.1, (D.2.1 r).2.2.1, (D.2.1 r).2.2.2) v i))]) (HH I J R T) _
    refine Z_jump 1 rfl ?_
    show Zs _ _ (am_P 223).2 (50, [(0, .ref 73), (1, .int (1 : Int32)), (2, .int (nI r)), (3, .int v), (4, .int s), (5, .int (nI i)), (6, .int (ltl (1, (D.2.1 r).2.1, (D.2.1 r).2.2.1, (D.2.1 r).2.2.2) v i))], [.long (Int32.toInt64 (I 76 r)), .long (0 : Int64), .long (Int32.toInt64 (ltl (1, (D.2.1 r).2.1, (D.2.1 r).2.2.1, (D.2.1 r).2.2.2) v i))]) (HH I J R T) _
    by_cases b50 : 0 ≤ (ltl (1, (D.2.1 r).2.1, (D.2.1 r).2.2.1, (D.2.1 r).2.2.2) v i).toInt ∧ (ltl (1, (D.2.1 r).2.1, (D.2.1 r).2.2.1, (D.2.1 r).2.2.2) v i).toInt ≤ ((D.2.1 r).2.2.1 : Int)
    · refine Z_c1 rfl rfl rfl (E_pos (m_inI (a := 0) (b := ((D.2.1 r).2.2.1 : Int)) rfl e3) b50) ?_
      show Zs _ _ (am_P 223).2 (53, [(0, .ref 73), (1, .int (1 : Int32)), (2, .int (nI r)), (3, .int v), (4, .int s), (5, .int (nI i)), (6, .int (ltl (1, (D.2.1 r).2.1, (D.2.1 r).2.2.1, (D.2.1 r).2.2.2) v i))], [.int (1 : Int32)]) (HH I J R T) _
      refine Z_jump 4 rfl ?_
      show Zs _ _ (am_P 223).2 (60, [(0, .ref 73), (1, .int (1 : Int32)), (2, .int (nI r)), (3, .int v), (4, .int s), (5, .int (nI i)), (6, .int (ltl (1, (D.2.1 r).2.1, (D.2.1 r).2.2.1, (D.2.1 r).2.2.2) v i))], [.int (0 : Int32), .int (1 : Int32), .int (ltl (1, (D.2.1 r).2.1, (D.2.1 r).2.2.1, (D.2.1 r).2.2.2) v i)]) (HH I J R T) _
      refine Z_c1 rfl rfl rfl (m_takes) ?_
      show Zs _ _ (am_P 223).2 (63, [(0, .ref 73), (1, .int (1 : Int32)), (2, .int (nI r)), (3, .int v), (4, .int s), (5, .int (nI i)), (6, .int (ltl (1, (D.2.1 r).2.1, (D.2.1 r).2.2.1, (D.2.1 r).2.2.2) v i))], [.int (nI (ltv (1, (D.2.1 r).2.1, (D.2.1 r).2.2.1, (D.2.1 r).2.2.2))), .int (ltl (1, (D.2.1 r).2.1, (D.2.1 r).2.2.1, (D.2.1 r).2.2.2) v i)]) (HH I J R T) _
      refine Z_jump 4 rfl ?_
      show Zs _ _ (am_P 223).2 (68, [(0, .ref 73), (1, .int (1 : Int32)), (2, .int (nI r)), (3, .int v), (4, .int s), (5, .int (nI i)), (6, .int (ltl (1, (D.2.1 r).2.1, (D.2.1 r).2.2.1, (D.2.1 r).2.2.2) v i))], [.int (1 : Int32), .int (1 : Int32), .int (nI i), .int ((ltl (1, (D.2.1 r).2.1, (D.2.1 r).2.2.1, (D.2.1 r).2.2.2) v i) * (nI (ltv (1, (D.2.1 r).2.1, (D.2.1 r).2.2.1, (D.2.1 r).2.2.2))))]) (HH I J R T) _
      refine Z_c1 rfl rfl rfl (m_takes) ?_
      show Zs _ _ (am_P 223).2 (71, [(0, .ref 73), (1, .int (1 : Int32)), (2, .int (nI r)), (3, .int v), (4, .int s), (5, .int (nI i)), (6, .int (ltl (1, (D.2.1 r).2.1, (D.2.1 r).2.2.1, (D.2.1 r).2.2.2) v i))], [.int (nI (htv (1, (D.2.1 r).2.1, (D.2.1 r).2.2.1, (D.2.1 r).2.2.2))), .int (nI i), .int ((ltl (1, (D.2.1 r).2.1, (D.2.1 r).2.2.1, (D.2.1 r).2.2.2) v i) * (nI (ltv (1, (D.2.1 r).2.1, (D.2.1 r).2.2.1, (D.2.1 r).2.2.2))))]) (HH I J R T) _
      refine Z_jump 2 rfl ?_
      show Zs _ _ (am_P 223).2 (73, [(0, .ref 73), (1, .int (1 : Int32)), (2, .int (nI r)), (3, .int v), (4, .int s), (5, .int (nI i)), (6, .int (ltl (1, (D.2.1 r).2.1, (D.2.1 r).2.2.1, (D.2.1 r).2.2.2) v i))], [.int (((ltl (1, (D.2.1 r).2.1, (D.2.1 r).2.2.1, (D.2.1 r).2.2.2) v i) * (nI (ltv (1, (D.2.1 r).2.1, (D.2.1 r).2.2.1, (D.2.1 r).2.2.2)))) + ((nI i) * (nI (htv (1, (D.2.1 r).2.1, (D.2.1 r).2.2.1, (D.2.1 r).2.2.2)))))]) (HH I J R T) _
      refine Z_eqI (y := (ltt (1, (D.2.1 r).2.1, (D.2.1 r).2.2.1, (D.2.1 r).2.2.2) v i)) (rfl) ?_
      show Zs _ _ (am_P 223).2 (73, [(0, .ref 73), (1, .int (1 : Int32)), (2, .int (nI r)), (3, .int v), (4, .int s), (5, .int (nI i)), (6, .int (ltl (1, (D.2.1 r).2.1, (D.2.1 r).2.2.1, (D.2.1 r).2.2.2) v i))], [.int (ltt (1, (D.2.1 r).2.1, (D.2.1 r).2.2.1, (D.2.1 r).2.2.2) v i)]) (HH I J R T) _
      refine Z_jump 2 rfl ?_
      show Zs _ _ (am_P 223).2 (80, [(0, .ref 73), (1, .int (1 : Int32)), (2, .int (nI r)), (3, .int v), (4, .int s), (5, .int (nI i)), (6, .int (ltl (1, (D.2.1 r).2.1, (D.2.1 r).2.2.1, (D.2.1 r).2.2.2) v i)), (7, .int (ltt (1, (D.2.1 r).2.1, (D.2.1 r).2.2.1, (D.2.1 r).2.2.2) v i))], []) (HH I J R T) _
      exact W _ _ (by rw [if_pos b50])
    · refine Z_c1 rfl rfl rfl (E_neg (m_inI (a := 0) (b := ((D.2.1 r).2.2.1 : Int)) rfl e3) b50) ?_
      show Zs _ _ (am_P 223).2 (53, [(0, .ref 73), (1, .int (1 : Int32)), (2, .int (nI r)), (3, .int v), (4, .int s), (5, .int (nI i)), (6, .int (ltl (1, (D.2.1 r).2.1, (D.2.1 r).2.2.1, (D.2.1 r).2.2.2) v i))], [.int (0 : Int32)]) (HH I J R T) _
      refine Z_jump 3 rfl ?_
      show Zs _ _ (am_P 223).2 (80, [(0, .ref 73), (1, .int (1 : Int32)), (2, .int (nI r)), (3, .int v), (4, .int s), (5, .int (nI i)), (6, .int (ltl (1, (D.2.1 r).2.1, (D.2.1 r).2.2.1, (D.2.1 r).2.2.2) v i)), (7, .int (1000000000 : Int32))], []) (HH I J R T) _
      exact W _ _ (by rw [if_neg b50])
theorem m_least1 {I : hI} {J : hJ} {D : FD} {r : Nat} {v : Int32} (hD : DMf D I) (hr : r < D.1) : am_E sc (d + 2) 223 [.ref 73, .int 1, .int (nI r), .int v] (HH I J R T) (some (.int (mls (1, (D.2.1 r).2.1, (D.2.1 r).2.2.1, (D.2.1 r).2.2.2) v ((D.2.1 r).2.2.2 + 1) 0 1000000000))) (HH I J R T) := by
  refine E_Z (Ze_of (Nat.le_of_ble_eq_true rfl) ?_)
  refine Z_jump 4 rfl ?_
  show Zs _ _ (am_P 223).2 (7, [(0, .ref 73), (1, .int (1 : Int32)), (2, .int (nI r)), (3, .int v), (4, .int (1000000000 : Int32)), (5, .int (0 : Int32))], []) (HH I J R T) _
  exact m_mls1 hD hr ((D.2.1 r).2.2.2 + 1) 0 _ _ (by omega) rfl ⟨rfl, rfl⟩
theorem m_mls2 {I : hI} {J : hJ} {D : FD} {r : Nat} {v : Int32} (hD : DMf D I) (hr : r < D.1) : ∀ (k i : Nat) (x s : Int32), i + k = (D.2.1 r).2.2.2 + 1 → x = nI i → Q (some (.int (mls (2, (D.2.1 r).2.1, (D.2.1 r).2.2.1, (D.2.1 r).2.2.2) v k i s))) (HH I J R T) → Zs sc (d + 1) (am_P 223).2 (7, [(0, .ref 73), (1, .int 2), (2, .int (nI r)), (3, .int v), (4, .int s), (5, .int x)], []) (HH I J R T) Q
  | 0, i, x, s, hi, hx, H => by
    have h6 := hD.2.1
    have hq := hD.2.2.2 r hr
    have h3 := hq.1.2.2.2.1
    have e4 : I 77 r = nI (D.2.1 r).2.2.2 := hq.2.2.2.2
    refine Z_jump 6 rfl ?_
    show Zs _ _ (am_P 223).2 (22, [(0, .ref 73), (1, .int (2 : Int32)), (2, .int (nI r)), (3, .int v), (4, .int s), (5, .int x)], [.int (nI r), .ref 77, .int x]) (HH I J R T) _
    refine Z_ialK (r) rfl rfl (rfl) (by omega) (by decide) ?_
    show Zs _ _ (am_P 223).2 (23, [(0, .ref 73), (1, .int (2 : Int32)), (2, .int (nI r)), (3, .int v), (4, .int s), (5, .int x)], [.int (I 77 r), .int x]) (HH I J R T) _
    show Zs _ _ (am_P 223).2 (23, [(0, .ref 73), (1, .int (2 : Int32)), (2, .int (nI r)), (3, .int v), (4, .int s), (5, .int x)], [.int (I 77 r), .int x]) (HH I J R T) _
    refine Z_eqI (y := (nI (D.2.1 r).2.2.2)) (e4) ?_
    show Zs _ _ (am_P 223).2 (23, [(0, .ref 73), (1, .int (2 : Int32)), (2, .int (nI r)), (3, .int v), (4, .int s), (5, .int x)], [.int (nI (D.2.1 r).2.2.2), .int x]) (HH I J R T) _
    refine Z_jump 1 rfl ?_
    refine Z_bd (fun c23 => ?_) (fun c23 => absurd ((show nI (D.2.1 r).2.2.2 < x by rw [hx]; exact nI_lt (a := (D.2.1 r).2.2.2) (by omega) (by omega))) c23)
    refine Z_jump 1 rfl ?_
    show Zs _ _ (am_P 223).2 (104, [(0, .ref 73), (1, .int (2 : Int32)), (2, .int (nI r)), (3, .int v), (4, .int s), (5, .int x)], [.int s]) (HH I J R T) _
    refine Z_rI rfl (by first | exact am_nw0 _ | exact am_nw01 | rfl | assumption) ?_
    exact H
  | k + 1, i, x, s, hi, hx, H => by
    have h6 := hD.2.1
    have hq := hD.2.2.2 r hr
    have h3 := hq.1.2.2.2.1
    have h9 := hq.1.2.2.1.2
    have e4 : I 77 r = nI (D.2.1 r).2.2.2 := hq.2.2.2.2
    have e3 : (Int32.toInt64 (I 76 r)).toInt = ((D.2.1 r).2.2.1 : Int) := by rw [i64, show I 76 r = nI (D.2.1 r).2.2.1 from hq.2.2.2.1, nI_toInt (by omega)]
    have ew := wbD (x := 2) hD hr (kd := 2) rfl (by omega) (D.2.1 r).2.2.2
    have ex : x + 1 = nI (i + 1) := by rw [hx]; exact nI_1 i
    have k23 : ¬ nI (D.2.1 r).2.2.2 < x := by rw [hx, nI_ltI (by omega) (by omega)]; omega
    subst hx
    unfold mls at H
    have W : ∀ (z : Int32) (y : Int32), (if 0 ≤ (ltl (2, (D.2.1 r).2.1, (D.2.1 r).2.2.1, (D.2.1 r).2.2.2) v i).toInt ∧ (ltl (2, (D.2.1 r).2.1, (D.2.1 r).2.2.1, (D.2.1 r).2.2.2) v i).toInt ≤ ((D.2.1 r).2.2.1 : Int) then ltt (2, (D.2.1 r).2.1, (D.2.1 r).2.2.1, (D.2.1 r).2.2.2) v i else 1000000000) = y → Zs sc (d + 1) (am_P 223).2 (80, [(0, .ref 73), (1, .int 2), (2, .int (nI r)), (3, .int v), (4, .int s), (5, .int (nI i)), (6, .int z), (7, .int y)], []) (HH I J R T) Q := fun z y hy => by
      have H' : Q (some (.int (mls (2, (D.2.1 r).2.1, (D.2.1 r).2.2.1, (D.2.1 r).2.2.2) v k (i + 1) (if s ≤ y then s else y)))) (HH I J R T) := by
        by_cases hp : 0 ≤ (ltl (2, (D.2.1 r).2.1, (D.2.1 r).2.2.1, (D.2.1 r).2.2.2) v i).toInt ∧ (ltl (2, (D.2.1 r).2.1, (D.2.1 r).2.2.1, (D.2.1 r).2.2.2) v i).toInt ≤ ((D.2.1 r).2.2.1 : Int)
        · rw [if_pos hp] at hy H
          rw [hy] at H
          exact H
        · rw [if_neg hp] at hy H
          rw [← hy]
          exact H
      refine Z_jump 3 rfl ?_
      refine Z_bd (fun (c84 : s ≤ y) => ?_) (fun (c84 : ¬ (s ≤ y)) => ?_)
      · refine Z_jump 4 rfl ?_
        show Zs _ _ (am_P 223).2 (7, [(0, .ref 73), (1, .int (2 : Int32)), (2, .int (nI r)), (3, .int v), (4, .int s), (5, .int ((nI i) + 1)), (6, .int z), (7, .int y)], []) (HH I J R T) _
        rw [if_pos c84] at H'
        exact Zs_wk (m_mls2 hD hr k (i + 1) _ _ (by omega) ex H') (lnD rfl) (lnD rfl) (by repeat (first | exact trivial | refine ⟨rfl, ?_⟩))
      · refine Z_jump 5 rfl ?_
        show Zs _ _ (am_P 223).2 (7, [(0, .ref 73), (1, .int (2 : Int32)), (2, .int (nI r)), (3, .int v), (4, .int y), (5, .int ((nI i) + 1)), (6, .int z), (7, .int y)], []) (HH I J R T) _
        rw [if_neg c84] at H'
        exact Zs_wk (m_mls2 hD hr k (i + 1) _ _ (by omega) ex H') (lnD rfl) (lnD rfl) (by repeat (first | exact trivial | refine ⟨rfl, ?_⟩))
    refine Z_jump 6 rfl ?_
    show Zs _ _ (am_P 223).2 (22, [(0, .ref 73), (1, .int (2 : Int32)), (2, .int (nI r)), (3, .int v), (4, .int s), (5, .int (nI i))], [.int (nI r), .ref 77, .int (nI i)]) (HH I J R T) _
    refine Z_ialK (r) rfl rfl (rfl) (by omega) (by decide) ?_
    show Zs _ _ (am_P 223).2 (23, [(0, .ref 73), (1, .int (2 : Int32)), (2, .int (nI r)), (3, .int v), (4, .int s), (5, .int (nI i))], [.int (I 77 r), .int (nI i)]) (HH I J R T) _
    show Zs _ _ (am_P 223).2 (23, [(0, .ref 73), (1, .int (2 : Int32)), (2, .int (nI r)), (3, .int v), (4, .int s), (5, .int (nI i))], [.int (I 77 r), .int (nI i)]) (HH I J R T) _
    refine Z_eqI (y := (nI (D.2.1 r).2.2.2)) (e4) ?_
    show Zs _ _ (am_P 223).2 (23, [(0, .ref 73), (1, .int (2 : Int32)), (2, .int (nI r)), (3, .int v), (4, .int s), (5, .int (nI i))], [.int (nI (D.2.1 r).2.2.2), .int (nI i)]) (HH I J R T) _
    refine Z_jump 1 rfl ?_
    refine Z_bd (fun c23 => absurd c23 (k23)) (fun c23 => ?_)
    refine Z_jump 5 rfl ?_
    show Zs _ _ (am_P 223).2 (32, [(0, .ref 73), (1, .int (2 : Int32)), (2, .int (nI r)), (3, .int v), (4, .int s), (5, .int (nI i))], [.int (nI r), .int (2 : Int32), .ref 73, .int (nI i), .int v]) (HH I J R T) _
    refine Z_c1 rfl rfl rfl (m_worthBy (vp_in_nI (by omega) (by omega))) ?_
    show Zs _ _ (am_P 223).2 (35, [(0, .ref 73), (1, .int (2 : Int32)), (2, .int (nI r)), (3, .int v), (4, .int s), (5, .int (nI i))], [.int (M_wb I 2 (nI r)), .int (nI i), .int v]) (HH I J R T) _
    show Zs _ _ (am_P 223).2 (35, [(0, .ref 73), (1, .int (2 : Int32)), (2, .int (nI r)), (3, .int v), (4, .int s), (5, .int (nI i))], [.int (M_wb I 2 (nI r)), .int (nI i), .int v]) (HH I J R T) _
    refine Z_eqI (y := (nI (hwv (2, (D.2.1 r).2.1, (D.2.1 r).2.2.1, (D.2.1 r).2.2.2)))) (ew) ?_
    show Zs _ _ (am_P 223).2 (35, [(0, .ref 73), (1, .int (2 : Int32)), (2, .int (nI r)), (3, .int v), (4, .int s), (5, .int (nI i))], [.int (nI (hwv (2, (D.2.1 r).2.1, (D.2.1 r).2.2.1, (D.2.1 r).2.2.2))), .int (nI i), .int v]) (HH I J R T) _
    refine Z_jump 2 rfl ?_
    show Zs _ _ (am_P 223).2 (37, [(0, .ref 73), (1, .int (2 : Int32)), (2, .int (nI r)), (3, .int v), (4, .int s), (5, .int (nI i))], [.int (v - ((nI i) * (nI (hwv (2, (D.2.1 r).2.1, (D.2.1 r).2.2.1, (D.2.1 r).2.2.2)))))]) (HH I J R T) _
    refine Z_eqI (y := (ltl (2, (D.2.1 r).2.1, (D.2.1 r).2.2.1, (D.2.1 r).2.2.2) v i)) (rfl) ?_
    show Zs _ _ (am_P 223).2 (37, [(0, .ref 73), (1, .int (2 : Int32)), (2, .int (nI r)), (3, .int v), (4, .int s), (5, .int (nI i))], [.int (ltl (2, (D.2.1 r).2.1, (D.2.1 r).2.2.1, (D.2.1 r).2.2.2) v i)]) (HH I J R T) _
    refine Z_jump 7 rfl ?_
    show Zs _ _ (am_P 223).2 (48, [(0, .ref 73), (1, .int (2 : Int32)), (2, .int (nI r)), (3, .int v), (4, .int s), (5, .int (nI i)), (6, .int (ltl (2, (D.2.1 r).2.1, (D.2.1 r).2.2.1, (D.2.1 r).2.2.2) v i))], [.int (nI r), .ref 76, .long (0 : Int64), .long (Int32.toInt64 (ltl (2, (D.2.1 r).2.1, (D.2.1 r).2.2.1, (D.2.1 r).2.2.2) v i))]) (HH I J R T) _
    refine Z_ialK (r) rfl rfl (rfl) (by omega) (by decide) ?_
    show Zs _ _ (am_P 223).2 (49, [(0, .ref 73), (1, .int (2 : Int32)), (2, .int (nI r)), (3, .int v), (4, .int s), (5, .int (nI i)), (6, .int (ltl (2, (D.2.1 r).2.1, (D.2.1 r).2.2.1, (D.2.1 r).2.2.2) v i))], [.int (I 76 r), .long (0 : Int64), .long (Int32.toInt64 (ltl (2, (D.2.1 r).2.1, (D.2.1 r).2.2.1, (D.2.1 r).2.2.2) v i))]) (HH I J R T) _
    refine Z_jump 1 rfl ?_
    show Zs _ _ (am_P 223).2 (50, [(0, .ref 73), (1, .int (2 : Int32)), (2, .int (nI r)), (3, .int v), (4, .int s), (5, .int (nI i)), (6, .int (ltl (2, (D.2.1 r).2.1, (D.2.1 r).2.2.1, (D.2.1 r).2.2.2) v i))], [.long (Int32.toInt64 (I 76 r)), .long (0 : Int64), .long (Int32.toInt64 (ltl (2, (D.2.1 r).2.1, (D.2.1 r).2.2.1, (D.2.1 r).2.2.2) v i))]) (HH I J R T) _
    by_cases b50 : 0 ≤ (ltl (2, (D.2.1 r).2.1, (D.2.1 r).2.2.1, (D.2.1 r).2.2.2) v i).toInt ∧ (ltl (2, (D.2.1 r).2.1, (D.2.1 r).2.2.1, (D.2.1 r).2.2.2) v i).toInt ≤ ((D.2.1 r).2.2.1 : Int)
    · refine Z_c1 rfl rfl rfl (E_pos (m_inI (a := 0) (b := ((D.2.1 r).2.2.1 : Int)) rfl e3) b50) ?_
      show Zs _ _ (am_P 223).2 (53, [(0, .ref 73), (1, .int (2 : Int32)), (2, .int (nI r)), (3, .int v), (4, .int s), (5, .int (nI i)), (6, .int (ltl (2, (D.2.1 r).2.1, (D.2.1 r).2.2.1, (D.2.1 r).2.2.2) v i))], [.int (1 : Int32)]) (HH I J R T) _
      refine Z_jump 4 rfl ?_
      show Zs _ _ (am_P 223).2 (60, [(0, .ref 73), (1, .int (2 : Int32)), (2, .int (nI r)), (3, .int v), (4, .int s), (5, .int (nI i)), (6, .int (ltl (2, (D.2.1 r).2.1, (D.2.1 r).2.2.1, (D.2.1 r).2.2.2) v i))], [.int (0 : Int32), .int (2 : Int32), .int (ltl (2, (D.2.1 r).2.1, (D.2.1 r).2.2.1, (D.2.1 r).2.2.2) v i)]) (HH I J R T) _
      refine Z_c1 rfl rfl rfl (m_takes) ?_
      show Zs _ _ (am_P 223).2 (63, [(0, .ref 73), (1, .int (2 : Int32)), (2, .int (nI r)), (3, .int v), (4, .int s), (5, .int (nI i)), (6, .int (ltl (2, (D.2.1 r).2.1, (D.2.1 r).2.2.1, (D.2.1 r).2.2.2) v i))], [.int (nI (ltv (2, (D.2.1 r).2.1, (D.2.1 r).2.2.1, (D.2.1 r).2.2.2))), .int (ltl (2, (D.2.1 r).2.1, (D.2.1 r).2.2.1, (D.2.1 r).2.2.2) v i)]) (HH I J R T) _
      refine Z_jump 4 rfl ?_
      show Zs _ _ (am_P 223).2 (68, [(0, .ref 73), (1, .int (2 : Int32)), (2, .int (nI r)), (3, .int v), (4, .int s), (5, .int (nI i)), (6, .int (ltl (2, (D.2.1 r).2.1, (D.2.1 r).2.2.1, (D.2.1 r).2.2.2) v i))], [.int (1 : Int32), .int (2 : Int32), .int (nI i), .int ((ltl (2, (D.2.1 r).2.1, (D.2.1 r).2.2.1, (D.2.1 r).2.2.2) v i) * (nI (ltv (2, (D.2.1 r).2.1, (D.2.1 r).2.2.1, (D.2.1 r).2.2.2))))]) (HH I J R T) _
      refine Z_c1 rfl rfl rfl (m_takes) ?_
      show Zs _ _ (am_P 223).2 (71, [(0, .ref 73), (1, .int (2 : Int32)), (2, .int (nI r)), (3, .int v), (4, .int s), (5, .int (nI i)), (6, .int (ltl (2, (D.2.1 r).2.1, (D.2.1 r).2.2.1, (D.2.1 r).2.2.2) v i))], [.int (nI (htv (2, (D.2.1 r).2.1, (D.2.1 r).2.2.1, (D.2.1 r).2.2.2))), .int (nI i), .int ((ltl (2, (D.2.1 r).2.1, (D.2.1 r).2.2.1, (D.2.1 r).2.2.2) v i) * (nI (ltv (2, (D.2.1 r).2.1, (D.2.1 r).2.2.1, (D.2.1 r).2.2.2))))]) (HH I J R T) _
      refine Z_jump 2 rfl ?_
      show Zs _ _ (am_P 223).2 (73, [(0, .ref 73), (1, .int (2 : Int32)), (2, .int (nI r)), (3, .int v), (4, .int s), (5, .int (nI i)), (6, .int (ltl (2, (D.2.1 r).2.1, (D.2.1 r).2.2.1, (D.2.1 r).2.2.2) v i))], [.int (((ltl (2, (D.2.1 r).2.1, (D.2.1 r).2.2.1, (D.2.1 r).2.2.2) v i) * (nI (ltv (2, (D.2.1 r).2.1, (D.2.1 r).2.2.1, (D.2.1 r).2.2.2)))) + ((nI i) * (nI (htv (2, (D.2.1 r).2.1, (D.2.1 r).2.2.1, (D.2.1 r).2.2.2)))))]) (HH I J R T) _
      refine Z_eqI (y := (ltt (2, (D.2.1 r).2.1, (D.2.1 r).2.2.1, (D.2.1 r).2.2.2) v i)) (rfl) ?_
      show Zs _ _ (am_P 223).2 (73, [(0, .ref 73), (1, .int (2 : Int32)), (2, .int (nI r)), (3, .int v), (4, .int s), (5, .int (nI i)), (6, .int (ltl (2, (D.2.1 r).2.1, (D.2.1 r).2.2.1, (D.2.1 r).2.2.2) v i))], [.int (ltt (2, (D.2.1 r).2.1, (D.2.1 r).2.2.1, (D.2.1 r).2.2.2) v i)]) (HH I J R T) _
      refine Z_jump 2 rfl ?_
      show Zs _ _ (am_P 223).2 (80, [(0, .ref 73), (1, .int (2 : Int32)), (2, .int (nI r)), (3, .int v), (4, .int s), (5, .int (nI i)), (6, .int (ltl (2, (D.2.1 r).2.1, (D.2.1 r).2.2.1, (D.2.1 r).2.2.2) v i)), (7, .int (ltt (2, (D.2.1 r).2.1, (D.2.1 r).2.2.1, (D.2.1 r).2.2.2) v i))], []) (HH I J R T) _
      exact W _ _ (by rw [if_pos b50])
    · refine Z_c1 rfl rfl rfl (E_neg (m_inI (a := 0) (b := ((D.2.1 r).2.2.1 : Int)) rfl e3) b50) ?_
      show Zs _ _ (am_P 223).2 (53, [(0, .ref 73), (1, .int (2 : Int32)), (2, .int (nI r)), (3, .int v), (4, .int s), (5, .int (nI i)), (6, .int (ltl (2, (D.2.1 r).2.1, (D.2.1 r).2.2.1, (D.2.1 r).2.2.2) v i))], [.int (0 : Int32)]) (HH I J R T) _
      refine Z_jump 3 rfl ?_
      show Zs _ _ (am_P 223).2 (80, [(0, .ref 73), (1, .int (2 : Int32)), (2, .int (nI r)), (3, .int v), (4, .int s), (5, .int (nI i)), (6, .int (ltl (2, (D.2.1 r).2.1, (D.2.1 r).2.2.1, (D.2.1 r).2.2.2) v i)), (7, .int (1000000000 : Int32))], []) (HH I J R T) _
      exact W _ _ (by rw [if_neg b50])
theorem m_least2 {I : hI} {J : hJ} {D : FD} {r : Nat} {v : Int32} (hD : DMf D I) (hr : r < D.1) : am_E sc (d + 2) 223 [.ref 73, .int 2, .int (nI r), .int v] (HH I J R T) (some (.int (mls (2, (D.2.1 r).2.1, (D.2.1 r).2.2.1, (D.2.1 r).2.2.2) v ((D.2.1 r).2.2.2 + 1) 0 1000000000))) (HH I J R T) := by
  refine E_Z (Ze_of (Nat.le_of_ble_eq_true rfl) ?_)
  refine Z_jump 4 rfl ?_
  show Zs _ _ (am_P 223).2 (7, [(0, .ref 73), (1, .int (2 : Int32)), (2, .int (nI r)), (3, .int v), (4, .int (1000000000 : Int32)), (5, .int (0 : Int32))], []) (HH I J R T) _
  exact m_mls2 hD hr ((D.2.1 r).2.2.2 + 1) 0 _ _ (by omega) rfl ⟨rfl, rfl⟩
theorem m_mls3 {I : hI} {J : hJ} {D : FD} {r : Nat} {v : Int32} (hD : DMf D I) (hr : r < D.1) : ∀ (k i : Nat) (x s : Int32), i + k = (D.2.1 r).2.2.2 + 1 → x = nI i → Q (some (.int (mls (3, (D.2.1 r).2.1, (D.2.1 r).2.2.1, (D.2.1 r).2.2.2) v k i s))) (HH I J R T) → Zs sc (d + 1) (am_P 223).2 (7, [(0, .ref 73), (1, .int 3), (2, .int (nI r)), (3, .int v), (4, .int s), (5, .int x)], []) (HH I J R T) Q
  | 0, i, x, s, hi, hx, H => by
    have h6 := hD.2.1
    have hq := hD.2.2.2 r hr
    have h3 := hq.1.2.2.2.1
    have e4 : I 77 r = nI (D.2.1 r).2.2.2 := hq.2.2.2.2
    refine Z_jump 6 rfl ?_
    show Zs _ _ (am_P 223).2 (22, [(0, .ref 73), (1, .int (3 : Int32)), (2, .int (nI r)), (3, .int v), (4, .int s), (5, .int x)], [.int (nI r), .ref 77, .int x]) (HH I J R T) _
    refine Z_ialK (r) rfl rfl (rfl) (by omega) (by decide) ?_
    show Zs _ _ (am_P 223).2 (23, [(0, .ref 73), (1, .int (3 : Int32)), (2, .int (nI r)), (3, .int v), (4, .int s), (5, .int x)], [.int (I 77 r), .int x]) (HH I J R T) _
    show Zs _ _ (am_P 223).2 (23, [(0, .ref 73), (1, .int (3 : Int32)), (2, .int (nI r)), (3, .int v), (4, .int s), (5, .int x)], [.int (I 77 r), .int x]) (HH I J R T) _
    refine Z_eqI (y := (nI (D.2.1 r).2.2.2)) (e4) ?_
    show Zs _ _ (am_P 223).2 (23, [(0, .ref 73), (1, .int (3 : Int32)), (2, .int (nI r)), (3, .int v), (4, .int s), (5, .int x)], [.int (nI (D.2.1 r).2.2.2), .int x]) (HH I J R T) _
    refine Z_jump 1 rfl ?_
    refine Z_bd (fun c23 => ?_) (fun c23 => absurd ((show nI (D.2.1 r).2.2.2 < x by rw [hx]; exact nI_lt (a := (D.2.1 r).2.2.2) (by omega) (by omega))) c23)
    refine Z_jump 1 rfl ?_
    show Zs _ _ (am_P 223).2 (104, [(0, .ref 73), (1, .int (3 : Int32)), (2, .int (nI r)), (3, .int v), (4, .int s), (5, .int x)], [.int s]) (HH I J R T) _
    refine Z_rI rfl (by first | exact am_nw0 _ | exact am_nw01 | rfl | assumption) ?_
    exact H
  | k + 1, i, x, s, hi, hx, H => by
    have h6 := hD.2.1
    have hq := hD.2.2.2 r hr
    have h3 := hq.1.2.2.2.1
    have h9 := hq.1.2.2.1.2
    have e4 : I 77 r = nI (D.2.1 r).2.2.2 := hq.2.2.2.2
    have e3 : (Int32.toInt64 (I 76 r)).toInt = ((D.2.1 r).2.2.1 : Int) := by rw [i64, show I 76 r = nI (D.2.1 r).2.2.1 from hq.2.2.2.1, nI_toInt (by omega)]
    have ew := wbD (x := 3) hD hr (kd := 3) rfl (by omega) (D.2.1 r).2.2.2
    have ex : x + 1 = nI (i + 1) := by rw [hx]; exact nI_1 i
    have k23 : ¬ nI (D.2.1 r).2.2.2 < x := by rw [hx, nI_ltI (by omega) (by omega)]; omega
    subst hx
    unfold mls at H
    have W : ∀ (z : Int32) (y : Int32), (if 0 ≤ (ltl (3, (D.2.1 r).2.1, (D.2.1 r).2.2.1, (D.2.1 r).2.2.2) v i).toInt ∧ (ltl (3, (D.2.1 r).2.1, (D.2.1 r).2.2.1, (D.2.1 r).2.2.2) v i).toInt ≤ ((D.2.1 r).2.2.1 : Int) then ltt (3, (D.2.1 r).2.1, (D.2.1 r).2.2.1, (D.2.1 r).2.2.2) v i else 1000000000) = y → Zs sc (d + 1) (am_P 223).2 (80, [(0, .ref 73), (1, .int 3), (2, .int (nI r)), (3, .int v), (4, .int s), (5, .int (nI i)), (6, .int z), (7, .int y)], []) (HH I J R T) Q := fun z y hy => by
      have H' : Q (some (.int (mls (3, (D.2.1 r).2.1, (D.2.1 r).2.2.1, (D.2.1 r).2.2.2) v k (i + 1) (if s ≤ y then s else y)))) (HH I J R T) := by
        by_cases hp : 0 ≤ (ltl (3, (D.2.1 r).2.1, (D.2.1 r).2.2.1, (D.2.1 r).2.2.2) v i).toInt ∧ (ltl (3, (D.2.1 r).2.1, (D.2.1 r).2.2.1, (D.2.1 r).2.2.2) v i).toInt ≤ ((D.2.1 r).2.2.1 : Int)
        · rw [if_pos hp] at hy H
          rw [hy] at H
          exact H
        · rw [if_neg hp] at hy H
          rw [← hy]
          exact H
      refine Z_jump 3 rfl ?_
      refine Z_bd (fun (c84 : s ≤ y) => ?_) (fun (c84 : ¬ (s ≤ y)) => ?_)
      · refine Z_jump 4 rfl ?_
        show Zs _ _ (am_P 223).2 (7, [(0, .ref 73), (1, .int (3 : Int32)), (2, .int (nI r)), (3, .int v), (4, .int s), (5, .int ((nI i) + 1)), (6, .int z), (7, .int y)], []) (HH I J R T) _
        rw [if_pos c84] at H'
        exact Zs_wk (m_mls3 hD hr k (i + 1) _ _ (by omega) ex H') (lnD rfl) (lnD rfl) (by repeat (first | exact trivial | refine ⟨rfl, ?_⟩))
      · refine Z_jump 5 rfl ?_
        show Zs _ _ (am_P 223).2 (7, [(0, .ref 73), (1, .int (3 : Int32)), (2, .int (nI r)), (3, .int v), (4, .int y), (5, .int ((nI i) + 1)), (6, .int z), (7, .int y)], []) (HH I J R T) _
        rw [if_neg c84] at H'
        exact Zs_wk (m_mls3 hD hr k (i + 1) _ _ (by omega) ex H') (lnD rfl) (lnD rfl) (by repeat (first | exact trivial | refine ⟨rfl, ?_⟩))
    refine Z_jump 6 rfl ?_
    show Zs _ _ (am_P 223).2 (22, [(0, .ref 73), (1, .int (3 : Int32)), (2, .int (nI r)), (3, .int v), (4, .int s), (5, .int (nI i))], [.int (nI r), .ref 77, .int (nI i)]) (HH I J R T) _
    refine Z_ialK (r) rfl rfl (rfl) (by omega) (by decide) ?_
    show Zs _ _ (am_P 223).2 (23, [(0, .ref 73), (1, .int (3 : Int32)), (2, .int (nI r)), (3, .int v), (4, .int s), (5, .int (nI i))], [.int (I 77 r), .int (nI i)]) (HH I J R T) _
    show Zs _ _ (am_P 223).2 (23, [(0, .ref 73), (1, .int (3 : Int32)), (2, .int (nI r)), (3, .int v), (4, .int s), (5, .int (nI i))], [.int (I 77 r), .int (nI i)]) (HH I J R T) _
    refine Z_eqI (y := (nI (D.2.1 r).2.2.2)) (e4) ?_
    show Zs _ _ (am_P 223).2 (23, [(0, .ref 73), (1, .int (3 : Int32)), (2, .int (nI r)), (3, .int v), (4, .int s), (5, .int (nI i))], [.int (nI (D.2.1 r).2.2.2), .int (nI i)]) (HH I J R T) _
    refine Z_jump 1 rfl ?_
    refine Z_bd (fun c23 => absurd c23 (k23)) (fun c23 => ?_)
    refine Z_jump 5 rfl ?_
    show Zs _ _ (am_P 223).2 (32, [(0, .ref 73), (1, .int (3 : Int32)), (2, .int (nI r)), (3, .int v), (4, .int s), (5, .int (nI i))], [.int (nI r), .int (3 : Int32), .ref 73, .int (nI i), .int v]) (HH I J R T) _
    refine Z_c1 rfl rfl rfl (m_worthBy (vp_in_nI (by omega) (by omega))) ?_
    show Zs _ _ (am_P 223).2 (35, [(0, .ref 73), (1, .int (3 : Int32)), (2, .int (nI r)), (3, .int v), (4, .int s), (5, .int (nI i))], [.int (M_wb I 3 (nI r)), .int (nI i), .int v]) (HH I J R T) _
    show Zs _ _ (am_P 223).2 (35, [(0, .ref 73), (1, .int (3 : Int32)), (2, .int (nI r)), (3, .int v), (4, .int s), (5, .int (nI i))], [.int (M_wb I 3 (nI r)), .int (nI i), .int v]) (HH I J R T) _
    refine Z_eqI (y := (nI (hwv (3, (D.2.1 r).2.1, (D.2.1 r).2.2.1, (D.2.1 r).2.2.2)))) (ew) ?_
    show Zs _ _ (am_P 223).2 (35, [(0, .ref 73), (1, .int (3 : Int32)), (2, .int (nI r)), (3, .int v), (4, .int s), (5, .int (nI i))], [.int (nI (hwv (3, (D.2.1 r).2.1, (D.2.1 r).2.2.1, (D.2.1 r).2.2.2))), .int (nI i), .int v]) (HH I J R T) _
    refine Z_jump 2 rfl ?_
    show Zs _ _ (am_P 223).2 (37, [(0, .ref 73), (1, .int (3 : Int32)), (2, .int (nI r)), (3, .int v), (4, .int s), (5, .int (nI i))], [.int (v - ((nI i) * (nI (hwv (3, (D.2.1 r).2.1, (D.2.1 r).2.2.1, (D.2.1 r).2.2.2)))))]) (HH I J R T) _
    refine Z_eqI (y := (ltl (3, (D.2.1 r).2.1, (D.2.1 r).2.2.1, (D.2.1 r).2.2.2) v i)) (rfl) ?_
    show Zs _ _ (am_P 223).2 (37, [(0, .ref 73), (1, .int (3 : Int32)), (2, .int (nI r)), (3, .int v), (4, .int s), (5, .int (nI i))], [.int (ltl (3, (D.2.1 r).2.1, (D.2.1 r).2.2.1, (D.2.1 r).2.2.2) v i)]) (HH I J R T) _
    refine Z_jump 7 rfl ?_
    show Zs _ _ (am_P 223).2 (48, [(0, .ref 73), (1, .int (3 : Int32)), (2, .int (nI r)), (3, .int v), (4, .int s), (5, .int (nI i)), (6, .int (ltl (3, (D.2.1 r).2.1, (D.2.1 r).2.2.1, (D.2.1 r).2.2.2) v i))], [.int (nI r), .ref 76, .long (0 : Int64), .long (Int32.toInt64 (ltl (3, (D.2.1 r).2.1, (D.2.1 r).2.2.1, (D.2.1 r).2.2.2) v i))]) (HH I J R T) _
    refine Z_ialK (r) rfl rfl (rfl) (by omega) (by decide) ?_
    show Zs _ _ (am_P 223).2 (49, [(0, .ref 73), (1, .int (3 : Int32)), (2, .int (nI r)), (3, .int v), (4, .int s), (5, .int (nI i)), (6, .int (ltl (3, (D.2.1 r).2.1, (D.2.1 r).2.2.1, (D.2.1 r).2.2.2) v i))], [.int (I 76 r), .long (0 : Int64), .long (Int32.toInt64 (ltl (3, (D.2.1 r).2.1, (D.2.1 r).2.2.1, (D.2.1 r).2.2.2) v i))]) (HH I J R T) _
    refine Z_jump 1 rfl ?_
    show Zs _ _ (am_P 223).2 (50, [(0, .ref 73), (1, .int (3 : Int32)), (2, .int (nI r)), (3, .int v), (4, .int s), (5, .int (nI i)), (6, .int (ltl (3, (D.2.1 r).2.1, (D.2.1 r).2.2.1, (D.2.1 r).2.2.2) v i))], [.long (Int32.toInt64 (I 76 r)), .long (0 : Int64), .long (Int32.toInt64 (ltl (3, (D.2.1 r).2.1, (D.2.1 r).2.2.1, (D.2.1 r).2.2.2) v i))]) (HH I J R T) _
    by_cases b50 : 0 ≤ (ltl (3, (D.2.1 r).2.1, (D.2.1 r).2.2.1, (D.2.1 r).2.2.2) v i).toInt ∧ (ltl (3, (D.2.1 r).2.1, (D.2.1 r).2.2.1, (D.2.1 r).2.2.2) v i).toInt ≤ ((D.2.1 r).2.2.1 : Int)
    · refine Z_c1 rfl rfl rfl (E_pos (m_inI (a := 0) (b := ((D.2.1 r).2.2.1 : Int)) rfl e3) b50) ?_
      show Zs _ _ (am_P 223).2 (53, [(0, .ref 73), (1, .int (3 : Int32)), (2, .int (nI r)), (3, .int v), (4, .int s), (5, .int (nI i)), (6, .int (ltl (3, (D.2.1 r).2.1, (D.2.1 r).2.2.1, (D.2.1 r).2.2.2) v i))], [.int (1 : Int32)]) (HH I J R T) _
      refine Z_jump 4 rfl ?_
      show Zs _ _ (am_P 223).2 (60, [(0, .ref 73), (1, .int (3 : Int32)), (2, .int (nI r)), (3, .int v), (4, .int s), (5, .int (nI i)), (6, .int (ltl (3, (D.2.1 r).2.1, (D.2.1 r).2.2.1, (D.2.1 r).2.2.2) v i))], [.int (0 : Int32), .int (3 : Int32), .int (ltl (3, (D.2.1 r).2.1, (D.2.1 r).2.2.1, (D.2.1 r).2.2.2) v i)]) (HH I J R T) _
      refine Z_c1 rfl rfl rfl (m_takes) ?_
      show Zs _ _ (am_P 223).2 (63, [(0, .ref 73), (1, .int (3 : Int32)), (2, .int (nI r)), (3, .int v), (4, .int s), (5, .int (nI i)), (6, .int (ltl (3, (D.2.1 r).2.1, (D.2.1 r).2.2.1, (D.2.1 r).2.2.2) v i))], [.int (nI (ltv (3, (D.2.1 r).2.1, (D.2.1 r).2.2.1, (D.2.1 r).2.2.2))), .int (ltl (3, (D.2.1 r).2.1, (D.2.1 r).2.2.1, (D.2.1 r).2.2.2) v i)]) (HH I J R T) _
      refine Z_jump 4 rfl ?_
      show Zs _ _ (am_P 223).2 (68, [(0, .ref 73), (1, .int (3 : Int32)), (2, .int (nI r)), (3, .int v), (4, .int s), (5, .int (nI i)), (6, .int (ltl (3, (D.2.1 r).2.1, (D.2.1 r).2.2.1, (D.2.1 r).2.2.2) v i))], [.int (1 : Int32), .int (3 : Int32), .int (nI i), .int ((ltl (3, (D.2.1 r).2.1, (D.2.1 r).2.2.1, (D.2.1 r).2.2.2) v i) * (nI (ltv (3, (D.2.1 r).2.1, (D.2.1 r).2.2.1, (D.2.1 r).2.2.2))))]) (HH I J R T) _
      refine Z_c1 rfl rfl rfl (m_takes) ?_
      show Zs _ _ (am_P 223).2 (71, [(0, .ref 73), (1, .int (3 : Int32)), (2, .int (nI r)), (3, .int v), (4, .int s), (5, .int (nI i)), (6, .int (ltl (3, (D.2.1 r).2.1, (D.2.1 r).2.2.1, (D.2.1 r).2.2.2) v i))], [.int (nI (htv (3, (D.2.1 r).2.1, (D.2.1 r).2.2.1, (D.2.1 r).2.2.2))), .int (nI i), .int ((ltl (3, (D.2.1 r).2.1, (D.2.1 r).2.2.1, (D.2.1 r).2.2.2) v i) * (nI (ltv (3, (D.2.1 r).2.1, (D.2.1 r).2.2.1, (D.2.1 r).2.2.2))))]) (HH I J R T) _
      refine Z_jump 2 rfl ?_
      show Zs _ _ (am_P 223).2 (73, [(0, .ref 73), (1, .int (3 : Int32)), (2, .int (nI r)), (3, .int v), (4, .int s), (5, .int (nI i)), (6, .int (ltl (3, (D.2.1 r).2.1, (D.2.1 r).2.2.1, (D.2.1 r).2.2.2) v i))], [.int (((ltl (3, (D.2.1 r).2.1, (D.2.1 r).2.2.1, (D.2.1 r).2.2.2) v i) * (nI (ltv (3, (D.2.1 r).2.1, (D.2.1 r).2.2.1, (D.2.1 r).2.2.2)))) + ((nI i) * (nI (htv (3, (D.2.1 r).2.1, (D.2.1 r).2.2.1, (D.2.1 r).2.2.2)))))]) (HH I J R T) _
      refine Z_eqI (y := (ltt (3, (D.2.1 r).2.1, (D.2.1 r).2.2.1, (D.2.1 r).2.2.2) v i)) (rfl) ?_
      show Zs _ _ (am_P 223).2 (73, [(0, .ref 73), (1, .int (3 : Int32)), (2, .int (nI r)), (3, .int v), (4, .int s), (5, .int (nI i)), (6, .int (ltl (3, (D.2.1 r).2.1, (D.2.1 r).2.2.1, (D.2.1 r).2.2.2) v i))], [.int (ltt (3, (D.2.1 r).2.1, (D.2.1 r).2.2.1, (D.2.1 r).2.2.2) v i)]) (HH I J R T) _
      refine Z_jump 2 rfl ?_
      show Zs _ _ (am_P 223).2 (80, [(0, .ref 73), (1, .int (3 : Int32)), (2, .int (nI r)), (3, .int v), (4, .int s), (5, .int (nI i)), (6, .int (ltl (3, (D.2.1 r).2.1, (D.2.1 r).2.2.1, (D.2.1 r).2.2.2) v i)), (7, .int (ltt (3, (D.2.1 r).2.1, (D.2.1 r).2.2.1, (D.2.1 r).2.2.2) v i))], []) (HH I J R T) _
      exact W _ _ (by rw [if_pos b50])
    · refine Z_c1 rfl rfl rfl (E_neg (m_inI (a := 0) (b := ((D.2.1 r).2.2.1 : Int)) rfl e3) b50) ?_
      show Zs _ _ (am_P 223).2 (53, [(0, .ref 73), (1, .int (3 : Int32)), (2, .int (nI r)), (3, .int v), (4, .int s), (5, .int (nI i)), (6, .int (ltl (3, (D.2.1 r).2.1, (D.2.1 r).2.2.1, (D.2.1 r).2.2.2) v i))], [.int (0 : Int32)]) (HH I J R T) _
      refine Z_jump 3 rfl ?_
      show Zs _ _ (am_P 223).2 (80, [(0, .ref 73), (1, .int (3 : Int32)), (2, .int (nI r)), (3, .int v), (4, .int s), (5, .int (nI i)), (6, .int (ltl (3, (D.2.1 r).2.1, (D.2.1 r).2.2.1, (D.2.1 r).2.2.2) v i)), (7, .int (1000000000 : Int32))], []) (HH I J R T) _
      exact W _ _ (by rw [if_neg b50])
theorem m_least3 {I : hI} {J : hJ} {D : FD} {r : Nat} {v : Int32} (hD : DMf D I) (hr : r < D.1) : am_E sc (d + 2) 223 [.ref 73, .int 3, .int (nI r), .int v] (HH I J R T) (some (.int (mls (3, (D.2.1 r).2.1, (D.2.1 r).2.2.1, (D.2.1 r).2.2.2) v ((D.2.1 r).2.2.2 + 1) 0 1000000000))) (HH I J R T) := by
  refine E_Z (Ze_of (Nat.le_of_ble_eq_true rfl) ?_)
  refine Z_jump 4 rfl ?_
  show Zs _ _ (am_P 223).2 (7, [(0, .ref 73), (1, .int (3 : Int32)), (2, .int (nI r)), (3, .int v), (4, .int (1000000000 : Int32)), (5, .int (0 : Int32))], []) (HH I J R T) _
  exact m_mls3 hD hr ((D.2.1 r).2.2.2 + 1) 0 _ _ (by omega) rfl ⟨rfl, rfl⟩
def ftM (I : hI) (q : RD4) (x : Int32) : Nat → Nat → Int32 → Int32
  | 0, _, s => s
  | k + 1, i, s => if s = 0 then ftM I q x k (i + 1) 0 else if I 96 i = x then (if mls q (I 97 i) (q.2.2.2 + 1) 0 1000000000 = I 98 i then ftM I q x k (i + 1) 1 else ftM I q x k (i + 1) 0) else ftM I q x k (i + 1) 1
def kd1M (f b k : Int32) : Int32 := if f = 0 then b ||| 0 else b ||| k
def kdM (I : hI) (q : RD4) (x : Int32) (m : Nat) : Int32 := kd1M (ftM I (3, q.2.1, q.2.2.1, q.2.2.2) x m 0 1) (kd1M (ftM I (2, q.2.1, q.2.2.1, q.2.2.2) x m 0 1) (kd1M (ftM I (1, q.2.1, q.2.2.1, q.2.2.2) x m 0 1) (kd1M (ftM I (0, q.2.1, q.2.2.1, 0) x m 0 1) 0 1) 2) 4) 8
theorem m_kd4 {I : hI} {J : hJ} {D : FD} {r m : Nat} {b : Int32} (H : Q (some (.int b)) (HH I J R T)) : Zs sc (d + 3) (am_P 224).2 (15, [(0, .ref 73), (1, .int (nI r)), (2, .int b), (3, .int 4)], []) (HH I J R T) Q := by
  refine Z_jump 4 rfl ?_
  show Zs _ _ (am_P 224).2 (109, [(0, .ref 73), (1, .int (nI r)), (2, .int b), (3, .int (4 : Int32))], [.int b]) (HH I J R T) _
  refine Z_rI rfl (by first | exact am_nw0 _ | exact am_nw01 | rfl | assumption) ?_
  exact H
theorem m_kl3 {I : hI} {J : hJ} {D : FD} {r m : Nat} {b : Int32} (hD : DMf D I) (hr : r < D.1) (hm : I 73 40 = nI m) (hm6 : m ≤ 6) : ∀ (k i : Nat) (x s : Int32), i + k = m → x = nI i → Zs sc (d + 3) (am_P 224).2 (87, [(0, .ref 73), (1, .int (nI r)), (2, .int b), (3, .int 3), (4, .int (ftM I (3, (D.2.1 r).2.1, (D.2.1 r).2.2.1, (D.2.1 r).2.2.2) (nI r) k i s))], []) (HH I J R T) Q → Zs sc (d + 3) (am_P 224).2 (26, [(0, .ref 73), (1, .int (nI r)), (2, .int b), (3, .int 3), (4, .int s), (5, .int x)], []) (HH I J R T) Q
  | 0, i, x, s, hi, hx, H => by
    refine Z_jump 4 rfl ?_
    refine Z_bd (fun c32 => ?_) (fun c32 => absurd ((show I 73 40 ≤ x by rw [hm, hx]; exact nI_le (by omega) (by omega))) c32)
    show Zs _ _ (am_P 224).2 (87, [(0, .ref 73), (1, .int (nI r)), (2, .int b), (3, .int (3 : Int32)), (4, .int s), (5, .int x)], []) (HH I J R T) _
    exact Zs_wk (H) (lnD rfl) (lnD rfl) (by repeat (first | exact trivial | refine ⟨rfl, ?_⟩))
  | k + 1, i, x, s, hi, hx, H => by
    have ex : x + 1 = nI (i + 1) := by rw [hx]; exact nI_1 i
    unfold ftM at H
    refine Z_jump 4 rfl ?_
    refine Z_bd (fun c32 => absurd c32 ((show ¬ I 73 40 ≤ x by rw [hm, hx]; exact nI_ge (by omega) (by omega)))) (fun c32 => ?_)
    refine Z_jump 2 rfl ?_
    refine Z_bd (fun (c37 : s = (0 : Int32)) => ?_) (fun (c37 : ¬ (s = (0 : Int32))) => ?_)
    · refine Z_jump 4 rfl ?_
      show Zs _ _ (am_P 224).2 (26, [(0, .ref 73), (1, .int (nI r)), (2, .int b), (3, .int (3 : Int32)), (4, .int (0 : Int32)), (5, .int (x + 1))], []) (HH I J R T) _
      rw [if_pos c37] at H
      exact Zs_wk (m_kl3 hD hr hm hm6 k (i + 1) _ _ (by omega) ex H) (lnD rfl) (lnD rfl) (by repeat (first | exact trivial | refine ⟨rfl, ?_⟩))
    · refine Z_jump 3 rfl ?_
      show Zs _ _ (am_P 224).2 (46, [(0, .ref 73), (1, .int (nI r)), (2, .int b), (3, .int (3 : Int32)), (4, .int s), (5, .int x)], [.int x, .ref 96]) (HH I J R T) _
      refine Z_ialK (i) rfl rfl (hx) (by omega) (by decide) ?_
      show Zs _ _ (am_P 224).2 (47, [(0, .ref 73), (1, .int (nI r)), (2, .int b), (3, .int (3 : Int32)), (4, .int s), (5, .int x)], [.int (I 96 i)]) (HH I J R T) _
      refine Z_jump 2 rfl ?_
      refine Z_bn (fun (c48 : ¬ ((I 96 i) = (nI r))) => ?_) (fun (c48 : (I 96 i) = (nI r)) => ?_)
      · refine Z_jump 5 rfl ?_
        show Zs _ _ (am_P 224).2 (26, [(0, .ref 73), (1, .int (nI r)), (2, .int b), (3, .int (3 : Int32)), (4, .int (1 : Int32)), (5, .int (x + 1))], []) (HH I J R T) _
        rw [if_neg c37, if_neg c48] at H
        exact Zs_wk (m_kl3 hD hr hm hm6 k (i + 1) _ _ (by omega) ex H) (lnD rfl) (lnD rfl) (by repeat (first | exact trivial | refine ⟨rfl, ?_⟩))
      · refine Z_jump 6 rfl ?_
        show Zs _ _ (am_P 224).2 (60, [(0, .ref 73), (1, .int (nI r)), (2, .int b), (3, .int (3 : Int32)), (4, .int s), (5, .int x)], [.int x, .ref 97, .int (nI r), .int (3 : Int32), .ref 73]) (HH I J R T) _
        refine Z_ialK (i) rfl rfl (hx) (by omega) (by decide) ?_
        show Zs _ _ (am_P 224).2 (61, [(0, .ref 73), (1, .int (nI r)), (2, .int b), (3, .int (3 : Int32)), (4, .int s), (5, .int x)], [.int (I 97 i), .int (nI r), .int (3 : Int32), .ref 73]) (HH I J R T) _
        show Zs _ _ (am_P 224).2 (61, [(0, .ref 73), (1, .int (nI r)), (2, .int b), (3, .int (3 : Int32)), (4, .int s), (5, .int x)], [.int (I 97 i), .int (nI r), .int (3 : Int32), .ref 73]) (HH I J R T) _
        refine Z_c1 rfl rfl rfl (m_least3 hD hr) ?_
        show Zs _ _ (am_P 224).2 (64, [(0, .ref 73), (1, .int (nI r)), (2, .int b), (3, .int (3 : Int32)), (4, .int s), (5, .int x)], [.int (mls (3, (D.2.1 r).2.1, (D.2.1 r).2.2.1, (D.2.1 r).2.2.2) (I 97 i) ((D.2.1 r).2.2.2 + 1) 0 1000000000)]) (HH I J R T) _
        refine Z_jump 3 rfl ?_
        show Zs _ _ (am_P 224).2 (70, [(0, .ref 73), (1, .int (nI r)), (2, .int b), (3, .int (3 : Int32)), (4, .int s), (5, .int x)], [.int x, .ref 98, .int (mls (3, (D.2.1 r).2.1, (D.2.1 r).2.2.1, (D.2.1 r).2.2.2) (I 97 i) ((D.2.1 r).2.2.2 + 1) 0 1000000000)]) (HH I J R T) _
        refine Z_ialK (i) rfl rfl (hx) (by omega) (by decide) ?_
        show Zs _ _ (am_P 224).2 (71, [(0, .ref 73), (1, .int (nI r)), (2, .int b), (3, .int (3 : Int32)), (4, .int s), (5, .int x)], [.int (I 98 i), .int (mls (3, (D.2.1 r).2.1, (D.2.1 r).2.2.1, (D.2.1 r).2.2.2) (I 97 i) ((D.2.1 r).2.2.2 + 1) 0 1000000000)]) (HH I J R T) _
        refine Z_jump 1 rfl ?_
        refine Z_bn (fun (c71 : ¬ ((mls (3, (D.2.1 r).2.1, (D.2.1 r).2.2.1, (D.2.1 r).2.2.2) (I 97 i) ((D.2.1 r).2.2.2 + 1) 0 1000000000) = (I 98 i))) => ?_) (fun (c71 : (mls (3, (D.2.1 r).2.1, (D.2.1 r).2.2.1, (D.2.1 r).2.2.2) (I 97 i) ((D.2.1 r).2.2.2 + 1) 0 1000000000) = (I 98 i)) => ?_)
        · refine Z_jump 4 rfl ?_
          show Zs _ _ (am_P 224).2 (26, [(0, .ref 73), (1, .int (nI r)), (2, .int b), (3, .int (3 : Int32)), (4, .int (0 : Int32)), (5, .int (x + 1))], []) (HH I J R T) _
          rw [if_neg c37, if_pos c48, if_neg c71] at H
          exact Zs_wk (m_kl3 hD hr hm hm6 k (i + 1) _ _ (by omega) ex H) (lnD rfl) (lnD rfl) (by repeat (first | exact trivial | refine ⟨rfl, ?_⟩))
        · refine Z_jump 5 rfl ?_
          show Zs _ _ (am_P 224).2 (26, [(0, .ref 73), (1, .int (nI r)), (2, .int b), (3, .int (3 : Int32)), (4, .int (1 : Int32)), (5, .int (x + 1))], []) (HH I J R T) _
          rw [if_neg c37, if_pos c48, if_pos c71] at H
          exact Zs_wk (m_kl3 hD hr hm hm6 k (i + 1) _ _ (by omega) ex H) (lnD rfl) (lnD rfl) (by repeat (first | exact trivial | refine ⟨rfl, ?_⟩))
theorem m_kd3 {I : hI} {J : hJ} {D : FD} {r m : Nat} {b : Int32} (hD : DMf D I) (hr : r < D.1) (hm : I 73 40 = nI m) (hm6 : m ≤ 6) (H : Q (some (.int (kd1M (ftM I (3, (D.2.1 r).2.1, (D.2.1 r).2.2.1, (D.2.1 r).2.2.2) (nI r) m 0 1) (b) 8))) (HH I J R T)) : Zs sc (d + 3) (am_P 224).2 (15, [(0, .ref 73), (1, .int (nI r)), (2, .int b), (3, .int 3)], []) (HH I J R T) Q := by
  have W : Zs sc (d + 3) (am_P 224).2 (87, [(0, .ref 73), (1, .int (nI r)), (2, .int b), (3, .int 3), (4, .int (ftM I (3, (D.2.1 r).2.1, (D.2.1 r).2.2.1, (D.2.1 r).2.2.2) (nI r) m 0 1))], []) (HH I J R T) Q := by
    have K : ∀ b', kd1M (ftM I (3, (D.2.1 r).2.1, (D.2.1 r).2.2.1, (D.2.1 r).2.2.2) (nI r) m 0 1) b 8 = b' → Zs sc (d + 3) (am_P 224).2 (15, [(0, .ref 73), (1, .int (nI r)), (2, .int b'), (3, .int 4)], []) (HH I J R T) Q := fun b' hb => by
      rw [hb] at H
      exact m_kd4 (D := D) (r := r) (m := m) H
    unfold kd1M at K
    generalize ftM I (3, (D.2.1 r).2.1, (D.2.1 r).2.2.1, (D.2.1 r).2.2.2) (nI r) m 0 1 = f at K ⊢
    refine Z_jump 3 rfl ?_
    refine Z_bd (fun (c90 : f = (0 : Int32)) => ?_) (fun (c90 : ¬ (f = (0 : Int32))) => ?_)
    · refine Z_jump 5 rfl ?_
      show Zs _ _ (am_P 224).2 (15, [(0, .ref 73), (1, .int (nI r)), (2, .int (b ||| (0 : Int32))), (3, .int (4 : Int32)), (4, .int f)], []) (HH I J R T) _
      exact Zs_wk (K _ (by rw [if_pos c90])) (lnD rfl) (lnD rfl) (by repeat (first | exact trivial | refine ⟨rfl, ?_⟩))
    · refine Z_jump 8 rfl ?_
      show Zs _ _ (am_P 224).2 (15, [(0, .ref 73), (1, .int (nI r)), (2, .int (b ||| (8 : Int32))), (3, .int (4 : Int32)), (4, .int f)], []) (HH I J R T) _
      exact Zs_wk (K _ (by rw [if_neg c90])) (lnD rfl) (lnD rfl) (by repeat (first | exact trivial | refine ⟨rfl, ?_⟩))
  refine Z_jump 7 rfl ?_
  show Zs _ _ (am_P 224).2 (26, [(0, .ref 73), (1, .int (nI r)), (2, .int b), (3, .int (3 : Int32)), (4, .int (1 : Int32)), (5, .int (0 : Int32))], []) (HH I J R T) _
  exact m_kl3 hD hr hm hm6 m 0 _ _ (by omega) rfl W
theorem m_kl2 {I : hI} {J : hJ} {D : FD} {r m : Nat} {b : Int32} (hD : DMf D I) (hr : r < D.1) (hm : I 73 40 = nI m) (hm6 : m ≤ 6) : ∀ (k i : Nat) (x s : Int32), i + k = m → x = nI i → Zs sc (d + 3) (am_P 224).2 (87, [(0, .ref 73), (1, .int (nI r)), (2, .int b), (3, .int 2), (4, .int (ftM I (2, (D.2.1 r).2.1, (D.2.1 r).2.2.1, (D.2.1 r).2.2.2) (nI r) k i s))], []) (HH I J R T) Q → Zs sc (d + 3) (am_P 224).2 (26, [(0, .ref 73), (1, .int (nI r)), (2, .int b), (3, .int 2), (4, .int s), (5, .int x)], []) (HH I J R T) Q
  | 0, i, x, s, hi, hx, H => by
    refine Z_jump 4 rfl ?_
    refine Z_bd (fun c32 => ?_) (fun c32 => absurd ((show I 73 40 ≤ x by rw [hm, hx]; exact nI_le (by omega) (by omega))) c32)
    show Zs _ _ (am_P 224).2 (87, [(0, .ref 73), (1, .int (nI r)), (2, .int b), (3, .int (2 : Int32)), (4, .int s), (5, .int x)], []) (HH I J R T) _
    exact Zs_wk (H) (lnD rfl) (lnD rfl) (by repeat (first | exact trivial | refine ⟨rfl, ?_⟩))
  | k + 1, i, x, s, hi, hx, H => by
    have ex : x + 1 = nI (i + 1) := by rw [hx]; exact nI_1 i
    unfold ftM at H
    refine Z_jump 4 rfl ?_
    refine Z_bd (fun c32 => absurd c32 ((show ¬ I 73 40 ≤ x by rw [hm, hx]; exact nI_ge (by omega) (by omega)))) (fun c32 => ?_)
    refine Z_jump 2 rfl ?_
    refine Z_bd (fun (c37 : s = (0 : Int32)) => ?_) (fun (c37 : ¬ (s = (0 : Int32))) => ?_)
    · refine Z_jump 4 rfl ?_
      show Zs _ _ (am_P 224).2 (26, [(0, .ref 73), (1, .int (nI r)), (2, .int b), (3, .int (2 : Int32)), (4, .int (0 : Int32)), (5, .int (x + 1))], []) (HH I J R T) _
      rw [if_pos c37] at H
      exact Zs_wk (m_kl2 hD hr hm hm6 k (i + 1) _ _ (by omega) ex H) (lnD rfl) (lnD rfl) (by repeat (first | exact trivial | refine ⟨rfl, ?_⟩))
    · refine Z_jump 3 rfl ?_
      show Zs _ _ (am_P 224).2 (46, [(0, .ref 73), (1, .int (nI r)), (2, .int b), (3, .int (2 : Int32)), (4, .int s), (5, .int x)], [.int x, .ref 96]) (HH I J R T) _
      refine Z_ialK (i) rfl rfl (hx) (by omega) (by decide) ?_
      show Zs _ _ (am_P 224).2 (47, [(0, .ref 73), (1, .int (nI r)), (2, .int b), (3, .int (2 : Int32)), (4, .int s), (5, .int x)], [.int (I 96 i)]) (HH I J R T) _
      refine Z_jump 2 rfl ?_
      refine Z_bn (fun (c48 : ¬ ((I 96 i) = (nI r))) => ?_) (fun (c48 : (I 96 i) = (nI r)) => ?_)
      · refine Z_jump 5 rfl ?_
        show Zs _ _ (am_P 224).2 (26, [(0, .ref 73), (1, .int (nI r)), (2, .int b), (3, .int (2 : Int32)), (4, .int (1 : Int32)), (5, .int (x + 1))], []) (HH I J R T) _
        rw [if_neg c37, if_neg c48] at H
        exact Zs_wk (m_kl2 hD hr hm hm6 k (i + 1) _ _ (by omega) ex H) (lnD rfl) (lnD rfl) (by repeat (first | exact trivial | refine ⟨rfl, ?_⟩))
      · refine Z_jump 6 rfl ?_
        show Zs _ _ (am_P 224).2 (60, [(0, .ref 73), (1, .int (nI r)), (2, .int b), (3, .int (2 : Int32)), (4, .int s), (5, .int x)], [.int x, .ref 97, .int (nI r), .int (2 : Int32), .ref 73]) (HH I J R T) _
        refine Z_ialK (i) rfl rfl (hx) (by omega) (by decide) ?_
        show Zs _ _ (am_P 224).2 (61, [(0, .ref 73), (1, .int (nI r)), (2, .int b), (3, .int (2 : Int32)), (4, .int s), (5, .int x)], [.int (I 97 i), .int (nI r), .int (2 : Int32), .ref 73]) (HH I J R T) _
        show Zs _ _ (am_P 224).2 (61, [(0, .ref 73), (1, .int (nI r)), (2, .int b), (3, .int (2 : Int32)), (4, .int s), (5, .int x)], [.int (I 97 i), .int (nI r), .int (2 : Int32), .ref 73]) (HH I J R T) _
        refine Z_c1 rfl rfl rfl (m_least2 hD hr) ?_
        show Zs _ _ (am_P 224).2 (64, [(0, .ref 73), (1, .int (nI r)), (2, .int b), (3, .int (2 : Int32)), (4, .int s), (5, .int x)], [.int (mls (2, (D.2.1 r).2.1, (D.2.1 r).2.2.1, (D.2.1 r).2.2.2) (I 97 i) ((D.2.1 r).2.2.2 + 1) 0 1000000000)]) (HH I J R T) _
        refine Z_jump 3 rfl ?_
        show Zs _ _ (am_P 224).2 (70, [(0, .ref 73), (1, .int (nI r)), (2, .int b), (3, .int (2 : Int32)), (4, .int s), (5, .int x)], [.int x, .ref 98, .int (mls (2, (D.2.1 r).2.1, (D.2.1 r).2.2.1, (D.2.1 r).2.2.2) (I 97 i) ((D.2.1 r).2.2.2 + 1) 0 1000000000)]) (HH I J R T) _
        refine Z_ialK (i) rfl rfl (hx) (by omega) (by decide) ?_
        show Zs _ _ (am_P 224).2 (71, [(0, .ref 73), (1, .int (nI r)), (2, .int b), (3, .int (2 : Int32)), (4, .int s), (5, .int x)], [.int (I 98 i), .int (mls (2, (D.2.1 r).2.1, (D.2.1 r).2.2.1, (D.2.1 r).2.2.2) (I 97 i) ((D.2.1 r).2.2.2 + 1) 0 1000000000)]) (HH I J R T) _
        refine Z_jump 1 rfl ?_
        refine Z_bn (fun (c71 : ¬ ((mls (2, (D.2.1 r).2.1, (D.2.1 r).2.2.1, (D.2.1 r).2.2.2) (I 97 i) ((D.2.1 r).2.2.2 + 1) 0 1000000000) = (I 98 i))) => ?_) (fun (c71 : (mls (2, (D.2.1 r).2.1, (D.2.1 r).2.2.1, (D.2.1 r).2.2.2) (I 97 i) ((D.2.1 r).2.2.2 + 1) 0 1000000000) = (I 98 i)) => ?_)
        · refine Z_jump 4 rfl ?_
          show Zs _ _ (am_P 224).2 (26, [(0, .ref 73), (1, .int (nI r)), (2, .int b), (3, .int (2 : Int32)), (4, .int (0 : Int32)), (5, .int (x + 1))], []) (HH I J R T) _
          rw [if_neg c37, if_pos c48, if_neg c71] at H
          exact Zs_wk (m_kl2 hD hr hm hm6 k (i + 1) _ _ (by omega) ex H) (lnD rfl) (lnD rfl) (by repeat (first | exact trivial | refine ⟨rfl, ?_⟩))
        · refine Z_jump 5 rfl ?_
          show Zs _ _ (am_P 224).2 (26, [(0, .ref 73), (1, .int (nI r)), (2, .int b), (3, .int (2 : Int32)), (4, .int (1 : Int32)), (5, .int (x + 1))], []) (HH I J R T) _
          rw [if_neg c37, if_pos c48, if_pos c71] at H
          exact Zs_wk (m_kl2 hD hr hm hm6 k (i + 1) _ _ (by omega) ex H) (lnD rfl) (lnD rfl) (by repeat (first | exact trivial | refine ⟨rfl, ?_⟩))
theorem m_kd2 {I : hI} {J : hJ} {D : FD} {r m : Nat} {b : Int32} (hD : DMf D I) (hr : r < D.1) (hm : I 73 40 = nI m) (hm6 : m ≤ 6) (H : Q (some (.int (kd1M (ftM I (3, (D.2.1 r).2.1, (D.2.1 r).2.2.1, (D.2.1 r).2.2.2) (nI r) m 0 1) (kd1M (ftM I (2, (D.2.1 r).2.1, (D.2.1 r).2.2.1, (D.2.1 r).2.2.2) (nI r) m 0 1) (b) 4) 8))) (HH I J R T)) : Zs sc (d + 3) (am_P 224).2 (15, [(0, .ref 73), (1, .int (nI r)), (2, .int b), (3, .int 2)], []) (HH I J R T) Q := by
  have W : Zs sc (d + 3) (am_P 224).2 (87, [(0, .ref 73), (1, .int (nI r)), (2, .int b), (3, .int 2), (4, .int (ftM I (2, (D.2.1 r).2.1, (D.2.1 r).2.2.1, (D.2.1 r).2.2.2) (nI r) m 0 1))], []) (HH I J R T) Q := by
    have K : ∀ b', kd1M (ftM I (2, (D.2.1 r).2.1, (D.2.1 r).2.2.1, (D.2.1 r).2.2.2) (nI r) m 0 1) b 4 = b' → Zs sc (d + 3) (am_P 224).2 (15, [(0, .ref 73), (1, .int (nI r)), (2, .int b'), (3, .int 3)], []) (HH I J R T) Q := fun b' hb => by
      rw [hb] at H
      exact m_kd3 hD hr hm hm6 H
    unfold kd1M at K
    generalize ftM I (2, (D.2.1 r).2.1, (D.2.1 r).2.2.1, (D.2.1 r).2.2.2) (nI r) m 0 1 = f at K ⊢
    refine Z_jump 3 rfl ?_
    refine Z_bd (fun (c90 : f = (0 : Int32)) => ?_) (fun (c90 : ¬ (f = (0 : Int32))) => ?_)
    · refine Z_jump 5 rfl ?_
      show Zs _ _ (am_P 224).2 (15, [(0, .ref 73), (1, .int (nI r)), (2, .int (b ||| (0 : Int32))), (3, .int (3 : Int32)), (4, .int f)], []) (HH I J R T) _
      exact Zs_wk (K _ (by rw [if_pos c90])) (lnD rfl) (lnD rfl) (by repeat (first | exact trivial | refine ⟨rfl, ?_⟩))
    · refine Z_jump 8 rfl ?_
      show Zs _ _ (am_P 224).2 (15, [(0, .ref 73), (1, .int (nI r)), (2, .int (b ||| (4 : Int32))), (3, .int (3 : Int32)), (4, .int f)], []) (HH I J R T) _
      exact Zs_wk (K _ (by rw [if_neg c90])) (lnD rfl) (lnD rfl) (by repeat (first | exact trivial | refine ⟨rfl, ?_⟩))
  refine Z_jump 7 rfl ?_
  show Zs _ _ (am_P 224).2 (26, [(0, .ref 73), (1, .int (nI r)), (2, .int b), (3, .int (2 : Int32)), (4, .int (1 : Int32)), (5, .int (0 : Int32))], []) (HH I J R T) _
  exact m_kl2 hD hr hm hm6 m 0 _ _ (by omega) rfl W
theorem m_kl1 {I : hI} {J : hJ} {D : FD} {r m : Nat} {b : Int32} (hD : DMf D I) (hr : r < D.1) (hm : I 73 40 = nI m) (hm6 : m ≤ 6) : ∀ (k i : Nat) (x s : Int32), i + k = m → x = nI i → Zs sc (d + 3) (am_P 224).2 (87, [(0, .ref 73), (1, .int (nI r)), (2, .int b), (3, .int 1), (4, .int (ftM I (1, (D.2.1 r).2.1, (D.2.1 r).2.2.1, (D.2.1 r).2.2.2) (nI r) k i s))], []) (HH I J R T) Q → Zs sc (d + 3) (am_P 224).2 (26, [(0, .ref 73), (1, .int (nI r)), (2, .int b), (3, .int 1), (4, .int s), (5, .int x)], []) (HH I J R T) Q
  | 0, i, x, s, hi, hx, H => by
    refine Z_jump 4 rfl ?_
    refine Z_bd (fun c32 => ?_) (fun c32 => absurd ((show I 73 40 ≤ x by rw [hm, hx]; exact nI_le (by omega) (by omega))) c32)
    show Zs _ _ (am_P 224).2 (87, [(0, .ref 73), (1, .int (nI r)), (2, .int b), (3, .int (1 : Int32)), (4, .int s), (5, .int x)], []) (HH I J R T) _
    exact Zs_wk (H) (lnD rfl) (lnD rfl) (by repeat (first | exact trivial | refine ⟨rfl, ?_⟩))
  | k + 1, i, x, s, hi, hx, H => by
    have ex : x + 1 = nI (i + 1) := by rw [hx]; exact nI_1 i
    unfold ftM at H
    refine Z_jump 4 rfl ?_
    refine Z_bd (fun c32 => absurd c32 ((show ¬ I 73 40 ≤ x by rw [hm, hx]; exact nI_ge (by omega) (by omega)))) (fun c32 => ?_)
    refine Z_jump 2 rfl ?_
    refine Z_bd (fun (c37 : s = (0 : Int32)) => ?_) (fun (c37 : ¬ (s = (0 : Int32))) => ?_)
    · refine Z_jump 4 rfl ?_
      show Zs _ _ (am_P 224).2 (26, [(0, .ref 73), (1, .int (nI r)), (2, .int b), (3, .int (1 : Int32)), (4, .int (0 : Int32)), (5, .int (x + 1))], []) (HH I J R T) _
      rw [if_pos c37] at H
      exact Zs_wk (m_kl1 hD hr hm hm6 k (i + 1) _ _ (by omega) ex H) (lnD rfl) (lnD rfl) (by repeat (first | exact trivial | refine ⟨rfl, ?_⟩))
    · refine Z_jump 3 rfl ?_
      show Zs _ _ (am_P 224).2 (46, [(0, .ref 73), (1, .int (nI r)), (2, .int b), (3, .int (1 : Int32)), (4, .int s), (5, .int x)], [.int x, .ref 96]) (HH I J R T) _
      refine Z_ialK (i) rfl rfl (hx) (by omega) (by decide) ?_
      show Zs _ _ (am_P 224).2 (47, [(0, .ref 73), (1, .int (nI r)), (2, .int b), (3, .int (1 : Int32)), (4, .int s), (5, .int x)], [.int (I 96 i)]) (HH I J R T) _
      refine Z_jump 2 rfl ?_
      refine Z_bn (fun (c48 : ¬ ((I 96 i) = (nI r))) => ?_) (fun (c48 : (I 96 i) = (nI r)) => ?_)
      · refine Z_jump 5 rfl ?_
        show Zs _ _ (am_P 224).2 (26, [(0, .ref 73), (1, .int (nI r)), (2, .int b), (3, .int (1 : Int32)), (4, .int (1 : Int32)), (5, .int (x + 1))], []) (HH I J R T) _
        rw [if_neg c37, if_neg c48] at H
        exact Zs_wk (m_kl1 hD hr hm hm6 k (i + 1) _ _ (by omega) ex H) (lnD rfl) (lnD rfl) (by repeat (first | exact trivial | refine ⟨rfl, ?_⟩))
      · refine Z_jump 6 rfl ?_
        show Zs _ _ (am_P 224).2 (60, [(0, .ref 73), (1, .int (nI r)), (2, .int b), (3, .int (1 : Int32)), (4, .int s), (5, .int x)], [.int x, .ref 97, .int (nI r), .int (1 : Int32), .ref 73]) (HH I J R T) _
        refine Z_ialK (i) rfl rfl (hx) (by omega) (by decide) ?_
        show Zs _ _ (am_P 224).2 (61, [(0, .ref 73), (1, .int (nI r)), (2, .int b), (3, .int (1 : Int32)), (4, .int s), (5, .int x)], [.int (I 97 i), .int (nI r), .int (1 : Int32), .ref 73]) (HH I J R T) _
        show Zs _ _ (am_P 224).2 (61, [(0, .ref 73), (1, .int (nI r)), (2, .int b), (3, .int (1 : Int32)), (4, .int s), (5, .int x)], [.int (I 97 i), .int (nI r), .int (1 : Int32), .ref 73]) (HH I J R T) _
        refine Z_c1 rfl rfl rfl (m_least1 hD hr) ?_
        show Zs _ _ (am_P 224).2 (64, [(0, .ref 73), (1, .int (nI r)), (2, .int b), (3, .int (1 : Int32)), (4, .int s), (5, .int x)], [.int (mls (1, (D.2.1 r).2.1, (D.2.1 r).2.2.1, (D.2.1 r).2.2.2) (I 97 i) ((D.2.1 r).2.2.2 + 1) 0 1000000000)]) (HH I J R T) _
        refine Z_jump 3 rfl ?_
        show Zs _ _ (am_P 224).2 (70, [(0, .ref 73), (1, .int (nI r)), (2, .int b), (3, .int (1 : Int32)), (4, .int s), (5, .int x)], [.int x, .ref 98, .int (mls (1, (D.2.1 r).2.1, (D.2.1 r).2.2.1, (D.2.1 r).2.2.2) (I 97 i) ((D.2.1 r).2.2.2 + 1) 0 1000000000)]) (HH I J R T) _
        refine Z_ialK (i) rfl rfl (hx) (by omega) (by decide) ?_
        show Zs _ _ (am_P 224).2 (71, [(0, .ref 73), (1, .int (nI r)), (2, .int b), (3, .int (1 : Int32)), (4, .int s), (5, .int x)], [.int (I 98 i), .int (mls (1, (D.2.1 r).2.1, (D.2.1 r).2.2.1, (D.2.1 r).2.2.2) (I 97 i) ((D.2.1 r).2.2.2 + 1) 0 1000000000)]) (HH I J R T) _
        refine Z_jump 1 rfl ?_
        refine Z_bn (fun (c71 : ¬ ((mls (1, (D.2.1 r).2.1, (D.2.1 r).2.2.1, (D.2.1 r).2.2.2) (I 97 i) ((D.2.1 r).2.2.2 + 1) 0 1000000000) = (I 98 i))) => ?_) (fun (c71 : (mls (1, (D.2.1 r).2.1, (D.2.1 r).2.2.1, (D.2.1 r).2.2.2) (I 97 i) ((D.2.1 r).2.2.2 + 1) 0 1000000000) = (I 98 i)) => ?_)
        · refine Z_jump 4 rfl ?_
          show Zs _ _ (am_P 224).2 (26, [(0, .ref 73), (1, .int (nI r)), (2, .int b), (3, .int (1 : Int32)), (4, .int (0 : Int32)), (5, .int (x + 1))], []) (HH I J R T) _
          rw [if_neg c37, if_pos c48, if_neg c71] at H
          exact Zs_wk (m_kl1 hD hr hm hm6 k (i + 1) _ _ (by omega) ex H) (lnD rfl) (lnD rfl) (by repeat (first | exact trivial | refine ⟨rfl, ?_⟩))
        · refine Z_jump 5 rfl ?_
          show Zs _ _ (am_P 224).2 (26, [(0, .ref 73), (1, .int (nI r)), (2, .int b), (3, .int (1 : Int32)), (4, .int (1 : Int32)), (5, .int (x + 1))], []) (HH I J R T) _
          rw [if_neg c37, if_pos c48, if_pos c71] at H
          exact Zs_wk (m_kl1 hD hr hm hm6 k (i + 1) _ _ (by omega) ex H) (lnD rfl) (lnD rfl) (by repeat (first | exact trivial | refine ⟨rfl, ?_⟩))
theorem m_kd1 {I : hI} {J : hJ} {D : FD} {r m : Nat} {b : Int32} (hD : DMf D I) (hr : r < D.1) (hm : I 73 40 = nI m) (hm6 : m ≤ 6) (H : Q (some (.int (kd1M (ftM I (3, (D.2.1 r).2.1, (D.2.1 r).2.2.1, (D.2.1 r).2.2.2) (nI r) m 0 1) (kd1M (ftM I (2, (D.2.1 r).2.1, (D.2.1 r).2.2.1, (D.2.1 r).2.2.2) (nI r) m 0 1) (kd1M (ftM I (1, (D.2.1 r).2.1, (D.2.1 r).2.2.1, (D.2.1 r).2.2.2) (nI r) m 0 1) (b) 2) 4) 8))) (HH I J R T)) : Zs sc (d + 3) (am_P 224).2 (15, [(0, .ref 73), (1, .int (nI r)), (2, .int b), (3, .int 1)], []) (HH I J R T) Q := by
  have W : Zs sc (d + 3) (am_P 224).2 (87, [(0, .ref 73), (1, .int (nI r)), (2, .int b), (3, .int 1), (4, .int (ftM I (1, (D.2.1 r).2.1, (D.2.1 r).2.2.1, (D.2.1 r).2.2.2) (nI r) m 0 1))], []) (HH I J R T) Q := by
    have K : ∀ b', kd1M (ftM I (1, (D.2.1 r).2.1, (D.2.1 r).2.2.1, (D.2.1 r).2.2.2) (nI r) m 0 1) b 2 = b' → Zs sc (d + 3) (am_P 224).2 (15, [(0, .ref 73), (1, .int (nI r)), (2, .int b'), (3, .int 2)], []) (HH I J R T) Q := fun b' hb => by
      rw [hb] at H
      exact m_kd2 hD hr hm hm6 H
    unfold kd1M at K
    generalize ftM I (1, (D.2.1 r).2.1, (D.2.1 r).2.2.1, (D.2.1 r).2.2.2) (nI r) m 0 1 = f at K ⊢
    refine Z_jump 3 rfl ?_
    refine Z_bd (fun (c90 : f = (0 : Int32)) => ?_) (fun (c90 : ¬ (f = (0 : Int32))) => ?_)
    · refine Z_jump 5 rfl ?_
      show Zs _ _ (am_P 224).2 (15, [(0, .ref 73), (1, .int (nI r)), (2, .int (b ||| (0 : Int32))), (3, .int (2 : Int32)), (4, .int f)], []) (HH I J R T) _
      exact Zs_wk (K _ (by rw [if_pos c90])) (lnD rfl) (lnD rfl) (by repeat (first | exact trivial | refine ⟨rfl, ?_⟩))
    · refine Z_jump 8 rfl ?_
      show Zs _ _ (am_P 224).2 (15, [(0, .ref 73), (1, .int (nI r)), (2, .int (b ||| (2 : Int32))), (3, .int (2 : Int32)), (4, .int f)], []) (HH I J R T) _
      exact Zs_wk (K _ (by rw [if_neg c90])) (lnD rfl) (lnD rfl) (by repeat (first | exact trivial | refine ⟨rfl, ?_⟩))
  refine Z_jump 7 rfl ?_
  show Zs _ _ (am_P 224).2 (26, [(0, .ref 73), (1, .int (nI r)), (2, .int b), (3, .int (1 : Int32)), (4, .int (1 : Int32)), (5, .int (0 : Int32))], []) (HH I J R T) _
  exact m_kl1 hD hr hm hm6 m 0 _ _ (by omega) rfl W
theorem m_kl0 {I : hI} {J : hJ} {D : FD} {r m : Nat} {b : Int32} (hD : DMf D I) (hr : r < D.1) (hm : I 73 40 = nI m) (hm6 : m ≤ 6) : ∀ (k i : Nat) (x s : Int32), i + k = m → x = nI i → Zs sc (d + 3) (am_P 224).2 (87, [(0, .ref 73), (1, .int (nI r)), (2, .int b), (3, .int 0), (4, .int (ftM I (0, (D.2.1 r).2.1, (D.2.1 r).2.2.1, 0) (nI r) k i s))], []) (HH I J R T) Q → Zs sc (d + 3) (am_P 224).2 (26, [(0, .ref 73), (1, .int (nI r)), (2, .int b), (3, .int 0), (4, .int s), (5, .int x)], []) (HH I J R T) Q
  | 0, i, x, s, hi, hx, H => by
    refine Z_jump 4 rfl ?_
    refine Z_bd (fun c32 => ?_) (fun c32 => absurd ((show I 73 40 ≤ x by rw [hm, hx]; exact nI_le (by omega) (by omega))) c32)
    show Zs _ _ (am_P 224).2 (87, [(0, .ref 73), (1, .int (nI r)), (2, .int b), (3, .int (0 : Int32)), (4, .int s), (5, .int x)], []) (HH I J R T) _
    exact Zs_wk (H) (lnD rfl) (lnD rfl) (by repeat (first | exact trivial | refine ⟨rfl, ?_⟩))
  | k + 1, i, x, s, hi, hx, H => by
    have ex : x + 1 = nI (i + 1) := by rw [hx]; exact nI_1 i
    unfold ftM at H
    refine Z_jump 4 rfl ?_
    refine Z_bd (fun c32 => absurd c32 ((show ¬ I 73 40 ≤ x by rw [hm, hx]; exact nI_ge (by omega) (by omega)))) (fun c32 => ?_)
    refine Z_jump 2 rfl ?_
    refine Z_bd (fun (c37 : s = (0 : Int32)) => ?_) (fun (c37 : ¬ (s = (0 : Int32))) => ?_)
    · refine Z_jump 4 rfl ?_
      show Zs _ _ (am_P 224).2 (26, [(0, .ref 73), (1, .int (nI r)), (2, .int b), (3, .int (0 : Int32)), (4, .int (0 : Int32)), (5, .int (x + 1))], []) (HH I J R T) _
      rw [if_pos c37] at H
      exact Zs_wk (m_kl0 hD hr hm hm6 k (i + 1) _ _ (by omega) ex H) (lnD rfl) (lnD rfl) (by repeat (first | exact trivial | refine ⟨rfl, ?_⟩))
    · refine Z_jump 3 rfl ?_
      show Zs _ _ (am_P 224).2 (46, [(0, .ref 73), (1, .int (nI r)), (2, .int b), (3, .int (0 : Int32)), (4, .int s), (5, .int x)], [.int x, .ref 96]) (HH I J R T) _
      refine Z_ialK (i) rfl rfl (hx) (by omega) (by decide) ?_
      show Zs _ _ (am_P 224).2 (47, [(0, .ref 73), (1, .int (nI r)), (2, .int b), (3, .int (0 : Int32)), (4, .int s), (5, .int x)], [.int (I 96 i)]) (HH I J R T) _
      refine Z_jump 2 rfl ?_
      refine Z_bn (fun (c48 : ¬ ((I 96 i) = (nI r))) => ?_) (fun (c48 : (I 96 i) = (nI r)) => ?_)
      · refine Z_jump 5 rfl ?_
        show Zs _ _ (am_P 224).2 (26, [(0, .ref 73), (1, .int (nI r)), (2, .int b), (3, .int (0 : Int32)), (4, .int (1 : Int32)), (5, .int (x + 1))], []) (HH I J R T) _
        rw [if_neg c37, if_neg c48] at H
        exact Zs_wk (m_kl0 hD hr hm hm6 k (i + 1) _ _ (by omega) ex H) (lnD rfl) (lnD rfl) (by repeat (first | exact trivial | refine ⟨rfl, ?_⟩))
      · refine Z_jump 6 rfl ?_
        show Zs _ _ (am_P 224).2 (60, [(0, .ref 73), (1, .int (nI r)), (2, .int b), (3, .int (0 : Int32)), (4, .int s), (5, .int x)], [.int x, .ref 97, .int (nI r), .int (0 : Int32), .ref 73]) (HH I J R T) _
        refine Z_ialK (i) rfl rfl (hx) (by omega) (by decide) ?_
        show Zs _ _ (am_P 224).2 (61, [(0, .ref 73), (1, .int (nI r)), (2, .int b), (3, .int (0 : Int32)), (4, .int s), (5, .int x)], [.int (I 97 i), .int (nI r), .int (0 : Int32), .ref 73]) (HH I J R T) _
        show Zs _ _ (am_P 224).2 (61, [(0, .ref 73), (1, .int (nI r)), (2, .int b), (3, .int (0 : Int32)), (4, .int s), (5, .int x)], [.int (I 97 i), .int (nI r), .int (0 : Int32), .ref 73]) (HH I J R T) _
        refine Z_c1 rfl rfl rfl (m_least0 hD hr) ?_
        show Zs _ _ (am_P 224).2 (64, [(0, .ref 73), (1, .int (nI r)), (2, .int b), (3, .int (0 : Int32)), (4, .int s), (5, .int x)], [.int (mls (0, (D.2.1 r).2.1, (D.2.1 r).2.2.1, 0) (I 97 i) (0 + 1) 0 1000000000)]) (HH I J R T) _
        refine Z_jump 3 rfl ?_
        show Zs _ _ (am_P 224).2 (70, [(0, .ref 73), (1, .int (nI r)), (2, .int b), (3, .int (0 : Int32)), (4, .int s), (5, .int x)], [.int x, .ref 98, .int (mls (0, (D.2.1 r).2.1, (D.2.1 r).2.2.1, 0) (I 97 i) (0 + 1) 0 1000000000)]) (HH I J R T) _
        refine Z_ialK (i) rfl rfl (hx) (by omega) (by decide) ?_
        show Zs _ _ (am_P 224).2 (71, [(0, .ref 73), (1, .int (nI r)), (2, .int b), (3, .int (0 : Int32)), (4, .int s), (5, .int x)], [.int (I 98 i), .int (mls (0, (D.2.1 r).2.1, (D.2.1 r).2.2.1, 0) (I 97 i) (0 + 1) 0 1000000000)]) (HH I J R T) _
        refine Z_jump 1 rfl ?_
        refine Z_bn (fun (c71 : ¬ ((mls (0, (D.2.1 r).2.1, (D.2.1 r).2.2.1, 0) (I 97 i) (0 + 1) 0 1000000000) = (I 98 i))) => ?_) (fun (c71 : (mls (0, (D.2.1 r).2.1, (D.2.1 r).2.2.1, 0) (I 97 i) (0 + 1) 0 1000000000) = (I 98 i)) => ?_)
        · refine Z_jump 4 rfl ?_
          show Zs _ _ (am_P 224).2 (26, [(0, .ref 73), (1, .int (nI r)), (2, .int b), (3, .int (0 : Int32)), (4, .int (0 : Int32)), (5, .int (x + 1))], []) (HH I J R T) _
          rw [if_neg c37, if_pos c48, if_neg c71] at H
          exact Zs_wk (m_kl0 hD hr hm hm6 k (i + 1) _ _ (by omega) ex H) (lnD rfl) (lnD rfl) (by repeat (first | exact trivial | refine ⟨rfl, ?_⟩))
        · refine Z_jump 5 rfl ?_
          show Zs _ _ (am_P 224).2 (26, [(0, .ref 73), (1, .int (nI r)), (2, .int b), (3, .int (0 : Int32)), (4, .int (1 : Int32)), (5, .int (x + 1))], []) (HH I J R T) _
          rw [if_neg c37, if_pos c48, if_pos c71] at H
          exact Zs_wk (m_kl0 hD hr hm hm6 k (i + 1) _ _ (by omega) ex H) (lnD rfl) (lnD rfl) (by repeat (first | exact trivial | refine ⟨rfl, ?_⟩))
theorem m_kd0 {I : hI} {J : hJ} {D : FD} {r m : Nat} {b : Int32} (hD : DMf D I) (hr : r < D.1) (hm : I 73 40 = nI m) (hm6 : m ≤ 6) (H : Q (some (.int (kd1M (ftM I (3, (D.2.1 r).2.1, (D.2.1 r).2.2.1, (D.2.1 r).2.2.2) (nI r) m 0 1) (kd1M (ftM I (2, (D.2.1 r).2.1, (D.2.1 r).2.2.1, (D.2.1 r).2.2.2) (nI r) m 0 1) (kd1M (ftM I (1, (D.2.1 r).2.1, (D.2.1 r).2.2.1, (D.2.1 r).2.2.2) (nI r) m 0 1) (kd1M (ftM I (0, (D.2.1 r).2.1, (D.2.1 r).2.2.1, 0) (nI r) m 0 1) (b) 1) 2) 4) 8))) (HH I J R T)) : Zs sc (d + 3) (am_P 224).2 (15, [(0, .ref 73), (1, .int (nI r)), (2, .int b), (3, .int 0)], []) (HH I J R T) Q := by
  have W : Zs sc (d + 3) (am_P 224).2 (87, [(0, .ref 73), (1, .int (nI r)), (2, .int b), (3, .int 0), (4, .int (ftM I (0, (D.2.1 r).2.1, (D.2.1 r).2.2.1, 0) (nI r) m 0 1))], []) (HH I J R T) Q := by
    have K : ∀ b', kd1M (ftM I (0, (D.2.1 r).2.1, (D.2.1 r).2.2.1, 0) (nI r) m 0 1) b 1 = b' → Zs sc (d + 3) (am_P 224).2 (15, [(0, .ref 73), (1, .int (nI r)), (2, .int b'), (3, .int 1)], []) (HH I J R T) Q := fun b' hb => by
      rw [hb] at H
      exact m_kd1 hD hr hm hm6 H
    unfold kd1M at K
    generalize ftM I (0, (D.2.1 r).2.1, (D.2.1 r).2.2.1, 0) (nI r) m 0 1 = f at K ⊢
    refine Z_jump 3 rfl ?_
    refine Z_bd (fun (c90 : f = (0 : Int32)) => ?_) (fun (c90 : ¬ (f = (0 : Int32))) => ?_)
    · refine Z_jump 5 rfl ?_
      show Zs _ _ (am_P 224).2 (15, [(0, .ref 73), (1, .int (nI r)), (2, .int (b ||| (0 : Int32))), (3, .int (1 : Int32)), (4, .int f)], []) (HH I J R T) _
      exact Zs_wk (K _ (by rw [if_pos c90])) (lnD rfl) (lnD rfl) (by repeat (first | exact trivial | refine ⟨rfl, ?_⟩))
    · refine Z_jump 8 rfl ?_
      show Zs _ _ (am_P 224).2 (15, [(0, .ref 73), (1, .int (nI r)), (2, .int (b ||| (1 : Int32))), (3, .int (1 : Int32)), (4, .int f)], []) (HH I J R T) _
      exact Zs_wk (K _ (by rw [if_neg c90])) (lnD rfl) (lnD rfl) (by repeat (first | exact trivial | refine ⟨rfl, ?_⟩))
  refine Z_jump 7 rfl ?_
  show Zs _ _ (am_P 224).2 (26, [(0, .ref 73), (1, .int (nI r)), (2, .int b), (3, .int (0 : Int32)), (4, .int (1 : Int32)), (5, .int (0 : Int32))], []) (HH I J R T) _
  exact m_kl0 hD hr hm hm6 m 0 _ _ (by omega) rfl W
theorem m_kinds {I : hI} {J : hJ} {D : FD} {x : Int32} {m : Nat} (hD : DMf D I) (hm : I 73 40 = nI m) (hm6 : m ≤ 6) : Ze sc (d + 4) 224 [.ref 73, .int x] (HH I J R T) (fun r h => h = HH I J R T ∧ ((¬ M_rod D.1 x ∧ r = some (.int (-2))) ∨ ∃ k, k < D.1 ∧ x = nI k ∧ r = some (.int (kdM I (D.2.1 k) x m)))) := by
  refine Ze_of (Nat.le_of_ble_eq_true rfl) ?_
  by_cases hr : M_rod D.1 x
  · obtain ⟨k, hk, hx⟩ := rod_n hr
    subst hx
    refine Z_jump 2 rfl ?_
    show Zs _ _ (am_P 224).2 (2, [(0, .ref 73), (1, .int (nI k))], [.int (nI k), .ref 73]) (HH I J R T) _
    refine Z_c1 rfl rfl rfl (E_pos (m_isRodN hD.1 hD.2.1) hr) ?_
    show Zs _ _ (am_P 224).2 (5, [(0, .ref 73), (1, .int (nI k))], [.int (1 : Int32)]) (HH I J R T) _
    refine Z_jump 5 rfl ?_
    show Zs _ _ (am_P 224).2 (15, [(0, .ref 73), (1, .int (nI k)), (2, .int (0 : Int32)), (3, .int (0 : Int32))], []) (HH I J R T) _
    exact m_kd0 hD hk hm hm6 ⟨rfl, Or.inr ⟨k, hk, rfl, rfl⟩⟩
  · refine Z_jump 2 rfl ?_
    show Zs _ _ (am_P 224).2 (2, [(0, .ref 73), (1, .int x)], [.int x, .ref 73]) (HH I J R T) _
    refine Z_c1 rfl rfl rfl (E_neg (m_isRodN hD.1 hD.2.1) hr) ?_
    show Zs _ _ (am_P 224).2 (5, [(0, .ref 73), (1, .int x)], [.int (0 : Int32)]) (HH I J R T) _
    refine Z_jump 2 rfl ?_
    show Zs _ _ (am_P 224).2 (10, [(0, .ref 73), (1, .int x)], [.int (-2 : Int32)]) (HH I J R T) _
    refine Z_rI rfl (by first | exact am_nw0 _ | exact am_nw01 | rfl | assumption) ?_
    exact ⟨rfl, Or.inl ⟨hr, rfl⟩⟩
end MLB

