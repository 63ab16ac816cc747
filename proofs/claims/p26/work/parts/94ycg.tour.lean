section TOU
variable {sc : Nat × (Nat → Int32)} {d : Nat} {J : hJ} {R : hR} {T : am_H} {Q : Option Value → am_H → Prop}
theorem c_to4 {D : FD} {a b c w : Int32} {I : hI} {lt lo : Int32} (hR : P28 R) (hD : DC 18 D I R T) (hB : BS I) (H : toQ w J R T Q (to4 D a b c I lt lo)) : Zs sc (d + 13) (am_P 112).2 (45, [(0, .ref 0), (1, .int a), (2, .int b), (3, .int c), (4, .int w), (5, .int lt), (6, .int lo), (7, .int 4)], []) (HH I J R T) Q := by
  have ho := DC_ok hD
  have hD0 : DC 18 D (gS0 I D c).2 R T := DC_of hD (gS0_c 18 (by omega)) rfl
  have hB0 : BS (gS0 I D c).2 := gS0_BS ho hB
  have hD1 : DC 18 D (gS1 (gS0 I D c).2 D a).2 R T := DC_of hD0 (gS1_c 18 (by omega)) rfl
  have hB1 : BS (gS1 (gS0 I D c).2 D a).2 := gS1_BS ho hB0
  have hD2 : DC 18 D (gS2 (gS1 (gS0 I D c).2 D a).2 D b).2 R T := DC_of hD1 (gS2_c 18 (by omega)) rfl
  have hB2 : BS (gS2 (gS1 (gS0 I D c).2 D a).2 D b).2 := gS2_BS ho hB1
  unfold to4 toN toM at H
  refine Z_jump 8 rfl ?_
  show Zs _ _ (am_P 112).2 (60, [(0, .ref 0), (1, .int a), (2, .int b), (3, .int c), (4, .int w), (5, .int lt), (6, .int lo), (7, .int (4 : Int32)), (8, .int (2 : Int32))], [.int (4 : Int32)]) (HH I J R T) _
  refine Z_c1 rfl rfl rfl (E_run 30 rfl) ?_
  show Zs _ _ (am_P 112).2 (63, [(0, .ref 0), (1, .int a), (2, .int b), (3, .int c), (4, .int w), (5, .int lt), (6, .int lo), (7, .int (4 : Int32)), (8, .int (2 : Int32))], [.int (0 : Int32)]) (HH I J R T) _
  refine Z_jump 13 rfl ?_
  show Zs _ _ (am_P 112).2 (83, [(0, .ref 0), (1, .int a), (2, .int b), (3, .int c), (4, .int w), (5, .int lt), (6, .int lo), (7, .int (4 : Int32)), (8, .int (2 : Int32)), (9, .int (0 : Int32))], [.int (2 : Int32), .int c, .int b, .int a, .int (0 : Int32), .ref 22, .ref 0]) (HH I J R T) _
  refine Z_c1 rfl rfl rfl (c_pickA) ?_
  show Zs _ _ (am_P 112).2 (86, [(0, .ref 0), (1, .int a), (2, .int b), (3, .int c), (4, .int w), (5, .int lt), (6, .int lo), (7, .int (4 : Int32)), (8, .int (2 : Int32)), (9, .int (0 : Int32))], [.int c, .int (0 : Int32), .ref 22, .ref 0]) (HH I J R T) _
  show Zs _ _ (am_P 112).2 (86, [(0, .ref 0), (1, .int a), (2, .int b), (3, .int c), (4, .int w), (5, .int lt), (6, .int lo), (7, .int (4 : Int32)), (8, .int (2 : Int32)), (9, .int (0 : Int32))], [.int c, .int (0 : Int32), .ref 22, .ref 0]) (HH I J R T) _
  by_cases b86 : (gS0 I D c).1 = -1
  · refine Z_c1 rfl rfl rfl (E_pos (c_goOn0 hR.1 hD hB) b86) ?_
    show Zs _ _ (am_P 112).2 (89, [(0, .ref 0), (1, .int a), (2, .int b), (3, .int c), (4, .int w), (5, .int lt), (6, .int lo), (7, .int (4 : Int32)), (8, .int (2 : Int32)), (9, .int (0 : Int32))], [.int (0 : Int32)]) (HH (gS0 I D c).2 J R T) _
    refine Z_jump 2 rfl ?_
    show Zs _ _ (am_P 112).2 (93, [(0, .ref 0), (1, .int a), (2, .int b), (3, .int c), (4, .int w), (5, .int lt), (6, .int lo), (7, .int (4 : Int32)), (8, .int (2 : Int32)), (9, .int (0 : Int32))], [.int (-1 : Int32)]) (HH (gS0 I D c).2 J R T) _
    refine Z_rI rfl (by first | exact am_nw0 _ | exact am_nw01 | rfl | assumption) ?_
    rw [if_pos b86] at H
    exact H
  · refine Z_c1 rfl rfl rfl (E_neg (c_goOn0 hR.1 hD hB) b86) ?_
    show Zs _ _ (am_P 112).2 (89, [(0, .ref 0), (1, .int a), (2, .int b), (3, .int c), (4, .int w), (5, .int lt), (6, .int lo), (7, .int (4 : Int32)), (8, .int (2 : Int32)), (9, .int (0 : Int32))], [.int (1 : Int32)]) (HH (gS0 I D c).2 J R T) _
    refine Z_jump 5 rfl ?_
    show Zs _ _ (am_P 112).2 (100, [(0, .ref 0), (1, .int a), (2, .int b), (3, .int c), (4, .int w), (5, .int lt), (6, .int lo), (7, .int (4 : Int32)), (8, .int (2 : Int32)), (9, .int (0 : Int32))], [.int (0 : Int32), .ref 28, .ref 0]) (HH (gS0 I D c).2 J R T) _
    refine Z_c1 rfl rfl rfl (c_stAt28 (K := 0) hR.1 rfl (by omega)) ?_
    show Zs _ _ (am_P 112).2 (103, [(0, .ref 0), (1, .int a), (2, .int b), (3, .int c), (4, .int w), (5, .int lt), (6, .int lo), (7, .int (4 : Int32)), (8, .int (2 : Int32)), (9, .int (0 : Int32))], [.ref 29, .ref 0]) (HH (gS0 I D c).2 J R T) _
    refine Z_jump 5 rfl ?_
    show Zs _ _ (am_P 112).2 (109, [(0, .ref 0), (1, .int a), (2, .int b), (3, .int c), (4, .int w), (5, .int lt), (6, .int lo), (7, .int (4 : Int32)), (8, .int (2 : Int32)), (9, .int (0 : Int32))], [.int (0 : Int32), .int c, .int b, .int a, .int (1 : Int32), .ref 29, .ref 0]) (HH (gS0 I D c).2 J R T) _
    refine Z_c1 rfl rfl rfl (c_pickA) ?_
    show Zs _ _ (am_P 112).2 (112, [(0, .ref 0), (1, .int a), (2, .int b), (3, .int c), (4, .int w), (5, .int lt), (6, .int lo), (7, .int (4 : Int32)), (8, .int (2 : Int32)), (9, .int (0 : Int32))], [.int a, .int (1 : Int32), .ref 29, .ref 0]) (HH (gS0 I D c).2 J R T) _
    show Zs _ _ (am_P 112).2 (112, [(0, .ref 0), (1, .int a), (2, .int b), (3, .int c), (4, .int w), (5, .int lt), (6, .int lo), (7, .int (4 : Int32)), (8, .int (2 : Int32)), (9, .int (0 : Int32))], [.int a, .int (1 : Int32), .ref 29, .ref 0]) (HH (gS0 I D c).2 J R T) _
    by_cases b112 : (gS1 (gS0 I D c).2 D a).1 = -1
    · refine Z_c1 rfl rfl rfl (E_pos (c_goOn1 hR.2.1 hD0 hB0) b112) ?_
      show Zs _ _ (am_P 112).2 (115, [(0, .ref 0), (1, .int a), (2, .int b), (3, .int c), (4, .int w), (5, .int lt), (6, .int lo), (7, .int (4 : Int32)), (8, .int (2 : Int32)), (9, .int (0 : Int32))], [.int (0 : Int32)]) (HH (gS1 (gS0 I D c).2 D a).2 J R T) _
      refine Z_jump 2 rfl ?_
      show Zs _ _ (am_P 112).2 (148, [(0, .ref 0), (1, .int a), (2, .int b), (3, .int c), (4, .int w), (5, .int lt), (6, .int lo), (7, .int (4 : Int32)), (8, .int (2 : Int32)), (9, .int (0 : Int32))], [.int (-1 : Int32)]) (HH (gS1 (gS0 I D c).2 D a).2 J R T) _
      refine Z_rI rfl (by first | exact am_nw0 _ | exact am_nw01 | rfl | assumption) ?_
      rw [if_neg b86, if_pos b112] at H
      exact H
    · refine Z_c1 rfl rfl rfl (E_neg (c_goOn1 hR.2.1 hD0 hB0) b112) ?_
      show Zs _ _ (am_P 112).2 (115, [(0, .ref 0), (1, .int a), (2, .int b), (3, .int c), (4, .int w), (5, .int lt), (6, .int lo), (7, .int (4 : Int32)), (8, .int (2 : Int32)), (9, .int (0 : Int32))], [.int (1 : Int32)]) (HH (gS1 (gS0 I D c).2 D a).2 J R T) _
      refine Z_jump 5 rfl ?_
      show Zs _ _ (am_P 112).2 (124, [(0, .ref 0), (1, .int a), (2, .int b), (3, .int c), (4, .int w), (5, .int lt), (6, .int lo), (7, .int (4 : Int32)), (8, .int (2 : Int32)), (9, .int (0 : Int32))], [.int (1 : Int32), .ref 28, .ref 0]) (HH (gS1 (gS0 I D c).2 D a).2 J R T) _
      refine Z_c1 rfl rfl rfl (c_stAt28 (K := 1) hR.2.1 rfl (by omega)) ?_
      show Zs _ _ (am_P 112).2 (127, [(0, .ref 0), (1, .int a), (2, .int b), (3, .int c), (4, .int w), (5, .int lt), (6, .int lo), (7, .int (4 : Int32)), (8, .int (2 : Int32)), (9, .int (0 : Int32))], [.ref 32, .ref 0]) (HH (gS1 (gS0 I D c).2 D a).2 J R T) _
      refine Z_jump 9 rfl ?_
      show Zs _ _ (am_P 112).2 (138, [(0, .ref 0), (1, .int a), (2, .int b), (3, .int c), (4, .int w), (5, .int lt), (6, .int lo), (7, .int (4 : Int32)), (8, .int (2 : Int32)), (9, .int (0 : Int32))], [.int (1 : Int32), .int c, .int b, .int a, .int (2 : Int32), .ref 32, .ref 0]) (HH (gS1 (gS0 I D c).2 D a).2 J R T) _
      refine Z_c1 rfl rfl rfl (c_pickA) ?_
      show Zs _ _ (am_P 112).2 (141, [(0, .ref 0), (1, .int a), (2, .int b), (3, .int c), (4, .int w), (5, .int lt), (6, .int lo), (7, .int (4 : Int32)), (8, .int (2 : Int32)), (9, .int (0 : Int32))], [.int b, .int (2 : Int32), .ref 32, .ref 0]) (HH (gS1 (gS0 I D c).2 D a).2 J R T) _
      show Zs _ _ (am_P 112).2 (141, [(0, .ref 0), (1, .int a), (2, .int b), (3, .int c), (4, .int w), (5, .int lt), (6, .int lo), (7, .int (4 : Int32)), (8, .int (2 : Int32)), (9, .int (0 : Int32))], [.int b, .int (2 : Int32), .ref 32, .ref 0]) (HH (gS1 (gS0 I D c).2 D a).2 J R T) _
      by_cases b141 : (gS2 (gS1 (gS0 I D c).2 D a).2 D b).1 = -1
      · refine Z_c1 rfl rfl rfl (E_pos (c_goOn2 hR.2.2 hD1 hB1) b141) ?_
        show Zs _ _ (am_P 112).2 (144, [(0, .ref 0), (1, .int a), (2, .int b), (3, .int c), (4, .int w), (5, .int lt), (6, .int lo), (7, .int (4 : Int32)), (8, .int (2 : Int32)), (9, .int (0 : Int32))], [.int (0 : Int32)]) (HH (gS2 (gS1 (gS0 I D c).2 D a).2 D b).2 J R T) _
        refine Z_jump 2 rfl ?_
        show Zs _ _ (am_P 112).2 (148, [(0, .ref 0), (1, .int a), (2, .int b), (3, .int c), (4, .int w), (5, .int lt), (6, .int lo), (7, .int (4 : Int32)), (8, .int (2 : Int32)), (9, .int (0 : Int32))], [.int (-1 : Int32)]) (HH (gS2 (gS1 (gS0 I D c).2 D a).2 D b).2 J R T) _
        refine Z_rI rfl (by first | exact am_nw0 _ | exact am_nw01 | rfl | assumption) ?_
        rw [if_neg b86, if_neg b112, if_pos b141] at H
        exact H
      · refine Z_c1 rfl rfl rfl (E_neg (c_goOn2 hR.2.2 hD1 hB1) b141) ?_
        show Zs _ _ (am_P 112).2 (144, [(0, .ref 0), (1, .int a), (2, .int b), (3, .int c), (4, .int w), (5, .int lt), (6, .int lo), (7, .int (4 : Int32)), (8, .int (2 : Int32)), (9, .int (0 : Int32))], [.int (1 : Int32)]) (HH (gS2 (gS1 (gS0 I D c).2 D a).2 D b).2 J R T) _
        refine Z_jump 2 rfl ?_
        show Zs _ _ (am_P 112).2 (150, [(0, .ref 0), (1, .int a), (2, .int b), (3, .int c), (4, .int w), (5, .int lt), (6, .int lo), (7, .int (4 : Int32)), (8, .int (2 : Int32)), (9, .int (0 : Int32))], [.ref 0]) (HH (gS2 (gS1 (gS0 I D c).2 D a).2 D b).2 J R T) _
        refine Z_c1 rfl rfl rfl (c_spentA hR.2.2) ?_
        show Zs _ _ (am_P 112).2 (153, [(0, .ref 0), (1, .int a), (2, .int b), (3, .int c), (4, .int w), (5, .int lt), (6, .int lo), (7, .int (4 : Int32)), (8, .int (2 : Int32)), (9, .int (0 : Int32))], [.int ((gS2 (gS1 (gS0 I D c).2 D a).2 D b).2 35 3)]) (HH (gS2 (gS1 (gS0 I D c).2 D a).2 D b).2 J R T) _
        refine Z_jump 4 rfl ?_
        refine Z_bd (fun (c159 : lt ≤ ((gS2 (gS1 (gS0 I D c).2 D a).2 D b).2 35 3)) => ?_) (fun (c159 : ¬ (lt ≤ ((gS2 (gS1 (gS0 I D c).2 D a).2 D b).2 35 3))) => ?_)
        · refine Z_jump 2 rfl ?_
          show Zs _ _ (am_P 112).2 (45, [(0, .ref 0), (1, .int a), (2, .int b), (3, .int c), (4, .int w), (5, .int lt), (6, .int lo), (7, .int (5 : Int32)), (8, .int (2 : Int32)), (9, .int (0 : Int32)), (10, .int ((gS2 (gS1 (gS0 I D c).2 D a).2 D b).2 35 3))], []) (HH (gS2 (gS1 (gS0 I D c).2 D a).2 D b).2 J R T) _
          rw [if_neg b86, if_neg b112, if_neg b141, if_pos c159] at H
          exact Zs_wk (c_to5 hR hD2 hB2 H) (lnD rfl) (lnD rfl) (by repeat (first | exact trivial | refine ⟨rfl, ?_⟩))
        · refine Z_jump 6 rfl ?_
          show Zs _ _ (am_P 112).2 (45, [(0, .ref 0), (1, .int a), (2, .int b), (3, .int c), (4, .int w), (5, .int ((gS2 (gS1 (gS0 I D c).2 D a).2 D b).2 35 3)), (6, .int (4 : Int32)), (7, .int (5 : Int32)), (8, .int (2 : Int32)), (9, .int (0 : Int32)), (10, .int ((gS2 (gS1 (gS0 I D c).2 D a).2 D b).2 35 3))], []) (HH (gS2 (gS1 (gS0 I D c).2 D a).2 D b).2 J R T) _
          rw [if_neg b86, if_neg b112, if_neg b141, if_neg c159] at H
          exact Zs_wk (c_to5 hR hD2 hB2 H) (lnD rfl) (lnD rfl) (by repeat (first | exact trivial | refine ⟨rfl, ?_⟩))
end TOU

