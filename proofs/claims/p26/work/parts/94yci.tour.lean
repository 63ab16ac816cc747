section TOU
variable {sc : Nat × (Nat → Int32)} {d : Nat} {J : hJ} {R : hR} {T : am_H} {Q : Option Value → am_H → Prop}
theorem c_tour {I : hI} {D : FD} {a b c w : Int32} (hR : P28 R) (hD : DC 18 D I R T) (hB : BS I) : am_E sc (d + 14) 112 [.ref 0, .int a, .int b, .int c, .int w] (HH I J R T) (some (.int (match (tourF I D a b c w).1 with
    | none => -3
    | some none => -1
    | some (some p) => if w = 0 then p.1 else p.2))) (HH (tourF I D a b c w).2 J R T) := by
  refine E_Z (Ze_of (Nat.le_of_ble_eq_true rfl) ?_)
  unfold tourF
  refine Z_jump 1 rfl ?_
  show Zs _ _ (am_P 112).2 (1, [(0, .ref 0), (1, .int a), (2, .int b), (3, .int c), (4, .int w)], [.int a]) (HH I J R T) _
  by_cases b1 : M_mil a
  · refine Z_c1 rfl rfl rfl (E_pos (c_isOfTour) b1) ?_
    show Zs _ _ (am_P 112).2 (4, [(0, .ref 0), (1, .int a), (2, .int b), (3, .int c), (4, .int w)], [.int (1 : Int32)]) (HH I J R T) _
    refine Z_jump 2 rfl ?_
    show Zs _ _ (am_P 112).2 (8, [(0, .ref 0), (1, .int a), (2, .int b), (3, .int c), (4, .int w)], [.int b]) (HH I J R T) _
    by_cases b8 : M_mil b
    · refine Z_c1 rfl rfl rfl (E_pos (c_isOfTour) b8) ?_
      show Zs _ _ (am_P 112).2 (11, [(0, .ref 0), (1, .int a), (2, .int b), (3, .int c), (4, .int w)], [.int (1 : Int32)]) (HH I J R T) _
      refine Z_jump 2 rfl ?_
      show Zs _ _ (am_P 112).2 (15, [(0, .ref 0), (1, .int a), (2, .int b), (3, .int c), (4, .int w)], [.int c]) (HH I J R T) _
      by_cases b15 : M_mil c
      · refine Z_c1 rfl rfl rfl (E_pos (c_isOfTour) b15) ?_
        show Zs _ _ (am_P 112).2 (18, [(0, .ref 0), (1, .int a), (2, .int b), (3, .int c), (4, .int w)], [.int (1 : Int32)]) (HH I J R T) _
        refine Z_jump 3 rfl ?_
        refine Z_bd (fun (c23 : w < (0 : Int32)) => ?_) (fun (c23 : ¬ (w < (0 : Int32))) => ?_)
        · refine Z_jump 1 rfl ?_
          show Zs _ _ (am_P 112).2 (34, [(0, .ref 0), (1, .int a), (2, .int b), (3, .int c), (4, .int w)], [.int (-3 : Int32)]) (HH I J R T) _
          refine Z_rI rfl (by first | exact am_nw0 _ | exact am_nw01 | rfl | assumption) ?_
          rw [if_pos b1, if_pos b8, if_pos b15, if_pos c23]
          exact ⟨rfl, rfl⟩
        · refine Z_jump 3 rfl ?_
          refine Z_bd (fun (c29 : w ≤ (1 : Int32)) => ?_) (fun (c29 : ¬ (w ≤ (1 : Int32))) => ?_)
          · refine Z_jump 6 rfl ?_
            show Zs _ _ (am_P 112).2 (45, [(0, .ref 0), (1, .int a), (2, .int b), (3, .int c), (4, .int w), (5, .int (1048576 : Int32)), (6, .int (-1 : Int32)), (7, .int (0 : Int32))], []) (HH I J R T) _
            rw [if_pos b1, if_pos b8, if_pos b15, if_neg c23, if_pos c29]
            refine c_to0 hR hD hB ?_
            unfold toQ
            cases (to0 D a b c I 1048576 (-1)).1 with
            | none => exact ⟨rfl, rfl⟩
            | some p => exact ⟨rfl, rfl⟩
          · refine Z_jump 1 rfl ?_
            show Zs _ _ (am_P 112).2 (34, [(0, .ref 0), (1, .int a), (2, .int b), (3, .int c), (4, .int w)], [.int (-3 : Int32)]) (HH I J R T) _
            refine Z_rI rfl (by first | exact am_nw0 _ | exact am_nw01 | rfl | assumption) ?_
            rw [if_pos b1, if_pos b8, if_pos b15, if_neg c23, if_neg c29]
            exact ⟨rfl, rfl⟩
      · refine Z_c1 rfl rfl rfl (E_neg (c_isOfTour) b15) ?_
        show Zs _ _ (am_P 112).2 (18, [(0, .ref 0), (1, .int a), (2, .int b), (3, .int c), (4, .int w)], [.int (0 : Int32)]) (HH I J R T) _
        refine Z_jump 2 rfl ?_
        show Zs _ _ (am_P 112).2 (34, [(0, .ref 0), (1, .int a), (2, .int b), (3, .int c), (4, .int w)], [.int (-3 : Int32)]) (HH I J R T) _
        refine Z_rI rfl (by first | exact am_nw0 _ | exact am_nw01 | rfl | assumption) ?_
        rw [if_pos b1, if_pos b8, if_neg b15]
        exact ⟨rfl, rfl⟩
    · refine Z_c1 rfl rfl rfl (E_neg (c_isOfTour) b8) ?_
      show Zs _ _ (am_P 112).2 (11, [(0, .ref 0), (1, .int a), (2, .int b), (3, .int c), (4, .int w)], [.int (0 : Int32)]) (HH I J R T) _
      refine Z_jump 2 rfl ?_
      show Zs _ _ (am_P 112).2 (34, [(0, .ref 0), (1, .int a), (2, .int b), (3, .int c), (4, .int w)], [.int (-3 : Int32)]) (HH I J R T) _
      refine Z_rI rfl (by first | exact am_nw0 _ | exact am_nw01 | rfl | assumption) ?_
      rw [if_pos b1, if_neg b8]
      exact ⟨rfl, rfl⟩
  · refine Z_c1 rfl rfl rfl (E_neg (c_isOfTour) b1) ?_
    show Zs _ _ (am_P 112).2 (4, [(0, .ref 0), (1, .int a), (2, .int b), (3, .int c), (4, .int w)], [.int (0 : Int32)]) (HH I J R T) _
    refine Z_jump 2 rfl ?_
    show Zs _ _ (am_P 112).2 (34, [(0, .ref 0), (1, .int a), (2, .int b), (3, .int c), (4, .int w)], [.int (-3 : Int32)]) (HH I J R T) _
    refine Z_rI rfl (by first | exact am_nw0 _ | exact am_nw01 | rfl | assumption) ?_
    rw [if_neg b1]
    exact ⟨rfl, rfl⟩
end TOU

