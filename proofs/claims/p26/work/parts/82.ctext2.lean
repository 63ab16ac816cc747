/-! The class's text: words, numbers. -/
section CTY
variable {sc : Nat × (Nat → Int32)} {d : Nat} {I : hI} {J : hJ} {R : hR} {T : am_H} {h : am_H} {Q : Option Value → am_H → Prop} {tx : Nat → Nat} {c : Nat}
theorem w_len1 : am_E sc (d + 5) 229 [.retAddr 1] h (some (.int 5)) h := E_run 20 rfl
theorem c_wF {s : Nat} (hK : CTK tx c s I) : am_E sc (d + 6) 61 [.ref 1, .retAddr 1] (HH I J R T) (some (.int (if wF tx s (tE tx c s) then 1 else 0))) (HH I J R T) := by
  refine E_Z (Ze_of (Nat.le_of_ble_eq_true rfl) ?_)
  have hc := hK.1.2.1
  have hE := tE_c (tx := tx) hK.2.1
  have e8 : I 1 4 - I 1 3 = nI (tE tx c s - s) := by rw [hK.2.2.1, hK.2.2.2.1]; exact nI_subI hE.1
  have e13 : nI (tE tx c s - s) = 5 ↔ tE tx c s = s + 5 := by rw [show (5 : Int32) = nI 5 from rfl, nI_eq (by omega) (by omega)]; omega
  have hl : ∀ j, tE tx c s = s + 5 → j < 5 → I 1 3 + nI j = nI (s + j) ∧ s + j < 160 ∧ ∀ t, t ≤ 255 → (I 2 (s + j) = nI t ↔ tx (s + j) = t) := fun j hj1 hj2 => by
    have hj : s + j < c := by omega
    have h255 := hK.1.2.2.2 _ hj
    refine ⟨by rw [hK.2.2.1]; exact nI_add s j, by omega, fun t ht => ?_⟩
    rw [hK.1.2.2.1 _ hj]
    exact nI_eq (by omega) (by omega)
  refine Z_jump 5 rfl ?_
  show Zs _ _ (am_P 61).2 (9, [(0, .ref 1), (1, .retAddr 1)], [.int ((I 1 4) - (I 1 3))]) (HH I J R T) _
  refine Z_eqI (e8) ?_
  show Zs _ _ (am_P 61).2 (9, [(0, .ref 1), (1, .retAddr 1)], [.int (nI (tE tx c s - s))]) (HH I J R T) _
  refine Z_jump 1 rfl ?_
  show Zs _ _ (am_P 61).2 (10, [(0, .ref 1), (1, .retAddr 1)], [.retAddr 1, .int (nI (tE tx c s - s))]) (HH I J R T) _
  refine Z_c1 rfl rfl rfl (w_len1) ?_
  show Zs _ _ (am_P 61).2 (13, [(0, .ref 1), (1, .retAddr 1)], [.int (5 : Int32), .int (nI (tE tx c s - s))]) (HH I J R T) _
  refine Z_jump 1 rfl ?_
  refine Z_bd (fun (c13 : (nI (tE tx c s - s)) = (5 : Int32)) => ?_) (fun (c13 : ¬ ((nI (tE tx c s - s)) = (5 : Int32))) => ?_)
  · refine Z_jump 4 rfl ?_
    show Zs _ _ (am_P 61).2 (22, [(0, .ref 1), (1, .retAddr 1), (2, .int (0 : Int32))], [.retAddr 1, .int (0 : Int32)]) (HH I J R T) _
    refine Z_c1 rfl rfl rfl (w_len1) ?_
    show Zs _ _ (am_P 61).2 (25, [(0, .ref 1), (1, .retAddr 1), (2, .int (0 : Int32))], [.int (5 : Int32), .int (0 : Int32)]) (HH I J R T) _
    refine Z_jump 6 rfl ?_
    show Zs _ _ (am_P 61).2 (35, [(0, .ref 1), (1, .retAddr 1), (2, .int (0 : Int32))], [.int ((I 1 3) + (0 : Int32)), .ref 1]) (HH I J R T) _
    refine Z_c1 rfl rfl rfl (c_letterAt (hl 0 (e13.mp c13) (by omega)).1 (hl 0 (e13.mp c13) (by omega)).2.1) ?_
    show Zs _ _ (am_P 61).2 (38, [(0, .ref 1), (1, .retAddr 1), (2, .int (0 : Int32))], [.int (I 2 (s + 0))]) (HH I J R T) _
    refine Z_jump 2 rfl ?_
    show Zs _ _ (am_P 61).2 (40, [(0, .ref 1), (1, .retAddr 1), (2, .int (0 : Int32))], [.int (0 : Int32), .retAddr 1, .int (I 2 (s + 0))]) (HH I J R T) _
    refine Z_c1 rfl rfl rfl ((E_run 60 rfl)) ?_
    show Zs _ _ (am_P 61).2 (43, [(0, .ref 1), (1, .retAddr 1), (2, .int (0 : Int32))], [.int (102 : Int32), .int (I 2 (s + 0))]) (HH I J R T) _
    refine Z_jump 1 rfl ?_
    refine Z_bd (fun (c43 : (I 2 (s + 0)) = (102 : Int32)) => ?_) (fun (c43 : ¬ ((I 2 (s + 0)) = (102 : Int32))) => ?_)
    · refine Z_jump 4 rfl ?_
      show Zs _ _ (am_P 61).2 (22, [(0, .ref 1), (1, .retAddr 1), (2, .int (1 : Int32))], [.retAddr 1, .int (1 : Int32)]) (HH I J R T) _
      refine Z_c1 rfl rfl rfl (w_len1) ?_
      show Zs _ _ (am_P 61).2 (25, [(0, .ref 1), (1, .retAddr 1), (2, .int (1 : Int32))], [.int (5 : Int32), .int (1 : Int32)]) (HH I J R T) _
      refine Z_jump 6 rfl ?_
      show Zs _ _ (am_P 61).2 (35, [(0, .ref 1), (1, .retAddr 1), (2, .int (1 : Int32))], [.int ((I 1 3) + (1 : Int32)), .ref 1]) (HH I J R T) _
      refine Z_c1 rfl rfl rfl (c_letterAt (hl 1 (e13.mp c13) (by omega)).1 (hl 1 (e13.mp c13) (by omega)).2.1) ?_
      show Zs _ _ (am_P 61).2 (38, [(0, .ref 1), (1, .retAddr 1), (2, .int (1 : Int32))], [.int (I 2 (s + 1))]) (HH I J R T) _
      refine Z_jump 2 rfl ?_
      show Zs _ _ (am_P 61).2 (40, [(0, .ref 1), (1, .retAddr 1), (2, .int (1 : Int32))], [.int (1 : Int32), .retAddr 1, .int (I 2 (s + 1))]) (HH I J R T) _
      refine Z_c1 rfl rfl rfl ((E_run 60 rfl)) ?_
      show Zs _ _ (am_P 61).2 (43, [(0, .ref 1), (1, .retAddr 1), (2, .int (1 : Int32))], [.int (114 : Int32), .int (I 2 (s + 1))]) (HH I J R T) _
      refine Z_jump 1 rfl ?_
      refine Z_bd (fun (c43b : (I 2 (s + 1)) = (114 : Int32)) => ?_) (fun (c43b : ¬ ((I 2 (s + 1)) = (114 : Int32))) => ?_)
      · refine Z_jump 4 rfl ?_
        show Zs _ _ (am_P 61).2 (22, [(0, .ref 1), (1, .retAddr 1), (2, .int (2 : Int32))], [.retAddr 1, .int (2 : Int32)]) (HH I J R T) _
        refine Z_c1 rfl rfl rfl (w_len1) ?_
        show Zs _ _ (am_P 61).2 (25, [(0, .ref 1), (1, .retAddr 1), (2, .int (2 : Int32))], [.int (5 : Int32), .int (2 : Int32)]) (HH I J R T) _
        refine Z_jump 6 rfl ?_
        show Zs _ _ (am_P 61).2 (35, [(0, .ref 1), (1, .retAddr 1), (2, .int (2 : Int32))], [.int ((I 1 3) + (2 : Int32)), .ref 1]) (HH I J R T) _
        refine Z_c1 rfl rfl rfl (c_letterAt (hl 2 (e13.mp c13) (by omega)).1 (hl 2 (e13.mp c13) (by omega)).2.1) ?_
        show Zs _ _ (am_P 61).2 (38, [(0, .ref 1), (1, .retAddr 1), (2, .int (2 : Int32))], [.int (I 2 (s + 2))]) (HH I J R T) _
        refine Z_jump 2 rfl ?_
        show Zs _ _ (am_P 61).2 (40, [(0, .ref 1), (1, .retAddr 1), (2, .int (2 : Int32))], [.int (2 : Int32), .retAddr 1, .int (I 2 (s + 2))]) (HH I J R T) _
        refine Z_c1 rfl rfl rfl ((E_run 60 rfl)) ?_
        show Zs _ _ (am_P 61).2 (43, [(0, .ref 1), (1, .retAddr 1), (2, .int (2 : Int32))], [.int (97 : Int32), .int (I 2 (s + 2))]) (HH I J R T) _
        refine Z_jump 1 rfl ?_
        refine Z_bd (fun (c43c : (I 2 (s + 2)) = (97 : Int32)) => ?_) (fun (c43c : ¬ ((I 2 (s + 2)) = (97 : Int32))) => ?_)
        · refine Z_jump 4 rfl ?_
          show Zs _ _ (am_P 61).2 (22, [(0, .ref 1), (1, .retAddr 1), (2, .int (3 : Int32))], [.retAddr 1, .int (3 : Int32)]) (HH I J R T) _
          refine Z_c1 rfl rfl rfl (w_len1) ?_
          show Zs _ _ (am_P 61).2 (25, [(0, .ref 1), (1, .retAddr 1), (2, .int (3 : Int32))], [.int (5 : Int32), .int (3 : Int32)]) (HH I J R T) _
          refine Z_jump 6 rfl ?_
          show Zs _ _ (am_P 61).2 (35, [(0, .ref 1), (1, .retAddr 1), (2, .int (3 : Int32))], [.int ((I 1 3) + (3 : Int32)), .ref 1]) (HH I J R T) _
          refine Z_c1 rfl rfl rfl (c_letterAt (hl 3 (e13.mp c13) (by omega)).1 (hl 3 (e13.mp c13) (by omega)).2.1) ?_
          show Zs _ _ (am_P 61).2 (38, [(0, .ref 1), (1, .retAddr 1), (2, .int (3 : Int32))], [.int (I 2 (s + 3))]) (HH I J R T) _
          refine Z_jump 2 rfl ?_
          show Zs _ _ (am_P 61).2 (40, [(0, .ref 1), (1, .retAddr 1), (2, .int (3 : Int32))], [.int (3 : Int32), .retAddr 1, .int (I 2 (s + 3))]) (HH I J R T) _
          refine Z_c1 rfl rfl rfl ((E_run 60 rfl)) ?_
          show Zs _ _ (am_P 61).2 (43, [(0, .ref 1), (1, .retAddr 1), (2, .int (3 : Int32))], [.int (109 : Int32), .int (I 2 (s + 3))]) (HH I J R T) _
          refine Z_jump 1 rfl ?_
          refine Z_bd (fun (c43d : (I 2 (s + 3)) = (109 : Int32)) => ?_) (fun (c43d : ¬ ((I 2 (s + 3)) = (109 : Int32))) => ?_)
          · refine Z_jump 4 rfl ?_
            show Zs _ _ (am_P 61).2 (22, [(0, .ref 1), (1, .retAddr 1), (2, .int (4 : Int32))], [.retAddr 1, .int (4 : Int32)]) (HH I J R T) _
            refine Z_c1 rfl rfl rfl (w_len1) ?_
            show Zs _ _ (am_P 61).2 (25, [(0, .ref 1), (1, .retAddr 1), (2, .int (4 : Int32))], [.int (5 : Int32), .int (4 : Int32)]) (HH I J R T) _
            refine Z_jump 6 rfl ?_
            show Zs _ _ (am_P 61).2 (35, [(0, .ref 1), (1, .retAddr 1), (2, .int (4 : Int32))], [.int ((I 1 3) + (4 : Int32)), .ref 1]) (HH I J R T) _
            refine Z_c1 rfl rfl rfl (c_letterAt (hl 4 (e13.mp c13) (by omega)).1 (hl 4 (e13.mp c13) (by omega)).2.1) ?_
            show Zs _ _ (am_P 61).2 (38, [(0, .ref 1), (1, .retAddr 1), (2, .int (4 : Int32))], [.int (I 2 (s + 4))]) (HH I J R T) _
            refine Z_jump 2 rfl ?_
            show Zs _ _ (am_P 61).2 (40, [(0, .ref 1), (1, .retAddr 1), (2, .int (4 : Int32))], [.int (4 : Int32), .retAddr 1, .int (I 2 (s + 4))]) (HH I J R T) _
            refine Z_c1 rfl rfl rfl ((E_run 60 rfl)) ?_
            show Zs _ _ (am_P 61).2 (43, [(0, .ref 1), (1, .retAddr 1), (2, .int (4 : Int32))], [.int (101 : Int32), .int (I 2 (s + 4))]) (HH I J R T) _
            refine Z_jump 1 rfl ?_
            refine Z_bd (fun (c43e : (I 2 (s + 4)) = (101 : Int32)) => ?_) (fun (c43e : ¬ ((I 2 (s + 4)) = (101 : Int32))) => ?_)
            · refine Z_jump 4 rfl ?_
              show Zs _ _ (am_P 61).2 (22, [(0, .ref 1), (1, .retAddr 1), (2, .int (5 : Int32))], [.retAddr 1, .int (5 : Int32)]) (HH I J R T) _
              refine Z_c1 rfl rfl rfl (w_len1) ?_
              show Zs _ _ (am_P 61).2 (25, [(0, .ref 1), (1, .retAddr 1), (2, .int (5 : Int32))], [.int (5 : Int32), .int (5 : Int32)]) (HH I J R T) _
              refine Z_jump 2 rfl ?_
              show Zs _ _ (am_P 61).2 (55, [(0, .ref 1), (1, .retAddr 1), (2, .int (5 : Int32))], [.int (1 : Int32)]) (HH I J R T) _
              refine Z_rI rfl (by first | exact am_nw0 _ | exact am_nw01 | rfl | assumption) ?_
              exact ⟨am_ii (if_pos ⟨e13.mp c13, ((hl 0 (e13.mp c13) (by omega)).2.2 102 (by omega)).mp c43, ((hl 1 (e13.mp c13) (by omega)).2.2 114 (by omega)).mp c43b, ((hl 2 (e13.mp c13) (by omega)).2.2 97 (by omega)).mp c43c, ((hl 3 (e13.mp c13) (by omega)).2.2 109 (by omega)).mp c43d, ((hl 4 (e13.mp c13) (by omega)).2.2 101 (by omega)).mp c43e⟩).symm, rfl⟩
            · refine Z_jump 1 rfl ?_
              show Zs _ _ (am_P 61).2 (47, [(0, .ref 1), (1, .retAddr 1), (2, .int (4 : Int32))], [.int (0 : Int32)]) (HH I J R T) _
              refine Z_rI rfl (by first | exact am_nw0 _ | exact am_nw01 | rfl | assumption) ?_
              exact ⟨am_ii (if_neg (fun z => c43e (((hl 4 (e13.mp c13) (by omega)).2.2 101 (by omega)).mpr z.2.2.2.2.2))).symm, rfl⟩
          · refine Z_jump 1 rfl ?_
            show Zs _ _ (am_P 61).2 (47, [(0, .ref 1), (1, .retAddr 1), (2, .int (3 : Int32))], [.int (0 : Int32)]) (HH I J R T) _
            refine Z_rI rfl (by first | exact am_nw0 _ | exact am_nw01 | rfl | assumption) ?_
            exact ⟨am_ii (if_neg (fun z => c43d (((hl 3 (e13.mp c13) (by omega)).2.2 109 (by omega)).mpr z.2.2.2.2.1))).symm, rfl⟩
        · refine Z_jump 1 rfl ?_
          show Zs _ _ (am_P 61).2 (47, [(0, .ref 1), (1, .retAddr 1), (2, .int (2 : Int32))], [.int (0 : Int32)]) (HH I J R T) _
          refine Z_rI rfl (by first | exact am_nw0 _ | exact am_nw01 | rfl | assumption) ?_
          exact ⟨am_ii (if_neg (fun z => c43c (((hl 2 (e13.mp c13) (by omega)).2.2 97 (by omega)).mpr z.2.2.2.1))).symm, rfl⟩
      · refine Z_jump 1 rfl ?_
        show Zs _ _ (am_P 61).2 (47, [(0, .ref 1), (1, .retAddr 1), (2, .int (1 : Int32))], [.int (0 : Int32)]) (HH I J R T) _
        refine Z_rI rfl (by first | exact am_nw0 _ | exact am_nw01 | rfl | assumption) ?_
        exact ⟨am_ii (if_neg (fun z => c43b (((hl 1 (e13.mp c13) (by omega)).2.2 114 (by omega)).mpr z.2.2.1))).symm, rfl⟩
    · refine Z_jump 1 rfl ?_
      show Zs _ _ (am_P 61).2 (47, [(0, .ref 1), (1, .retAddr 1), (2, .int (0 : Int32))], [.int (0 : Int32)]) (HH I J R T) _
      refine Z_rI rfl (by first | exact am_nw0 _ | exact am_nw01 | rfl | assumption) ?_
      exact ⟨am_ii (if_neg (fun z => c43 (((hl 0 (e13.mp c13) (by omega)).2.2 102 (by omega)).mpr z.2.1))).symm, rfl⟩
  · refine Z_jump 1 rfl ?_
    show Zs _ _ (am_P 61).2 (17, [(0, .ref 1), (1, .retAddr 1)], [.int (0 : Int32)]) (HH I J R T) _
    refine Z_rI rfl (by first | exact am_nw0 _ | exact am_nw01 | rfl | assumption) ?_
    exact ⟨am_ii (if_neg (fun z => c13 (e13.mpr z.1))).symm, rfl⟩
theorem w_len2 : am_E sc (d + 5) 229 [.retAddr 2] h (some (.int 5)) h := E_run 20 rfl
theorem c_wK {s : Nat} (hK : CTK tx c s I) : am_E sc (d + 6) 61 [.ref 1, .retAddr 2] (HH I J R T) (some (.int (if wK tx s (tE tx c s) then 1 else 0))) (HH I J R T) := by
  refine E_Z (Ze_of (Nat.le_of_ble_eq_true rfl) ?_)
  have hc := hK.1.2.1
  have hE := tE_c (tx := tx) hK.2.1
  have e8 : I 1 4 - I 1 3 = nI (tE tx c s - s) := by rw [hK.2.2.1, hK.2.2.2.1]; exact nI_subI hE.1
  have e13 : nI (tE tx c s - s) = 5 ↔ tE tx c s = s + 5 := by rw [show (5 : Int32) = nI 5 from rfl, nI_eq (by omega) (by omega)]; omega
  have hl : ∀ j, tE tx c s = s + 5 → j < 5 → I 1 3 + nI j = nI (s + j) ∧ s + j < 160 ∧ ∀ t, t ≤ 255 → (I 2 (s + j) = nI t ↔ tx (s + j) = t) := fun j hj1 hj2 => by
    have hj : s + j < c := by omega
    have h255 := hK.1.2.2.2 _ hj
    refine ⟨by rw [hK.2.2.1]; exact nI_add s j, by omega, fun t ht => ?_⟩
    rw [hK.1.2.2.1 _ hj]
    exact nI_eq (by omega) (by omega)
  refine Z_jump 5 rfl ?_
  show Zs _ _ (am_P 61).2 (9, [(0, .ref 1), (1, .retAddr 2)], [.int ((I 1 4) - (I 1 3))]) (HH I J R T) _
  refine Z_eqI (e8) ?_
  show Zs _ _ (am_P 61).2 (9, [(0, .ref 1), (1, .retAddr 2)], [.int (nI (tE tx c s - s))]) (HH I J R T) _
  refine Z_jump 1 rfl ?_
  show Zs _ _ (am_P 61).2 (10, [(0, .ref 1), (1, .retAddr 2)], [.retAddr 2, .int (nI (tE tx c s - s))]) (HH I J R T) _
  refine Z_c1 rfl rfl rfl (w_len2) ?_
  show Zs _ _ (am_P 61).2 (13, [(0, .ref 1), (1, .retAddr 2)], [.int (5 : Int32), .int (nI (tE tx c s - s))]) (HH I J R T) _
  refine Z_jump 1 rfl ?_
  refine Z_bd (fun (c13 : (nI (tE tx c s - s)) = (5 : Int32)) => ?_) (fun (c13 : ¬ ((nI (tE tx c s - s)) = (5 : Int32))) => ?_)
  · refine Z_jump 4 rfl ?_
    show Zs _ _ (am_P 61).2 (22, [(0, .ref 1), (1, .retAddr 2), (2, .int (0 : Int32))], [.retAddr 2, .int (0 : Int32)]) (HH I J R T) _
    refine Z_c1 rfl rfl rfl (w_len2) ?_
    show Zs _ _ (am_P 61).2 (25, [(0, .ref 1), (1, .retAddr 2), (2, .int (0 : Int32))], [.int (5 : Int32), .int (0 : Int32)]) (HH I J R T) _
    refine Z_jump 6 rfl ?_
    show Zs _ _ (am_P 61).2 (35, [(0, .ref 1), (1, .retAddr 2), (2, .int (0 : Int32))], [.int ((I 1 3) + (0 : Int32)), .ref 1]) (HH I J R T) _
    refine Z_c1 rfl rfl rfl (c_letterAt (hl 0 (e13.mp c13) (by omega)).1 (hl 0 (e13.mp c13) (by omega)).2.1) ?_
    show Zs _ _ (am_P 61).2 (38, [(0, .ref 1), (1, .retAddr 2), (2, .int (0 : Int32))], [.int (I 2 (s + 0))]) (HH I J R T) _
    refine Z_jump 2 rfl ?_
    show Zs _ _ (am_P 61).2 (40, [(0, .ref 1), (1, .retAddr 2), (2, .int (0 : Int32))], [.int (0 : Int32), .retAddr 2, .int (I 2 (s + 0))]) (HH I J R T) _
    refine Z_c1 rfl rfl rfl ((E_run 60 rfl)) ?_
    show Zs _ _ (am_P 61).2 (43, [(0, .ref 1), (1, .retAddr 2), (2, .int (0 : Int32))], [.int (115 : Int32), .int (I 2 (s + 0))]) (HH I J R T) _
    refine Z_jump 1 rfl ?_
    refine Z_bd (fun (c43 : (I 2 (s + 0)) = (115 : Int32)) => ?_) (fun (c43 : ¬ ((I 2 (s + 0)) = (115 : Int32))) => ?_)
    · refine Z_jump 4 rfl ?_
      show Zs _ _ (am_P 61).2 (22, [(0, .ref 1), (1, .retAddr 2), (2, .int (1 : Int32))], [.retAddr 2, .int (1 : Int32)]) (HH I J R T) _
      refine Z_c1 rfl rfl rfl (w_len2) ?_
      show Zs _ _ (am_P 61).2 (25, [(0, .ref 1), (1, .retAddr 2), (2, .int (1 : Int32))], [.int (5 : Int32), .int (1 : Int32)]) (HH I J R T) _
      refine Z_jump 6 rfl ?_
      show Zs _ _ (am_P 61).2 (35, [(0, .ref 1), (1, .retAddr 2), (2, .int (1 : Int32))], [.int ((I 1 3) + (1 : Int32)), .ref 1]) (HH I J R T) _
      refine Z_c1 rfl rfl rfl (c_letterAt (hl 1 (e13.mp c13) (by omega)).1 (hl 1 (e13.mp c13) (by omega)).2.1) ?_
      show Zs _ _ (am_P 61).2 (38, [(0, .ref 1), (1, .retAddr 2), (2, .int (1 : Int32))], [.int (I 2 (s + 1))]) (HH I J R T) _
      refine Z_jump 2 rfl ?_
      show Zs _ _ (am_P 61).2 (40, [(0, .ref 1), (1, .retAddr 2), (2, .int (1 : Int32))], [.int (1 : Int32), .retAddr 2, .int (I 2 (s + 1))]) (HH I J R T) _
      refine Z_c1 rfl rfl rfl ((E_run 60 rfl)) ?_
      show Zs _ _ (am_P 61).2 (43, [(0, .ref 1), (1, .retAddr 2), (2, .int (1 : Int32))], [.int (116 : Int32), .int (I 2 (s + 1))]) (HH I J R T) _
      refine Z_jump 1 rfl ?_
      refine Z_bd (fun (c43b : (I 2 (s + 1)) = (116 : Int32)) => ?_) (fun (c43b : ¬ ((I 2 (s + 1)) = (116 : Int32))) => ?_)
      · refine Z_jump 4 rfl ?_
        show Zs _ _ (am_P 61).2 (22, [(0, .ref 1), (1, .retAddr 2), (2, .int (2 : Int32))], [.retAddr 2, .int (2 : Int32)]) (HH I J R T) _
        refine Z_c1 rfl rfl rfl (w_len2) ?_
        show Zs _ _ (am_P 61).2 (25, [(0, .ref 1), (1, .retAddr 2), (2, .int (2 : Int32))], [.int (5 : Int32), .int (2 : Int32)]) (HH I J R T) _
        refine Z_jump 6 rfl ?_
        show Zs _ _ (am_P 61).2 (35, [(0, .ref 1), (1, .retAddr 2), (2, .int (2 : Int32))], [.int ((I 1 3) + (2 : Int32)), .ref 1]) (HH I J R T) _
        refine Z_c1 rfl rfl rfl (c_letterAt (hl 2 (e13.mp c13) (by omega)).1 (hl 2 (e13.mp c13) (by omega)).2.1) ?_
        show Zs _ _ (am_P 61).2 (38, [(0, .ref 1), (1, .retAddr 2), (2, .int (2 : Int32))], [.int (I 2 (s + 2))]) (HH I J R T) _
        refine Z_jump 2 rfl ?_
        show Zs _ _ (am_P 61).2 (40, [(0, .ref 1), (1, .retAddr 2), (2, .int (2 : Int32))], [.int (2 : Int32), .retAddr 2, .int (I 2 (s + 2))]) (HH I J R T) _
        refine Z_c1 rfl rfl rfl ((E_run 60 rfl)) ?_
        show Zs _ _ (am_P 61).2 (43, [(0, .ref 1), (1, .retAddr 2), (2, .int (2 : Int32))], [.int (117 : Int32), .int (I 2 (s + 2))]) (HH I J R T) _
        refine Z_jump 1 rfl ?_
        refine Z_bd (fun (c43c : (I 2 (s + 2)) = (117 : Int32)) => ?_) (fun (c43c : ¬ ((I 2 (s + 2)) = (117 : Int32))) => ?_)
        · refine Z_jump 4 rfl ?_
          show Zs _ _ (am_P 61).2 (22, [(0, .ref 1), (1, .retAddr 2), (2, .int (3 : Int32))], [.retAddr 2, .int (3 : Int32)]) (HH I J R T) _
          refine Z_c1 rfl rfl rfl (w_len2) ?_
          show Zs _ _ (am_P 61).2 (25, [(0, .ref 1), (1, .retAddr 2), (2, .int (3 : Int32))], [.int (5 : Int32), .int (3 : Int32)]) (HH I J R T) _
          refine Z_jump 6 rfl ?_
          show Zs _ _ (am_P 61).2 (35, [(0, .ref 1), (1, .retAddr 2), (2, .int (3 : Int32))], [.int ((I 1 3) + (3 : Int32)), .ref 1]) (HH I J R T) _
          refine Z_c1 rfl rfl rfl (c_letterAt (hl 3 (e13.mp c13) (by omega)).1 (hl 3 (e13.mp c13) (by omega)).2.1) ?_
          show Zs _ _ (am_P 61).2 (38, [(0, .ref 1), (1, .retAddr 2), (2, .int (3 : Int32))], [.int (I 2 (s + 3))]) (HH I J R T) _
          refine Z_jump 2 rfl ?_
          show Zs _ _ (am_P 61).2 (40, [(0, .ref 1), (1, .retAddr 2), (2, .int (3 : Int32))], [.int (3 : Int32), .retAddr 2, .int (I 2 (s + 3))]) (HH I J R T) _
          refine Z_c1 rfl rfl rfl ((E_run 60 rfl)) ?_
          show Zs _ _ (am_P 61).2 (43, [(0, .ref 1), (1, .retAddr 2), (2, .int (3 : Int32))], [.int (99 : Int32), .int (I 2 (s + 3))]) (HH I J R T) _
          refine Z_jump 1 rfl ?_
          refine Z_bd (fun (c43d : (I 2 (s + 3)) = (99 : Int32)) => ?_) (fun (c43d : ¬ ((I 2 (s + 3)) = (99 : Int32))) => ?_)
          · refine Z_jump 4 rfl ?_
            show Zs _ _ (am_P 61).2 (22, [(0, .ref 1), (1, .retAddr 2), (2, .int (4 : Int32))], [.retAddr 2, .int (4 : Int32)]) (HH I J R T) _
            refine Z_c1 rfl rfl rfl (w_len2) ?_
            show Zs _ _ (am_P 61).2 (25, [(0, .ref 1), (1, .retAddr 2), (2, .int (4 : Int32))], [.int (5 : Int32), .int (4 : Int32)]) (HH I J R T) _
            refine Z_jump 6 rfl ?_
            show Zs _ _ (am_P 61).2 (35, [(0, .ref 1), (1, .retAddr 2), (2, .int (4 : Int32))], [.int ((I 1 3) + (4 : Int32)), .ref 1]) (HH I J R T) _
            refine Z_c1 rfl rfl rfl (c_letterAt (hl 4 (e13.mp c13) (by omega)).1 (hl 4 (e13.mp c13) (by omega)).2.1) ?_
            show Zs _ _ (am_P 61).2 (38, [(0, .ref 1), (1, .retAddr 2), (2, .int (4 : Int32))], [.int (I 2 (s + 4))]) (HH I J R T) _
            refine Z_jump 2 rfl ?_
            show Zs _ _ (am_P 61).2 (40, [(0, .ref 1), (1, .retAddr 2), (2, .int (4 : Int32))], [.int (4 : Int32), .retAddr 2, .int (I 2 (s + 4))]) (HH I J R T) _
            refine Z_c1 rfl rfl rfl ((E_run 60 rfl)) ?_
            show Zs _ _ (am_P 61).2 (43, [(0, .ref 1), (1, .retAddr 2), (2, .int (4 : Int32))], [.int (107 : Int32), .int (I 2 (s + 4))]) (HH I J R T) _
            refine Z_jump 1 rfl ?_
            refine Z_bd (fun (c43e : (I 2 (s + 4)) = (107 : Int32)) => ?_) (fun (c43e : ¬ ((I 2 (s + 4)) = (107 : Int32))) => ?_)
            · refine Z_jump 4 rfl ?_
              show Zs _ _ (am_P 61).2 (22, [(0, .ref 1), (1, .retAddr 2), (2, .int (5 : Int32))], [.retAddr 2, .int (5 : Int32)]) (HH I J R T) _
              refine Z_c1 rfl rfl rfl (w_len2) ?_
              show Zs _ _ (am_P 61).2 (25, [(0, .ref 1), (1, .retAddr 2), (2, .int (5 : Int32))], [.int (5 : Int32), .int (5 : Int32)]) (HH I J R T) _
              refine Z_jump 2 rfl ?_
              show Zs _ _ (am_P 61).2 (55, [(0, .ref 1), (1, .retAddr 2), (2, .int (5 : Int32))], [.int (1 : Int32)]) (HH I J R T) _
              refine Z_rI rfl (by first | exact am_nw0 _ | exact am_nw01 | rfl | assumption) ?_
              exact ⟨am_ii (if_pos ⟨e13.mp c13, ((hl 0 (e13.mp c13) (by omega)).2.2 115 (by omega)).mp c43, ((hl 1 (e13.mp c13) (by omega)).2.2 116 (by omega)).mp c43b, ((hl 2 (e13.mp c13) (by omega)).2.2 117 (by omega)).mp c43c, ((hl 3 (e13.mp c13) (by omega)).2.2 99 (by omega)).mp c43d, ((hl 4 (e13.mp c13) (by omega)).2.2 107 (by omega)).mp c43e⟩).symm, rfl⟩
            · refine Z_jump 1 rfl ?_
              show Zs _ _ (am_P 61).2 (47, [(0, .ref 1), (1, .retAddr 2), (2, .int (4 : Int32))], [.int (0 : Int32)]) (HH I J R T) _
              refine Z_rI rfl (by first | exact am_nw0 _ | exact am_nw01 | rfl | assumption) ?_
              exact ⟨am_ii (if_neg (fun z => c43e (((hl 4 (e13.mp c13) (by omega)).2.2 107 (by omega)).mpr z.2.2.2.2.2))).symm, rfl⟩
          · refine Z_jump 1 rfl ?_
            show Zs _ _ (am_P 61).2 (47, [(0, .ref 1), (1, .retAddr 2), (2, .int (3 : Int32))], [.int (0 : Int32)]) (HH I J R T) _
            refine Z_rI rfl (by first | exact am_nw0 _ | exact am_nw01 | rfl | assumption) ?_
            exact ⟨am_ii (if_neg (fun z => c43d (((hl 3 (e13.mp c13) (by omega)).2.2 99 (by omega)).mpr z.2.2.2.2.1))).symm, rfl⟩
        · refine Z_jump 1 rfl ?_
          show Zs _ _ (am_P 61).2 (47, [(0, .ref 1), (1, .retAddr 2), (2, .int (2 : Int32))], [.int (0 : Int32)]) (HH I J R T) _
          refine Z_rI rfl (by first | exact am_nw0 _ | exact am_nw01 | rfl | assumption) ?_
          exact ⟨am_ii (if_neg (fun z => c43c (((hl 2 (e13.mp c13) (by omega)).2.2 117 (by omega)).mpr z.2.2.2.1))).symm, rfl⟩
      · refine Z_jump 1 rfl ?_
        show Zs _ _ (am_P 61).2 (47, [(0, .ref 1), (1, .retAddr 2), (2, .int (1 : Int32))], [.int (0 : Int32)]) (HH I J R T) _
        refine Z_rI rfl (by first | exact am_nw0 _ | exact am_nw01 | rfl | assumption) ?_
        exact ⟨am_ii (if_neg (fun z => c43b (((hl 1 (e13.mp c13) (by omega)).2.2 116 (by omega)).mpr z.2.2.1))).symm, rfl⟩
    · refine Z_jump 1 rfl ?_
      show Zs _ _ (am_P 61).2 (47, [(0, .ref 1), (1, .retAddr 2), (2, .int (0 : Int32))], [.int (0 : Int32)]) (HH I J R T) _
      refine Z_rI rfl (by first | exact am_nw0 _ | exact am_nw01 | rfl | assumption) ?_
      exact ⟨am_ii (if_neg (fun z => c43 (((hl 0 (e13.mp c13) (by omega)).2.2 115 (by omega)).mpr z.2.1))).symm, rfl⟩
  · refine Z_jump 1 rfl ?_
    show Zs _ _ (am_P 61).2 (17, [(0, .ref 1), (1, .retAddr 2)], [.int (0 : Int32)]) (HH I J R T) _
    refine Z_rI rfl (by first | exact am_nw0 _ | exact am_nw01 | rfl | assumption) ?_
    exact ⟨am_ii (if_neg (fun z => c13 (e13.mpr z.1))).symm, rfl⟩
theorem w_len3 : am_E sc (d + 5) 229 [.retAddr 3] h (some (.int 5)) h := E_run 20 rfl
theorem c_wP {s : Nat} (hK : CTK tx c s I) : am_E sc (d + 6) 61 [.ref 1, .retAddr 3] (HH I J R T) (some (.int (if wP tx s (tE tx c s) then 1 else 0))) (HH I J R T) := by
  refine E_Z (Ze_of (Nat.le_of_ble_eq_true rfl) ?_)
  have hc := hK.1.2.1
  have hE := tE_c (tx := tx) hK.2.1
  have e8 : I 1 4 - I 1 3 = nI (tE tx c s - s) := by rw [hK.2.2.1, hK.2.2.2.1]; exact nI_subI hE.1
  have e13 : nI (tE tx c s - s) = 5 ↔ tE tx c s = s + 5 := by rw [show (5 : Int32) = nI 5 from rfl, nI_eq (by omega) (by omega)]; omega
  have hl : ∀ j, tE tx c s = s + 5 → j < 5 → I 1 3 + nI j = nI (s + j) ∧ s + j < 160 ∧ ∀ t, t ≤ 255 → (I 2 (s + j) = nI t ↔ tx (s + j) = t) := fun j hj1 hj2 => by
    have hj : s + j < c := by omega
    have h255 := hK.1.2.2.2 _ hj
    refine ⟨by rw [hK.2.2.1]; exact nI_add s j, by omega, fun t ht => ?_⟩
    rw [hK.1.2.2.1 _ hj]
    exact nI_eq (by omega) (by omega)
  refine Z_jump 5 rfl ?_
  show Zs _ _ (am_P 61).2 (9, [(0, .ref 1), (1, .retAddr 3)], [.int ((I 1 4) - (I 1 3))]) (HH I J R T) _
  refine Z_eqI (e8) ?_
  show Zs _ _ (am_P 61).2 (9, [(0, .ref 1), (1, .retAddr 3)], [.int (nI (tE tx c s - s))]) (HH I J R T) _
  refine Z_jump 1 rfl ?_
  show Zs _ _ (am_P 61).2 (10, [(0, .ref 1), (1, .retAddr 3)], [.retAddr 3, .int (nI (tE tx c s - s))]) (HH I J R T) _
  refine Z_c1 rfl rfl rfl (w_len3) ?_
  show Zs _ _ (am_P 61).2 (13, [(0, .ref 1), (1, .retAddr 3)], [.int (5 : Int32), .int (nI (tE tx c s - s))]) (HH I J R T) _
  refine Z_jump 1 rfl ?_
  refine Z_bd (fun (c13 : (nI (tE tx c s - s)) = (5 : Int32)) => ?_) (fun (c13 : ¬ ((nI (tE tx c s - s)) = (5 : Int32))) => ?_)
  · refine Z_jump 4 rfl ?_
    show Zs _ _ (am_P 61).2 (22, [(0, .ref 1), (1, .retAddr 3), (2, .int (0 : Int32))], [.retAddr 3, .int (0 : Int32)]) (HH I J R T) _
    refine Z_c1 rfl rfl rfl (w_len3) ?_
    show Zs _ _ (am_P 61).2 (25, [(0, .ref 1), (1, .retAddr 3), (2, .int (0 : Int32))], [.int (5 : Int32), .int (0 : Int32)]) (HH I J R T) _
    refine Z_jump 6 rfl ?_
    show Zs _ _ (am_P 61).2 (35, [(0, .ref 1), (1, .retAddr 3), (2, .int (0 : Int32))], [.int ((I 1 3) + (0 : Int32)), .ref 1]) (HH I J R T) _
    refine Z_c1 rfl rfl rfl (c_letterAt (hl 0 (e13.mp c13) (by omega)).1 (hl 0 (e13.mp c13) (by omega)).2.1) ?_
    show Zs _ _ (am_P 61).2 (38, [(0, .ref 1), (1, .retAddr 3), (2, .int (0 : Int32))], [.int (I 2 (s + 0))]) (HH I J R T) _
    refine Z_jump 2 rfl ?_
    show Zs _ _ (am_P 61).2 (40, [(0, .ref 1), (1, .retAddr 3), (2, .int (0 : Int32))], [.int (0 : Int32), .retAddr 3, .int (I 2 (s + 0))]) (HH I J R T) _
    refine Z_c1 rfl rfl rfl ((E_run 60 rfl)) ?_
    show Zs _ _ (am_P 61).2 (43, [(0, .ref 1), (1, .retAddr 3), (2, .int (0 : Int32))], [.int (112 : Int32), .int (I 2 (s + 0))]) (HH I J R T) _
    refine Z_jump 1 rfl ?_
    refine Z_bd (fun (c43 : (I 2 (s + 0)) = (112 : Int32)) => ?_) (fun (c43 : ¬ ((I 2 (s + 0)) = (112 : Int32))) => ?_)
    · refine Z_jump 4 rfl ?_
      show Zs _ _ (am_P 61).2 (22, [(0, .ref 1), (1, .retAddr 3), (2, .int (1 : Int32))], [.retAddr 3, .int (1 : Int32)]) (HH I J R T) _
      refine Z_c1 rfl rfl rfl (w_len3) ?_
      show Zs _ _ (am_P 61).2 (25, [(0, .ref 1), (1, .retAddr 3), (2, .int (1 : Int32))], [.int (5 : Int32), .int (1 : Int32)]) (HH I J R T) _
      refine Z_jump 6 rfl ?_
      show Zs _ _ (am_P 61).2 (35, [(0, .ref 1), (1, .retAddr 3), (2, .int (1 : Int32))], [.int ((I 1 3) + (1 : Int32)), .ref 1]) (HH I J R T) _
      refine Z_c1 rfl rfl rfl (c_letterAt (hl 1 (e13.mp c13) (by omega)).1 (hl 1 (e13.mp c13) (by omega)).2.1) ?_
      show Zs _ _ (am_P 61).2 (38, [(0, .ref 1), (1, .retAddr 3), (2, .int (1 : Int32))], [.int (I 2 (s + 1))]) (HH I J R T) _
      refine Z_jump 2 rfl ?_
      show Zs _ _ (am_P 61).2 (40, [(0, .ref 1), (1, .retAddr 3), (2, .int (1 : Int32))], [.int (1 : Int32), .retAddr 3, .int (I 2 (s + 1))]) (HH I J R T) _
      refine Z_c1 rfl rfl rfl ((E_run 60 rfl)) ?_
      show Zs _ _ (am_P 61).2 (43, [(0, .ref 1), (1, .retAddr 3), (2, .int (1 : Int32))], [.int (108 : Int32), .int (I 2 (s + 1))]) (HH I J R T) _
      refine Z_jump 1 rfl ?_
      refine Z_bd (fun (c43b : (I 2 (s + 1)) = (108 : Int32)) => ?_) (fun (c43b : ¬ ((I 2 (s + 1)) = (108 : Int32))) => ?_)
      · refine Z_jump 4 rfl ?_
        show Zs _ _ (am_P 61).2 (22, [(0, .ref 1), (1, .retAddr 3), (2, .int (2 : Int32))], [.retAddr 3, .int (2 : Int32)]) (HH I J R T) _
        refine Z_c1 rfl rfl rfl (w_len3) ?_
        show Zs _ _ (am_P 61).2 (25, [(0, .ref 1), (1, .retAddr 3), (2, .int (2 : Int32))], [.int (5 : Int32), .int (2 : Int32)]) (HH I J R T) _
        refine Z_jump 6 rfl ?_
        show Zs _ _ (am_P 61).2 (35, [(0, .ref 1), (1, .retAddr 3), (2, .int (2 : Int32))], [.int ((I 1 3) + (2 : Int32)), .ref 1]) (HH I J R T) _
        refine Z_c1 rfl rfl rfl (c_letterAt (hl 2 (e13.mp c13) (by omega)).1 (hl 2 (e13.mp c13) (by omega)).2.1) ?_
        show Zs _ _ (am_P 61).2 (38, [(0, .ref 1), (1, .retAddr 3), (2, .int (2 : Int32))], [.int (I 2 (s + 2))]) (HH I J R T) _
        refine Z_jump 2 rfl ?_
        show Zs _ _ (am_P 61).2 (40, [(0, .ref 1), (1, .retAddr 3), (2, .int (2 : Int32))], [.int (2 : Int32), .retAddr 3, .int (I 2 (s + 2))]) (HH I J R T) _
        refine Z_c1 rfl rfl rfl ((E_run 60 rfl)) ?_
        show Zs _ _ (am_P 61).2 (43, [(0, .ref 1), (1, .retAddr 3), (2, .int (2 : Int32))], [.int (97 : Int32), .int (I 2 (s + 2))]) (HH I J R T) _
        refine Z_jump 1 rfl ?_
        refine Z_bd (fun (c43c : (I 2 (s + 2)) = (97 : Int32)) => ?_) (fun (c43c : ¬ ((I 2 (s + 2)) = (97 : Int32))) => ?_)
        · refine Z_jump 4 rfl ?_
          show Zs _ _ (am_P 61).2 (22, [(0, .ref 1), (1, .retAddr 3), (2, .int (3 : Int32))], [.retAddr 3, .int (3 : Int32)]) (HH I J R T) _
          refine Z_c1 rfl rfl rfl (w_len3) ?_
          show Zs _ _ (am_P 61).2 (25, [(0, .ref 1), (1, .retAddr 3), (2, .int (3 : Int32))], [.int (5 : Int32), .int (3 : Int32)]) (HH I J R T) _
          refine Z_jump 6 rfl ?_
          show Zs _ _ (am_P 61).2 (35, [(0, .ref 1), (1, .retAddr 3), (2, .int (3 : Int32))], [.int ((I 1 3) + (3 : Int32)), .ref 1]) (HH I J R T) _
          refine Z_c1 rfl rfl rfl (c_letterAt (hl 3 (e13.mp c13) (by omega)).1 (hl 3 (e13.mp c13) (by omega)).2.1) ?_
          show Zs _ _ (am_P 61).2 (38, [(0, .ref 1), (1, .retAddr 3), (2, .int (3 : Int32))], [.int (I 2 (s + 3))]) (HH I J R T) _
          refine Z_jump 2 rfl ?_
          show Zs _ _ (am_P 61).2 (40, [(0, .ref 1), (1, .retAddr 3), (2, .int (3 : Int32))], [.int (3 : Int32), .retAddr 3, .int (I 2 (s + 3))]) (HH I J R T) _
          refine Z_c1 rfl rfl rfl ((E_run 60 rfl)) ?_
          show Zs _ _ (am_P 61).2 (43, [(0, .ref 1), (1, .retAddr 3), (2, .int (3 : Int32))], [.int (105 : Int32), .int (I 2 (s + 3))]) (HH I J R T) _
          refine Z_jump 1 rfl ?_
          refine Z_bd (fun (c43d : (I 2 (s + 3)) = (105 : Int32)) => ?_) (fun (c43d : ¬ ((I 2 (s + 3)) = (105 : Int32))) => ?_)
          · refine Z_jump 4 rfl ?_
            show Zs _ _ (am_P 61).2 (22, [(0, .ref 1), (1, .retAddr 3), (2, .int (4 : Int32))], [.retAddr 3, .int (4 : Int32)]) (HH I J R T) _
            refine Z_c1 rfl rfl rfl (w_len3) ?_
            show Zs _ _ (am_P 61).2 (25, [(0, .ref 1), (1, .retAddr 3), (2, .int (4 : Int32))], [.int (5 : Int32), .int (4 : Int32)]) (HH I J R T) _
            refine Z_jump 6 rfl ?_
            show Zs _ _ (am_P 61).2 (35, [(0, .ref 1), (1, .retAddr 3), (2, .int (4 : Int32))], [.int ((I 1 3) + (4 : Int32)), .ref 1]) (HH I J R T) _
            refine Z_c1 rfl rfl rfl (c_letterAt (hl 4 (e13.mp c13) (by omega)).1 (hl 4 (e13.mp c13) (by omega)).2.1) ?_
            show Zs _ _ (am_P 61).2 (38, [(0, .ref 1), (1, .retAddr 3), (2, .int (4 : Int32))], [.int (I 2 (s + 4))]) (HH I J R T) _
            refine Z_jump 2 rfl ?_
            show Zs _ _ (am_P 61).2 (40, [(0, .ref 1), (1, .retAddr 3), (2, .int (4 : Int32))], [.int (4 : Int32), .retAddr 3, .int (I 2 (s + 4))]) (HH I J R T) _
            refine Z_c1 rfl rfl rfl ((E_run 60 rfl)) ?_
            show Zs _ _ (am_P 61).2 (43, [(0, .ref 1), (1, .retAddr 3), (2, .int (4 : Int32))], [.int (110 : Int32), .int (I 2 (s + 4))]) (HH I J R T) _
            refine Z_jump 1 rfl ?_
            refine Z_bd (fun (c43e : (I 2 (s + 4)) = (110 : Int32)) => ?_) (fun (c43e : ¬ ((I 2 (s + 4)) = (110 : Int32))) => ?_)
            · refine Z_jump 4 rfl ?_
              show Zs _ _ (am_P 61).2 (22, [(0, .ref 1), (1, .retAddr 3), (2, .int (5 : Int32))], [.retAddr 3, .int (5 : Int32)]) (HH I J R T) _
              refine Z_c1 rfl rfl rfl (w_len3) ?_
              show Zs _ _ (am_P 61).2 (25, [(0, .ref 1), (1, .retAddr 3), (2, .int (5 : Int32))], [.int (5 : Int32), .int (5 : Int32)]) (HH I J R T) _
              refine Z_jump 2 rfl ?_
              show Zs _ _ (am_P 61).2 (55, [(0, .ref 1), (1, .retAddr 3), (2, .int (5 : Int32))], [.int (1 : Int32)]) (HH I J R T) _
              refine Z_rI rfl (by first | exact am_nw0 _ | exact am_nw01 | rfl | assumption) ?_
              exact ⟨am_ii (if_pos ⟨e13.mp c13, ((hl 0 (e13.mp c13) (by omega)).2.2 112 (by omega)).mp c43, ((hl 1 (e13.mp c13) (by omega)).2.2 108 (by omega)).mp c43b, ((hl 2 (e13.mp c13) (by omega)).2.2 97 (by omega)).mp c43c, ((hl 3 (e13.mp c13) (by omega)).2.2 105 (by omega)).mp c43d, ((hl 4 (e13.mp c13) (by omega)).2.2 110 (by omega)).mp c43e⟩).symm, rfl⟩
            · refine Z_jump 1 rfl ?_
              show Zs _ _ (am_P 61).2 (47, [(0, .ref 1), (1, .retAddr 3), (2, .int (4 : Int32))], [.int (0 : Int32)]) (HH I J R T) _
              refine Z_rI rfl (by first | exact am_nw0 _ | exact am_nw01 | rfl | assumption) ?_
              exact ⟨am_ii (if_neg (fun z => c43e (((hl 4 (e13.mp c13) (by omega)).2.2 110 (by omega)).mpr z.2.2.2.2.2))).symm, rfl⟩
          · refine Z_jump 1 rfl ?_
            show Zs _ _ (am_P 61).2 (47, [(0, .ref 1), (1, .retAddr 3), (2, .int (3 : Int32))], [.int (0 : Int32)]) (HH I J R T) _
            refine Z_rI rfl (by first | exact am_nw0 _ | exact am_nw01 | rfl | assumption) ?_
            exact ⟨am_ii (if_neg (fun z => c43d (((hl 3 (e13.mp c13) (by omega)).2.2 105 (by omega)).mpr z.2.2.2.2.1))).symm, rfl⟩
        · refine Z_jump 1 rfl ?_
          show Zs _ _ (am_P 61).2 (47, [(0, .ref 1), (1, .retAddr 3), (2, .int (2 : Int32))], [.int (0 : Int32)]) (HH I J R T) _
          refine Z_rI rfl (by first | exact am_nw0 _ | exact am_nw01 | rfl | assumption) ?_
          exact ⟨am_ii (if_neg (fun z => c43c (((hl 2 (e13.mp c13) (by omega)).2.2 97 (by omega)).mpr z.2.2.2.1))).symm, rfl⟩
      · refine Z_jump 1 rfl ?_
        show Zs _ _ (am_P 61).2 (47, [(0, .ref 1), (1, .retAddr 3), (2, .int (1 : Int32))], [.int (0 : Int32)]) (HH I J R T) _
        refine Z_rI rfl (by first | exact am_nw0 _ | exact am_nw01 | rfl | assumption) ?_
        exact ⟨am_ii (if_neg (fun z => c43b (((hl 1 (e13.mp c13) (by omega)).2.2 108 (by omega)).mpr z.2.2.1))).symm, rfl⟩
    · refine Z_jump 1 rfl ?_
      show Zs _ _ (am_P 61).2 (47, [(0, .ref 1), (1, .retAddr 3), (2, .int (0 : Int32))], [.int (0 : Int32)]) (HH I J R T) _
      refine Z_rI rfl (by first | exact am_nw0 _ | exact am_nw01 | rfl | assumption) ?_
      exact ⟨am_ii (if_neg (fun z => c43 (((hl 0 (e13.mp c13) (by omega)).2.2 112 (by omega)).mpr z.2.1))).symm, rfl⟩
  · refine Z_jump 1 rfl ?_
    show Zs _ _ (am_P 61).2 (17, [(0, .ref 1), (1, .retAddr 3)], [.int (0 : Int32)]) (HH I J R T) _
    refine Z_rI rfl (by first | exact am_nw0 _ | exact am_nw01 | rfl | assumption) ?_
    exact ⟨am_ii (if_neg (fun z => c13 (e13.mpr z.1))).symm, rfl⟩
theorem w_len4 : am_E sc (d + 5) 229 [.retAddr 4] h (some (.int 4)) h := E_run 20 rfl
theorem c_wV {s : Nat} (hK : CTK tx c s I) : am_E sc (d + 6) 61 [.ref 1, .retAddr 4] (HH I J R T) (some (.int (if wV tx s (tE tx c s) then 1 else 0))) (HH I J R T) := by
  refine E_Z (Ze_of (Nat.le_of_ble_eq_true rfl) ?_)
  have hc := hK.1.2.1
  have hE := tE_c (tx := tx) hK.2.1
  have e8 : I 1 4 - I 1 3 = nI (tE tx c s - s) := by rw [hK.2.2.1, hK.2.2.2.1]; exact nI_subI hE.1
  have e13 : nI (tE tx c s - s) = 4 ↔ tE tx c s = s + 4 := by rw [show (4 : Int32) = nI 4 from rfl, nI_eq (by omega) (by omega)]; omega
  have hl : ∀ j, tE tx c s = s + 4 → j < 4 → I 1 3 + nI j = nI (s + j) ∧ s + j < 160 ∧ ∀ t, t ≤ 255 → (I 2 (s + j) = nI t ↔ tx (s + j) = t) := fun j hj1 hj2 => by
    have hj : s + j < c := by omega
    have h255 := hK.1.2.2.2 _ hj
    refine ⟨by rw [hK.2.2.1]; exact nI_add s j, by omega, fun t ht => ?_⟩
    rw [hK.1.2.2.1 _ hj]
    exact nI_eq (by omega) (by omega)
  refine Z_jump 5 rfl ?_
  show Zs _ _ (am_P 61).2 (9, [(0, .ref 1), (1, .retAddr 4)], [.int ((I 1 4) - (I 1 3))]) (HH I J R T) _
  refine Z_eqI (e8) ?_
  show Zs _ _ (am_P 61).2 (9, [(0, .ref 1), (1, .retAddr 4)], [.int (nI (tE tx c s - s))]) (HH I J R T) _
  refine Z_jump 1 rfl ?_
  show Zs _ _ (am_P 61).2 (10, [(0, .ref 1), (1, .retAddr 4)], [.retAddr 4, .int (nI (tE tx c s - s))]) (HH I J R T) _
  refine Z_c1 rfl rfl rfl (w_len4) ?_
  show Zs _ _ (am_P 61).2 (13, [(0, .ref 1), (1, .retAddr 4)], [.int (4 : Int32), .int (nI (tE tx c s - s))]) (HH I J R T) _
  refine Z_jump 1 rfl ?_
  refine Z_bd (fun (c13 : (nI (tE tx c s - s)) = (4 : Int32)) => ?_) (fun (c13 : ¬ ((nI (tE tx c s - s)) = (4 : Int32))) => ?_)
  · refine Z_jump 4 rfl ?_
    show Zs _ _ (am_P 61).2 (22, [(0, .ref 1), (1, .retAddr 4), (2, .int (0 : Int32))], [.retAddr 4, .int (0 : Int32)]) (HH I J R T) _
    refine Z_c1 rfl rfl rfl (w_len4) ?_
    show Zs _ _ (am_P 61).2 (25, [(0, .ref 1), (1, .retAddr 4), (2, .int (0 : Int32))], [.int (4 : Int32), .int (0 : Int32)]) (HH I J R T) _
    refine Z_jump 6 rfl ?_
    show Zs _ _ (am_P 61).2 (35, [(0, .ref 1), (1, .retAddr 4), (2, .int (0 : Int32))], [.int ((I 1 3) + (0 : Int32)), .ref 1]) (HH I J R T) _
    refine Z_c1 rfl rfl rfl (c_letterAt (hl 0 (e13.mp c13) (by omega)).1 (hl 0 (e13.mp c13) (by omega)).2.1) ?_
    show Zs _ _ (am_P 61).2 (38, [(0, .ref 1), (1, .retAddr 4), (2, .int (0 : Int32))], [.int (I 2 (s + 0))]) (HH I J R T) _
    refine Z_jump 2 rfl ?_
    show Zs _ _ (am_P 61).2 (40, [(0, .ref 1), (1, .retAddr 4), (2, .int (0 : Int32))], [.int (0 : Int32), .retAddr 4, .int (I 2 (s + 0))]) (HH I J R T) _
    refine Z_c1 rfl rfl rfl ((E_run 60 rfl)) ?_
    show Zs _ _ (am_P 61).2 (43, [(0, .ref 1), (1, .retAddr 4), (2, .int (0 : Int32))], [.int (102 : Int32), .int (I 2 (s + 0))]) (HH I J R T) _
    refine Z_jump 1 rfl ?_
    refine Z_bd (fun (c43 : (I 2 (s + 0)) = (102 : Int32)) => ?_) (fun (c43 : ¬ ((I 2 (s + 0)) = (102 : Int32))) => ?_)
    · refine Z_jump 4 rfl ?_
      show Zs _ _ (am_P 61).2 (22, [(0, .ref 1), (1, .retAddr 4), (2, .int (1 : Int32))], [.retAddr 4, .int (1 : Int32)]) (HH I J R T) _
      refine Z_c1 rfl rfl rfl (w_len4) ?_
      show Zs _ _ (am_P 61).2 (25, [(0, .ref 1), (1, .retAddr 4), (2, .int (1 : Int32))], [.int (4 : Int32), .int (1 : Int32)]) (HH I J R T) _
      refine Z_jump 6 rfl ?_
      show Zs _ _ (am_P 61).2 (35, [(0, .ref 1), (1, .retAddr 4), (2, .int (1 : Int32))], [.int ((I 1 3) + (1 : Int32)), .ref 1]) (HH I J R T) _
      refine Z_c1 rfl rfl rfl (c_letterAt (hl 1 (e13.mp c13) (by omega)).1 (hl 1 (e13.mp c13) (by omega)).2.1) ?_
      show Zs _ _ (am_P 61).2 (38, [(0, .ref 1), (1, .retAddr 4), (2, .int (1 : Int32))], [.int (I 2 (s + 1))]) (HH I J R T) _
      refine Z_jump 2 rfl ?_
      show Zs _ _ (am_P 61).2 (40, [(0, .ref 1), (1, .retAddr 4), (2, .int (1 : Int32))], [.int (1 : Int32), .retAddr 4, .int (I 2 (s + 1))]) (HH I J R T) _
      refine Z_c1 rfl rfl rfl ((E_run 60 rfl)) ?_
      show Zs _ _ (am_P 61).2 (43, [(0, .ref 1), (1, .retAddr 4), (2, .int (1 : Int32))], [.int (105 : Int32), .int (I 2 (s + 1))]) (HH I J R T) _
      refine Z_jump 1 rfl ?_
      refine Z_bd (fun (c43b : (I 2 (s + 1)) = (105 : Int32)) => ?_) (fun (c43b : ¬ ((I 2 (s + 1)) = (105 : Int32))) => ?_)
      · refine Z_jump 4 rfl ?_
        show Zs _ _ (am_P 61).2 (22, [(0, .ref 1), (1, .retAddr 4), (2, .int (2 : Int32))], [.retAddr 4, .int (2 : Int32)]) (HH I J R T) _
        refine Z_c1 rfl rfl rfl (w_len4) ?_
        show Zs _ _ (am_P 61).2 (25, [(0, .ref 1), (1, .retAddr 4), (2, .int (2 : Int32))], [.int (4 : Int32), .int (2 : Int32)]) (HH I J R T) _
        refine Z_jump 6 rfl ?_
        show Zs _ _ (am_P 61).2 (35, [(0, .ref 1), (1, .retAddr 4), (2, .int (2 : Int32))], [.int ((I 1 3) + (2 : Int32)), .ref 1]) (HH I J R T) _
        refine Z_c1 rfl rfl rfl (c_letterAt (hl 2 (e13.mp c13) (by omega)).1 (hl 2 (e13.mp c13) (by omega)).2.1) ?_
        show Zs _ _ (am_P 61).2 (38, [(0, .ref 1), (1, .retAddr 4), (2, .int (2 : Int32))], [.int (I 2 (s + 2))]) (HH I J R T) _
        refine Z_jump 2 rfl ?_
        show Zs _ _ (am_P 61).2 (40, [(0, .ref 1), (1, .retAddr 4), (2, .int (2 : Int32))], [.int (2 : Int32), .retAddr 4, .int (I 2 (s + 2))]) (HH I J R T) _
        refine Z_c1 rfl rfl rfl ((E_run 60 rfl)) ?_
        show Zs _ _ (am_P 61).2 (43, [(0, .ref 1), (1, .retAddr 4), (2, .int (2 : Int32))], [.int (118 : Int32), .int (I 2 (s + 2))]) (HH I J R T) _
        refine Z_jump 1 rfl ?_
        refine Z_bd (fun (c43c : (I 2 (s + 2)) = (118 : Int32)) => ?_) (fun (c43c : ¬ ((I 2 (s + 2)) = (118 : Int32))) => ?_)
        · refine Z_jump 4 rfl ?_
          show Zs _ _ (am_P 61).2 (22, [(0, .ref 1), (1, .retAddr 4), (2, .int (3 : Int32))], [.retAddr 4, .int (3 : Int32)]) (HH I J R T) _
          refine Z_c1 rfl rfl rfl (w_len4) ?_
          show Zs _ _ (am_P 61).2 (25, [(0, .ref 1), (1, .retAddr 4), (2, .int (3 : Int32))], [.int (4 : Int32), .int (3 : Int32)]) (HH I J R T) _
          refine Z_jump 6 rfl ?_
          show Zs _ _ (am_P 61).2 (35, [(0, .ref 1), (1, .retAddr 4), (2, .int (3 : Int32))], [.int ((I 1 3) + (3 : Int32)), .ref 1]) (HH I J R T) _
          refine Z_c1 rfl rfl rfl (c_letterAt (hl 3 (e13.mp c13) (by omega)).1 (hl 3 (e13.mp c13) (by omega)).2.1) ?_
          show Zs _ _ (am_P 61).2 (38, [(0, .ref 1), (1, .retAddr 4), (2, .int (3 : Int32))], [.int (I 2 (s + 3))]) (HH I J R T) _
          refine Z_jump 2 rfl ?_
          show Zs _ _ (am_P 61).2 (40, [(0, .ref 1), (1, .retAddr 4), (2, .int (3 : Int32))], [.int (3 : Int32), .retAddr 4, .int (I 2 (s + 3))]) (HH I J R T) _
          refine Z_c1 rfl rfl rfl ((E_run 60 rfl)) ?_
          show Zs _ _ (am_P 61).2 (43, [(0, .ref 1), (1, .retAddr 4), (2, .int (3 : Int32))], [.int (101 : Int32), .int (I 2 (s + 3))]) (HH I J R T) _
          refine Z_jump 1 rfl ?_
          refine Z_bd (fun (c43d : (I 2 (s + 3)) = (101 : Int32)) => ?_) (fun (c43d : ¬ ((I 2 (s + 3)) = (101 : Int32))) => ?_)
          · refine Z_jump 4 rfl ?_
            show Zs _ _ (am_P 61).2 (22, [(0, .ref 1), (1, .retAddr 4), (2, .int (4 : Int32))], [.retAddr 4, .int (4 : Int32)]) (HH I J R T) _
            refine Z_c1 rfl rfl rfl (w_len4) ?_
            show Zs _ _ (am_P 61).2 (25, [(0, .ref 1), (1, .retAddr 4), (2, .int (4 : Int32))], [.int (4 : Int32), .int (4 : Int32)]) (HH I J R T) _
            refine Z_jump 2 rfl ?_
            show Zs _ _ (am_P 61).2 (55, [(0, .ref 1), (1, .retAddr 4), (2, .int (4 : Int32))], [.int (1 : Int32)]) (HH I J R T) _
            refine Z_rI rfl (by first | exact am_nw0 _ | exact am_nw01 | rfl | assumption) ?_
            exact ⟨am_ii (if_pos ⟨e13.mp c13, ((hl 0 (e13.mp c13) (by omega)).2.2 102 (by omega)).mp c43, ((hl 1 (e13.mp c13) (by omega)).2.2 105 (by omega)).mp c43b, ((hl 2 (e13.mp c13) (by omega)).2.2 118 (by omega)).mp c43c, ((hl 3 (e13.mp c13) (by omega)).2.2 101 (by omega)).mp c43d⟩).symm, rfl⟩
          · refine Z_jump 1 rfl ?_
            show Zs _ _ (am_P 61).2 (47, [(0, .ref 1), (1, .retAddr 4), (2, .int (3 : Int32))], [.int (0 : Int32)]) (HH I J R T) _
            refine Z_rI rfl (by first | exact am_nw0 _ | exact am_nw01 | rfl | assumption) ?_
            exact ⟨am_ii (if_neg (fun z => c43d (((hl 3 (e13.mp c13) (by omega)).2.2 101 (by omega)).mpr z.2.2.2.2))).symm, rfl⟩
        · refine Z_jump 1 rfl ?_
          show Zs _ _ (am_P 61).2 (47, [(0, .ref 1), (1, .retAddr 4), (2, .int (2 : Int32))], [.int (0 : Int32)]) (HH I J R T) _
          refine Z_rI rfl (by first | exact am_nw0 _ | exact am_nw01 | rfl | assumption) ?_
          exact ⟨am_ii (if_neg (fun z => c43c (((hl 2 (e13.mp c13) (by omega)).2.2 118 (by omega)).mpr z.2.2.2.1))).symm, rfl⟩
      · refine Z_jump 1 rfl ?_
        show Zs _ _ (am_P 61).2 (47, [(0, .ref 1), (1, .retAddr 4), (2, .int (1 : Int32))], [.int (0 : Int32)]) (HH I J R T) _
        refine Z_rI rfl (by first | exact am_nw0 _ | exact am_nw01 | rfl | assumption) ?_
        exact ⟨am_ii (if_neg (fun z => c43b (((hl 1 (e13.mp c13) (by omega)).2.2 105 (by omega)).mpr z.2.2.1))).symm, rfl⟩
    · refine Z_jump 1 rfl ?_
      show Zs _ _ (am_P 61).2 (47, [(0, .ref 1), (1, .retAddr 4), (2, .int (0 : Int32))], [.int (0 : Int32)]) (HH I J R T) _
      refine Z_rI rfl (by first | exact am_nw0 _ | exact am_nw01 | rfl | assumption) ?_
      exact ⟨am_ii (if_neg (fun z => c43 (((hl 0 (e13.mp c13) (by omega)).2.2 102 (by omega)).mpr z.2.1))).symm, rfl⟩
  · refine Z_jump 1 rfl ?_
    show Zs _ _ (am_P 61).2 (17, [(0, .ref 1), (1, .retAddr 4)], [.int (0 : Int32)]) (HH I J R T) _
    refine Z_rI rfl (by first | exact am_nw0 _ | exact am_nw01 | rfl | assumption) ?_
    exact ⟨am_ii (if_neg (fun z => c13 (e13.mpr z.1))).symm, rfl⟩
theorem w_len5 : am_E sc (d + 5) 229 [.retAddr 5] h (some (.int 4)) h := E_run 20 rfl
theorem c_wW {s : Nat} (hK : CTK tx c s I) : am_E sc (d + 6) 61 [.ref 1, .retAddr 5] (HH I J R T) (some (.int (if wW tx s (tE tx c s) then 1 else 0))) (HH I J R T) := by
  refine E_Z (Ze_of (Nat.le_of_ble_eq_true rfl) ?_)
  have hc := hK.1.2.1
  have hE := tE_c (tx := tx) hK.2.1
  have e8 : I 1 4 - I 1 3 = nI (tE tx c s - s) := by rw [hK.2.2.1, hK.2.2.2.1]; exact nI_subI hE.1
  have e13 : nI (tE tx c s - s) = 4 ↔ tE tx c s = s + 4 := by rw [show (4 : Int32) = nI 4 from rfl, nI_eq (by omega) (by omega)]; omega
  have hl : ∀ j, tE tx c s = s + 4 → j < 4 → I 1 3 + nI j = nI (s + j) ∧ s + j < 160 ∧ ∀ t, t ≤ 255 → (I 2 (s + j) = nI t ↔ tx (s + j) = t) := fun j hj1 hj2 => by
    have hj : s + j < c := by omega
    have h255 := hK.1.2.2.2 _ hj
    refine ⟨by rw [hK.2.2.1]; exact nI_add s j, by omega, fun t ht => ?_⟩
    rw [hK.1.2.2.1 _ hj]
    exact nI_eq (by omega) (by omega)
  refine Z_jump 5 rfl ?_
  show Zs _ _ (am_P 61).2 (9, [(0, .ref 1), (1, .retAddr 5)], [.int ((I 1 4) - (I 1 3))]) (HH I J R T) _
  refine Z_eqI (e8) ?_
  show Zs _ _ (am_P 61).2 (9, [(0, .ref 1), (1, .retAddr 5)], [.int (nI (tE tx c s - s))]) (HH I J R T) _
  refine Z_jump 1 rfl ?_
  show Zs _ _ (am_P 61).2 (10, [(0, .ref 1), (1, .retAddr 5)], [.retAddr 5, .int (nI (tE tx c s - s))]) (HH I J R T) _
  refine Z_c1 rfl rfl rfl (w_len5) ?_
  show Zs _ _ (am_P 61).2 (13, [(0, .ref 1), (1, .retAddr 5)], [.int (4 : Int32), .int (nI (tE tx c s - s))]) (HH I J R T) _
  refine Z_jump 1 rfl ?_
  refine Z_bd (fun (c13 : (nI (tE tx c s - s)) = (4 : Int32)) => ?_) (fun (c13 : ¬ ((nI (tE tx c s - s)) = (4 : Int32))) => ?_)
  · refine Z_jump 4 rfl ?_
    show Zs _ _ (am_P 61).2 (22, [(0, .ref 1), (1, .retAddr 5), (2, .int (0 : Int32))], [.retAddr 5, .int (0 : Int32)]) (HH I J R T) _
    refine Z_c1 rfl rfl rfl (w_len5) ?_
    show Zs _ _ (am_P 61).2 (25, [(0, .ref 1), (1, .retAddr 5), (2, .int (0 : Int32))], [.int (4 : Int32), .int (0 : Int32)]) (HH I J R T) _
    refine Z_jump 6 rfl ?_
    show Zs _ _ (am_P 61).2 (35, [(0, .ref 1), (1, .retAddr 5), (2, .int (0 : Int32))], [.int ((I 1 3) + (0 : Int32)), .ref 1]) (HH I J R T) _
    refine Z_c1 rfl rfl rfl (c_letterAt (hl 0 (e13.mp c13) (by omega)).1 (hl 0 (e13.mp c13) (by omega)).2.1) ?_
    show Zs _ _ (am_P 61).2 (38, [(0, .ref 1), (1, .retAddr 5), (2, .int (0 : Int32))], [.int (I 2 (s + 0))]) (HH I J R T) _
    refine Z_jump 2 rfl ?_
    show Zs _ _ (am_P 61).2 (40, [(0, .ref 1), (1, .retAddr 5), (2, .int (0 : Int32))], [.int (0 : Int32), .retAddr 5, .int (I 2 (s + 0))]) (HH I J R T) _
    refine Z_c1 rfl rfl rfl ((E_run 60 rfl)) ?_
    show Zs _ _ (am_P 61).2 (43, [(0, .ref 1), (1, .retAddr 5), (2, .int (0 : Int32))], [.int (115 : Int32), .int (I 2 (s + 0))]) (HH I J R T) _
    refine Z_jump 1 rfl ?_
    refine Z_bd (fun (c43 : (I 2 (s + 0)) = (115 : Int32)) => ?_) (fun (c43 : ¬ ((I 2 (s + 0)) = (115 : Int32))) => ?_)
    · refine Z_jump 4 rfl ?_
      show Zs _ _ (am_P 61).2 (22, [(0, .ref 1), (1, .retAddr 5), (2, .int (1 : Int32))], [.retAddr 5, .int (1 : Int32)]) (HH I J R T) _
      refine Z_c1 rfl rfl rfl (w_len5) ?_
      show Zs _ _ (am_P 61).2 (25, [(0, .ref 1), (1, .retAddr 5), (2, .int (1 : Int32))], [.int (4 : Int32), .int (1 : Int32)]) (HH I J R T) _
      refine Z_jump 6 rfl ?_
      show Zs _ _ (am_P 61).2 (35, [(0, .ref 1), (1, .retAddr 5), (2, .int (1 : Int32))], [.int ((I 1 3) + (1 : Int32)), .ref 1]) (HH I J R T) _
      refine Z_c1 rfl rfl rfl (c_letterAt (hl 1 (e13.mp c13) (by omega)).1 (hl 1 (e13.mp c13) (by omega)).2.1) ?_
      show Zs _ _ (am_P 61).2 (38, [(0, .ref 1), (1, .retAddr 5), (2, .int (1 : Int32))], [.int (I 2 (s + 1))]) (HH I J R T) _
      refine Z_jump 2 rfl ?_
      show Zs _ _ (am_P 61).2 (40, [(0, .ref 1), (1, .retAddr 5), (2, .int (1 : Int32))], [.int (1 : Int32), .retAddr 5, .int (I 2 (s + 1))]) (HH I J R T) _
      refine Z_c1 rfl rfl rfl ((E_run 60 rfl)) ?_
      show Zs _ _ (am_P 61).2 (43, [(0, .ref 1), (1, .retAddr 5), (2, .int (1 : Int32))], [.int (108 : Int32), .int (I 2 (s + 1))]) (HH I J R T) _
      refine Z_jump 1 rfl ?_
      refine Z_bd (fun (c43b : (I 2 (s + 1)) = (108 : Int32)) => ?_) (fun (c43b : ¬ ((I 2 (s + 1)) = (108 : Int32))) => ?_)
      · refine Z_jump 4 rfl ?_
        show Zs _ _ (am_P 61).2 (22, [(0, .ref 1), (1, .retAddr 5), (2, .int (2 : Int32))], [.retAddr 5, .int (2 : Int32)]) (HH I J R T) _
        refine Z_c1 rfl rfl rfl (w_len5) ?_
        show Zs _ _ (am_P 61).2 (25, [(0, .ref 1), (1, .retAddr 5), (2, .int (2 : Int32))], [.int (4 : Int32), .int (2 : Int32)]) (HH I J R T) _
        refine Z_jump 6 rfl ?_
        show Zs _ _ (am_P 61).2 (35, [(0, .ref 1), (1, .retAddr 5), (2, .int (2 : Int32))], [.int ((I 1 3) + (2 : Int32)), .ref 1]) (HH I J R T) _
        refine Z_c1 rfl rfl rfl (c_letterAt (hl 2 (e13.mp c13) (by omega)).1 (hl 2 (e13.mp c13) (by omega)).2.1) ?_
        show Zs _ _ (am_P 61).2 (38, [(0, .ref 1), (1, .retAddr 5), (2, .int (2 : Int32))], [.int (I 2 (s + 2))]) (HH I J R T) _
        refine Z_jump 2 rfl ?_
        show Zs _ _ (am_P 61).2 (40, [(0, .ref 1), (1, .retAddr 5), (2, .int (2 : Int32))], [.int (2 : Int32), .retAddr 5, .int (I 2 (s + 2))]) (HH I J R T) _
        refine Z_c1 rfl rfl rfl ((E_run 60 rfl)) ?_
        show Zs _ _ (am_P 61).2 (43, [(0, .ref 1), (1, .retAddr 5), (2, .int (2 : Int32))], [.int (111 : Int32), .int (I 2 (s + 2))]) (HH I J R T) _
        refine Z_jump 1 rfl ?_
        refine Z_bd (fun (c43c : (I 2 (s + 2)) = (111 : Int32)) => ?_) (fun (c43c : ¬ ((I 2 (s + 2)) = (111 : Int32))) => ?_)
        · refine Z_jump 4 rfl ?_
          show Zs _ _ (am_P 61).2 (22, [(0, .ref 1), (1, .retAddr 5), (2, .int (3 : Int32))], [.retAddr 5, .int (3 : Int32)]) (HH I J R T) _
          refine Z_c1 rfl rfl rfl (w_len5) ?_
          show Zs _ _ (am_P 61).2 (25, [(0, .ref 1), (1, .retAddr 5), (2, .int (3 : Int32))], [.int (4 : Int32), .int (3 : Int32)]) (HH I J R T) _
          refine Z_jump 6 rfl ?_
          show Zs _ _ (am_P 61).2 (35, [(0, .ref 1), (1, .retAddr 5), (2, .int (3 : Int32))], [.int ((I 1 3) + (3 : Int32)), .ref 1]) (HH I J R T) _
          refine Z_c1 rfl rfl rfl (c_letterAt (hl 3 (e13.mp c13) (by omega)).1 (hl 3 (e13.mp c13) (by omega)).2.1) ?_
          show Zs _ _ (am_P 61).2 (38, [(0, .ref 1), (1, .retAddr 5), (2, .int (3 : Int32))], [.int (I 2 (s + 3))]) (HH I J R T) _
          refine Z_jump 2 rfl ?_
          show Zs _ _ (am_P 61).2 (40, [(0, .ref 1), (1, .retAddr 5), (2, .int (3 : Int32))], [.int (3 : Int32), .retAddr 5, .int (I 2 (s + 3))]) (HH I J R T) _
          refine Z_c1 rfl rfl rfl ((E_run 60 rfl)) ?_
          show Zs _ _ (am_P 61).2 (43, [(0, .ref 1), (1, .retAddr 5), (2, .int (3 : Int32))], [.int (119 : Int32), .int (I 2 (s + 3))]) (HH I J R T) _
          refine Z_jump 1 rfl ?_
          refine Z_bd (fun (c43d : (I 2 (s + 3)) = (119 : Int32)) => ?_) (fun (c43d : ¬ ((I 2 (s + 3)) = (119 : Int32))) => ?_)
          · refine Z_jump 4 rfl ?_
            show Zs _ _ (am_P 61).2 (22, [(0, .ref 1), (1, .retAddr 5), (2, .int (4 : Int32))], [.retAddr 5, .int (4 : Int32)]) (HH I J R T) _
            refine Z_c1 rfl rfl rfl (w_len5) ?_
            show Zs _ _ (am_P 61).2 (25, [(0, .ref 1), (1, .retAddr 5), (2, .int (4 : Int32))], [.int (4 : Int32), .int (4 : Int32)]) (HH I J R T) _
            refine Z_jump 2 rfl ?_
            show Zs _ _ (am_P 61).2 (55, [(0, .ref 1), (1, .retAddr 5), (2, .int (4 : Int32))], [.int (1 : Int32)]) (HH I J R T) _
            refine Z_rI rfl (by first | exact am_nw0 _ | exact am_nw01 | rfl | assumption) ?_
            exact ⟨am_ii (if_pos ⟨e13.mp c13, ((hl 0 (e13.mp c13) (by omega)).2.2 115 (by omega)).mp c43, ((hl 1 (e13.mp c13) (by omega)).2.2 108 (by omega)).mp c43b, ((hl 2 (e13.mp c13) (by omega)).2.2 111 (by omega)).mp c43c, ((hl 3 (e13.mp c13) (by omega)).2.2 119 (by omega)).mp c43d⟩).symm, rfl⟩
          · refine Z_jump 1 rfl ?_
            show Zs _ _ (am_P 61).2 (47, [(0, .ref 1), (1, .retAddr 5), (2, .int (3 : Int32))], [.int (0 : Int32)]) (HH I J R T) _
            refine Z_rI rfl (by first | exact am_nw0 _ | exact am_nw01 | rfl | assumption) ?_
            exact ⟨am_ii (if_neg (fun z => c43d (((hl 3 (e13.mp c13) (by omega)).2.2 119 (by omega)).mpr z.2.2.2.2))).symm, rfl⟩
        · refine Z_jump 1 rfl ?_
          show Zs _ _ (am_P 61).2 (47, [(0, .ref 1), (1, .retAddr 5), (2, .int (2 : Int32))], [.int (0 : Int32)]) (HH I J R T) _
          refine Z_rI rfl (by first | exact am_nw0 _ | exact am_nw01 | rfl | assumption) ?_
          exact ⟨am_ii (if_neg (fun z => c43c (((hl 2 (e13.mp c13) (by omega)).2.2 111 (by omega)).mpr z.2.2.2.1))).symm, rfl⟩
      · refine Z_jump 1 rfl ?_
        show Zs _ _ (am_P 61).2 (47, [(0, .ref 1), (1, .retAddr 5), (2, .int (1 : Int32))], [.int (0 : Int32)]) (HH I J R T) _
        refine Z_rI rfl (by first | exact am_nw0 _ | exact am_nw01 | rfl | assumption) ?_
        exact ⟨am_ii (if_neg (fun z => c43b (((hl 1 (e13.mp c13) (by omega)).2.2 108 (by omega)).mpr z.2.2.1))).symm, rfl⟩
    · refine Z_jump 1 rfl ?_
      show Zs _ _ (am_P 61).2 (47, [(0, .ref 1), (1, .retAddr 5), (2, .int (0 : Int32))], [.int (0 : Int32)]) (HH I J R T) _
      refine Z_rI rfl (by first | exact am_nw0 _ | exact am_nw01 | rfl | assumption) ?_
      exact ⟨am_ii (if_neg (fun z => c43 (((hl 0 (e13.mp c13) (by omega)).2.2 115 (by omega)).mpr z.2.1))).symm, rfl⟩
  · refine Z_jump 1 rfl ?_
    show Zs _ _ (am_P 61).2 (17, [(0, .ref 1), (1, .retAddr 5)], [.int (0 : Int32)]) (HH I J R T) _
    refine Z_rI rfl (by first | exact am_nw0 _ | exact am_nw01 | rfl | assumption) ?_
    exact ⟨am_ii (if_neg (fun z => c13 (e13.mpr z.1))).symm, rfl⟩
theorem w_len6 : am_E sc (d + 5) 229 [.retAddr 6] h (some (.int 4)) h := E_run 20 rfl
theorem c_wH {s : Nat} (hK : CTK tx c s I) : am_E sc (d + 6) 61 [.ref 1, .retAddr 6] (HH I J R T) (some (.int (if wH tx s (tE tx c s) then 1 else 0))) (HH I J R T) := by
  refine E_Z (Ze_of (Nat.le_of_ble_eq_true rfl) ?_)
  have hc := hK.1.2.1
  have hE := tE_c (tx := tx) hK.2.1
  have e8 : I 1 4 - I 1 3 = nI (tE tx c s - s) := by rw [hK.2.2.1, hK.2.2.2.1]; exact nI_subI hE.1
  have e13 : nI (tE tx c s - s) = 4 ↔ tE tx c s = s + 4 := by rw [show (4 : Int32) = nI 4 from rfl, nI_eq (by omega) (by omega)]; omega
  have hl : ∀ j, tE tx c s = s + 4 → j < 4 → I 1 3 + nI j = nI (s + j) ∧ s + j < 160 ∧ ∀ t, t ≤ 255 → (I 2 (s + j) = nI t ↔ tx (s + j) = t) := fun j hj1 hj2 => by
    have hj : s + j < c := by omega
    have h255 := hK.1.2.2.2 _ hj
    refine ⟨by rw [hK.2.2.1]; exact nI_add s j, by omega, fun t ht => ?_⟩
    rw [hK.1.2.2.1 _ hj]
    exact nI_eq (by omega) (by omega)
  refine Z_jump 5 rfl ?_
  show Zs _ _ (am_P 61).2 (9, [(0, .ref 1), (1, .retAddr 6)], [.int ((I 1 4) - (I 1 3))]) (HH I J R T) _
  refine Z_eqI (e8) ?_
  show Zs _ _ (am_P 61).2 (9, [(0, .ref 1), (1, .retAddr 6)], [.int (nI (tE tx c s - s))]) (HH I J R T) _
  refine Z_jump 1 rfl ?_
  show Zs _ _ (am_P 61).2 (10, [(0, .ref 1), (1, .retAddr 6)], [.retAddr 6, .int (nI (tE tx c s - s))]) (HH I J R T) _
  refine Z_c1 rfl rfl rfl (w_len6) ?_
  show Zs _ _ (am_P 61).2 (13, [(0, .ref 1), (1, .retAddr 6)], [.int (4 : Int32), .int (nI (tE tx c s - s))]) (HH I J R T) _
  refine Z_jump 1 rfl ?_
  refine Z_bd (fun (c13 : (nI (tE tx c s - s)) = (4 : Int32)) => ?_) (fun (c13 : ¬ ((nI (tE tx c s - s)) = (4 : Int32))) => ?_)
  · refine Z_jump 4 rfl ?_
    show Zs _ _ (am_P 61).2 (22, [(0, .ref 1), (1, .retAddr 6), (2, .int (0 : Int32))], [.retAddr 6, .int (0 : Int32)]) (HH I J R T) _
    refine Z_c1 rfl rfl rfl (w_len6) ?_
    show Zs _ _ (am_P 61).2 (25, [(0, .ref 1), (1, .retAddr 6), (2, .int (0 : Int32))], [.int (4 : Int32), .int (0 : Int32)]) (HH I J R T) _
    refine Z_jump 6 rfl ?_
    show Zs _ _ (am_P 61).2 (35, [(0, .ref 1), (1, .retAddr 6), (2, .int (0 : Int32))], [.int ((I 1 3) + (0 : Int32)), .ref 1]) (HH I J R T) _
    refine Z_c1 rfl rfl rfl (c_letterAt (hl 0 (e13.mp c13) (by omega)).1 (hl 0 (e13.mp c13) (by omega)).2.1) ?_
    show Zs _ _ (am_P 61).2 (38, [(0, .ref 1), (1, .retAddr 6), (2, .int (0 : Int32))], [.int (I 2 (s + 0))]) (HH I J R T) _
    refine Z_jump 2 rfl ?_
    show Zs _ _ (am_P 61).2 (40, [(0, .ref 1), (1, .retAddr 6), (2, .int (0 : Int32))], [.int (0 : Int32), .retAddr 6, .int (I 2 (s + 0))]) (HH I J R T) _
    refine Z_c1 rfl rfl rfl ((E_run 60 rfl)) ?_
    show Zs _ _ (am_P 61).2 (43, [(0, .ref 1), (1, .retAddr 6), (2, .int (0 : Int32))], [.int (104 : Int32), .int (I 2 (s + 0))]) (HH I J R T) _
    refine Z_jump 1 rfl ?_
    refine Z_bd (fun (c43 : (I 2 (s + 0)) = (104 : Int32)) => ?_) (fun (c43 : ¬ ((I 2 (s + 0)) = (104 : Int32))) => ?_)
    · refine Z_jump 4 rfl ?_
      show Zs _ _ (am_P 61).2 (22, [(0, .ref 1), (1, .retAddr 6), (2, .int (1 : Int32))], [.retAddr 6, .int (1 : Int32)]) (HH I J R T) _
      refine Z_c1 rfl rfl rfl (w_len6) ?_
      show Zs _ _ (am_P 61).2 (25, [(0, .ref 1), (1, .retAddr 6), (2, .int (1 : Int32))], [.int (4 : Int32), .int (1 : Int32)]) (HH I J R T) _
      refine Z_jump 6 rfl ?_
      show Zs _ _ (am_P 61).2 (35, [(0, .ref 1), (1, .retAddr 6), (2, .int (1 : Int32))], [.int ((I 1 3) + (1 : Int32)), .ref 1]) (HH I J R T) _
      refine Z_c1 rfl rfl rfl (c_letterAt (hl 1 (e13.mp c13) (by omega)).1 (hl 1 (e13.mp c13) (by omega)).2.1) ?_
      show Zs _ _ (am_P 61).2 (38, [(0, .ref 1), (1, .retAddr 6), (2, .int (1 : Int32))], [.int (I 2 (s + 1))]) (HH I J R T) _
      refine Z_jump 2 rfl ?_
      show Zs _ _ (am_P 61).2 (40, [(0, .ref 1), (1, .retAddr 6), (2, .int (1 : Int32))], [.int (1 : Int32), .retAddr 6, .int (I 2 (s + 1))]) (HH I J R T) _
      refine Z_c1 rfl rfl rfl ((E_run 60 rfl)) ?_
      show Zs _ _ (am_P 61).2 (43, [(0, .ref 1), (1, .retAddr 6), (2, .int (1 : Int32))], [.int (101 : Int32), .int (I 2 (s + 1))]) (HH I J R T) _
      refine Z_jump 1 rfl ?_
      refine Z_bd (fun (c43b : (I 2 (s + 1)) = (101 : Int32)) => ?_) (fun (c43b : ¬ ((I 2 (s + 1)) = (101 : Int32))) => ?_)
      · refine Z_jump 4 rfl ?_
        show Zs _ _ (am_P 61).2 (22, [(0, .ref 1), (1, .retAddr 6), (2, .int (2 : Int32))], [.retAddr 6, .int (2 : Int32)]) (HH I J R T) _
        refine Z_c1 rfl rfl rfl (w_len6) ?_
        show Zs _ _ (am_P 61).2 (25, [(0, .ref 1), (1, .retAddr 6), (2, .int (2 : Int32))], [.int (4 : Int32), .int (2 : Int32)]) (HH I J R T) _
        refine Z_jump 6 rfl ?_
        show Zs _ _ (am_P 61).2 (35, [(0, .ref 1), (1, .retAddr 6), (2, .int (2 : Int32))], [.int ((I 1 3) + (2 : Int32)), .ref 1]) (HH I J R T) _
        refine Z_c1 rfl rfl rfl (c_letterAt (hl 2 (e13.mp c13) (by omega)).1 (hl 2 (e13.mp c13) (by omega)).2.1) ?_
        show Zs _ _ (am_P 61).2 (38, [(0, .ref 1), (1, .retAddr 6), (2, .int (2 : Int32))], [.int (I 2 (s + 2))]) (HH I J R T) _
        refine Z_jump 2 rfl ?_
        show Zs _ _ (am_P 61).2 (40, [(0, .ref 1), (1, .retAddr 6), (2, .int (2 : Int32))], [.int (2 : Int32), .retAddr 6, .int (I 2 (s + 2))]) (HH I J R T) _
        refine Z_c1 rfl rfl rfl ((E_run 60 rfl)) ?_
        show Zs _ _ (am_P 61).2 (43, [(0, .ref 1), (1, .retAddr 6), (2, .int (2 : Int32))], [.int (105 : Int32), .int (I 2 (s + 2))]) (HH I J R T) _
        refine Z_jump 1 rfl ?_
        refine Z_bd (fun (c43c : (I 2 (s + 2)) = (105 : Int32)) => ?_) (fun (c43c : ¬ ((I 2 (s + 2)) = (105 : Int32))) => ?_)
        · refine Z_jump 4 rfl ?_
          show Zs _ _ (am_P 61).2 (22, [(0, .ref 1), (1, .retAddr 6), (2, .int (3 : Int32))], [.retAddr 6, .int (3 : Int32)]) (HH I J R T) _
          refine Z_c1 rfl rfl rfl (w_len6) ?_
          show Zs _ _ (am_P 61).2 (25, [(0, .ref 1), (1, .retAddr 6), (2, .int (3 : Int32))], [.int (4 : Int32), .int (3 : Int32)]) (HH I J R T) _
          refine Z_jump 6 rfl ?_
          show Zs _ _ (am_P 61).2 (35, [(0, .ref 1), (1, .retAddr 6), (2, .int (3 : Int32))], [.int ((I 1 3) + (3 : Int32)), .ref 1]) (HH I J R T) _
          refine Z_c1 rfl rfl rfl (c_letterAt (hl 3 (e13.mp c13) (by omega)).1 (hl 3 (e13.mp c13) (by omega)).2.1) ?_
          show Zs _ _ (am_P 61).2 (38, [(0, .ref 1), (1, .retAddr 6), (2, .int (3 : Int32))], [.int (I 2 (s + 3))]) (HH I J R T) _
          refine Z_jump 2 rfl ?_
          show Zs _ _ (am_P 61).2 (40, [(0, .ref 1), (1, .retAddr 6), (2, .int (3 : Int32))], [.int (3 : Int32), .retAddr 6, .int (I 2 (s + 3))]) (HH I J R T) _
          refine Z_c1 rfl rfl rfl ((E_run 60 rfl)) ?_
          show Zs _ _ (am_P 61).2 (43, [(0, .ref 1), (1, .retAddr 6), (2, .int (3 : Int32))], [.int (114 : Int32), .int (I 2 (s + 3))]) (HH I J R T) _
          refine Z_jump 1 rfl ?_
          refine Z_bd (fun (c43d : (I 2 (s + 3)) = (114 : Int32)) => ?_) (fun (c43d : ¬ ((I 2 (s + 3)) = (114 : Int32))) => ?_)
          · refine Z_jump 4 rfl ?_
            show Zs _ _ (am_P 61).2 (22, [(0, .ref 1), (1, .retAddr 6), (2, .int (4 : Int32))], [.retAddr 6, .int (4 : Int32)]) (HH I J R T) _
            refine Z_c1 rfl rfl rfl (w_len6) ?_
            show Zs _ _ (am_P 61).2 (25, [(0, .ref 1), (1, .retAddr 6), (2, .int (4 : Int32))], [.int (4 : Int32), .int (4 : Int32)]) (HH I J R T) _
            refine Z_jump 2 rfl ?_
            show Zs _ _ (am_P 61).2 (55, [(0, .ref 1), (1, .retAddr 6), (2, .int (4 : Int32))], [.int (1 : Int32)]) (HH I J R T) _
            refine Z_rI rfl (by first | exact am_nw0 _ | exact am_nw01 | rfl | assumption) ?_
            exact ⟨am_ii (if_pos ⟨e13.mp c13, ((hl 0 (e13.mp c13) (by omega)).2.2 104 (by omega)).mp c43, ((hl 1 (e13.mp c13) (by omega)).2.2 101 (by omega)).mp c43b, ((hl 2 (e13.mp c13) (by omega)).2.2 105 (by omega)).mp c43c, ((hl 3 (e13.mp c13) (by omega)).2.2 114 (by omega)).mp c43d⟩).symm, rfl⟩
          · refine Z_jump 1 rfl ?_
            show Zs _ _ (am_P 61).2 (47, [(0, .ref 1), (1, .retAddr 6), (2, .int (3 : Int32))], [.int (0 : Int32)]) (HH I J R T) _
            refine Z_rI rfl (by first | exact am_nw0 _ | exact am_nw01 | rfl | assumption) ?_
            exact ⟨am_ii (if_neg (fun z => c43d (((hl 3 (e13.mp c13) (by omega)).2.2 114 (by omega)).mpr z.2.2.2.2))).symm, rfl⟩
        · refine Z_jump 1 rfl ?_
          show Zs _ _ (am_P 61).2 (47, [(0, .ref 1), (1, .retAddr 6), (2, .int (2 : Int32))], [.int (0 : Int32)]) (HH I J R T) _
          refine Z_rI rfl (by first | exact am_nw0 _ | exact am_nw01 | rfl | assumption) ?_
          exact ⟨am_ii (if_neg (fun z => c43c (((hl 2 (e13.mp c13) (by omega)).2.2 105 (by omega)).mpr z.2.2.2.1))).symm, rfl⟩
      · refine Z_jump 1 rfl ?_
        show Zs _ _ (am_P 61).2 (47, [(0, .ref 1), (1, .retAddr 6), (2, .int (1 : Int32))], [.int (0 : Int32)]) (HH I J R T) _
        refine Z_rI rfl (by first | exact am_nw0 _ | exact am_nw01 | rfl | assumption) ?_
        exact ⟨am_ii (if_neg (fun z => c43b (((hl 1 (e13.mp c13) (by omega)).2.2 101 (by omega)).mpr z.2.2.1))).symm, rfl⟩
    · refine Z_jump 1 rfl ?_
      show Zs _ _ (am_P 61).2 (47, [(0, .ref 1), (1, .retAddr 6), (2, .int (0 : Int32))], [.int (0 : Int32)]) (HH I J R T) _
      refine Z_rI rfl (by first | exact am_nw0 _ | exact am_nw01 | rfl | assumption) ?_
      exact ⟨am_ii (if_neg (fun z => c43 (((hl 0 (e13.mp c13) (by omega)).2.2 104 (by omega)).mpr z.2.1))).symm, rfl⟩
  · refine Z_jump 1 rfl ?_
    show Zs _ _ (am_P 61).2 (17, [(0, .ref 1), (1, .retAddr 6)], [.int (0 : Int32)]) (HH I J R T) _
    refine Z_rI rfl (by first | exact am_nw0 _ | exact am_nw01 | rfl | assumption) ?_
    exact ⟨am_ii (if_neg (fun z => c13 (e13.mpr z.1))).symm, rfl⟩
theorem w_len7 : am_E sc (d + 5) 229 [.retAddr 7] h (some (.int 3)) h := E_run 20 rfl
theorem c_wS {s : Nat} (hK : CTK tx c s I) : am_E sc (d + 6) 61 [.ref 1, .retAddr 7] (HH I J R T) (some (.int (if wS tx s (tE tx c s) then 1 else 0))) (HH I J R T) := by
  refine E_Z (Ze_of (Nat.le_of_ble_eq_true rfl) ?_)
  have hc := hK.1.2.1
  have hE := tE_c (tx := tx) hK.2.1
  have e8 : I 1 4 - I 1 3 = nI (tE tx c s - s) := by rw [hK.2.2.1, hK.2.2.2.1]; exact nI_subI hE.1
  have e13 : nI (tE tx c s - s) = 3 ↔ tE tx c s = s + 3 := by rw [show (3 : Int32) = nI 3 from rfl, nI_eq (by omega) (by omega)]; omega
  have hl : ∀ j, tE tx c s = s + 3 → j < 3 → I 1 3 + nI j = nI (s + j) ∧ s + j < 160 ∧ ∀ t, t ≤ 255 → (I 2 (s + j) = nI t ↔ tx (s + j) = t) := fun j hj1 hj2 => by
    have hj : s + j < c := by omega
    have h255 := hK.1.2.2.2 _ hj
    refine ⟨by rw [hK.2.2.1]; exact nI_add s j, by omega, fun t ht => ?_⟩
    rw [hK.1.2.2.1 _ hj]
    exact nI_eq (by omega) (by omega)
  refine Z_jump 5 rfl ?_
  show Zs _ _ (am_P 61).2 (9, [(0, .ref 1), (1, .retAddr 7)], [.int ((I 1 4) - (I 1 3))]) (HH I J R T) _
  refine Z_eqI (e8) ?_
  show Zs _ _ (am_P 61).2 (9, [(0, .ref 1), (1, .retAddr 7)], [.int (nI (tE tx c s - s))]) (HH I J R T) _
  refine Z_jump 1 rfl ?_
  show Zs _ _ (am_P 61).2 (10, [(0, .ref 1), (1, .retAddr 7)], [.retAddr 7, .int (nI (tE tx c s - s))]) (HH I J R T) _
  refine Z_c1 rfl rfl rfl (w_len7) ?_
  show Zs _ _ (am_P 61).2 (13, [(0, .ref 1), (1, .retAddr 7)], [.int (3 : Int32), .int (nI (tE tx c s - s))]) (HH I J R T) _
  refine Z_jump 1 rfl ?_
  refine Z_bd (fun (c13 : (nI (tE tx c s - s)) = (3 : Int32)) => ?_) (fun (c13 : ¬ ((nI (tE tx c s - s)) = (3 : Int32))) => ?_)
  · refine Z_jump 4 rfl ?_
    show Zs _ _ (am_P 61).2 (22, [(0, .ref 1), (1, .retAddr 7), (2, .int (0 : Int32))], [.retAddr 7, .int (0 : Int32)]) (HH I J R T) _
    refine Z_c1 rfl rfl rfl (w_len7) ?_
    show Zs _ _ (am_P 61).2 (25, [(0, .ref 1), (1, .retAddr 7), (2, .int (0 : Int32))], [.int (3 : Int32), .int (0 : Int32)]) (HH I J R T) _
    refine Z_jump 6 rfl ?_
    show Zs _ _ (am_P 61).2 (35, [(0, .ref 1), (1, .retAddr 7), (2, .int (0 : Int32))], [.int ((I 1 3) + (0 : Int32)), .ref 1]) (HH I J R T) _
    refine Z_c1 rfl rfl rfl (c_letterAt (hl 0 (e13.mp c13) (by omega)).1 (hl 0 (e13.mp c13) (by omega)).2.1) ?_
    show Zs _ _ (am_P 61).2 (38, [(0, .ref 1), (1, .retAddr 7), (2, .int (0 : Int32))], [.int (I 2 (s + 0))]) (HH I J R T) _
    refine Z_jump 2 rfl ?_
    show Zs _ _ (am_P 61).2 (40, [(0, .ref 1), (1, .retAddr 7), (2, .int (0 : Int32))], [.int (0 : Int32), .retAddr 7, .int (I 2 (s + 0))]) (HH I J R T) _
    refine Z_c1 rfl rfl rfl ((E_run 60 rfl)) ?_
    show Zs _ _ (am_P 61).2 (43, [(0, .ref 1), (1, .retAddr 7), (2, .int (0 : Int32))], [.int (115 : Int32), .int (I 2 (s + 0))]) (HH I J R T) _
    refine Z_jump 1 rfl ?_
    refine Z_bd (fun (c43 : (I 2 (s + 0)) = (115 : Int32)) => ?_) (fun (c43 : ¬ ((I 2 (s + 0)) = (115 : Int32))) => ?_)
    · refine Z_jump 4 rfl ?_
      show Zs _ _ (am_P 61).2 (22, [(0, .ref 1), (1, .retAddr 7), (2, .int (1 : Int32))], [.retAddr 7, .int (1 : Int32)]) (HH I J R T) _
      refine Z_c1 rfl rfl rfl (w_len7) ?_
      show Zs _ _ (am_P 61).2 (25, [(0, .ref 1), (1, .retAddr 7), (2, .int (1 : Int32))], [.int (3 : Int32), .int (1 : Int32)]) (HH I J R T) _
      refine Z_jump 6 rfl ?_
      show Zs _ _ (am_P 61).2 (35, [(0, .ref 1), (1, .retAddr 7), (2, .int (1 : Int32))], [.int ((I 1 3) + (1 : Int32)), .ref 1]) (HH I J R T) _
      refine Z_c1 rfl rfl rfl (c_letterAt (hl 1 (e13.mp c13) (by omega)).1 (hl 1 (e13.mp c13) (by omega)).2.1) ?_
      show Zs _ _ (am_P 61).2 (38, [(0, .ref 1), (1, .retAddr 7), (2, .int (1 : Int32))], [.int (I 2 (s + 1))]) (HH I J R T) _
      refine Z_jump 2 rfl ?_
      show Zs _ _ (am_P 61).2 (40, [(0, .ref 1), (1, .retAddr 7), (2, .int (1 : Int32))], [.int (1 : Int32), .retAddr 7, .int (I 2 (s + 1))]) (HH I J R T) _
      refine Z_c1 rfl rfl rfl ((E_run 60 rfl)) ?_
      show Zs _ _ (am_P 61).2 (43, [(0, .ref 1), (1, .retAddr 7), (2, .int (1 : Int32))], [.int (101 : Int32), .int (I 2 (s + 1))]) (HH I J R T) _
      refine Z_jump 1 rfl ?_
      refine Z_bd (fun (c43b : (I 2 (s + 1)) = (101 : Int32)) => ?_) (fun (c43b : ¬ ((I 2 (s + 1)) = (101 : Int32))) => ?_)
      · refine Z_jump 4 rfl ?_
        show Zs _ _ (am_P 61).2 (22, [(0, .ref 1), (1, .retAddr 7), (2, .int (2 : Int32))], [.retAddr 7, .int (2 : Int32)]) (HH I J R T) _
        refine Z_c1 rfl rfl rfl (w_len7) ?_
        show Zs _ _ (am_P 61).2 (25, [(0, .ref 1), (1, .retAddr 7), (2, .int (2 : Int32))], [.int (3 : Int32), .int (2 : Int32)]) (HH I J R T) _
        refine Z_jump 6 rfl ?_
        show Zs _ _ (am_P 61).2 (35, [(0, .ref 1), (1, .retAddr 7), (2, .int (2 : Int32))], [.int ((I 1 3) + (2 : Int32)), .ref 1]) (HH I J R T) _
        refine Z_c1 rfl rfl rfl (c_letterAt (hl 2 (e13.mp c13) (by omega)).1 (hl 2 (e13.mp c13) (by omega)).2.1) ?_
        show Zs _ _ (am_P 61).2 (38, [(0, .ref 1), (1, .retAddr 7), (2, .int (2 : Int32))], [.int (I 2 (s + 2))]) (HH I J R T) _
        refine Z_jump 2 rfl ?_
        show Zs _ _ (am_P 61).2 (40, [(0, .ref 1), (1, .retAddr 7), (2, .int (2 : Int32))], [.int (2 : Int32), .retAddr 7, .int (I 2 (s + 2))]) (HH I J R T) _
        refine Z_c1 rfl rfl rfl ((E_run 60 rfl)) ?_
        show Zs _ _ (am_P 61).2 (43, [(0, .ref 1), (1, .retAddr 7), (2, .int (2 : Int32))], [.int (116 : Int32), .int (I 2 (s + 2))]) (HH I J R T) _
        refine Z_jump 1 rfl ?_
        refine Z_bd (fun (c43c : (I 2 (s + 2)) = (116 : Int32)) => ?_) (fun (c43c : ¬ ((I 2 (s + 2)) = (116 : Int32))) => ?_)
        · refine Z_jump 4 rfl ?_
          show Zs _ _ (am_P 61).2 (22, [(0, .ref 1), (1, .retAddr 7), (2, .int (3 : Int32))], [.retAddr 7, .int (3 : Int32)]) (HH I J R T) _
          refine Z_c1 rfl rfl rfl (w_len7) ?_
          show Zs _ _ (am_P 61).2 (25, [(0, .ref 1), (1, .retAddr 7), (2, .int (3 : Int32))], [.int (3 : Int32), .int (3 : Int32)]) (HH I J R T) _
          refine Z_jump 2 rfl ?_
          show Zs _ _ (am_P 61).2 (55, [(0, .ref 1), (1, .retAddr 7), (2, .int (3 : Int32))], [.int (1 : Int32)]) (HH I J R T) _
          refine Z_rI rfl (by first | exact am_nw0 _ | exact am_nw01 | rfl | assumption) ?_
          exact ⟨am_ii (if_pos ⟨e13.mp c13, ((hl 0 (e13.mp c13) (by omega)).2.2 115 (by omega)).mp c43, ((hl 1 (e13.mp c13) (by omega)).2.2 101 (by omega)).mp c43b, ((hl 2 (e13.mp c13) (by omega)).2.2 116 (by omega)).mp c43c⟩).symm, rfl⟩
        · refine Z_jump 1 rfl ?_
          show Zs _ _ (am_P 61).2 (47, [(0, .ref 1), (1, .retAddr 7), (2, .int (2 : Int32))], [.int (0 : Int32)]) (HH I J R T) _
          refine Z_rI rfl (by first | exact am_nw0 _ | exact am_nw01 | rfl | assumption) ?_
          exact ⟨am_ii (if_neg (fun z => c43c (((hl 2 (e13.mp c13) (by omega)).2.2 116 (by omega)).mpr z.2.2.2))).symm, rfl⟩
      · refine Z_jump 1 rfl ?_
        show Zs _ _ (am_P 61).2 (47, [(0, .ref 1), (1, .retAddr 7), (2, .int (1 : Int32))], [.int (0 : Int32)]) (HH I J R T) _
        refine Z_rI rfl (by first | exact am_nw0 _ | exact am_nw01 | rfl | assumption) ?_
        exact ⟨am_ii (if_neg (fun z => c43b (((hl 1 (e13.mp c13) (by omega)).2.2 101 (by omega)).mpr z.2.2.1))).symm, rfl⟩
    · refine Z_jump 1 rfl ?_
      show Zs _ _ (am_P 61).2 (47, [(0, .ref 1), (1, .retAddr 7), (2, .int (0 : Int32))], [.int (0 : Int32)]) (HH I J R T) _
      refine Z_rI rfl (by first | exact am_nw0 _ | exact am_nw01 | rfl | assumption) ?_
      exact ⟨am_ii (if_neg (fun z => c43 (((hl 0 (e13.mp c13) (by omega)).2.2 115 (by omega)).mpr z.2.1))).symm, rfl⟩
  · refine Z_jump 1 rfl ?_
    show Zs _ _ (am_P 61).2 (17, [(0, .ref 1), (1, .retAddr 7)], [.int (0 : Int32)]) (HH I J R T) _
    refine Z_rI rfl (by first | exact am_nw0 _ | exact am_nw01 | rfl | assumption) ?_
    exact ⟨am_ii (if_neg (fun z => c13 (e13.mpr z.1))).symm, rfl⟩
theorem w_len8 : am_E sc (d + 5) 229 [.retAddr 8] h (some (.int 3)) h := E_run 20 rfl
theorem c_wA {s : Nat} (hK : CTK tx c s I) : am_E sc (d + 6) 61 [.ref 1, .retAddr 8] (HH I J R T) (some (.int (if wA tx s (tE tx c s) then 1 else 0))) (HH I J R T) := by
  refine E_Z (Ze_of (Nat.le_of_ble_eq_true rfl) ?_)
  have hc := hK.1.2.1
  have hE := tE_c (tx := tx) hK.2.1
  have e8 : I 1 4 - I 1 3 = nI (tE tx c s - s) := by rw [hK.2.2.1, hK.2.2.2.1]; exact nI_subI hE.1
  have e13 : nI (tE tx c s - s) = 3 ↔ tE tx c s = s + 3 := by rw [show (3 : Int32) = nI 3 from rfl, nI_eq (by omega) (by omega)]; omega
  have hl : ∀ j, tE tx c s = s + 3 → j < 3 → I 1 3 + nI j = nI (s + j) ∧ s + j < 160 ∧ ∀ t, t ≤ 255 → (I 2 (s + j) = nI t ↔ tx (s + j) = t) := fun j hj1 hj2 => by
    have hj : s + j < c := by omega
    have h255 := hK.1.2.2.2 _ hj
    refine ⟨by rw [hK.2.2.1]; exact nI_add s j, by omega, fun t ht => ?_⟩
    rw [hK.1.2.2.1 _ hj]
    exact nI_eq (by omega) (by omega)
  refine Z_jump 5 rfl ?_
  show Zs _ _ (am_P 61).2 (9, [(0, .ref 1), (1, .retAddr 8)], [.int ((I 1 4) - (I 1 3))]) (HH I J R T) _
  refine Z_eqI (e8) ?_
  show Zs _ _ (am_P 61).2 (9, [(0, .ref 1), (1, .retAddr 8)], [.int (nI (tE tx c s - s))]) (HH I J R T) _
  refine Z_jump 1 rfl ?_
  show Zs _ _ (am_P 61).2 (10, [(0, .ref 1), (1, .retAddr 8)], [.retAddr 8, .int (nI (tE tx c s - s))]) (HH I J R T) _
  refine Z_c1 rfl rfl rfl (w_len8) ?_
  show Zs _ _ (am_P 61).2 (13, [(0, .ref 1), (1, .retAddr 8)], [.int (3 : Int32), .int (nI (tE tx c s - s))]) (HH I J R T) _
  refine Z_jump 1 rfl ?_
  refine Z_bd (fun (c13 : (nI (tE tx c s - s)) = (3 : Int32)) => ?_) (fun (c13 : ¬ ((nI (tE tx c s - s)) = (3 : Int32))) => ?_)
  · refine Z_jump 4 rfl ?_
    show Zs _ _ (am_P 61).2 (22, [(0, .ref 1), (1, .retAddr 8), (2, .int (0 : Int32))], [.retAddr 8, .int (0 : Int32)]) (HH I J R T) _
    refine Z_c1 rfl rfl rfl (w_len8) ?_
    show Zs _ _ (am_P 61).2 (25, [(0, .ref 1), (1, .retAddr 8), (2, .int (0 : Int32))], [.int (3 : Int32), .int (0 : Int32)]) (HH I J R T) _
    refine Z_jump 6 rfl ?_
    show Zs _ _ (am_P 61).2 (35, [(0, .ref 1), (1, .retAddr 8), (2, .int (0 : Int32))], [.int ((I 1 3) + (0 : Int32)), .ref 1]) (HH I J R T) _
    refine Z_c1 rfl rfl rfl (c_letterAt (hl 0 (e13.mp c13) (by omega)).1 (hl 0 (e13.mp c13) (by omega)).2.1) ?_
    show Zs _ _ (am_P 61).2 (38, [(0, .ref 1), (1, .retAddr 8), (2, .int (0 : Int32))], [.int (I 2 (s + 0))]) (HH I J R T) _
    refine Z_jump 2 rfl ?_
    show Zs _ _ (am_P 61).2 (40, [(0, .ref 1), (1, .retAddr 8), (2, .int (0 : Int32))], [.int (0 : Int32), .retAddr 8, .int (I 2 (s + 0))]) (HH I J R T) _
    refine Z_c1 rfl rfl rfl ((E_run 60 rfl)) ?_
    show Zs _ _ (am_P 61).2 (43, [(0, .ref 1), (1, .retAddr 8), (2, .int (0 : Int32))], [.int (97 : Int32), .int (I 2 (s + 0))]) (HH I J R T) _
    refine Z_jump 1 rfl ?_
    refine Z_bd (fun (c43 : (I 2 (s + 0)) = (97 : Int32)) => ?_) (fun (c43 : ¬ ((I 2 (s + 0)) = (97 : Int32))) => ?_)
    · refine Z_jump 4 rfl ?_
      show Zs _ _ (am_P 61).2 (22, [(0, .ref 1), (1, .retAddr 8), (2, .int (1 : Int32))], [.retAddr 8, .int (1 : Int32)]) (HH I J R T) _
      refine Z_c1 rfl rfl rfl (w_len8) ?_
      show Zs _ _ (am_P 61).2 (25, [(0, .ref 1), (1, .retAddr 8), (2, .int (1 : Int32))], [.int (3 : Int32), .int (1 : Int32)]) (HH I J R T) _
      refine Z_jump 6 rfl ?_
      show Zs _ _ (am_P 61).2 (35, [(0, .ref 1), (1, .retAddr 8), (2, .int (1 : Int32))], [.int ((I 1 3) + (1 : Int32)), .ref 1]) (HH I J R T) _
      refine Z_c1 rfl rfl rfl (c_letterAt (hl 1 (e13.mp c13) (by omega)).1 (hl 1 (e13.mp c13) (by omega)).2.1) ?_
      show Zs _ _ (am_P 61).2 (38, [(0, .ref 1), (1, .retAddr 8), (2, .int (1 : Int32))], [.int (I 2 (s + 1))]) (HH I J R T) _
      refine Z_jump 2 rfl ?_
      show Zs _ _ (am_P 61).2 (40, [(0, .ref 1), (1, .retAddr 8), (2, .int (1 : Int32))], [.int (1 : Int32), .retAddr 8, .int (I 2 (s + 1))]) (HH I J R T) _
      refine Z_c1 rfl rfl rfl ((E_run 60 rfl)) ?_
      show Zs _ _ (am_P 61).2 (43, [(0, .ref 1), (1, .retAddr 8), (2, .int (1 : Int32))], [.int (100 : Int32), .int (I 2 (s + 1))]) (HH I J R T) _
      refine Z_jump 1 rfl ?_
      refine Z_bd (fun (c43b : (I 2 (s + 1)) = (100 : Int32)) => ?_) (fun (c43b : ¬ ((I 2 (s + 1)) = (100 : Int32))) => ?_)
      · refine Z_jump 4 rfl ?_
        show Zs _ _ (am_P 61).2 (22, [(0, .ref 1), (1, .retAddr 8), (2, .int (2 : Int32))], [.retAddr 8, .int (2 : Int32)]) (HH I J R T) _
        refine Z_c1 rfl rfl rfl (w_len8) ?_
        show Zs _ _ (am_P 61).2 (25, [(0, .ref 1), (1, .retAddr 8), (2, .int (2 : Int32))], [.int (3 : Int32), .int (2 : Int32)]) (HH I J R T) _
        refine Z_jump 6 rfl ?_
        show Zs _ _ (am_P 61).2 (35, [(0, .ref 1), (1, .retAddr 8), (2, .int (2 : Int32))], [.int ((I 1 3) + (2 : Int32)), .ref 1]) (HH I J R T) _
        refine Z_c1 rfl rfl rfl (c_letterAt (hl 2 (e13.mp c13) (by omega)).1 (hl 2 (e13.mp c13) (by omega)).2.1) ?_
        show Zs _ _ (am_P 61).2 (38, [(0, .ref 1), (1, .retAddr 8), (2, .int (2 : Int32))], [.int (I 2 (s + 2))]) (HH I J R T) _
        refine Z_jump 2 rfl ?_
        show Zs _ _ (am_P 61).2 (40, [(0, .ref 1), (1, .retAddr 8), (2, .int (2 : Int32))], [.int (2 : Int32), .retAddr 8, .int (I 2 (s + 2))]) (HH I J R T) _
        refine Z_c1 rfl rfl rfl ((E_run 60 rfl)) ?_
        show Zs _ _ (am_P 61).2 (43, [(0, .ref 1), (1, .retAddr 8), (2, .int (2 : Int32))], [.int (100 : Int32), .int (I 2 (s + 2))]) (HH I J R T) _
        refine Z_jump 1 rfl ?_
        refine Z_bd (fun (c43c : (I 2 (s + 2)) = (100 : Int32)) => ?_) (fun (c43c : ¬ ((I 2 (s + 2)) = (100 : Int32))) => ?_)
        · refine Z_jump 4 rfl ?_
          show Zs _ _ (am_P 61).2 (22, [(0, .ref 1), (1, .retAddr 8), (2, .int (3 : Int32))], [.retAddr 8, .int (3 : Int32)]) (HH I J R T) _
          refine Z_c1 rfl rfl rfl (w_len8) ?_
          show Zs _ _ (am_P 61).2 (25, [(0, .ref 1), (1, .retAddr 8), (2, .int (3 : Int32))], [.int (3 : Int32), .int (3 : Int32)]) (HH I J R T) _
          refine Z_jump 2 rfl ?_
          show Zs _ _ (am_P 61).2 (55, [(0, .ref 1), (1, .retAddr 8), (2, .int (3 : Int32))], [.int (1 : Int32)]) (HH I J R T) _
          refine Z_rI rfl (by first | exact am_nw0 _ | exact am_nw01 | rfl | assumption) ?_
          exact ⟨am_ii (if_pos ⟨e13.mp c13, ((hl 0 (e13.mp c13) (by omega)).2.2 97 (by omega)).mp c43, ((hl 1 (e13.mp c13) (by omega)).2.2 100 (by omega)).mp c43b, ((hl 2 (e13.mp c13) (by omega)).2.2 100 (by omega)).mp c43c⟩).symm, rfl⟩
        · refine Z_jump 1 rfl ?_
          show Zs _ _ (am_P 61).2 (47, [(0, .ref 1), (1, .retAddr 8), (2, .int (2 : Int32))], [.int (0 : Int32)]) (HH I J R T) _
          refine Z_rI rfl (by first | exact am_nw0 _ | exact am_nw01 | rfl | assumption) ?_
          exact ⟨am_ii (if_neg (fun z => c43c (((hl 2 (e13.mp c13) (by omega)).2.2 100 (by omega)).mpr z.2.2.2))).symm, rfl⟩
      · refine Z_jump 1 rfl ?_
        show Zs _ _ (am_P 61).2 (47, [(0, .ref 1), (1, .retAddr 8), (2, .int (1 : Int32))], [.int (0 : Int32)]) (HH I J R T) _
        refine Z_rI rfl (by first | exact am_nw0 _ | exact am_nw01 | rfl | assumption) ?_
        exact ⟨am_ii (if_neg (fun z => c43b (((hl 1 (e13.mp c13) (by omega)).2.2 100 (by omega)).mpr z.2.2.1))).symm, rfl⟩
    · refine Z_jump 1 rfl ?_
      show Zs _ _ (am_P 61).2 (47, [(0, .ref 1), (1, .retAddr 8), (2, .int (0 : Int32))], [.int (0 : Int32)]) (HH I J R T) _
      refine Z_rI rfl (by first | exact am_nw0 _ | exact am_nw01 | rfl | assumption) ?_
      exact ⟨am_ii (if_neg (fun z => c43 (((hl 0 (e13.mp c13) (by omega)).2.2 97 (by omega)).mpr z.2.1))).symm, rfl⟩
  · refine Z_jump 1 rfl ?_
    show Zs _ _ (am_P 61).2 (17, [(0, .ref 1), (1, .retAddr 8)], [.int (0 : Int32)]) (HH I J R T) _
    refine Z_rI rfl (by first | exact am_nw0 _ | exact am_nw01 | rfl | assumption) ?_
    exact ⟨am_ii (if_neg (fun z => c13 (e13.mpr z.1))).symm, rfl⟩
theorem w_len9 : am_E sc (d + 5) 229 [.retAddr 9] h (some (.int 3)) h := E_run 20 rfl
theorem c_wB {s : Nat} (hK : CTK tx c s I) : am_E sc (d + 6) 61 [.ref 1, .retAddr 9] (HH I J R T) (some (.int (if wB tx s (tE tx c s) then 1 else 0))) (HH I J R T) := by
  refine E_Z (Ze_of (Nat.le_of_ble_eq_true rfl) ?_)
  have hc := hK.1.2.1
  have hE := tE_c (tx := tx) hK.2.1
  have e8 : I 1 4 - I 1 3 = nI (tE tx c s - s) := by rw [hK.2.2.1, hK.2.2.2.1]; exact nI_subI hE.1
  have e13 : nI (tE tx c s - s) = 3 ↔ tE tx c s = s + 3 := by rw [show (3 : Int32) = nI 3 from rfl, nI_eq (by omega) (by omega)]; omega
  have hl : ∀ j, tE tx c s = s + 3 → j < 3 → I 1 3 + nI j = nI (s + j) ∧ s + j < 160 ∧ ∀ t, t ≤ 255 → (I 2 (s + j) = nI t ↔ tx (s + j) = t) := fun j hj1 hj2 => by
    have hj : s + j < c := by omega
    have h255 := hK.1.2.2.2 _ hj
    refine ⟨by rw [hK.2.2.1]; exact nI_add s j, by omega, fun t ht => ?_⟩
    rw [hK.1.2.2.1 _ hj]
    exact nI_eq (by omega) (by omega)
  refine Z_jump 5 rfl ?_
  show Zs _ _ (am_P 61).2 (9, [(0, .ref 1), (1, .retAddr 9)], [.int ((I 1 4) - (I 1 3))]) (HH I J R T) _
  refine Z_eqI (e8) ?_
  show Zs _ _ (am_P 61).2 (9, [(0, .ref 1), (1, .retAddr 9)], [.int (nI (tE tx c s - s))]) (HH I J R T) _
  refine Z_jump 1 rfl ?_
  show Zs _ _ (am_P 61).2 (10, [(0, .ref 1), (1, .retAddr 9)], [.retAddr 9, .int (nI (tE tx c s - s))]) (HH I J R T) _
  refine Z_c1 rfl rfl rfl (w_len9) ?_
  show Zs _ _ (am_P 61).2 (13, [(0, .ref 1), (1, .retAddr 9)], [.int (3 : Int32), .int (nI (tE tx c s - s))]) (HH I J R T) _
  refine Z_jump 1 rfl ?_
  refine Z_bd (fun (c13 : (nI (tE tx c s - s)) = (3 : Int32)) => ?_) (fun (c13 : ¬ ((nI (tE tx c s - s)) = (3 : Int32))) => ?_)
  · refine Z_jump 4 rfl ?_
    show Zs _ _ (am_P 61).2 (22, [(0, .ref 1), (1, .retAddr 9), (2, .int (0 : Int32))], [.retAddr 9, .int (0 : Int32)]) (HH I J R T) _
    refine Z_c1 rfl rfl rfl (w_len9) ?_
    show Zs _ _ (am_P 61).2 (25, [(0, .ref 1), (1, .retAddr 9), (2, .int (0 : Int32))], [.int (3 : Int32), .int (0 : Int32)]) (HH I J R T) _
    refine Z_jump 6 rfl ?_
    show Zs _ _ (am_P 61).2 (35, [(0, .ref 1), (1, .retAddr 9), (2, .int (0 : Int32))], [.int ((I 1 3) + (0 : Int32)), .ref 1]) (HH I J R T) _
    refine Z_c1 rfl rfl rfl (c_letterAt (hl 0 (e13.mp c13) (by omega)).1 (hl 0 (e13.mp c13) (by omega)).2.1) ?_
    show Zs _ _ (am_P 61).2 (38, [(0, .ref 1), (1, .retAddr 9), (2, .int (0 : Int32))], [.int (I 2 (s + 0))]) (HH I J R T) _
    refine Z_jump 2 rfl ?_
    show Zs _ _ (am_P 61).2 (40, [(0, .ref 1), (1, .retAddr 9), (2, .int (0 : Int32))], [.int (0 : Int32), .retAddr 9, .int (I 2 (s + 0))]) (HH I J R T) _
    refine Z_c1 rfl rfl rfl ((E_run 60 rfl)) ?_
    show Zs _ _ (am_P 61).2 (43, [(0, .ref 1), (1, .retAddr 9), (2, .int (0 : Int32))], [.int (115 : Int32), .int (I 2 (s + 0))]) (HH I J R T) _
    refine Z_jump 1 rfl ?_
    refine Z_bd (fun (c43 : (I 2 (s + 0)) = (115 : Int32)) => ?_) (fun (c43 : ¬ ((I 2 (s + 0)) = (115 : Int32))) => ?_)
    · refine Z_jump 4 rfl ?_
      show Zs _ _ (am_P 61).2 (22, [(0, .ref 1), (1, .retAddr 9), (2, .int (1 : Int32))], [.retAddr 9, .int (1 : Int32)]) (HH I J R T) _
      refine Z_c1 rfl rfl rfl (w_len9) ?_
      show Zs _ _ (am_P 61).2 (25, [(0, .ref 1), (1, .retAddr 9), (2, .int (1 : Int32))], [.int (3 : Int32), .int (1 : Int32)]) (HH I J R T) _
      refine Z_jump 6 rfl ?_
      show Zs _ _ (am_P 61).2 (35, [(0, .ref 1), (1, .retAddr 9), (2, .int (1 : Int32))], [.int ((I 1 3) + (1 : Int32)), .ref 1]) (HH I J R T) _
      refine Z_c1 rfl rfl rfl (c_letterAt (hl 1 (e13.mp c13) (by omega)).1 (hl 1 (e13.mp c13) (by omega)).2.1) ?_
      show Zs _ _ (am_P 61).2 (38, [(0, .ref 1), (1, .retAddr 9), (2, .int (1 : Int32))], [.int (I 2 (s + 1))]) (HH I J R T) _
      refine Z_jump 2 rfl ?_
      show Zs _ _ (am_P 61).2 (40, [(0, .ref 1), (1, .retAddr 9), (2, .int (1 : Int32))], [.int (1 : Int32), .retAddr 9, .int (I 2 (s + 1))]) (HH I J R T) _
      refine Z_c1 rfl rfl rfl ((E_run 60 rfl)) ?_
      show Zs _ _ (am_P 61).2 (43, [(0, .ref 1), (1, .retAddr 9), (2, .int (1 : Int32))], [.int (117 : Int32), .int (I 2 (s + 1))]) (HH I J R T) _
      refine Z_jump 1 rfl ?_
      refine Z_bd (fun (c43b : (I 2 (s + 1)) = (117 : Int32)) => ?_) (fun (c43b : ¬ ((I 2 (s + 1)) = (117 : Int32))) => ?_)
      · refine Z_jump 4 rfl ?_
        show Zs _ _ (am_P 61).2 (22, [(0, .ref 1), (1, .retAddr 9), (2, .int (2 : Int32))], [.retAddr 9, .int (2 : Int32)]) (HH I J R T) _
        refine Z_c1 rfl rfl rfl (w_len9) ?_
        show Zs _ _ (am_P 61).2 (25, [(0, .ref 1), (1, .retAddr 9), (2, .int (2 : Int32))], [.int (3 : Int32), .int (2 : Int32)]) (HH I J R T) _
        refine Z_jump 6 rfl ?_
        show Zs _ _ (am_P 61).2 (35, [(0, .ref 1), (1, .retAddr 9), (2, .int (2 : Int32))], [.int ((I 1 3) + (2 : Int32)), .ref 1]) (HH I J R T) _
        refine Z_c1 rfl rfl rfl (c_letterAt (hl 2 (e13.mp c13) (by omega)).1 (hl 2 (e13.mp c13) (by omega)).2.1) ?_
        show Zs _ _ (am_P 61).2 (38, [(0, .ref 1), (1, .retAddr 9), (2, .int (2 : Int32))], [.int (I 2 (s + 2))]) (HH I J R T) _
        refine Z_jump 2 rfl ?_
        show Zs _ _ (am_P 61).2 (40, [(0, .ref 1), (1, .retAddr 9), (2, .int (2 : Int32))], [.int (2 : Int32), .retAddr 9, .int (I 2 (s + 2))]) (HH I J R T) _
        refine Z_c1 rfl rfl rfl ((E_run 60 rfl)) ?_
        show Zs _ _ (am_P 61).2 (43, [(0, .ref 1), (1, .retAddr 9), (2, .int (2 : Int32))], [.int (98 : Int32), .int (I 2 (s + 2))]) (HH I J R T) _
        refine Z_jump 1 rfl ?_
        refine Z_bd (fun (c43c : (I 2 (s + 2)) = (98 : Int32)) => ?_) (fun (c43c : ¬ ((I 2 (s + 2)) = (98 : Int32))) => ?_)
        · refine Z_jump 4 rfl ?_
          show Zs _ _ (am_P 61).2 (22, [(0, .ref 1), (1, .retAddr 9), (2, .int (3 : Int32))], [.retAddr 9, .int (3 : Int32)]) (HH I J R T) _
          refine Z_c1 rfl rfl rfl (w_len9) ?_
          show Zs _ _ (am_P 61).2 (25, [(0, .ref 1), (1, .retAddr 9), (2, .int (3 : Int32))], [.int (3 : Int32), .int (3 : Int32)]) (HH I J R T) _
          refine Z_jump 2 rfl ?_
          show Zs _ _ (am_P 61).2 (55, [(0, .ref 1), (1, .retAddr 9), (2, .int (3 : Int32))], [.int (1 : Int32)]) (HH I J R T) _
          refine Z_rI rfl (by first | exact am_nw0 _ | exact am_nw01 | rfl | assumption) ?_
          exact ⟨am_ii (if_pos ⟨e13.mp c13, ((hl 0 (e13.mp c13) (by omega)).2.2 115 (by omega)).mp c43, ((hl 1 (e13.mp c13) (by omega)).2.2 117 (by omega)).mp c43b, ((hl 2 (e13.mp c13) (by omega)).2.2 98 (by omega)).mp c43c⟩).symm, rfl⟩
        · refine Z_jump 1 rfl ?_
          show Zs _ _ (am_P 61).2 (47, [(0, .ref 1), (1, .retAddr 9), (2, .int (2 : Int32))], [.int (0 : Int32)]) (HH I J R T) _
          refine Z_rI rfl (by first | exact am_nw0 _ | exact am_nw01 | rfl | assumption) ?_
          exact ⟨am_ii (if_neg (fun z => c43c (((hl 2 (e13.mp c13) (by omega)).2.2 98 (by omega)).mpr z.2.2.2))).symm, rfl⟩
      · refine Z_jump 1 rfl ?_
        show Zs _ _ (am_P 61).2 (47, [(0, .ref 1), (1, .retAddr 9), (2, .int (1 : Int32))], [.int (0 : Int32)]) (HH I J R T) _
        refine Z_rI rfl (by first | exact am_nw0 _ | exact am_nw01 | rfl | assumption) ?_
        exact ⟨am_ii (if_neg (fun z => c43b (((hl 1 (e13.mp c13) (by omega)).2.2 117 (by omega)).mpr z.2.2.1))).symm, rfl⟩
    · refine Z_jump 1 rfl ?_
      show Zs _ _ (am_P 61).2 (47, [(0, .ref 1), (1, .retAddr 9), (2, .int (0 : Int32))], [.int (0 : Int32)]) (HH I J R T) _
      refine Z_rI rfl (by first | exact am_nw0 _ | exact am_nw01 | rfl | assumption) ?_
      exact ⟨am_ii (if_neg (fun z => c43 (((hl 0 (e13.mp c13) (by omega)).2.2 115 (by omega)).mpr z.2.1))).symm, rfl⟩
  · refine Z_jump 1 rfl ?_
    show Zs _ _ (am_P 61).2 (17, [(0, .ref 1), (1, .retAddr 9)], [.int (0 : Int32)]) (HH I J R T) _
    refine Z_rI rfl (by first | exact am_nw0 _ | exact am_nw01 | rfl | assumption) ?_
    exact ⟨am_ii (if_neg (fun z => c13 (e13.mpr z.1))).symm, rfl⟩
theorem w_len10 : am_E sc (d + 5) 229 [.retAddr 10] h (some (.int 5)) h := E_run 20 rfl
theorem c_wC {s : Nat} (hK : CTK tx c s I) : am_E sc (d + 6) 61 [.ref 1, .retAddr 10] (HH I J R T) (some (.int (if wC tx s (tE tx c s) then 1 else 0))) (HH I J R T) := by
  refine E_Z (Ze_of (Nat.le_of_ble_eq_true rfl) ?_)
  have hc := hK.1.2.1
  have hE := tE_c (tx := tx) hK.2.1
  have e8 : I 1 4 - I 1 3 = nI (tE tx c s - s) := by rw [hK.2.2.1, hK.2.2.2.1]; exact nI_subI hE.1
  have e13 : nI (tE tx c s - s) = 5 ↔ tE tx c s = s + 5 := by rw [show (5 : Int32) = nI 5 from rfl, nI_eq (by omega) (by omega)]; omega
  have hl : ∀ j, tE tx c s = s + 5 → j < 5 → I 1 3 + nI j = nI (s + j) ∧ s + j < 160 ∧ ∀ t, t ≤ 255 → (I 2 (s + j) = nI t ↔ tx (s + j) = t) := fun j hj1 hj2 => by
    have hj : s + j < c := by omega
    have h255 := hK.1.2.2.2 _ hj
    refine ⟨by rw [hK.2.2.1]; exact nI_add s j, by omega, fun t ht => ?_⟩
    rw [hK.1.2.2.1 _ hj]
    exact nI_eq (by omega) (by omega)
  refine Z_jump 5 rfl ?_
  show Zs _ _ (am_P 61).2 (9, [(0, .ref 1), (1, .retAddr 10)], [.int ((I 1 4) - (I 1 3))]) (HH I J R T) _
  refine Z_eqI (e8) ?_
  show Zs _ _ (am_P 61).2 (9, [(0, .ref 1), (1, .retAddr 10)], [.int (nI (tE tx c s - s))]) (HH I J R T) _
  refine Z_jump 1 rfl ?_
  show Zs _ _ (am_P 61).2 (10, [(0, .ref 1), (1, .retAddr 10)], [.retAddr 10, .int (nI (tE tx c s - s))]) (HH I J R T) _
  refine Z_c1 rfl rfl rfl (w_len10) ?_
  show Zs _ _ (am_P 61).2 (13, [(0, .ref 1), (1, .retAddr 10)], [.int (5 : Int32), .int (nI (tE tx c s - s))]) (HH I J R T) _
  refine Z_jump 1 rfl ?_
  refine Z_bd (fun (c13 : (nI (tE tx c s - s)) = (5 : Int32)) => ?_) (fun (c13 : ¬ ((nI (tE tx c s - s)) = (5 : Int32))) => ?_)
  · refine Z_jump 4 rfl ?_
    show Zs _ _ (am_P 61).2 (22, [(0, .ref 1), (1, .retAddr 10), (2, .int (0 : Int32))], [.retAddr 10, .int (0 : Int32)]) (HH I J R T) _
    refine Z_c1 rfl rfl rfl (w_len10) ?_
    show Zs _ _ (am_P 61).2 (25, [(0, .ref 1), (1, .retAddr 10), (2, .int (0 : Int32))], [.int (5 : Int32), .int (0 : Int32)]) (HH I J R T) _
    refine Z_jump 6 rfl ?_
    show Zs _ _ (am_P 61).2 (35, [(0, .ref 1), (1, .retAddr 10), (2, .int (0 : Int32))], [.int ((I 1 3) + (0 : Int32)), .ref 1]) (HH I J R T) _
    refine Z_c1 rfl rfl rfl (c_letterAt (hl 0 (e13.mp c13) (by omega)).1 (hl 0 (e13.mp c13) (by omega)).2.1) ?_
    show Zs _ _ (am_P 61).2 (38, [(0, .ref 1), (1, .retAddr 10), (2, .int (0 : Int32))], [.int (I 2 (s + 0))]) (HH I J R T) _
    refine Z_jump 2 rfl ?_
    show Zs _ _ (am_P 61).2 (40, [(0, .ref 1), (1, .retAddr 10), (2, .int (0 : Int32))], [.int (0 : Int32), .retAddr 10, .int (I 2 (s + 0))]) (HH I J R T) _
    refine Z_c1 rfl rfl rfl ((E_run 60 rfl)) ?_
    show Zs _ _ (am_P 61).2 (43, [(0, .ref 1), (1, .retAddr 10), (2, .int (0 : Int32))], [.int (99 : Int32), .int (I 2 (s + 0))]) (HH I J R T) _
    refine Z_jump 1 rfl ?_
    refine Z_bd (fun (c43 : (I 2 (s + 0)) = (99 : Int32)) => ?_) (fun (c43 : ¬ ((I 2 (s + 0)) = (99 : Int32))) => ?_)
    · refine Z_jump 4 rfl ?_
      show Zs _ _ (am_P 61).2 (22, [(0, .ref 1), (1, .retAddr 10), (2, .int (1 : Int32))], [.retAddr 10, .int (1 : Int32)]) (HH I J R T) _
      refine Z_c1 rfl rfl rfl (w_len10) ?_
      show Zs _ _ (am_P 61).2 (25, [(0, .ref 1), (1, .retAddr 10), (2, .int (1 : Int32))], [.int (5 : Int32), .int (1 : Int32)]) (HH I J R T) _
      refine Z_jump 6 rfl ?_
      show Zs _ _ (am_P 61).2 (35, [(0, .ref 1), (1, .retAddr 10), (2, .int (1 : Int32))], [.int ((I 1 3) + (1 : Int32)), .ref 1]) (HH I J R T) _
      refine Z_c1 rfl rfl rfl (c_letterAt (hl 1 (e13.mp c13) (by omega)).1 (hl 1 (e13.mp c13) (by omega)).2.1) ?_
      show Zs _ _ (am_P 61).2 (38, [(0, .ref 1), (1, .retAddr 10), (2, .int (1 : Int32))], [.int (I 2 (s + 1))]) (HH I J R T) _
      refine Z_jump 2 rfl ?_
      show Zs _ _ (am_P 61).2 (40, [(0, .ref 1), (1, .retAddr 10), (2, .int (1 : Int32))], [.int (1 : Int32), .retAddr 10, .int (I 2 (s + 1))]) (HH I J R T) _
      refine Z_c1 rfl rfl rfl ((E_run 60 rfl)) ?_
      show Zs _ _ (am_P 61).2 (43, [(0, .ref 1), (1, .retAddr 10), (2, .int (1 : Int32))], [.int (108 : Int32), .int (I 2 (s + 1))]) (HH I J R T) _
      refine Z_jump 1 rfl ?_
      refine Z_bd (fun (c43b : (I 2 (s + 1)) = (108 : Int32)) => ?_) (fun (c43b : ¬ ((I 2 (s + 1)) = (108 : Int32))) => ?_)
      · refine Z_jump 4 rfl ?_
        show Zs _ _ (am_P 61).2 (22, [(0, .ref 1), (1, .retAddr 10), (2, .int (2 : Int32))], [.retAddr 10, .int (2 : Int32)]) (HH I J R T) _
        refine Z_c1 rfl rfl rfl (w_len10) ?_
        show Zs _ _ (am_P 61).2 (25, [(0, .ref 1), (1, .retAddr 10), (2, .int (2 : Int32))], [.int (5 : Int32), .int (2 : Int32)]) (HH I J R T) _
        refine Z_jump 6 rfl ?_
        show Zs _ _ (am_P 61).2 (35, [(0, .ref 1), (1, .retAddr 10), (2, .int (2 : Int32))], [.int ((I 1 3) + (2 : Int32)), .ref 1]) (HH I J R T) _
        refine Z_c1 rfl rfl rfl (c_letterAt (hl 2 (e13.mp c13) (by omega)).1 (hl 2 (e13.mp c13) (by omega)).2.1) ?_
        show Zs _ _ (am_P 61).2 (38, [(0, .ref 1), (1, .retAddr 10), (2, .int (2 : Int32))], [.int (I 2 (s + 2))]) (HH I J R T) _
        refine Z_jump 2 rfl ?_
        show Zs _ _ (am_P 61).2 (40, [(0, .ref 1), (1, .retAddr 10), (2, .int (2 : Int32))], [.int (2 : Int32), .retAddr 10, .int (I 2 (s + 2))]) (HH I J R T) _
        refine Z_c1 rfl rfl rfl ((E_run 60 rfl)) ?_
        show Zs _ _ (am_P 61).2 (43, [(0, .ref 1), (1, .retAddr 10), (2, .int (2 : Int32))], [.int (101 : Int32), .int (I 2 (s + 2))]) (HH I J R T) _
        refine Z_jump 1 rfl ?_
        refine Z_bd (fun (c43c : (I 2 (s + 2)) = (101 : Int32)) => ?_) (fun (c43c : ¬ ((I 2 (s + 2)) = (101 : Int32))) => ?_)
        · refine Z_jump 4 rfl ?_
          show Zs _ _ (am_P 61).2 (22, [(0, .ref 1), (1, .retAddr 10), (2, .int (3 : Int32))], [.retAddr 10, .int (3 : Int32)]) (HH I J R T) _
          refine Z_c1 rfl rfl rfl (w_len10) ?_
          show Zs _ _ (am_P 61).2 (25, [(0, .ref 1), (1, .retAddr 10), (2, .int (3 : Int32))], [.int (5 : Int32), .int (3 : Int32)]) (HH I J R T) _
          refine Z_jump 6 rfl ?_
          show Zs _ _ (am_P 61).2 (35, [(0, .ref 1), (1, .retAddr 10), (2, .int (3 : Int32))], [.int ((I 1 3) + (3 : Int32)), .ref 1]) (HH I J R T) _
          refine Z_c1 rfl rfl rfl (c_letterAt (hl 3 (e13.mp c13) (by omega)).1 (hl 3 (e13.mp c13) (by omega)).2.1) ?_
          show Zs _ _ (am_P 61).2 (38, [(0, .ref 1), (1, .retAddr 10), (2, .int (3 : Int32))], [.int (I 2 (s + 3))]) (HH I J R T) _
          refine Z_jump 2 rfl ?_
          show Zs _ _ (am_P 61).2 (40, [(0, .ref 1), (1, .retAddr 10), (2, .int (3 : Int32))], [.int (3 : Int32), .retAddr 10, .int (I 2 (s + 3))]) (HH I J R T) _
          refine Z_c1 rfl rfl rfl ((E_run 60 rfl)) ?_
          show Zs _ _ (am_P 61).2 (43, [(0, .ref 1), (1, .retAddr 10), (2, .int (3 : Int32))], [.int (97 : Int32), .int (I 2 (s + 3))]) (HH I J R T) _
          refine Z_jump 1 rfl ?_
          refine Z_bd (fun (c43d : (I 2 (s + 3)) = (97 : Int32)) => ?_) (fun (c43d : ¬ ((I 2 (s + 3)) = (97 : Int32))) => ?_)
          · refine Z_jump 4 rfl ?_
            show Zs _ _ (am_P 61).2 (22, [(0, .ref 1), (1, .retAddr 10), (2, .int (4 : Int32))], [.retAddr 10, .int (4 : Int32)]) (HH I J R T) _
            refine Z_c1 rfl rfl rfl (w_len10) ?_
            show Zs _ _ (am_P 61).2 (25, [(0, .ref 1), (1, .retAddr 10), (2, .int (4 : Int32))], [.int (5 : Int32), .int (4 : Int32)]) (HH I J R T) _
            refine Z_jump 6 rfl ?_
            show Zs _ _ (am_P 61).2 (35, [(0, .ref 1), (1, .retAddr 10), (2, .int (4 : Int32))], [.int ((I 1 3) + (4 : Int32)), .ref 1]) (HH I J R T) _
            refine Z_c1 rfl rfl rfl (c_letterAt (hl 4 (e13.mp c13) (by omega)).1 (hl 4 (e13.mp c13) (by omega)).2.1) ?_
            show Zs _ _ (am_P 61).2 (38, [(0, .ref 1), (1, .retAddr 10), (2, .int (4 : Int32))], [.int (I 2 (s + 4))]) (HH I J R T) _
            refine Z_jump 2 rfl ?_
            show Zs _ _ (am_P 61).2 (40, [(0, .ref 1), (1, .retAddr 10), (2, .int (4 : Int32))], [.int (4 : Int32), .retAddr 10, .int (I 2 (s + 4))]) (HH I J R T) _
            refine Z_c1 rfl rfl rfl ((E_run 60 rfl)) ?_
            show Zs _ _ (am_P 61).2 (43, [(0, .ref 1), (1, .retAddr 10), (2, .int (4 : Int32))], [.int (114 : Int32), .int (I 2 (s + 4))]) (HH I J R T) _
            refine Z_jump 1 rfl ?_
            refine Z_bd (fun (c43e : (I 2 (s + 4)) = (114 : Int32)) => ?_) (fun (c43e : ¬ ((I 2 (s + 4)) = (114 : Int32))) => ?_)
            · refine Z_jump 4 rfl ?_
              show Zs _ _ (am_P 61).2 (22, [(0, .ref 1), (1, .retAddr 10), (2, .int (5 : Int32))], [.retAddr 10, .int (5 : Int32)]) (HH I J R T) _
              refine Z_c1 rfl rfl rfl (w_len10) ?_
              show Zs _ _ (am_P 61).2 (25, [(0, .ref 1), (1, .retAddr 10), (2, .int (5 : Int32))], [.int (5 : Int32), .int (5 : Int32)]) (HH I J R T) _
              refine Z_jump 2 rfl ?_
              show Zs _ _ (am_P 61).2 (55, [(0, .ref 1), (1, .retAddr 10), (2, .int (5 : Int32))], [.int (1 : Int32)]) (HH I J R T) _
              refine Z_rI rfl (by first | exact am_nw0 _ | exact am_nw01 | rfl | assumption) ?_
              exact ⟨am_ii (if_pos ⟨e13.mp c13, ((hl 0 (e13.mp c13) (by omega)).2.2 99 (by omega)).mp c43, ((hl 1 (e13.mp c13) (by omega)).2.2 108 (by omega)).mp c43b, ((hl 2 (e13.mp c13) (by omega)).2.2 101 (by omega)).mp c43c, ((hl 3 (e13.mp c13) (by omega)).2.2 97 (by omega)).mp c43d, ((hl 4 (e13.mp c13) (by omega)).2.2 114 (by omega)).mp c43e⟩).symm, rfl⟩
            · refine Z_jump 1 rfl ?_
              show Zs _ _ (am_P 61).2 (47, [(0, .ref 1), (1, .retAddr 10), (2, .int (4 : Int32))], [.int (0 : Int32)]) (HH I J R T) _
              refine Z_rI rfl (by first | exact am_nw0 _ | exact am_nw01 | rfl | assumption) ?_
              exact ⟨am_ii (if_neg (fun z => c43e (((hl 4 (e13.mp c13) (by omega)).2.2 114 (by omega)).mpr z.2.2.2.2.2))).symm, rfl⟩
          · refine Z_jump 1 rfl ?_
            show Zs _ _ (am_P 61).2 (47, [(0, .ref 1), (1, .retAddr 10), (2, .int (3 : Int32))], [.int (0 : Int32)]) (HH I J R T) _
            refine Z_rI rfl (by first | exact am_nw0 _ | exact am_nw01 | rfl | assumption) ?_
            exact ⟨am_ii (if_neg (fun z => c43d (((hl 3 (e13.mp c13) (by omega)).2.2 97 (by omega)).mpr z.2.2.2.2.1))).symm, rfl⟩
        · refine Z_jump 1 rfl ?_
          show Zs _ _ (am_P 61).2 (47, [(0, .ref 1), (1, .retAddr 10), (2, .int (2 : Int32))], [.int (0 : Int32)]) (HH I J R T) _
          refine Z_rI rfl (by first | exact am_nw0 _ | exact am_nw01 | rfl | assumption) ?_
          exact ⟨am_ii (if_neg (fun z => c43c (((hl 2 (e13.mp c13) (by omega)).2.2 101 (by omega)).mpr z.2.2.2.1))).symm, rfl⟩
      · refine Z_jump 1 rfl ?_
        show Zs _ _ (am_P 61).2 (47, [(0, .ref 1), (1, .retAddr 10), (2, .int (1 : Int32))], [.int (0 : Int32)]) (HH I J R T) _
        refine Z_rI rfl (by first | exact am_nw0 _ | exact am_nw01 | rfl | assumption) ?_
        exact ⟨am_ii (if_neg (fun z => c43b (((hl 1 (e13.mp c13) (by omega)).2.2 108 (by omega)).mpr z.2.2.1))).symm, rfl⟩
    · refine Z_jump 1 rfl ?_
      show Zs _ _ (am_P 61).2 (47, [(0, .ref 1), (1, .retAddr 10), (2, .int (0 : Int32))], [.int (0 : Int32)]) (HH I J R T) _
      refine Z_rI rfl (by first | exact am_nw0 _ | exact am_nw01 | rfl | assumption) ?_
      exact ⟨am_ii (if_neg (fun z => c43 (((hl 0 (e13.mp c13) (by omega)).2.2 99 (by omega)).mpr z.2.1))).symm, rfl⟩
  · refine Z_jump 1 rfl ?_
    show Zs _ _ (am_P 61).2 (17, [(0, .ref 1), (1, .retAddr 10)], [.int (0 : Int32)]) (HH I J R T) _
    refine Z_rI rfl (by first | exact am_nw0 _ | exact am_nw01 | rfl | assumption) ?_
    exact ⟨am_ii (if_neg (fun z => c13 (e13.mpr z.1))).symm, rfl⟩
theorem w_len11 : am_E sc (d + 5) 229 [.retAddr 11] h (some (.int 5)) h := E_run 20 rfl
theorem c_wY {s : Nat} (hK : CTK tx c s I) : am_E sc (d + 6) 61 [.ref 1, .retAddr 11] (HH I J R T) (some (.int (if wY tx s (tE tx c s) then 1 else 0))) (HH I J R T) := by
  refine E_Z (Ze_of (Nat.le_of_ble_eq_true rfl) ?_)
  have hc := hK.1.2.1
  have hE := tE_c (tx := tx) hK.2.1
  have e8 : I 1 4 - I 1 3 = nI (tE tx c s - s) := by rw [hK.2.2.1, hK.2.2.2.1]; exact nI_subI hE.1
  have e13 : nI (tE tx c s - s) = 5 ↔ tE tx c s = s + 5 := by rw [show (5 : Int32) = nI 5 from rfl, nI_eq (by omega) (by omega)]; omega
  have hl : ∀ j, tE tx c s = s + 5 → j < 5 → I 1 3 + nI j = nI (s + j) ∧ s + j < 160 ∧ ∀ t, t ≤ 255 → (I 2 (s + j) = nI t ↔ tx (s + j) = t) := fun j hj1 hj2 => by
    have hj : s + j < c := by omega
    have h255 := hK.1.2.2.2 _ hj
    refine ⟨by rw [hK.2.2.1]; exact nI_add s j, by omega, fun t ht => ?_⟩
    rw [hK.1.2.2.1 _ hj]
    exact nI_eq (by omega) (by omega)
  refine Z_jump 5 rfl ?_
  show Zs _ _ (am_P 61).2 (9, [(0, .ref 1), (1, .retAddr 11)], [.int ((I 1 4) - (I 1 3))]) (HH I J R T) _
  refine Z_eqI (e8) ?_
  show Zs _ _ (am_P 61).2 (9, [(0, .ref 1), (1, .retAddr 11)], [.int (nI (tE tx c s - s))]) (HH I J R T) _
  refine Z_jump 1 rfl ?_
  show Zs _ _ (am_P 61).2 (10, [(0, .ref 1), (1, .retAddr 11)], [.retAddr 11, .int (nI (tE tx c s - s))]) (HH I J R T) _
  refine Z_c1 rfl rfl rfl (w_len11) ?_
  show Zs _ _ (am_P 61).2 (13, [(0, .ref 1), (1, .retAddr 11)], [.int (5 : Int32), .int (nI (tE tx c s - s))]) (HH I J R T) _
  refine Z_jump 1 rfl ?_
  refine Z_bd (fun (c13 : (nI (tE tx c s - s)) = (5 : Int32)) => ?_) (fun (c13 : ¬ ((nI (tE tx c s - s)) = (5 : Int32))) => ?_)
  · refine Z_jump 4 rfl ?_
    show Zs _ _ (am_P 61).2 (22, [(0, .ref 1), (1, .retAddr 11), (2, .int (0 : Int32))], [.retAddr 11, .int (0 : Int32)]) (HH I J R T) _
    refine Z_c1 rfl rfl rfl (w_len11) ?_
    show Zs _ _ (am_P 61).2 (25, [(0, .ref 1), (1, .retAddr 11), (2, .int (0 : Int32))], [.int (5 : Int32), .int (0 : Int32)]) (HH I J R T) _
    refine Z_jump 6 rfl ?_
    show Zs _ _ (am_P 61).2 (35, [(0, .ref 1), (1, .retAddr 11), (2, .int (0 : Int32))], [.int ((I 1 3) + (0 : Int32)), .ref 1]) (HH I J R T) _
    refine Z_c1 rfl rfl rfl (c_letterAt (hl 0 (e13.mp c13) (by omega)).1 (hl 0 (e13.mp c13) (by omega)).2.1) ?_
    show Zs _ _ (am_P 61).2 (38, [(0, .ref 1), (1, .retAddr 11), (2, .int (0 : Int32))], [.int (I 2 (s + 0))]) (HH I J R T) _
    refine Z_jump 2 rfl ?_
    show Zs _ _ (am_P 61).2 (40, [(0, .ref 1), (1, .retAddr 11), (2, .int (0 : Int32))], [.int (0 : Int32), .retAddr 11, .int (I 2 (s + 0))]) (HH I J R T) _
    refine Z_c1 rfl rfl rfl ((E_run 60 rfl)) ?_
    show Zs _ _ (am_P 61).2 (43, [(0, .ref 1), (1, .retAddr 11), (2, .int (0 : Int32))], [.int (99 : Int32), .int (I 2 (s + 0))]) (HH I J R T) _
    refine Z_jump 1 rfl ?_
    refine Z_bd (fun (c43 : (I 2 (s + 0)) = (99 : Int32)) => ?_) (fun (c43 : ¬ ((I 2 (s + 0)) = (99 : Int32))) => ?_)
    · refine Z_jump 4 rfl ?_
      show Zs _ _ (am_P 61).2 (22, [(0, .ref 1), (1, .retAddr 11), (2, .int (1 : Int32))], [.retAddr 11, .int (1 : Int32)]) (HH I J R T) _
      refine Z_c1 rfl rfl rfl (w_len11) ?_
      show Zs _ _ (am_P 61).2 (25, [(0, .ref 1), (1, .retAddr 11), (2, .int (1 : Int32))], [.int (5 : Int32), .int (1 : Int32)]) (HH I J R T) _
      refine Z_jump 6 rfl ?_
      show Zs _ _ (am_P 61).2 (35, [(0, .ref 1), (1, .retAddr 11), (2, .int (1 : Int32))], [.int ((I 1 3) + (1 : Int32)), .ref 1]) (HH I J R T) _
      refine Z_c1 rfl rfl rfl (c_letterAt (hl 1 (e13.mp c13) (by omega)).1 (hl 1 (e13.mp c13) (by omega)).2.1) ?_
      show Zs _ _ (am_P 61).2 (38, [(0, .ref 1), (1, .retAddr 11), (2, .int (1 : Int32))], [.int (I 2 (s + 1))]) (HH I J R T) _
      refine Z_jump 2 rfl ?_
      show Zs _ _ (am_P 61).2 (40, [(0, .ref 1), (1, .retAddr 11), (2, .int (1 : Int32))], [.int (1 : Int32), .retAddr 11, .int (I 2 (s + 1))]) (HH I J R T) _
      refine Z_c1 rfl rfl rfl ((E_run 60 rfl)) ?_
      show Zs _ _ (am_P 61).2 (43, [(0, .ref 1), (1, .retAddr 11), (2, .int (1 : Int32))], [.int (97 : Int32), .int (I 2 (s + 1))]) (HH I J R T) _
      refine Z_jump 1 rfl ?_
      refine Z_bd (fun (c43b : (I 2 (s + 1)) = (97 : Int32)) => ?_) (fun (c43b : ¬ ((I 2 (s + 1)) = (97 : Int32))) => ?_)
      · refine Z_jump 4 rfl ?_
        show Zs _ _ (am_P 61).2 (22, [(0, .ref 1), (1, .retAddr 11), (2, .int (2 : Int32))], [.retAddr 11, .int (2 : Int32)]) (HH I J R T) _
        refine Z_c1 rfl rfl rfl (w_len11) ?_
        show Zs _ _ (am_P 61).2 (25, [(0, .ref 1), (1, .retAddr 11), (2, .int (2 : Int32))], [.int (5 : Int32), .int (2 : Int32)]) (HH I J R T) _
        refine Z_jump 6 rfl ?_
        show Zs _ _ (am_P 61).2 (35, [(0, .ref 1), (1, .retAddr 11), (2, .int (2 : Int32))], [.int ((I 1 3) + (2 : Int32)), .ref 1]) (HH I J R T) _
        refine Z_c1 rfl rfl rfl (c_letterAt (hl 2 (e13.mp c13) (by omega)).1 (hl 2 (e13.mp c13) (by omega)).2.1) ?_
        show Zs _ _ (am_P 61).2 (38, [(0, .ref 1), (1, .retAddr 11), (2, .int (2 : Int32))], [.int (I 2 (s + 2))]) (HH I J R T) _
        refine Z_jump 2 rfl ?_
        show Zs _ _ (am_P 61).2 (40, [(0, .ref 1), (1, .retAddr 11), (2, .int (2 : Int32))], [.int (2 : Int32), .retAddr 11, .int (I 2 (s + 2))]) (HH I J R T) _
        refine Z_c1 rfl rfl rfl ((E_run 60 rfl)) ?_
        show Zs _ _ (am_P 61).2 (43, [(0, .ref 1), (1, .retAddr 11), (2, .int (2 : Int32))], [.int (114 : Int32), .int (I 2 (s + 2))]) (HH I J R T) _
        refine Z_jump 1 rfl ?_
        refine Z_bd (fun (c43c : (I 2 (s + 2)) = (114 : Int32)) => ?_) (fun (c43c : ¬ ((I 2 (s + 2)) = (114 : Int32))) => ?_)
        · refine Z_jump 4 rfl ?_
          show Zs _ _ (am_P 61).2 (22, [(0, .ref 1), (1, .retAddr 11), (2, .int (3 : Int32))], [.retAddr 11, .int (3 : Int32)]) (HH I J R T) _
          refine Z_c1 rfl rfl rfl (w_len11) ?_
          show Zs _ _ (am_P 61).2 (25, [(0, .ref 1), (1, .retAddr 11), (2, .int (3 : Int32))], [.int (5 : Int32), .int (3 : Int32)]) (HH I J R T) _
          refine Z_jump 6 rfl ?_
          show Zs _ _ (am_P 61).2 (35, [(0, .ref 1), (1, .retAddr 11), (2, .int (3 : Int32))], [.int ((I 1 3) + (3 : Int32)), .ref 1]) (HH I J R T) _
          refine Z_c1 rfl rfl rfl (c_letterAt (hl 3 (e13.mp c13) (by omega)).1 (hl 3 (e13.mp c13) (by omega)).2.1) ?_
          show Zs _ _ (am_P 61).2 (38, [(0, .ref 1), (1, .retAddr 11), (2, .int (3 : Int32))], [.int (I 2 (s + 3))]) (HH I J R T) _
          refine Z_jump 2 rfl ?_
          show Zs _ _ (am_P 61).2 (40, [(0, .ref 1), (1, .retAddr 11), (2, .int (3 : Int32))], [.int (3 : Int32), .retAddr 11, .int (I 2 (s + 3))]) (HH I J R T) _
          refine Z_c1 rfl rfl rfl ((E_run 60 rfl)) ?_
          show Zs _ _ (am_P 61).2 (43, [(0, .ref 1), (1, .retAddr 11), (2, .int (3 : Int32))], [.int (114 : Int32), .int (I 2 (s + 3))]) (HH I J R T) _
          refine Z_jump 1 rfl ?_
          refine Z_bd (fun (c43d : (I 2 (s + 3)) = (114 : Int32)) => ?_) (fun (c43d : ¬ ((I 2 (s + 3)) = (114 : Int32))) => ?_)
          · refine Z_jump 4 rfl ?_
            show Zs _ _ (am_P 61).2 (22, [(0, .ref 1), (1, .retAddr 11), (2, .int (4 : Int32))], [.retAddr 11, .int (4 : Int32)]) (HH I J R T) _
            refine Z_c1 rfl rfl rfl (w_len11) ?_
            show Zs _ _ (am_P 61).2 (25, [(0, .ref 1), (1, .retAddr 11), (2, .int (4 : Int32))], [.int (5 : Int32), .int (4 : Int32)]) (HH I J R T) _
            refine Z_jump 6 rfl ?_
            show Zs _ _ (am_P 61).2 (35, [(0, .ref 1), (1, .retAddr 11), (2, .int (4 : Int32))], [.int ((I 1 3) + (4 : Int32)), .ref 1]) (HH I J R T) _
            refine Z_c1 rfl rfl rfl (c_letterAt (hl 4 (e13.mp c13) (by omega)).1 (hl 4 (e13.mp c13) (by omega)).2.1) ?_
            show Zs _ _ (am_P 61).2 (38, [(0, .ref 1), (1, .retAddr 11), (2, .int (4 : Int32))], [.int (I 2 (s + 4))]) (HH I J R T) _
            refine Z_jump 2 rfl ?_
            show Zs _ _ (am_P 61).2 (40, [(0, .ref 1), (1, .retAddr 11), (2, .int (4 : Int32))], [.int (4 : Int32), .retAddr 11, .int (I 2 (s + 4))]) (HH I J R T) _
            refine Z_c1 rfl rfl rfl ((E_run 60 rfl)) ?_
            show Zs _ _ (am_P 61).2 (43, [(0, .ref 1), (1, .retAddr 11), (2, .int (4 : Int32))], [.int (121 : Int32), .int (I 2 (s + 4))]) (HH I J R T) _
            refine Z_jump 1 rfl ?_
            refine Z_bd (fun (c43e : (I 2 (s + 4)) = (121 : Int32)) => ?_) (fun (c43e : ¬ ((I 2 (s + 4)) = (121 : Int32))) => ?_)
            · refine Z_jump 4 rfl ?_
              show Zs _ _ (am_P 61).2 (22, [(0, .ref 1), (1, .retAddr 11), (2, .int (5 : Int32))], [.retAddr 11, .int (5 : Int32)]) (HH I J R T) _
              refine Z_c1 rfl rfl rfl (w_len11) ?_
              show Zs _ _ (am_P 61).2 (25, [(0, .ref 1), (1, .retAddr 11), (2, .int (5 : Int32))], [.int (5 : Int32), .int (5 : Int32)]) (HH I J R T) _
              refine Z_jump 2 rfl ?_
              show Zs _ _ (am_P 61).2 (55, [(0, .ref 1), (1, .retAddr 11), (2, .int (5 : Int32))], [.int (1 : Int32)]) (HH I J R T) _
              refine Z_rI rfl (by first | exact am_nw0 _ | exact am_nw01 | rfl | assumption) ?_
              exact ⟨am_ii (if_pos ⟨e13.mp c13, ((hl 0 (e13.mp c13) (by omega)).2.2 99 (by omega)).mp c43, ((hl 1 (e13.mp c13) (by omega)).2.2 97 (by omega)).mp c43b, ((hl 2 (e13.mp c13) (by omega)).2.2 114 (by omega)).mp c43c, ((hl 3 (e13.mp c13) (by omega)).2.2 114 (by omega)).mp c43d, ((hl 4 (e13.mp c13) (by omega)).2.2 121 (by omega)).mp c43e⟩).symm, rfl⟩
            · refine Z_jump 1 rfl ?_
              show Zs _ _ (am_P 61).2 (47, [(0, .ref 1), (1, .retAddr 11), (2, .int (4 : Int32))], [.int (0 : Int32)]) (HH I J R T) _
              refine Z_rI rfl (by first | exact am_nw0 _ | exact am_nw01 | rfl | assumption) ?_
              exact ⟨am_ii (if_neg (fun z => c43e (((hl 4 (e13.mp c13) (by omega)).2.2 121 (by omega)).mpr z.2.2.2.2.2))).symm, rfl⟩
          · refine Z_jump 1 rfl ?_
            show Zs _ _ (am_P 61).2 (47, [(0, .ref 1), (1, .retAddr 11), (2, .int (3 : Int32))], [.int (0 : Int32)]) (HH I J R T) _
            refine Z_rI rfl (by first | exact am_nw0 _ | exact am_nw01 | rfl | assumption) ?_
            exact ⟨am_ii (if_neg (fun z => c43d (((hl 3 (e13.mp c13) (by omega)).2.2 114 (by omega)).mpr z.2.2.2.2.1))).symm, rfl⟩
        · refine Z_jump 1 rfl ?_
          show Zs _ _ (am_P 61).2 (47, [(0, .ref 1), (1, .retAddr 11), (2, .int (2 : Int32))], [.int (0 : Int32)]) (HH I J R T) _
          refine Z_rI rfl (by first | exact am_nw0 _ | exact am_nw01 | rfl | assumption) ?_
          exact ⟨am_ii (if_neg (fun z => c43c (((hl 2 (e13.mp c13) (by omega)).2.2 114 (by omega)).mpr z.2.2.2.1))).symm, rfl⟩
      · refine Z_jump 1 rfl ?_
        show Zs _ _ (am_P 61).2 (47, [(0, .ref 1), (1, .retAddr 11), (2, .int (1 : Int32))], [.int (0 : Int32)]) (HH I J R T) _
        refine Z_rI rfl (by first | exact am_nw0 _ | exact am_nw01 | rfl | assumption) ?_
        exact ⟨am_ii (if_neg (fun z => c43b (((hl 1 (e13.mp c13) (by omega)).2.2 97 (by omega)).mpr z.2.2.1))).symm, rfl⟩
    · refine Z_jump 1 rfl ?_
      show Zs _ _ (am_P 61).2 (47, [(0, .ref 1), (1, .retAddr 11), (2, .int (0 : Int32))], [.int (0 : Int32)]) (HH I J R T) _
      refine Z_rI rfl (by first | exact am_nw0 _ | exact am_nw01 | rfl | assumption) ?_
      exact ⟨am_ii (if_neg (fun z => c43 (((hl 0 (e13.mp c13) (by omega)).2.2 99 (by omega)).mpr z.2.1))).symm, rfl⟩
  · refine Z_jump 1 rfl ?_
    show Zs _ _ (am_P 61).2 (17, [(0, .ref 1), (1, .retAddr 11)], [.int (0 : Int32)]) (HH I J R T) _
    refine Z_rI rfl (by first | exact am_nw0 _ | exact am_nw01 | rfl | assumption) ?_
    exact ⟨am_ii (if_neg (fun z => c13 (e13.mpr z.1))).symm, rfl⟩
end CTY

