/-! The class's text: words, numbers. -/
section CTY
variable {sc : Nat × (Nat → Int32)} {d : Nat} {I : hI} {J : hJ} {R : hR} {T : am_H} {h : am_H} {Q : Option Value → am_H → Prop} {tx : Nat → Nat} {c : Nat}
theorem w_len1 : am_E sc (d + 5) 229 [.retAddr 1] h (some (.int 5)) h := E_run 20 rfl
theorem c_wF {s : Nat} (hK : CTK tx c s I) : am_E sc (d + 6) 61 [.ref 1, .retAddr 1] (HH I J R T) (some (.int (if wF tx s (tE tx c s) then 1 else 0))) (HH I J R T) := by
  refine E_Z (Ze_of (Nat.le_of_ble_eq_true rfl) ?_)
  have hc := hK.1.2.1
  have hE := tE_c (tx := tx) hK.2.1
  have e8 : I 1 4 - I 1 3 = nI (tE tx c s - s) := by rw [hK.2.2.1, hK.2.2.2.1]; exact nI_subI hE.1
  have e13 : nI (tE tx c s - s) = 5 ↔ tE tx c s = s + 5 := by rw [show (5 : Int32) = nI 5 from rfl, nI_eq (by omega) (by omega)]; omega
  have hl : ∀ j, tE tx c s = s + 5 → j < 5 → I 1 3 + nI j = nI (s + j) ∧ s + j < 160 ∧ ∀ t, t ≤ 255 → (I 2 (s + j) = nI t ↔ tx (s + j) = t) := fun j hj1 hj2 => by
    have hj : s + j < c := by omega
    have h255 := hK.1.2.2.2 _ hj
    refine ⟨by rw [hK.2.2.1]; exact nI_add s j, by omega, fun t ht => ?_⟩
    rw [hK.1.2.2.1 _ hj]
    exact nI_eq (by omega) (by omega)
  refine Z_jump 5 rfl ?_
  show Zs _ _ (am_P 61).2 (9, [(0, .ref 1), (1, .retAddr 1)], [.int ((I 1 4) - (I 1 3))]) (HH I J R T) _
  refine Z_eqI (e8) ?_
  show Zs _ _ (am_P 61).2 (9, [(0, .ref 1), (1, .retAddr 1)], [.int (nI (tE tx c s - s))]) (HH I J R T) _
  refine Z_jump 1 rfl ?_
  show Zs _ _ (am_P 61).2 (10, [(0, .ref 1), (1, .retAddr 1)], [.retAddr 1, .int (nI (tE tx c s - s))]) (HH I J R T) _
  refine Z_c1 rfl rfl rfl (w_len1) ?_
  show Zs _ _ (am_P 61).2 (13, [(0, .ref 1), (1, .retAddr 1)], [.int (5 : Int32), .int (nI (tE tx c s - s))]) (HH I J R T) _
  refine Z_jump 1 rfl ?_
  refine Z_bd (fun (c13 : (nI (tE tx c s - s)) = (5 : Int32)) => ?_) (fun (c13 : ¬ ((nI (tE tx c s - s)) = (5 : Int32))) => ?_)
  · refine Z_jump 4 rfl ?_
    show Zs _ _ (am_P 61).2 (22, [(0, .ref 1), (1, .retAddr 1), (2, .int (0 : Int32))], [.retAddr 1, .int (0 : Int32)]) (HH I J R T) _
    refine Z_c1 rfl rfl rfl (w_len1) ?_
    show Zs _ _ (am_P 61).2 (25, [(0, .ref 1), (1, .retAddr 1), (2, .int (0 : Int32))], [.int (5 : Int32), .int (0 : Int32)]) (HH I J R T) _
    refine Z_jump 6 rfl ?_
    show Zs _ _ (am_P 61).2 (35, [(0, .ref 1), (1, .retAddr 1), (2, .int (0 : Int32))], [.int ((I 1 3) + (0 : Int32)), .ref 1]) (HH I J R T) _
    refine Z_c1 rfl rfl rfl (c_letterAt (hl 0 (e13.mp c13) (by omega)).1 (hl 0 (e13.mp c13) (by omega)).2.1) ?_
    show Zs _ _ (am_P 61).2 (38, [(0, .ref 1), (1, .retAddr 1), (2, .int (0 : Int32))], [.int (I 2 (s + 0))]) (HH I J R T) _
    refine Z_jump 2 rfl ?_
    show Zs _ _ (am_P 61).2 (40, [(0, .ref 1), (1, .retAddr 1), (2, .int (0 : Int32))], [.int (0 : Int32), .retAddr 1, .int (I 2 (s + 0))]) (HH I J R T) _
    refine Z_c1 rfl rfl rfl ((E_run 60 rfl)) ?_
    show Zs _ _ (am_P 61).2 (43, [(0, .ref 1), (1, .retAddr 1), (2, .int (0 : Int32))], [.int (102 : Int32), .int (I 2 (s + 0))]) (HH I J R T) _
    refine Z_jump 1 rfl ?_
    refine Z_bd (fun (c43 : (I 2 (s + 0)) = (102 : Int32)) => ?_) (fun (c43 : ¬ ((I 2 (s + 0)) = (102 : Int32))) => ?_)
    · refine Z_jump 4 rfl ?_
      show Zs _ _ (am_P 61).2 (22, [(0, .ref 1), (1, .retAddr 1), (2, .int (1 : Int32))], [.retAddr 1, .int (1 : Int32)]) (HH I J R T) _
      refine Z_c1 rfl rfl rfl (w_len1) ?_
      show Zs _ _ (am_P 61).2 (25, [(0, .ref 1), (1, .retAddr 1), (2, .int (1 : Int32))], [.int (5 : Int32), .int (1 : Int32)]) (HH I J R T) _
      refine Z_jump 6 rfl ?_
      show Zs _ _ (am_P 61).2 (35, [(0, .ref 1), (1, .retAddr 1), (2, .int (1 : Int32))], [.int ((I 1 3) + (1 : Int32)), .ref 1]) (HH I J R T) _
      refine Z_c1 rfl rfl rfl (c_letterAt (hl 1 (e13.mp c13) (by omega)).1 (hl 1 (e13.mp c13) (by omega)).2.1) ?_
      show Zs _ _ (am_P 61).2 (38, [(0, .ref 1), (1, .retAddr 1), (2, .int (1 : Int32))], [.int (I 2 (s + 1))]) (HH I J R T) _
      refine Z_jump 2 rfl ?_
      show Zs _ _ (am_P 61).2 (40, [(0, .ref 1), (1, .retAddr 1), (2, .int (1 : Int32))], [.int (1 : Int32), .retAddr 1, .int (I 2 (s + 1))]) (HH I J R T) _
      refine Z_c1 rfl rfl rfl ((E_run 60 rfl)) ?_
      show Zs _ _ (am_P 61).2 (43, [(0, .ref 1), (1, .retAddr 1), (2, .int (1 : Int32))], [.int (114 : Int32), .int (I 2 (s + 1))]) (HH I J R T) _
      refine Z_jump 1 rfl ?_
      refine Z_bd (fun (c43b : (I 2 (s + 1)) = (114 : Int32)) => ?_) (fun (c43b : ¬ ((I 2 (s + 1)) = (114 : Int32))) => ?_)
      · refine Z_jump 4 rfl ?_
        show Zs _ _ (am_P 61).2 (22, [(0, .ref 1), (1, .retAddr 1), (2, .int (2 : Int32))], [.retAddr 1, .int (2 : Int32)]) (HH I J R T) _
        refine Z_c1 rfl rfl rfl (w_len1) ?_
        show Zs _ _ (am_P 61).2 (25, [(0, .ref 1), (1, .retAddr 1), (2, .int (2 : Int32))], [.int (5 : Int32), .int (2 : Int32)]) (HH I J R T) _
        refine Z_jump 6 rfl ?_
        show Zs _ _ (am_P 61).2 (35, [(0, .ref 1), (1, .retAddr 1), (2, .int (2 : Int32))], [.int ((I 1 3) + (2 : Int32)), .ref 1]) (HH I J R T) _
        refine Z_c1 rfl rfl rfl (c_letterAt (hl 2 (e13.mp c13) (by omega)).1 (hl 2 (e13.mp c13) (by omega)).2.1) ?_
        show Zs _ _ (am_P 61).2 (38, [(0, .ref 1), (1, .retAddr 1), (2, .int (2 : Int32))], [.int (I 2 (s + 2))]) (HH I J R T) _
        refine Z_jump 2 rfl ?_
        show Zs _ _ (am_P 61).2 (40, [(0, .ref 1), (1, .retAddr 1), (2, .int (2 : Int32))], [.int (2 : Int32), .retAddr 1, .int (I 2 (s + 2))]) (HH I J R T) _
        refine Z_c1 rfl rfl rfl ((E_run 60 rfl)) ?_
        show Zs _ _ (am_P 61).2 (43, [(0, .ref 1), (1, .retAddr 1), (2, .int (2 : Int32))], [.int (97 : Int32), .int (I 2 (s + 2))]) (HH I J R T) _
        refine Z_jump 1 rfl ?_
        refine Z_bd (fun (c43c : (I 2 (s + 2)) = (97 : Int32)) => ?_) (fun (c43c : ¬ ((I 2 (s + 2)) = (97 : Int32))) => ?_)
        · refine Z_jump 4 rfl ?_
          show Zs _ _ (am_P 61).2 (22, [(0, .ref 1), (1, .retAddr 1), (2, .int (3 : Int32))], [.retAddr 1, .int (3 : Int32)]) (HH I J R T) _
          refine Z_c1 rfl rfl rfl (w_len1) ?_
          show Zs _ _ (am_P 61).2 (25, [(0, .ref 1), (1, .retAddr 1), (2, .int (3 : Int32))], [.int (5 : Int32), .int (3 : Int32)]) (HH I J R T) _
          refine Z_jump 6 rfl ?_
          show Zs _ _ (am_P 61).2 (35, [(0, .ref 1), (1, .retAddr 1), (2, .int (3 : Int32))], [.int ((I 1 3) + (3 : Int32)), .ref 1]) (HH I J R T) _
          refine Z_c1 rfl rfl rfl (c_letterAt (hl 3 (e13.mp c13) (by omega)).1 (hl 3 (e13.mp c13) (by omega)).2.1) ?_
          show Zs _ _ (am_P 61).2 (38, [(0, .ref 1), (1, .retAddr 1), (2, .int (3 : Int32))], [.int (I 2 (s + 3))]) (HH I J R T) _
          refine Z_jump 2 rfl ?_
          show Zs _ _ (am_P 61).2 (40, [(0, .ref 1), (1, .retAddr 1), (2, .int (3 : Int32))], [.int (3 : Int32), .retAddr 1, .int (I 2 (s + 3))]) (HH I J R T) _
          refine Z_c1 rfl rfl rfl ((E_run 60 rfl)) ?_
          show Zs _ _ (am_P 61).2 (43, [(0, .ref 1), (1, .retAddr 1), (2, .int (3 : Int32))], [.int (109 : Int32), .int (I 2 (s + 3))]) (HH I J R T) _
          refine Z_jump 1 rfl ?_
          refine Z_bd (fun (c43d : (I 2 (s + 3)) = (109 : Int32)) => ?_) (fun (c43d : ¬ ((I 2 (s + 3)) = (109 : Int32))) => ?_)
          · refine Z_jump 4 rfl ?_
            show Zs _ _ (am_P 61).2 (22, [(0, .ref 1), (1, .retAddr 1), (2, .int (4 : Int32))], [.retAddr 1, .int (4 : Int32)]) (HH I J R T) _
            refine Z_c1 rfl rfl rfl (w_len1) ?_
            show Zs _ _ (am_P 61).2 (25, [(0, .ref 1), (1, .retAddr 1), (2, .int (4 : Int32))], [.int (5 : Int32), .int (4 : Int32)]) (HH I J R T) _
            refine Z_jump 6 rfl ?_
            show Zs _ _ (am_P 61).2 (35, [(0, .ref 1), (1, .retAddr 1), (2, .int (4 : Int32))], [.int ((I 1 3) + (4 : Int32)), .ref 1]) (HH I J R T) _
            refine Z_c1 rfl rfl rfl (c_letterAt (hl 4 (e13.mp c13) (by omega)).1 (hl 4 (e13.mp c13) (by omega)).2.1) ?_
            show Zs _ _ (am_P 61).2 (38, [(0, .ref 1), (1, .retAddr 1), (2, .int (4 : Int32))], [.int (I 2 (s + 4))]) (HH I J R T) _
            refine Z_jump 2 rfl ?_
            show Zs _ _ (am_P 61).2 (40, [(0, .ref 1), (1, .retAddr 1), (2, .int (4 : Int32))], [.int (4 : Int32), .retAddr 1, .int (I 2 (s + 4))]) (HH I J R T) _
            refine Z_c1 rfl rfl rfl ((E_run 60 rfl)) ?_
            show Zs _ _ (am_P 61).2 (43, [(0, .ref 1), (1, .retAddr 1), (2, .int (4 : Int32))], [.int (101 : Int32), .int (I 2 (s + 4))]) (HH I J R T) _
            refine Z_jump 1 rfl ?_
            refine Z_bd (fun (c43e : (I 2 (s + 4)) = (101 : Int32)) => ?_) (fun (c43e : ¬ ((I 2 (s + 4)) = (101 : Int32))) => ?_)
            · refine Z_jump 4 rfl ?_
              show Zs _ _ (am_P 61).2 (22, [(0, .ref 1), (1, .retAddr 1), (2, .int (5 : Int32))], [.retAddr 1, .int (5 : Int32)]) (HH I J R T) _
              refine Z_c1 rfl rfl rfl (w_len1) ?_
              show Zs _ _ (am_P 61).2 (25, [(0, .ref 1), (1, .retAddr 1), (2, .int (5 : Int32))], [.int (5 : Int32), .int (5 : Int32)]) (HH I J R T) _
              refine Z_jump 2 rfl ?_
              show Zs _ _ (am_P 61).2 (55, [(0, .ref 1), (1, .retAddr 1), (2, .int (5 : Int32))], [.int (1 : Int32)]) (HH I J R T) _
              refine Z_rI rfl (by first | exact am_nw0 _ | exact am_nw01 | rfl | assumption) ?_
              exact ⟨am_ii (if_pos ⟨e13.mp c13, ((hl 0 (e13.mp c13) (by omega)).2.2 102 (by omega)).mp c43, ((hl 1 (e13.mp c13) (by omega)).2.2 114 (by omega)).mp c43b, ((hl 2 (e13.mp c13) (by omega)).2.2 97 (by omega)).mp c43c, ((hl 3 (e13.mp c13) (by omega)).2.2 109 (by omega)).mp c43d, ((hl 4 (e13.mp c13) (by omega)).2.2 101 (by omega)).mp c43e⟩).symm, rfl⟩
            · refine Z_jump 1 rfl ?_
              show Zs _ _ (am_P 61).2 (47, [(0, .ref 1), (1, .retAddr 1), (2, .int (4 : Int32))], [.int (0 : Int32)]) (HH I J R T) _
              refine Z_rI rfl (by first | exact am_nw0 _ | exact am_nw01 | rfl | assumption) ?_
              exact ⟨am_ii (if_neg (fun z => c43e (((hl 4 (e13.mp c13) (by omega)).2.2 101 (by omega)).mpr z.2.2.2.2.2))).symm, rfl⟩
          · refine Z_jump 1 rfl ?_
            show Zs _ _ (am_P 61).2 (47, [(0, .ref 1), (1, .retAddr 1), (2, .int (3 : Int32))], [.int (0 : Int32)]) (HH I J R T) _
            refine Z_rI rfl (by first | exact am_nw0 _ | exact am_nw01 | rfl | assumption) ?_
            exact ⟨am_ii (if_neg (fun z => c43d (((hl 3 (e13.mp c13) (by omega)).2.2 109 (by omega)).mpr z.2.2.2.2.1))).symm, rfl⟩
        · refine Z_jump 1 rfl ?_
          show Zs _ _ (am_P 61).2 (47, [(0, .ref 1), (1, .retAddr 1), (2, .int (2 : Int32))], [.int (0 : Int32)]) (HH I J R T) _
          refine Z_rI rfl (by first | exact am_nw0 _ | exact am_nw01 | rfl | assumption) ?_
          exact ⟨am_ii (if_neg (fun z => c43c (((hl 2 (e13.mp c13) (by omega)).2.2 97 (by omega)).mpr z.2.2.2.1))).symm, rfl⟩
      · refine Z_jump 1 rfl ?_
        show Zs _ _ (am_P 61).2 (47, [(0, .ref 1), (1, .retAddr 1), (2, .int (1 : Int32))], [.int (0 : Int32)]) (HH I J R T) _
        refine Z_rI rfl (by first | exact am_nw0 _ | exact am_nw01 | rfl | assumption) ?_
        exact ⟨am_ii (if_neg (fun z => c43b (((hl 1 (e13.mp c13) (by omega)).2.2 114 (by omega)).mpr z.2.2.1))).symm, rfl⟩
    · refine Z_jump 1 rfl ?_
      show Zs _ _ (am_P 61).2 (47, [(0, .ref 1), (1, .retAddr 1), (2, .int (0 : Int32))], [.int (0 : Int32)]) (HH I J R T) _
      refine Z_rI rfl (by first | exact am_nw0 _ | exact am_nw01 | rfl | assumption) ?_
      exact ⟨am_ii (if_neg (fun z => c43 (((hl 0 (e13.mp c13) (by omega)).2.2 102 (by omega)).mpr z.2.1))).symm, rfl⟩
  · refine Z_jump 1 rfl ?_
    show Zs _ _ (am_P 61).2 (17, [(0, .ref 1), (1, .retAddr 1)], [.int (0 : Int32)]) (HH I J R T) _
    refine Z_rI rfl (by first | exact am_nw0 _ | exact am_nw01 | rfl | assumption) ?_
    exact ⟨am_ii (if_neg (fun z => c13 (e13.mpr z.1))).symm, rfl⟩
theorem w_len2 : am_E sc (d + 5) 229 [.retAddr 2] h (some (.int 5)) h := E_run 20 rfl
theorem c_wK {s : Nat} (hK : CTK tx c s I) : am_E sc (d + 6) 61 [.ref 1, .retAddr 2] (HH I J R T) (some (.int (if wK tx s (tE tx c s) then 1 else 0))) (HH I J R T) := by
  refine E_Z (Ze_of (Nat.le_of_ble_eq_true rfl) ?_)
  have hc := hK.1.2.1
  have hE := tE_c (tx := tx) hK.2.1
  have e8 : I 1 4 - I 1 3 = nI (tE tx c s - s) := by rw [hK.2.2.1, hK.2.2.2.1]; exact nI_subI hE.1
  have e13 : nI (tE tx c s - s) = 5 ↔ tE tx c s = s + 5 := by rw [show (5 : Int32) = nI 5 from rfl, nI_eq (by omega) (by omega)]; omega
  have hl : ∀ j, tE tx c s = s + 5 → j < 5 → I 1 3 + nI j = nI (s + j) ∧ s + j < 160 ∧ ∀ t, t ≤ 255 → (I 2 (s + j) = nI t ↔ tx (s + j) = t) := fun j hj1 hj2 => by
    have hj : s + j < c := by omega
    have h255 := hK.1.2.2.2 _ hj
    refine ⟨by rw [hK.2.2.1]; exact nI_add s j, by omega, fun t ht => ?_⟩
    rw [hK.1.2.2.1 _ hj]
    exact nI_eq (by omega) (by omega)
  refine Z_jump 5 rfl ?_
  show Zs _ _ (am_P 61).2 (9, [(0, .ref 1), (1, .retAddr 2)], [.int ((I 1 4) - (I 1 3))]) (HH I J R T) _
  refine Z_eqI (e8) ?_
  show Zs _ _ (am_P 61).2 (9, [(0, .ref 1), (1, .retAddr 2)], [.int (nI (tE tx c s - s))]) (HH I J R T) _
  refine Z_jump 1 rfl ?_
  show Zs _ _ (am_P 61).2 (10, [(0, .ref 1), (1, .retAddr 2)], [.retAddr 2, .int (nI (tE tx c s - s))]) (HH I J R T) _
  refine Z_c1 rfl rfl rfl (w_len2) ?_
  show Zs _ _ (am_P 61).2 (13, [(0, .ref 1), (1, .retAddr 2)], [.int (5 : Int32), .int (nI (tE tx c s - s))]) (HH I J R T) _
  refine Z_jump 1 rfl ?_
  refine Z_bd (fun (c13 : (nI (tE tx c s - s)) = (5 : Int32)) => ?_) (fun (c13 : ¬ ((nI (tE tx c s - s)) = (5 : Int32))) => ?_)
  · refine Z_jump 4 rfl ?_
    show Zs _ _ (am_P 61).2 (22, [(0, .ref 1), (1, .retAddr 2), (2, .int (0 : Int32))], [.retAddr 2, .int (0 : Int32)]) (HH I J R T) _
    refine Z_c1 rfl rfl rfl (w_len2) ?_
    show Zs _ _ (am_P 61).2 (25, [(0, .ref 1), (1, .retAddr 2), (2, .int (0 : Int32))], [.int (5 : Int32), .int (0 : Int32)]) (HH I J R T) _
    refine Z_jump 6 rfl ?_
    show Zs _ _ (am_P 61).2 (35, [(0, .ref 1), (1, .retAddr 2), (2, .int (0 : Int32))], [.int ((I 1 3) + (0 : Int32)), .ref 1]) (HH I J R T) _
    refine Z_c1 rfl rfl rfl (c_letterAt (hl 0 (e13.mp c13) (by omega)).1 (hl 0 (e13.mp c13) (by omega)).2.1) ?_
    show Zs _ _ (am_P 61).2 (38, [(0, .ref 1), (1, .retAddr 2), (2, .int (0 : Int32))], [.int (I 2 (s + 0))]) (HH I J R T) _
    refine Z_jump 2 rfl ?_
    show Zs _ _ (am_P 61).2 (40, [(0, .ref 1), (1, .retAddr 2), (2, .int (0 : Int32))], [.int (0 : Int32), .retAddr 2, .int (I 2 (s + 0))]) (HH I J R T) _
    refine Z_c1 rfl rfl rfl ((E_run 60 rfl)) ?_
    show Zs _ _ (am_P 61).2 (43, [(0, .ref 1), (1, .retAddr 2), (2, .int (0 : Int32))], [.int (115 : Int32), .int (I 2 (s + 0))]) (HH I J R T) _
    refine Z_jump 1 rfl ?_
    refine Z_bd (fun (c43 : (I 2 (s + 0)) = (115 : Int32)) => ?_) (fun (c43 : ¬ ((I 2 (s + 0)) = (115 : Int32))) => ?_)
    · refine Z_jump 4 rfl ?_
      show Zs _ _ (am_P 61).2 (22, [(0, .ref 1), (1, .retAddr 2), (2, .int (1 : Int32))], [.retAddr 2, .int (1 : Int32)]) (HH I J R T) _
      refine Z_c1 rfl rfl rfl (w_len2) ?_
      show Zs _ _ (am_P 61).2 (25, [(0, .ref 1), (1, .retAddr 2), (2, .int (1 : Int32))], [.int (5 : Int32), .int (1 : Int32)]) (HH I J R T) _
      refine Z_jump 6 rfl ?_
      show Zs _ _ (am_P 61).2 (35, [(0, .ref 1), (1, .retAddr 2), (2, .int (1 : Int32))], [.int ((I 1 3) + (1 : Int32)), .ref 1]) (HH I J R T) _
      refine Z_c1 rfl rfl rfl (c_letterAt (hl 1 (e13.mp c13) (by omega)).1 (hl 1 (e13.mp c13) (by omega)).2.1) ?_
      show Zs _ _ (am_P 61).2 (38, [(0, .ref 1), (1, .retAddr 2), (2, .int (1 : Int32))], [.int (I 2 (s + 1))]) (HH I J R T) _
      refine Z_jump 2 rfl ?_
      show Zs _ _ (am_P 61).2 (40, [(0, .ref 1), (1, .retAddr 2), (2, .int (1 : Int32))], [.int (1 : Int32), .retAddr 2, .int (I 2 (s + 1))]) (HH I J R T) _
      refine Z_c1 rfl rfl rfl ((E_run 60 rfl)) ?_
      show Zs _ _ (am_P 61).2 (43, [(0, .ref 1), (1, .retAddr 2), (2, .int (1 : Int32))], [.int (116 : Int32), .int (I 2 (s + 1))]) (HH I J R T) _
      refine Z_jump 1 rfl ?_
      refine Z_bd (fun (c43b : (I 2 (s + 1)) = (116 : Int32)) => ?_) (fun (c43b : ¬ ((I 2 (s + 1)) = (116 : Int32))) => ?_)
      · refine Z_jump 4 rfl ?_
        show Zs _ _ (am_P 61).2 (22, [(0, .ref 1), (1, .retAddr 2), (2, .int (2 : Int32))], [.retAddr 2, .int (2 : Int32)]) (HH I J R T) _
        refine Z_c1 rfl rfl rfl (w_len2) ?_
        show Zs _ _ (am_P 61).2 (25, [(0, .ref 1), (1, .retAddr 2), (2, .int (2 : Int32))], [.int (5 : Int32), .int (2 : Int32)]) (HH I J R T) _
        refine Z_jump 6 rfl ?_
        show Zs _ _ (am_P 61).2 (35, [(0, .ref 1), (1, .retAddr 2), (2, .int (2 : Int32))], [.int ((I 1 3) + (2 : Int32)), .ref 1]) (HH I J R T) _
        refine Z_c1 rfl rfl rfl (c_letterAt (hl 2 (e13.mp c13) (by omega)).1 (hl 2 (e13.mp c13) (by omega)).2.1) ?_
        show Zs _ _ (am_P 61).2 (38, [(0, .ref 1), (1, .retAddr 2), (2, .int (2 : Int32))], [.int (I 2 (s + 2))]) (HH I J R T) _
        refine Z_jump 2 rfl ?_
        show Zs _ _ (am_P 61).2 (40, [(0, .ref 1), (1, .retAddr 2), (2, .int (2 : Int32))], [.int (2 : Int32), .retAddr 2, .int (I 2 (s + 2))]) (HH I J R T) _
        refine Z_c1 rfl rfl rfl ((E_run 60 rfl)) ?_
        show Zs _ _ (am_P 61).2 (43, [(0, .ref 1), (1, .retAddr 2), (2, .int (2 : Int32))], [.int (117 : Int32), .int (I 2 (s + 2))]) (HH I J R T) _
        refine Z_jump 1 rfl ?_
        refine Z_bd (fun (c43c : (I 2 (s + 2)) = (117 : Int32)) => ?_) (fun (c43c : ¬ ((I 2 (s + 2)) = (117 : Int32))) => ?_)
        · refine Z_jump 4 rfl ?_
          show Zs _ _ (am_P 61).2 (22, [(0, .ref 1), (1, .retAddr 2), (2, .int (3 : Int32))], [.retAddr 2, .int (3 : Int32)]) (HH I J R T) _
          refine Z_c1 rfl rfl rfl (w_len2) ?_
          show Zs _ _ (am_P 61).2 (25, [(0, .ref 1), (1, .retAddr 2), (2, .int (3 : Int32))], [.int (5 : Int32), .int (3 : Int32)]) (HH I J R T) _
          refine Z_jump 6 rfl ?_
          show Zs _ _ (am_P 61).2 (35, [(0, .ref 1), (1, .retAddr 2), (2, .int (3 : Int32))], [.int ((I 1 3) + (3 : Int32)), .ref 1]) (HH I J R T) _
          refine Z_c1 rfl rfl rfl (c_letterAt (hl 3 (e13.mp c13) (by omega)).1 (hl 3 (e13.mp c13) (by omega)).2.1) ?_
          show Zs _ _ (am_P 61).2 (38, [(0, .ref 1), (1, .retAddr 2), (2, .int (3 : Int32))], [.int (I 2 (s + 3))]) (HH I J R T) _
          refine Z_jump 2 rfl ?_
          show Zs _ _ (am_P 61).2 (40, [(0, .ref 1), (1, .retAddr 2), (2, .int (3 : Int32))], [.int (3 : Int32), .retAddr 2, .int (I 2 (s + 3))]) (HH I J R T) _
          refine Z_c1 rfl rfl rfl ((E_run 60 rfl)) ?_
          show Zs _ _ (am_P 61).2 (43, [(0, .ref 1), (1, .retAddr 2), (2, .int (3 : Int32))], [.int (99 : Int32), .int (I 2 (s + 3))]) (HH I J R T) _
          refine Z_jump 1 rfl ?_
          refine Z_bd (fun (c43d : (I 2 (s + 3)) = (99 : Int32)) => ?_) (fun (c43d : ¬ ((I 2 (s + 3)) = (99 : Int32))) => ?_)
          · refine Z_jump 4 rfl ?_
            show Zs _ _ (am_P 61).2 (22, [(0, .ref 1), (1, .retAddr 2), (2, .int (4 : Int32))], [.retAddr 2, .int (4 : Int32)]) (HH I J R T) _
            refine Z_c1 rfl rfl rfl (w_len2) ?_
            show Zs _ _ (am_P 61).2 (25, [(0, .ref 1), (1, .retAddr 2), (2, .int (4 : Int32))], [.int (5 : Int32), .int (4 : Int32)]) (HH I J R T) _
            refine Z_jump 6 rfl ?_
            show Zs _ _ (am_P 61).2 (35, [(0, .ref 1), (1, .retAddr 2), (2, .int (4 : Int32))], [.int ((I 1 3) + (4 : Int32)), .ref 1]) (HH I J R T) _
            refine Z_c1 rfl rfl rfl (c_letterAt (hl 4 (e13.mp c13) (by omega)).1 (hl 4 (e13.mp c13) (by omega)).2.1) ?_
            show Zs _ _ (am_P 61).2 (38, [(0, .ref 1), (1, .retAddr 2), (2, .int (4 : Int32))], [.int (I 2 (s + 4))]) (HH I J R T) _
            refine Z_jump 2 rfl ?_
            show Zs _ _ (am_P 61).2 (40, [(0, .ref 1), (1, .retAddr 2), (2, .int (4 : Int32))], [.int (4 : Int32), .retAddr 2, .int (I 2 (s + 4))]) (HH I J R T) _
            refine Z_c1 rfl rfl rfl ((E_run 60 rfl)) ?_
            show Zs _ _ (am_P 61).2 (43, [(0, .ref 1), (1, .retAddr 2), (2, .int (4 : Int32))], [.int (107 : Int32), .int (I 2 (s + 4))]) (HH I J R T) _
            refine Z_jump 1 rfl ?_
            refine Z_bd (fun (c43e : (I 2 (s + 4)) = (107 : Int32)) => ?_) (fun (c43e : ¬ ((I 2 (s + 4)) = (107 : Int32))) => ?_)
            · refine Z_jump 4 rfl ?_
              show Zs _ _ (am_P 61).2 (22, [(0, .ref 1), (1, .retAddr 2), (2, .int (5 : Int32))], [.retAddr 2, .int (5 : Int32)]) (HH I J R T) _
              refine Z_c1 rfl rfl rfl (w_len2) ?_
              show Zs _ _ (am_P 61).2 (25, [(0, .ref 1), (1, .retAddr 2), (2, .int (5 : Int32))], [.int (5 : Int32), .int (5 : Int32)]) (HH I J R T) _
              refine Z_jump 2 rfl ?_
              show Zs _ _ (am_P 61).2 (55, [(0, .ref 1), (1, .retAddr 2), (2, .int (5 : Int32))], [.int (1 : Int32)]) (HH I J R T) _
              refine Z_rI rfl (by first | exact am_nw0 _ | exact am_nw01 | rfl | assumption) ?_
              exact ⟨am_ii (if_pos ⟨e13.mp c13, ((hl 0 (e13.mp c13) (by omega)).2.2 115 (by omega)).mp c43, ((hl 1 (e13.mp c13) (by omega)).2.2 116 (by omega)).mp c43b, ((hl 2 (e13.mp c13) (by omega)).2.2 117 (by omega)).mp c43c, ((hl 3 (e13.mp c13) (by omega)).2.2 99 (by omega)).mp c43d, ((hl 4 (e13.mp c13) (by omega)).2.2 107 (by omega)).mp c43e⟩).symm, rfl⟩
            · refine Z_jump 1 rfl ?_
              show Zs _ _ (am_P 61).2 (47, [(0, .ref 1), (1, .retAddr 2), (2, .int (4 : Int32))], [.int (0 : Int32)]) (HH I J R T) _
              refine Z_rI rfl (by first | exact am_nw0 _ | exact am_nw01 | rfl | assumption) ?_
              exact ⟨am_ii (if_neg (fun z => c43e (((hl 4 (e13.mp c13) (by omega)).2.2 107 (by omega)).mpr z.2.2.2.2.2))).symm, rfl⟩
          · refine Z_jump 1 rfl ?_
            show Zs _ _ (am_P 61).2 (47, [(0, .ref 1), (1, .retAddr 2), (2, .int (3 : Int32))], [.int (0 : Int32)]) (HH I J R T) _
            refine Z_rI rfl (by first | exact am_nw0 _ | exact am_nw01 | rfl | assumption) ?_
            exact ⟨am_ii (if_neg (fun z => c43d (((hl 3 (e13.mp c13) (by omega)).2.2 99 (by omega)).mpr z.2.2.2.2.1))).symm, rfl⟩
        · refine Z_jump 1 rfl ?_
          show Zs _ _ (am_P 61).2 (47, [(0, .ref 1), (1, .retAddr 2), (2, .int (2 : Int32))], [.int (0 : Int32)]) (HH I J R T) _
          refine Z_rI rfl (by first | exact am_nw0 _ | exact am_nw01 | rfl | assumption) ?_
          exact ⟨am_ii (if_neg (fun z => c43c (((hl 2 (e13.mp c13) (by omega)).2.2 117 (by omega)).mpr z.2.2.2.1))).symm, rfl⟩
      · refine Z_jump 1 rfl ?_
        show Zs _ _ (am_P 61).2 (47, [(0, .ref 1), (1, .retAddr 2), (2, .int (1 : Int32))], [.int (0 : Int32)]) (HH I J R T) _
        refine Z_rI rfl (by first | exact am_nw0 _ | exact am_nw01 | rfl | assumption) ?_
        exact ⟨am_ii (if_neg (fun z => c43b (((hl 1 (e13.mp c13) (by omega)).2.2 116 (by omega)).mpr z.2.2.1))).symm, rfl⟩
    · refine Z_jump 1 rfl ?_
      show Zs _ _ (am_P 61).2 (47, [(0, .ref 1), (1, .retAddr 2), (2, .int (0 : Int32))], [.int (0 : Int32)]) (HH I J R T) _
      refine Z_rI rfl (by first | exact am_nw0 _ | exact am_nw01 | rfl | assumption) ?_
      exact ⟨am_ii (if_neg (fun z => c43 (((hl 0 (e13.mp c13) (by omega)).2.2 115 (by omega)).mpr z.2.1))).symm, rfl⟩
  · refine Z_jump 1 rfl ?_
    show Zs _ _ (am_P 61).2 (17, [(0, .ref 1), (1, .retAddr 2)], [.int (0 : Int32)]) (HH I J R T) _
    refine Z_rI rfl (by first | exact am_nw0 _ | exact am_nw01 | rfl | assumption) ?_
    exact ⟨am_ii (if_neg (fun z => c13 (e13.mpr z.1))).symm, rfl⟩
theorem w_len3 : am_E sc (d + 5) 229 [.retAddr 3] h (some (.int 5)) h := E_run 20 rfl
theorem c_wP {s : Nat} (hK : CTK tx c s I) : am_E sc (d + 6) 61 [.ref 1, .retAddr 3] (HH I J R T) (some (.int (if wP tx s (tE tx c s) then 1 else 0))) (HH I J R T) := by
  refine E_Z (Ze_of (Nat.le_of_ble_eq_true rfl) ?_)
  have hc := hK.1.2.1
  have hE := tE_c (tx := tx) hK.2.1
  have e8 : I 1 4 - I 1 3 = nI (tE tx c s - s) := by rw [hK.2.2.1, hK.2.2.2.1]; exact nI_subI hE.1
  have e13 : nI (tE tx c s - s) = 5 ↔ tE tx c s = s + 5 := by rw [show (5 : Int32) = nI 5 from rfl, nI_eq (by omega) (by omega)]; omega
  have hl : ∀ j, tE tx c s = s + 5 → j < 5 → I 1 3 + nI j = nI (s + j) ∧ s + j < 160 ∧ ∀ t, t ≤ 255 → (I 2 (s + j) = nI t ↔ tx (s + j) = t) := fun j hj1 hj2 => by
    have hj : s + j < c := by omega
    have h255 := hK.1.2.2.2 _ hj
    refine ⟨by rw [hK.2.2.1]; exact nI_add s j, by omega, fun t ht => ?_⟩
    rw [hK.1.2.2.1 _ hj]
    exact nI_eq (by omega) (by omega)
  refine Z_jump 5 rfl ?_
  show Zs _ _ (am_P 61).2 (9, [(0, .ref 1), (1, .retAddr 3)], [.int ((I 1 4) - (I 1 3))]) (HH I J R T) _
  refine Z_eqI (e8) ?_
  show Zs _ _ (am_P 61).2 (9, [(0, .ref 1), (1, .retAddr 3)], [.int (nI (tE tx c s - s))]) (HH I J R T) _
  refine Z_jump 1 rfl ?_
  show Zs _ _ (am_P 61).2 (10, [(0, .ref 1), (1, .retAddr 3)], [.retAddr 3, .int (nI (tE tx c s - s))]) (HH I J R T) _
  refine Z_c1 rfl rfl rfl (w_len3) ?_
  show Zs _ _ (am_P 61).2 (13, [(0, .ref 1), (1, .retAddr 3)], [.int (5 : Int32), .int (nI (tE tx c s - s))]) (HH I J R T) _
  refine Z_jump 1 rfl ?_
  refine Z_bd (fun (c13 : (nI (tE tx c s - s)) = (5 : Int32)) => ?_) (fun (c13 : ¬ ((nI (tE tx c s - s)) = (5 : Int32))) => ?_)
  · refine Z_jump 4 rfl ?_
    show Zs _ _ (am_P 61).2 (22, [(0, .ref 1), (1, .retAddr 3), (2, .int (0 : Int32))], [.retAddr 3, .int (0 : Int32)]) (HH I J R T) _
    refine Z_c1 rfl rfl rfl (w_len3) ?_
    show Zs _ _ (am_P 61).2 (25, [(0, .ref 1), (1, .retAddr 3), (2, .int (0 : Int32))], [.int (5 : Int32), .int (0 : Int32)]) (HH I J R T) _
    refine Z_jump 6 rfl ?_
    show Zs _ _ (am_P 61).2 (35, [(0, .ref 1), (1, .retAddr 3), (2, .int (0 : Int32))], [.int ((I 1 3) + (0 : Int32)), .ref 1]) (HH I J R T) _
    refine Z_c1 rfl rfl rfl (c_letterAt (hl 0 (e13.mp c13) (by omega)).1 (hl 0 (e13.mp c13) (by omega)).2.1) ?_
    show Zs _ _ (am_P 61).2 (38, [(0, .ref 1), (1, .retAddr 3), (2, .int (0 : Int32))], [.int (I 2 (s + 0))]) (HH I J R T) _
    refine Z_jump 2 rfl ?_
    show Zs _ _ (am_P 61).2 (40, [(0, .ref 1), (1, .retAddr 3), (2, .int (0 : Int32))], [.int (0 : Int32), .retAddr 3, .int (I 2 (s + 0))]) (HH I J R T) _
    refine Z_c1 rfl rfl rfl ((E_run 60 rfl)) ?_
    show Zs _ _ (am_P 61).2 (43, [(0, .ref 1), (1, .retAddr 3), (2, .int (0 : Int32))], [.int (112 : Int32), .int (I 2 (s + 0))]) (HH I J R T) _
    refine Z_jump 1 rfl ?_
    refine Z_bd (fun (c43 : (I 2 (s + 0)) = (112 : Int32)) => ?_) (fun (c43 : ¬ ((I 2 (s + 0)) = (112 : Int32))) => ?_)
    · refine Z_jump 4 rfl ?_
      show Zs _ _ (am_P 61).2 (22, [(0, .ref 1), (1, .retAddr 3), (2, .int (1 : Int32))], [.retAddr 3, .int (1 : Int32)]) (HH I J R T) _
      refine Z_c1 rfl rfl rfl (w_len3) ?_
      show Zs _ _ (am_P 61).2 (25, [(0, .ref 1), (1, .retAddr 3), (2, .int (1 : Int32))], [.int (5 : Int32), .int (1 : Int32)]) (HH I J R T) _
      refine Z_jump 6 rfl ?_
      show Zs _ _ (am_P 61).2 (35, [(0, .ref 1), (1, .retAddr 3), (2, .int (1 : Int32))], [.int ((I 1 3) + (1 : Int32)), .ref 1]) (HH I J R T) _
      refine Z_c1 rfl rfl rfl (c_letterAt (hl 1 (e13.mp c13) (by omega)).1 (hl 1 (e13.mp c13) (by omega)).2.1) ?_
      show Zs _ _ (am_P 61).2 (38, [(0, .ref 1), (1, .retAddr 3), (2, .int (1 : Int32))], [.int (I 2 (s + 1))]) (HH I J R T) _
      refine Z_jump 2 rfl ?_
      show Zs _ _ (am_P 61).2 (40, [(0, .ref 1), (1, .retAddr 3), (2, .int (1 : Int32))], [.int (1 : Int32), .retAddr 3, .int (I 2 (s + 1))]) (HH I J R T) _
      refine Z_c1 rfl rfl rfl ((E_run 60 rfl)) ?_
      show Zs _ _ (am_P 61).2 (43, [(0, .ref 1), (1, .retAddr 3), (2, .int (1 : Int32))], [.int (108 : Int32), .int (I 2 (s + 1))]) (HH I J R T) _
      refine Z_jump 1 rfl ?_
      refine Z_bd (fun (c43b : (I 2 (s + 1)) = (108 : Int32)) => ?_) (fun (c43b : ¬ ((I 2 (s + 1)) = (108 : Int32))) => ?_)
      · refine Z_jump 4 rfl ?_
        show Zs _ _ (am_P 61).2 (22, [(0, .ref 1), (1, .retAddr 3), (2, .int (2 : Int32))], [.retAddr 3, .int (2 : Int32)]) (HH I J R T) _
        refine Z_c1 rfl rfl rfl (w_len3) ?_
        show Zs _ _ (am_P 61).2 (25, [(0, .ref 1), (1, .retAddr 3), (2, .int (2 : Int32))], [.int (5 : Int32), .int (2 : Int32)]) (HH I J R T) _
        refine Z_jump 6 rfl ?_
        show Zs _ _ (am_P 61).2 (35, [(0, .ref 1), (1, .retAddr 3), (2, .int (2 : Int32))], [.int ((I 1 3) + (2 : Int32)), .ref 1]) (HH I J R T) _
        refine Z_c1 rfl rfl rfl (c_letterAt (hl 2 (e13.mp c13) (by omega)).1 (hl 2 (e13.mp c13) (by omega)).2.1) ?_
        show Zs _ _ (am_P 61).2 (38, [(0, .ref 1), (1, .retAddr 3), (2, .int (2 : Int32))], [.int (I 2 (s + 2))]) (HH I J R T) _
        refine Z_jump 2 rfl ?_
        show Zs _ _ (am_P 61).2 (40, [(0, .ref 1), (1, .retAddr 3), (2, .int (2 : Int32))], [.int (2 : Int32), .retAddr 3, .int (I 2 (s + 2))]) (HH I J R T) _
        refine Z_c1 rfl rfl rfl ((E_run 60 rfl)) ?_
        show Zs _ _ (am_P 61).2 (43, [(0, .ref 1), (1, .retAddr 3), (2, .int (2 : Int32))], [.int (97 : Int32), .int (I 2 (s + 2))]) (HH I J R T) _
        refine Z_jump 1 rfl ?_
        refine Z_bd (fun (c43c : (I 2 (s + 2)) = (97 : Int32)) => ?_) (fun (c43c : ¬ ((I 2 (s + 2)) = (97 : Int32))) => ?_)
        · refine Z_jump 4 rfl ?_
          show Zs _ _ (am_P 61).2 (22, [(0, .ref 1), (1, .retAddr 3), (2, .int (3 : Int32))], [.retAddr 3, .int (3 : Int32)]) (HH I J R T) _
          refine Z_c1 rfl rfl rfl (w_len3) ?_
          show Zs _ _ (am_P 61).2 (25, [(0, .ref 1), (1, .retAddr 3), (2, .int (3 : Int32))], [.int (5 : Int32), .int (3 : Int32)]) (HH I J R T) _
          refine Z_jump 6 rfl ?_
          show Zs _ _ (am_P 61).2 (35, [(0, .ref 1), (1, .retAddr 3), (2, .int (3 : Int32))], [.int ((I 1 3) + (3 : Int32)), .ref 1]) (HH I J R T) _
          refine Z_c1 rfl rfl rfl (c_letterAt (hl 3 (e13.mp c13) (by omega)).1 (hl 3 (e13.mp c13) (by omega)).2.1) ?_
          show Zs _ _ (am_P 61).2 (38, [(0, .ref 1), (1, .retAddr 3), (2, .int (3 : Int32))], [.int (I 2 (s + 3))]) (HH I J R T) _
          refine Z_jump 2 rfl ?_
          show Zs _ _ (am_P 61).2 (40, [(0, .ref 1), (1, .retAddr 3), (2, .int (3 : Int32))], [.int (3 : Int32), .retAddr 3, .int (I 2 (s + 3))]) (HH I J R T) _
          refine Z_c1 rfl rfl rfl ((E_run 60 rfl)) ?_
          show Zs _ _ (am_P 61).2 (43, [(0, .ref 1), (1, .retAddr 3), (2, .int (3 : Int32))], [.int (105 : Int32), .int (I 2 (s + 3))]) (HH I J R T) _
          refine Z_jump 1 rfl ?_
          refine Z_bd (fun (c43d : (I 2 (s + 3)) = (105 : Int32)) => ?_) (fun (c43d : ¬ ((I 2 (s + 3)) = (105 : Int32))) => ?_)
          · refine Z_jump 4 rfl ?_
            show Zs _ _ (am_P 61).2 (22, [(0, .ref 1), (1, .retAddr 3), (2, .int (4 : Int32))], [.retAddr 3, .int (4 : Int32)]) (HH I J R T) _
            refine Z_c1 rfl rfl rfl (w_len3) ?_
            show Zs _ _ (am_P 61).2 (25, [(0, .ref 1), (1, .retAddr 3), (2, .int (4 : Int32))], [.int (5 : Int32), .int (4 : Int32)]) (HH I J R T) _
            refine Z_jump 6 rfl ?_
            show Zs _ _ (am_P 61).2 (35, [(0, .ref 1), (1, .retAddr 3), (2, .int (4 : Int32))], [.int ((I 1 3) + (4 : Int32)), .ref 1]) (HH I J R T) _
            refine Z_c1 rfl rfl rfl (c_letterAt (hl 4 (e13.mp c13) (by omega)).1 (hl 4 (e13.mp c13) (by omega)).2.1) ?_
            show Zs _ _ (am_P 61).2 (38, [(0, .ref 1), (1, .retAddr 3), (2, .int (4 : Int32))], [.int (I 2 (s + 4))]) (HH I J R T) _
            refine Z_jump 2 rfl ?_
            show Zs _ _ (am_P 61).2 (40, [(0, .ref 1), (1, .retAddr 3), (2, .int (4 : Int32))], [.int (4 : Int32), .retAddr 3, .int (I 2 (s + 4))]) (HH I J R T) _
            refine Z_c1 rfl rfl rfl ((E_run 60 rfl)) ?_
            show Zs _ _ (am_P 61).2 (43, [(0, .ref 1), (1, .retAddr 3), (2, .int (4 : Int32))], [.int (110 : Int32), .int (I 2 (s + 4))]) (HH I J R T) _
            refine Z_jump 1 rfl ?_
            refine Z_bd (fun (c43e : (I 2 (s + 4)) = (110 : Int32)) => ?_) (fun (c43e : ¬ ((I 2 (s + 4)) = (110 : Int32))) => ?_)
            · refine Z_jump 4 rfl ?_
              show Zs _ _ (am_P 61).2 (22, [(0, .ref 1), (1, .retAddr 3), (2, .int (5 : Int32))], [.retAddr 3, .int (5 : Int32)]) (HH I J R T) _
              refine Z_c1 rfl rfl rfl (w_len3) ?_
              show Zs _ _ (am_P 61).2 (25, [(0, .ref 1), (1, .retAddr 3), (2, .int (5 : Int32))], [.int (5 : Int32), .int (5 : Int32)]) (HH I J R T) _
              refine Z_jump 2 rfl ?_
              show Zs _ _ (am_P 61).2 (55, [(0, .ref 1), (1, .retAddr 3), (2, .int (5 : Int32))], [.int (1 : Int32)]) (HH I J R T) _
              refine Z_rI rfl (by first | exact am_nw0 _ | exact am_nw01 | rfl | assumption) ?_
              exact ⟨am_ii (if_pos ⟨e13.mp c13, ((hl 0 (e13.mp c13) (by omega)).2.2 112 (by omega)).mp c43, ((hl 1 (e13.mp c13) (by omega)).2.2 108 (by omega)).mp c43b, ((hl 2 (e13.mp c13) (by omega)).2.2 97 (by omega)).mp c43c, ((hl 3 (e13.mp c13) (by omega)).2.2 105 (by omega)).mp c43d, ((hl 4 (e13.mp c13) (by omega)).2.2 110 (by omega)).mp c43e⟩).symm, rfl⟩
            · refine Z_jump 1 rfl ?_
              show Zs _ _ (am_P 61).2 (47, [(0, .ref 1), (1, .retAddr 3), (2, .int (4 : Int32))], [.int (0 : Int32)]) (HH I J R T) _
              refine Z_rI rfl (by first | exact am_nw0 _ | exact am_nw01 | rfl | assumption) ?_
              exact ⟨am_ii (if_neg (fun z => c43e (((hl 4 (e13.mp c13) (by omega)).2.2 110 (by omega)).mpr z.2.2.2.2.2))).symm, rfl⟩
          · refine Z_jump 1 rfl ?_
            show Zs _ _ (am_P 61).2 (47, [(0, .ref 1), (1, .retAddr 3), (2, .int (3 : Int32))], [.int (0 : Int32)]) (HH I J R T) _
            refine Z_rI rfl (by first | exact am_nw0 _ | exact am_nw01 | rfl | assumption) ?_
            exact ⟨am_ii (if_neg (fun z => c43d (((hl 3 (e13.mp c13) (by omega)).2.2 105 (by omega)).mpr z.2.2.2.2.1))).symm, rfl⟩
        · refine Z_jump 1 rfl ?_
          show Zs _ _ (am_P 61).2 (47, [(0, .ref 1), (1, .retAddr 3), (2, .int (2 : Int32))], [.int (0 : Int32)]) (HH I J R T) _
          refine Z_rI rfl (by first | exact am_nw0 _ | exact am_nw01 | rfl | assumption) ?_
          exact ⟨am_ii (if_neg (fun z => c43c (((hl 2 (e13.mp c13) (by omega)).2.2 97 (by omega)).mpr z.2.2.2.1))).symm, rfl⟩
      · refine Z_jump 1 rfl ?_
        show Zs _ _ (am_P 61).2 (47, [(0, .ref 1), (1, .retAddr 3), (2, .int (1 : Int32))], [.int (0 : Int32)]) (HH I J R T) _
        refine Z_rI rfl (by first | exact am_nw0 _ | exact am_nw01 | rfl | assumption) ?_
        exact ⟨am_ii (if_neg (fun z => c43b (((hl 1 (e13.mp c13) (by omega)).2.2 108 (by omega)).mpr z.2.2.1))).symm, rfl⟩
    · refine Z_jump 1 rfl ?_
      show Zs _ _ (am_P 61).2 (47, [(0, .ref 1), (1, .retAddr 3), (2, .int (0 : Int32))], [.int (0 : Int32)]) (HH I J R T) _
      refine Z_rI rfl (by first | exact am_nw0 _ | exact am_nw01 | rfl | assumption) ?_
      exact ⟨am_ii (if_neg (fun z => c43 (((hl 0 (e13.mp c13) (by omega)).2.2 112 (by omega)).mpr z.2.1))).symm, rfl⟩
  · refine Z_jump 1 rfl ?_
    show Zs _ _ (am_P 61).2 (17, [(0, .ref 1), (1, .retAddr 3)], [.int (0 : Int32)]) (HH I J R T) _
    refine Z_rI rfl (by first | exact am_nw0 _ | exact am_nw01 | rfl | assumption) ?_
    exact ⟨am_ii (if_neg (fun z => c13 (e13.mpr z.1))).symm, rfl⟩
theorem w_len4 : am_E sc (d + 5) 229 [.retAddr 4] h (some (.int 4)) h := E_run 20 rfl
theorem c_wV {s : Nat} (hK : CTK tx c s I) : am_E sc (d + 6) 61 [.ref 1, .retAddr 4] (HH I J R T) (some (.int (if wV tx s (tE tx c s) then 1 else 0))) (HH I J R T) := by
  refine E_Z (Ze_of (Nat.le_of_ble_eq_true rfl) ?_)
  have hc := hK.1.2.1
  have hE := tE_c (tx := tx) hK.2.1
  have e8 : I 1 4 - I 1 3 = nI (tE tx c s - s) := by rw [hK.2.2.1, hK.2.2.2.1]; exact nI_subI hE.1
  have e13 : nI (tE tx c s - s) = 4 ↔ tE tx c s = s + 4 := by rw [show (4 : Int32) = nI 4 from rfl, nI_eq (by omega) (by omega)]; omega
  have hl : ∀ j, tE tx c s = s + 4 → j < 4 → I 1 3 + nI j = nI (s + j) ∧ s + j < 160 ∧ ∀ t, t ≤ 255 → (I 2 (s + j) = nI t ↔ tx (s + j) = t) := fun j hj1 hj2 => by
    have hj : s + j < c := by omega
    have h255 := hK.1.2.2.2 _ hj
    refine ⟨by rw [hK.2.2.1]; exact nI_add s j, by omega, fun t ht => ?_⟩
    rw [hK.1.2.2.1 _ hj]
    exact nI_eq (by omega) (by omega)
  refine Z_jump 5 rfl ?_
  show Zs _ _ (am_P 61).2 (9, [(0, .ref 1), (1, .retAddr 4)], [.int ((I 1 4) - (I 1 3))]) (HH I J R T) _
  refine Z_eqI (e8) ?_
  show Zs _ _ (am_P 61).2 (9, [(0, .ref 1), (1, .retAddr 4)], [.int (nI (tE tx c s - s))]) (HH I J R T) _
  refine Z_jump 1 rfl ?_
  show Zs _ _ (am_P 61).2 (10, [(0, .ref 1), (1, .retAddr 4)], [.retAddr 4, .int (nI (tE tx c s - s))]) (HH I J R T) _
  refine Z_c1 rfl rfl rfl (w_len4) ?_
  show Zs _ _ (am_P 61).2 (13, [(0, .ref 1), (1, .retAddr 4)], [.int (4 : Int32), .int (nI (tE tx c s - s))]) (HH I J R T) _
  refine Z_jump 1 rfl ?_
  refine Z_bd (fun (c13 : (nI (tE tx c s - s)) = (4 : Int32)) => ?_) (fun (c13 : ¬ ((nI (tE tx c s - s)) = (4 : Int32))) => ?_)
  · refine Z_jump 4 rfl ?_
    show Zs _ _ (am_P 61).2 (22, [(0, .ref 1), (1, .retAddr 4), (2, .int (0 : Int32))], [.retAddr 4, .int (0 : Int32)]) (HH I J R T) _
    refine Z_c1 rfl rfl rfl (w_len4) ?_
    show Zs _ _ (am_P 61).2 (25, [(0, .ref 1), (1, .retAddr 4), (2, .int (0 : Int32))], [.int (4 : Int32), .int (0 : Int32)]) (HH I J R T) _
    refine Z_jump 6 rfl ?_
    show Zs _ _ (am_P 61).2 (35, [(0, .ref 1), (1, .retAddr 4), (2, .int (0 : Int32))], [.int ((I 1 3) + (0 : Int32)), .ref 1]) (HH I J R T) _
    refine Z_c1 rfl rfl rfl (c_letterAt (hl 0 (e13.mp c13) (by omega)).1 (hl 0 (e13.mp c13) (by omega)).2.1) ?_
    show Zs _ _ (am_P 61).2 (38, [(0, .ref 1), (1, .retAddr 4), (2, .int (0 : Int32))], [.int (I 2 (s + 0))]) (HH I J R T) _
    refine Z_jump 2 rfl ?_
    show Zs _ _ (am_P 61).2 (40, [(0, .ref 1), (1, .retAddr 4), (2, .int (0 : Int32))], [.int (0 : Int32), .retAddr 4, .int (I 2 (s + 0))]) (HH I J R T) _
    refine Z_c1 rfl rfl rfl ((E_run 60 rfl)) ?_
    show Zs _ _ (am_P 61).2 (43, [(0, .ref 1), (1, .retAddr 4), (2, .int (0 : Int32))], [.int (102 : Int32), .int (I 2 (s + 0))]) (HH I J R T) _
    refine Z_jump 1 rfl ?_
    refine Z_bd (fun (c43 : (I 2 (s + 0)) = (102 : Int32)) => ?_) (fun (c43 : ¬ ((I 2 (s + 0)) = (102 : Int32))) => ?_)
    · refine Z_jump 4 rfl ?_
      show Zs _ _ (am_P 61).2 (22, [(0, .ref 1), (1, .retAddr 4), (2, .int (1 : Int32))], [.retAddr 4, .int (1 : Int32)]) (HH I J R T) _
      refine Z_c1 rfl rfl rfl (w_len4) ?_
      show Zs _ _ (am_P 61).2 (25, [(0, .ref 1), (1, .retAddr 4), (2, .int (1 : Int32))], [.int (4 : Int32), .int (1 : Int32)]) (HH I J R T) _
      refine Z_jump 6 rfl ?_
      show Zs _ _ (am_P 61).2 (35, [(0, .ref 1), (1, .retAddr 4), (2, .int (1 : Int32))], [.int ((I 1 3) + (1 : Int32)), .ref 1]) (HH I J R T) _
      refine Z_c1 rfl rfl rfl (c_letterAt (hl 1 (e13.mp c13) (by omega)).1 (hl 1 (e13.mp c13) (by omega)).2.1) ?_
      show Zs _ _ (am_P 61).2 (38, [(0, .ref 1), (1, .retAddr 4), (2, .int (1 : Int32))], [.int (I 2 (s + 1))]) (HH I J R T) _
      refine Z_jump 2 rfl ?_
      show Zs _ _ (am_P 61).2 (40, [(0, .ref 1), (1, .retAddr 4), (2, .int (1 : Int32))], [.int (1 : Int32), .retAddr 4, .int (I 2 (s + 1))]) (HH I J R T) _
      refine Z_c1 rfl rfl rfl ((E_run 60 rfl)) ?_
      show Zs _ _ (am_P 61).2 (43, [(0, .ref 1), (1, .retAddr 4), (2, .int (1 : Int32))], [.int (105 : Int32), .int (I 2 (s + 1))]) (HH I J R T) _
      refine Z_jump 1 rfl ?_
      refine Z_bd (fun (c43b : (I 2 (s + 1)) = (105 : Int32)) => ?_) (fun (c43b : ¬ ((I 2 (s + 1)) = (105 : Int32))) => ?_)
      · refine Z_jump 4 rfl ?_
        show Zs _ _ (am_P 61).2 (22, [(0, .ref 1), (1, .retAddr 4), (2, .int (2 : Int32))], [.retAddr 4, .int (2 : Int32)]) (HH I J R T) _
        refine Z_c1 rfl rfl rfl (w_len4) ?_
        show Zs _ _ (am_P 61).2 (25, [(0, .ref 1), (1, .retAddr 4), (2, .int (2 : Int32))], [.int (4 : Int32), .int (2 : Int32)]) (HH I J R T) _
        refine Z_jump 6 rfl ?_
        show Zs _ _ (am_P 61).2 (35, [(0, .ref 1), (1, .retAddr 4), (2, .int (2 : Int32))], [.int ((I 1 3) + (2 : Int32)), .ref 1]) (HH I J R T) _
        refine Z_c1 rfl rfl rfl (c_letterAt (hl 2 (e13.mp c13) (by omega)).1 (hl 2 (e13.mp c13) (by omega)).2.1) ?_
        show Zs _ _ (am_P 61).2 (38, [(0, .ref 1), (1, .retAddr 4), (2, .int (2 : Int32))], [.int (I 2 (s + 2))]) (HH I J R T) _
        refine Z_jump 2 rfl ?_
        show Zs _ _ (am_P 61).2 (40, [(0, .ref 1), (1, .retAddr 4), (2, .int (2 : Int32))], [.int (2 : Int32), .retAddr 4, .int (I 2 (s + 2))]) (HH I J R T) _
        refine Z_c1 rfl rfl rfl ((E_run 60 rfl)) ?_
        show Zs _ _ (am_P 61).2 (43, [(0, .ref 1), (1, .retAddr 4), (2, .int (2 : Int32))], [.int (118 : Int32), .int (I 2 (s + 2))]) (HH I J R T) _
        refine Z_jump 1 rfl ?_
        refine Z_bd (fun (c43c : (I 2 (s + 2)) = (118 : Int32)) => ?_) (fun (c43c : ¬ ((I 2 (s + 2)) = (118 : Int32))) => ?_)
        · refine Z_jump 4 rfl ?_
          show Zs _ _ (am_P 61).2 (22, [(0, .ref 1), (1, .retAddr 4), (2, .int (3 : Int32))], [.retAddr 4, .int (3 : Int32)]) (HH I J R T) _
          refine Z_c1 rfl rfl rfl (w_len4) ?_
          show Zs _ _ (am_P 61).2 (25, [(0, .ref 1), (1, .retAddr 4), (2, .int (3 : Int32))], [.int (4 : Int32), .int (3 : Int32)]) (HH I J R T) _
          refine Z_jump 6 rfl ?_
          show Zs _ _ (am_P 61).2 (35, [(0, .ref 1), (1, .retAddr 4), (2, .int (3 : Int32))], [.int ((I 1 3) + (3 : Int32)), .ref 1]) (HH I J R T) _
          refine Z_c1 rfl rfl rfl (c_letterAt (hl 3 (e13.mp c13) (by omega)).1 (hl 3 (e13.mp c13) (by omega)).2.1) ?_
          show Zs _ _ (am_P 61).2 (38, [(0, .ref 1), (1, .retAddr 4), (2, .int (3 : Int32))], [.int (I 2 (s + 3))]) (HH I J R T) _
          refine Z_jump 2 rfl ?_
          show Zs _ _ (am_P 61).2 (40, [(0, .ref 1), (1, .retAddr 4), (2, .int (3 : Int32))], [.int (3 : Int32), .retAddr 4, .int (I 2 (s + 3))]) (HH I J R T) _
          refine Z_c1 rfl rfl rfl ((E_run 60 rfl)) ?_
          show Zs _ _ (am_P 61).2 (43, [(0, .ref 1), (1, .retAddr 4), (2, .int (3 : Int32))], [.int (101 : Int32), .int (I 2 (s + 3))]) (HH I J R T) _
          refine Z_jump 1 rfl ?_
          refine Z_bd (fun (c43d : (I 2 (s + 3)) = (101 : Int32)) => ?_) (fun (c43d : ¬ ((I 2 (s + 3)) = (101 : Int32))) => ?_)
          · refine Z_jump 4 rfl ?_
            show Zs _ _ (am_P 61).2 (22, [(0, .ref 1), (1, .retAddr 4), (2, .int (4 : Int32))], [.retAddr 4, .int (4 : Int32)]) (HH I J R T) _
            refine Z_c1 rfl rfl rfl (w_len4) ?_
            show Zs _ _ (am_P 61).2 (25, [(0, .ref 1), (1, .retAddr 4), (2, .int (4 : Int32))], [.int (4 : Int32), .int (4 : Int32)]) (HH I J R T) _
            refine Z_jump 2 rfl ?_
            show Zs _ _ (am_P 61).2 (55, [(0, .ref 1), (1, .retAddr 4), (2, .int (4 : Int32))], [.int (1 : Int32)]) (HH I J R T) _
            refine Z_rI rfl (by first | exact am_nw0 _ | exact am_nw01 | rfl | assumption) ?_
            exact ⟨am_ii (if_pos ⟨e13.mp c13, ((hl 0 (e13.mp c13) (by omega)).2.2 102 (by omega)).mp c43, ((hl 1 (e13.mp c13) (by omega)).2.2 105 (by omega)).mp c43b, ((hl 2 (e13.mp c13) (by omega)).2.2 118 (by omega)).mp c43c, ((hl 3 (e13.mp c13) (by omega)).2.2 101 (by omega)).mp c43d⟩).symm, rfl⟩
          · refine Z_jump 1 rfl ?_
            show Zs _ _ (am_P 61).2 (47, [(0, .ref 1), (1, .retAddr 4), (2, .int (3 : Int32))], [.int (0 : Int32)]) (HH I J R T) _
            refine Z_rI rfl (by first | exact am_nw0 _ | exact am_nw01 | rfl | assumption) ?_
            exact ⟨am_ii (if_neg (fun z => c43d (((hl 3 (e13.mp c13) (by omega)).2.2 101 (by omega)).mpr z.2.2.2.2))).symm, rfl⟩
        · refine Z_jump 1 rfl ?_
          show Zs _ _ (am_P 61).2 (47, [(0, .ref 1), (1, .retAddr 4), (2, .int (2 : Int32))], [.int (0 : Int32)]) (HH I J R T) _
          refine Z_rI rfl (by first | exact am_nw0 _ | exact am_nw01 | rfl | assumption) ?_
          exact ⟨am_ii (if_neg (fun z => c43c (((hl 2 (e13.mp c13) (by omega)).2.2 118 (by omega)).mpr z.2.2.2.1))).symm, rfl⟩
      · refine Z_jump 1 rfl ?_
        show Zs _ _ (am_P 61).2 (47, [(0, .ref 1), (1, .retAddr 4), (2, .int (1 : Int32))], [.int (0 : Int32)]) (HH I J R T) _
        refine Z_rI rfl (by first | exact am_nw0 _ | exact am_nw01 | rfl | assumption) ?_
        exact ⟨am_ii (if_neg (fun z => c43b (((hl 1 (e13.mp c13) (by omega)).2.2 105 (by omega)).mpr z.2.2.1))).symm, rfl⟩
    · refine Z_jump 1 rfl ?_
      show Zs _ _ (am_P 61).2 (47, [(0, .ref 1), (1, .retAddr 4), (2, .int (0 : Int32))], [.int (0 : Int32)]) (HH I J R T) _
      refine Z_rI rfl (by first | exact am_nw0 _ | exact am_nw01 | rfl | assumption) ?_
      exact ⟨am_ii (if_neg (fun z => c43 (((hl 0 (e13.mp c13) (by omega)).2.2 102 (by omega)).mpr z.2.1))).symm, rfl⟩
  · refine Z_jump 1 rfl ?_
    show Zs _ _ (am_P 61).2 (17, [(0, .ref 1), (1, .retAddr 4)], [.int (0 : Int32)]) (HH I J R T) _
    refine Z_rI rfl (by first | exact am_nw0 _ | exact am_nw01 | rfl | assumption) ?_
    exact ⟨am_ii (if_neg (fun z => c13 (e13.mpr z.1))).symm, rfl⟩
theorem w_len5 : am_E sc (d + 5) 229 [.retAddr 5] h (some (.int 4)) h := E_run 20 rfl
theorem c_wW {s : Nat} (hK : CTK tx c s I) : am_E sc (d + 6) 61 [.ref 1, .retAddr 5] (HH I J R T) (some (.int (if wW tx s (tE tx c s) then 1 else 0))) (HH I J R T) := by
  refine E_Z (Ze_of (Nat.le_of_ble_eq_true rfl) ?_)
  have hc := hK.1.2.1
  have hE := tE_c (tx := tx) hK.2.1
  have e8 : I 1 4 - I 1 3 = nI (tE tx c s - s) := by rw [hK.2.2.1, hK.2.2.2.1]; exact nI_subI hE.1
  have e13 : nI (tE tx c s - s) = 4 ↔ tE tx c s = s + 4 := by rw [show (4 : Int32) = nI 4 from rfl, nI_eq (by omega) (by omega)]; omega
  have hl : ∀ j, tE tx c s = s + 4 → j < 4 → I 1 3 + nI j = nI (s + j) ∧ s + j < 160 ∧ ∀ t, t ≤ 255 → (I 2 (s + j) = nI t ↔ tx (s + j) = t) := fun j hj1 hj2 => by
    have hj : s + j < c := by omega
    have h255 := hK.1.2.2.2 _ hj
    refine ⟨by rw [hK.2.2.1]; exact nI_add s j, by omega, fun t ht => ?_⟩
    rw [hK.1.2.2.1 _ hj]
    exact nI_eq (by omega) (by omega)
  refine Z_jump 5 rfl ?_
  show Zs _ _ (am_P 61).2 (9, [(0, .ref 1), (1, .retAddr 5)], [.int ((I 1 4) - (I 1 3))]) (HH I J R T) _
  refine Z_eqI (e8) ?_
  show Zs _ _ (am_P 61).2 (9, [(0, .ref 1), (1, .retAddr 5)], [.int (nI (tE tx c s - s))]) (HH I J R T) _
  refine Z_jump 1 rfl ?_
  show Zs _ _ (am_P 61).2 (10, [(0, .ref 1), (1, .retAddr 5)], [.retAddr 5, .int (nI (tE tx c s - s))]) (HH I J R T) _
  refine Z_c1 rfl rfl rfl (w_len5) ?_
  show Zs _ _ (am_P 61).2 (13, [(0, .ref 1), (1, .retAddr 5)], [.int (4 : Int32), .int (nI (tE tx c s - s))]) (HH I J R T) _
  refine Z_jump 1 rfl ?_
  refine Z_bd (fun (c13 : (nI (tE tx c s - s)) = (4 : Int32)) => ?_) (fun (c13 : ¬ ((nI (tE tx c s - s)) = (4 : Int32))) => ?_)
  · refine Z_jump 4 rfl ?_
    show Zs _ _ (am_P 61).2 (22, [(0, .ref 1), (1, .retAddr 5), (2, .int (0 : Int32))], [.retAddr 5, .int (0 : Int32)]) (HH I J R T) _
    refine Z_c1 rfl rfl rfl (w_len5) ?_
    show Zs _ _ (am_P 61).2 (25, [(0, .ref 1), (1, .retAddr 5), (2, .int (0 : Int32))], [.int (4 : Int32), .int (0 : Int32)]) (HH I J R T) _
    refine Z_jump 6 rfl ?_
    show Zs _ _ (am_P 61).2 (35, [(0, .ref 1), (1, .retAddr 5), (2, .int (0 : Int32))], [.int ((I 1 3) + (0 : Int32)), .ref 1]) (HH I J R T) _
    refine Z_c1 rfl rfl rfl (c_letterAt (hl 0 (e13.mp c13) (by omega)).1 (hl 0 (e13.mp c13) (by omega)).2.1) ?_
    show Zs _ _ (am_P 61).2 (38, [(0, .ref 1), (1, .retAddr 5), (2, .int (0 : Int32))], [.int (I 2 (s + 0))]) (HH I J R T) _
    refine Z_jump 2 rfl ?_
    show Zs _ _ (am_P 61).2 (40, [(0, .ref 1), (1, .retAddr 5), (2, .int (0 : Int32))], [.int (0 : Int32), .retAddr 5, .int (I 2 (s + 0))]) (HH I J R T) _
    refine Z_c1 rfl rfl rfl ((E_run 60 rfl)) ?_
    show Zs _ _ (am_P 61).2 (43, [(0, .ref 1), (1, .retAddr 5), (2, .int (0 : Int32))], [.int (115 : Int32), .int (I 2 (s + 0))]) (HH I J R T) _
    refine Z_jump 1 rfl ?_
    refine Z_bd (fun (c43 : (I 2 (s + 0)) = (115 : Int32)) => ?_) (fun (c43 : ¬ ((I 2 (s + 0)) = (115 : Int32))) => ?_)
    · refine Z_jump 4 rfl ?_
      show Zs _ _ (am_P 61).2 (22, [(0, .ref 1), (1, .retAddr 5), (2, .int (1 : Int32))], [.retAddr 5, .int (1 : Int32)]) (HH I J R T) _
      refine Z_c1 rfl rfl rfl (w_len5) ?_
      show Zs _ _ (am_P 61).2 (25, [(0, .ref 1), (1, .retAddr 5), (2, .int (1 : Int32))], [.int (4 : Int32), .int (1 : Int32)]) (HH I J R T) _
      refine Z_jump 6 rfl ?_
      show Zs _ _ (am_P 61).2 (35, [(0, .ref 1), (1, .retAddr 5), (2, .int (1 : Int32))], [.int ((I 1 3) + (1 : Int32)), .ref 1]) (HH I J R T) _
      refine Z_c1 rfl rfl rfl (c_letterAt (hl 1 (e13.mp c13) (by omega)).1 (hl 1 (e13.mp c13) (by omega)).2.1) ?_
      show Zs _ _ (am_P 61).2 (38, [(0, .ref 1), (1, .retAddr 5), (2, .int (1 : Int32))], [.int (I 2 (s + 1))]) (HH I J R T) _
      refine Z_jump 2 rfl ?_
      show Zs _ _ (am_P 61).2 (40, [(0, .ref 1), (1, .retAddr 5), (2, .int (1 : Int32))], [.int (1 : Int32), .retAddr 5, .int (I 2 (s + 1))]) (HH I J R T) _
      refine Z_c1 rfl rfl rfl ((E_run 60 rfl)) ?_
      show Zs _ _ (am_P 61).2 (43, [(0, .ref 1), (1, .retAddr 5), (2, .int (1 : Int32))], [.int (108 : Int32), .int (I 2 (s + 1))]) (HH I J R T) _
      refine Z_jump 1 rfl ?_
      refine Z_bd (fun (c43b : (I 2 (s + 1)) = (108 : Int32)) => ?_) (fun (c43b : ¬ ((I 2 (s + 1)) = (108 : Int32))) => ?_)
      · refine Z_jump 4 rfl ?_
        show Zs _ _ (am_P 61).2 (22, [(0, .ref 1), (1, .retAddr 5), (2, .int (2 : Int32))], [.retAddr 5, .int (2 : Int32)]) (HH I J R T) _
        refine Z_c1 rfl rfl rfl (w_len5) ?_
        show Zs _ _ (am_P 61).2 (25, [(0, .ref 1), (1, .retAddr 5), (2, .int (2 : Int32))], [.int (4 : Int32), .int (2 : Int32)]) (HH I J R T) _
        refine Z_jump 6 rfl ?_
        show Zs _ _ (am_P 61).2 (35, [(0, .ref 1), (1, .retAddr 5), (2, .int (2 : Int32))], [.int ((I 1 3) + (2 : Int32)), .ref 1]) (HH I J R T) _
        refine Z_c1 rfl rfl rfl (c_letterAt (hl 2 (e13.mp c13) (by omega)).1 (hl 2 (e13.mp c13) (by omega)).2.1) ?_
        show Zs _ _ (am_P 61).2 (38, [(0, .ref 1), (1, .retAddr 5), (2, .int (2 : Int32))], [.int (I 2 (s + 2))]) (HH I J R T) _
        refine Z_jump 2 rfl ?_
        show Zs _ _ (am_P 61).2 (40, [(0, .ref 1), (1, .retAddr 5), (2, .int (2 : Int32))], [.int (2 : Int32), .retAddr 5, .int (I 2 (s + 2))]) (HH I J R T) _
        refine Z_c1 rfl rfl rfl ((E_run 60 rfl)) ?_
        show Zs _ _ (am_P 61).2 (43, [(0, .ref 1), (1, .retAddr 5), (2, .int (2 : Int32))], [.int (111 : Int32), .int (I 2 (s + 2))]) (HH I J R T) _
        refine Z_jump 1 rfl ?_
        refine Z_bd (fun (c43c : (I 2 (s + 2)) = (111 : Int32)) => ?_) (fun (c43c : ¬ ((I 2 (s + 2)) = (111 : Int32))) => ?_)
        · refine Z_jump 4 rfl ?_
          show Zs _ _ (am_P 61).2 (22, [(0, .ref 1), (1, .retAddr 5), (2, .int (3 : Int32))], [.retAddr 5, .int (3 : Int32)]) (HH I J R T) _
          refine Z_c1 rfl rfl rfl (w_len5) ?_
          show Zs _ _ (am_P 61).2 (25, [(0, .ref 1), (1, .retAddr 5), (2, .int (3 : Int32))], [.int (4 : Int32), .int (3 : Int32)]) (HH I J R T) _
          refine Z_jump 6 rfl ?_
          show Zs _ _ (am_P 61).2 (35, [(0, .ref 1), (1, .retAddr 5), (2, .int (3 : Int32))], [.int ((I 1 3) + (3 : Int32)), .ref 1]) (HH I J R T) _
          refine Z_c1 rfl rfl rfl (c_letterAt (hl 3 (e13.mp c13) (by omega)).1 (hl 3 (e13.mp c13) (by omega)).2.1) ?_
          show Zs _ _ (am_P 61).2 (38, [(0, .ref 1), (1, .retAddr 5), (2, .int (3 : Int32))], [.int (I 2 (s + 3))]) (HH I J R T) _
          refine Z_jump 2 rfl ?_
          show Zs _ _ (am_P 61).2 (40, [(0, .ref 1), (1, .retAddr 5), (2, .int (3 : Int32))], [.int (3 : Int32), .retAddr 5, .int (I 2 (s + 3))]) (HH I J R T) _
          refine Z_c1 rfl rfl rfl ((E_run 60 rfl)) ?_
          show Zs _ _ (am_P 61).2 (43, [(0, .ref 1), (1, .retAddr 5), (2, .int (3 : Int32))], [.int (119 : Int32), .int (I 2 (s + 3))]) (HH I J R T) _
          refine Z_jump 1 rfl ?_
          refine Z_bd (fun (c43d : (I 2 (s + 3)) = (119 : Int32)) => ?_) (fun (c43d : ¬ ((I 2 (s + 3)) = (119 : Int32))) => ?_)
          · refine Z_jump 4 rfl ?_
            show Zs _ _ (am_P 61).2 (22, [(0, .ref 1), (1, .retAddr 5), (2, .int (4 : Int32))], [.retAddr 5, .int (4 : Int32)]) (HH I J R T) _
            refine Z_c1 rfl rfl rfl (w_len5) ?_
            show Zs _ _ (am_P 61).2 (25, [(0, .ref 1), (1, .retAddr 5), (2, .int (4 : Int32))], [.int (4 : Int32), .int (4 : Int32)]) (HH I J R T) _
            refine Z_jump 2 rfl ?_
            show Zs _ _ (am_P 61).2 (55, [(0, .ref 1), (1, .retAddr 5), (2, .int (4 : Int32))], [.int (1 : Int32)]) (HH I J R T) _
            refine Z_rI rfl (by first | exact am_nw0 _ | exact am_nw01 | rfl | assumption) ?_
            exact ⟨am_ii (if_pos ⟨e13.mp c13, ((hl 0 (e13.mp c13) (by omega)).2.2 115 (by omega)).mp c43, ((hl 1 (e13.mp c13) (by omega)).2.2 108 (by omega)).mp c43b, ((hl 2 (e13.mp c13) (by omega)).2.2 111 (by omega)).mp c43c, ((hl 3 (e13.mp c13) (by omega)).2.2 119 (by omega)).mp c43d⟩).symm, rfl⟩
          · refine Z_jump 1 rfl ?_
            show Zs _ _ (am_P 61).2 (47, [(0, .ref 1), (1, .retAddr 5), (2, .int (3 : Int32))], [.int (0 : Int32)]) (HH I J R T) _
            refine Z_rI rfl (by first | exact am_nw0 _ | exact am_nw01 | rfl | assumption) ?_
            exact ⟨am_ii (if_neg (fun z => c43d (((hl 3 (e13.mp c13) (by omega)).2.2 119 (by omega)).mpr z.2.2.2.2))).symm, rfl⟩
        · refine Z_jump 1 rfl ?_
          show Zs _ _ (am_P 61).2 (47, [(0, .ref 1), (1, .retAddr 5), (2, .int (2 : Int32))], [.int (0 : Int32)]) (HH I J R T) _
          refine Z_rI rfl (by first | exact am_nw0 _ | exact am_nw01 | rfl | assumption) ?_
          exact ⟨am_ii (if_neg (fun z => c43c (((hl 2 (e13.mp c13) (by omega)).2.2 111 (by omega)).mpr z.2.2.2.1))).symm, rfl⟩
      · refine Z_jump 1 rfl ?_
        show Zs _ _ (am_P 61).2 (47, [(0, .ref 1), (1, .retAddr 5), (2, .int (1 : Int32))], [.int (0 : Int32)]) (HH I J R T) _
        refine Z_rI rfl (by first | exact am_nw0 _ | exact am_nw01 | rfl | assumption) ?_
        exact ⟨am_ii (if_neg (fun z => c43b (((hl 1 (e13.mp c13) (by omega)).2.2 108 (by omega)).mpr z.2.2.1))).symm, rfl⟩
    · refine Z_jump 1 rfl ?_
      show Zs _ _ (am_P 61).2 (47, [(0, .ref 1), (1, .retAddr 5), (2, .int (0 : Int32))], [.int (0 : Int32)]) (HH I J R T) _
      refine Z_rI rfl (by first | exact am_nw0 _ | exact am_nw01 | rfl | assumption) ?_
      exact ⟨am_ii (if_neg (fun z => c43 (((hl 0 (e13.mp c13) (by omega)).2.2 115 (by omega)).mpr z.2.1))).symm, rfl⟩
  · refine Z_jump 1 rfl ?_
    show Zs _ _ (am_P 61).2 (17, [(0, .ref 1), (1, .retAddr 5)], [.int (0 : Int32)]) (HH I J R T) _
    refine Z_rI rfl (by first | exact am_nw0 _ | exact am_nw01 | rfl | assumption) ?_
    exact ⟨am_ii (if_neg (fun z => c13 (e13.mpr z.1))).symm, rfl⟩
theorem w_len6 : am_E sc (d + 5) 229 [.retAddr 6] h (some (.int 4)) h := E_run 20 rfl
theorem c_wH {s : Nat} (hK : CTK tx c s I) : am_E sc (d + 6) 61 [.ref 1, .retAddr 6] (HH I J R T) (some (.int (if wH tx s (tE tx c s) then 1 else 0))) (HH I J R T) := by
  refine E_Z (Ze_of (Nat.le_of_ble_eq_true rfl) ?_)
  have hc := hK.1.2.1
  have hE := tE_c (tx := tx) hK.2.1
  have e8 : I 1 4 - I 1 3 = nI (tE tx c s - s) := by rw [hK.2.2.1, hK.2.2.2.1]; exact nI_subI hE.1
  have e13 : nI (tE tx c s - s) = 4 ↔ tE tx c s = s + 4 := by rw [show (4 : Int32) = nI 4 from rfl, nI_eq (by omega) (by omega)]; omega
  have hl : ∀ j, tE tx c s = s + 4 → j < 4 → I 1 3 + nI j = nI (s + j) ∧ s + j < 160 ∧ ∀ t, t ≤ 255 → (I 2 (s + j) = nI t ↔ tx (s + j) = t) := fun j hj1 hj2 => by
    have hj : s + j < c := by omega
    have h255 := hK.1.2.2.2 _ hj
    refine ⟨by rw [hK.2.2.1]; exact nI_add s j, by omega, fun t ht => ?_⟩
    rw [hK.1.2.2.1 _ hj]
    exact nI_eq (by omega) (by omega)
  refine Z_jump 5 rfl ?_
  show Zs _ _ (am_P 61).2 (9, [(0, .ref 1), (1, .retAddr 6)], [.int ((I 1 4) - (I 1 3))]) (HH I J R T) _
  refine Z_eqI (e8) ?_
  show Zs _ _ (am_P 61).2 (9, [(0, .ref 1), (1, .retAddr 6)], [.int (nI (tE tx c s - s))]) (HH I J R T) _
  refine Z_jump 1 rfl ?_
  show Zs _ _ (am_P 61).2 (10, [(0, .ref 1), (1, .retAddr 6)], [.retAddr 6, .int (nI (tE tx c s - s))]) (HH I J R T) _
  refine Z_c1 rfl rfl rfl (w_len6) ?_
  show Zs _ _ (am_P 61).2 (13, [(0, .ref 1), (1, .retAddr 6)], [.int (4 : Int32), .int (nI (tE tx c s - s))]) (HH I J R T) _
  refine Z_jump 1 rfl ?_
  refine Z_bd (fun (c13 : (nI (tE tx c s - s)) = (4 : Int32)) => ?_) (fun (c13 : ¬ ((nI (tE tx c s - s)) = (4 : Int32))) => ?_)
  · refine Z_jump 4 rfl ?_
    show Zs _ _ (am_P 61).2 (22, [(0, .ref 1), (1, .retAddr 6), (2, .int (0 : Int32))], [.retAddr 6, .int (0 : Int32)]) (HH I J R T) _
    refine Z_c1 rfl rfl rfl (w_len6) ?_
    show Zs _ _ (am_P 61).2 (25, [(0, .ref 1), (1, .retAddr 6), (2, .int (0 : Int32))], [.int (4 : Int32), .int (0 : Int32)]) (HH I J R T) _
    refine Z_jump 6 rfl ?_
    show Zs _ _ (am_P 61).2 (35, [(0, .ref 1), (1, .retAddr 6), (2, .int (0 : Int32))], [.int ((I 1 3) + (0 : Int32)), .ref 1]) (HH I J R T) _
    refine Z_c1 rfl rfl rfl (c_letterAt (hl 0 (e13.mp c13) (by omega)).1 (hl 0 (e13.mp c13) (by omega)).2.1) ?_
    show Zs _ _ (am_P 61).2 (38, [(0, .ref 1), (1, .retAddr 6), (2, .int (0 : Int32))], [.int (I 2 (s + 0))]) (HH I J R T) _
    refine Z_jump 2 rfl ?_
    show Zs _ _ (am_P 61).2 (40, [(0, .ref 1), (1, .retAddr 6), (2, .int (0 : Int32))], [.int (0 : Int32), .retAddr 6, .int (I 2 (s + 0))]) (HH I J R T) _
    refine Z_c1 rfl rfl rfl ((E_run 60 rfl)) ?_
    show Zs _ _ (am_P 61).2 (43, [(0, .ref 1), (1, .retAddr 6), (2, .int (0 : Int32))], [.int (104 : Int32), .int (I 2 (s + 0))]) (HH I J R T) _
    refine Z_jump 1 rfl ?_
    refine Z_bd (fun (c43 : (I 2 (s + 0)) = (104 : Int32)) => ?_) (fun (c43 : ¬ ((I 2 (s + 0)) = (104 : Int32))) => ?_)
    · refine Z_jump 4 rfl ?_
      show Zs _ _ (am_P 61).2 (22, [(0, .ref 1), (1, .retAddr 6), (2, .int (1 : Int32))], [.retAddr 6, .int (1 : Int32)]) (HH I J R T) _
      refine Z_c1 rfl rfl rfl (w_len6) ?_
      show Zs _ _ (am_P 61).2 (25, [(0, .ref 1), (1, .retAddr 6), (2, .int (1 : Int32))], [.int (4 : Int32), .int (1 : Int32)]) (HH I J R T) _
      refine Z_jump 6 rfl ?_
      show Zs _ _ (am_P 61).2 (35, [(0, .ref 1), (1, .retAddr 6), (2, .int (1 : Int32))], [.int ((I 1 3) + (1 : Int32)), .ref 1]) (HH I J R T) _
      refine Z_c1 rfl rfl rfl (c_letterAt (hl 1 (e13.mp c13) (by omega)).1 (hl 1 (e13.mp c13) (by omega)).2.1) ?_
      show Zs _ _ (am_P 61).2 (38, [(0, .ref 1), (1, .retAddr 6), (2, .int (1 : Int32))], [.int (I 2 (s + 1))]) (HH I J R T) _
      refine Z_jump 2 rfl ?_
      show Zs _ _ (am_P 61).2 (40, [(0, .ref 1), (1, .retAddr 6), (2, .int (1 : Int32))], [.int (1 : Int32), .retAddr 6, .int (I 2 (s + 1))]) (HH I J R T) _
      refine Z_c1 rfl rfl rfl ((E_run 60 rfl)) ?_
      show Zs _ _ (am_P 61).2 (43, [(0, .ref 1), (1, .retAddr 6), (2, .int (1 : Int32))], [.int (101 : Int32), .int (I 2 (s + 1))]) (HH I J R T) _
      refine Z_jump 1 rfl ?_
      refine Z_bd (fun (c43b : (I 2 (s + 1)) = (101 : Int32)) => ?_) (fun (c43b : ¬ ((I 2 (s + 1)) = (101 : Int32))) => ?_)
      · refine Z_jump 4 rfl ?_
        show Zs _ _ (am_P 61).2 (22, [(0, .ref 1), (1, .retAddr 6), (2, .int (2 : Int32))], [.retAddr 6, .int (2 : Int32)]) (HH I J R T) _
        refine Z_c1 rfl rfl rfl (w_len6) ?_
        show Zs _ _ (am_P 61).2 (25, [(0, .ref 1), (1, .retAddr 6), (2, .int (2 : Int32))], [.int (4 : Int32), .int (2 : Int32)]) (HH I J R T) _
        refine Z_jump 6 rfl ?_
        show Zs _ _ (am_P 61).2 (35, [(0, .ref 1), (1, .retAddr 6), (2, .int (2 : Int32))], [.int ((I 1 3) + (2 : Int32)), .ref 1]) (HH I J R T) _
        refine Z_c1 rfl rfl rfl (c_letterAt (hl 2 (e13.mp c13) (by omega)).1 (hl 2 (e13.mp c13) (by omega)).2.1) ?_
        show Zs _ _ (am_P 61).2 (38, [(0, .ref 1), (1, .retAddr 6), (2, .int (2 : Int32))], [.int (I 2 (s + 2))]) (HH I J R T) _
        refine Z_jump 2 rfl ?_
        show Zs _ _ (am_P 61).2 (40, [(0, .ref 1), (1, .retAddr 6), (2, .int (2 : Int32))], [.int (2 : Int32), .retAddr 6, .int (I 2 (s + 2))]) (HH I J R T) _
        refine Z_c1 rfl rfl rfl ((E_run 60 rfl)) ?_
        show Zs _ _ (am_P 61).2 (43, [(0, .ref 1), (1, .retAddr 6), (2, .int (2 : Int32))], [.int (105 : Int32), .int (I 2 (s + 2))]) (HH I J R T) _
        refine Z_jump 1 rfl ?_
        refine Z_bd (fun (c43c : (I 2 (s + 2)) = (105 : Int32)) => ?_) (fun (c43c : ¬ ((I 2 (s + 2)) = (105 : Int32))) => ?_)
        · refine Z_jump 4 rfl ?_
          show Zs _ _ (am_P 61).2 (22, [(0, .ref 1), (1, .retAddr 6), (2, .int (3 : Int32))], [.retAddr 6, .int (3 : Int32)]) (HH I J R T) _
          refine Z_c1 rfl rfl rfl (w_len6) ?_
          show Zs _ _ (am_P 61).2 (25, [(0, .ref 1), (1, .retAddr 6), (2, .int (3 : Int32))], [.int (4 : Int32), .int (3 : Int32)]) (HH I J R T) _
          refine Z_jump 6 rfl ?_
          show Zs _ _ (am_P 61).2 (35, [(0, .ref 1), (1, .retAddr 6), (2, .int (3 : Int32))], [.int ((I 1 3) + (3 : Int32)), .ref 1]) (HH I J R T) _
          refine Z_c1 rfl rfl rfl (c_letterAt (hl 3 (e13.mp c13) (by omega)).1 (hl 3 (e13.mp c13) (by omega)).2.1) ?_
          show Zs _ _ (am_P 61).2 (38, [(0, .ref 1), (1, .retAddr 6), (2, .int (3 : Int32))], [.int (I 2 (s + 3))]) (HH I J R T) _
          refine Z_jump 2 rfl ?_
          show Zs _ _ (am_P 61).2 (40, [(0, .ref 1), (1, .retAddr 6), (2, .int (3 : Int32))], [.int (3 : Int32), .retAddr 6, .int (I 2 (s + 3))]) (HH I J R T) _
          refine Z_c1 rfl rfl rfl ((E_run 60 rfl)) ?_
          show Zs _ _ (am_P 61).2 (43, [(0, .ref 1), (1, .retAddr 6), (2, .int (3 : Int32))], [.int (114 : Int32), .int (I 2 (s + 3))]) (HH I J R T) _
          refine Z_jump 1 rfl ?_
          refine Z_bd (fun (c43d : (I 2 (s + 3)) = (114 : Int32)) => ?_) (fun (c43d : ¬ ((I 2 (s + 3)) = (114 : Int32))) => ?_)
          · refine Z_jump 4 rfl ?_
            show Zs _ _ (am_P 61).2 (22, [(0, .ref 1), (1, .retAddr 6), (2, .int (4 : Int32))], [.retAddr 6, .int (4 : Int32)]) (HH I J R T) _
            refine Z_c1 rfl rfl rfl (w_len6) ?_
            show Zs _ _ (am_P 61).2 (25, [(0, .ref 1), (1, .retAddr 6), (2, .int (4 : Int32))], [.int (4 : Int32), .int (4 : Int32)]) (HH I J R T) _
            refine Z_jump 2 rfl ?_
            show Zs _ _ (am_P 61).2 (55, [(0, .ref 1), (1, .retAddr 6), (2, .int (4 : Int32))], [.int (1 : Int32)]) (HH I J R T) _
            refine Z_rI rfl (by first | exact am_nw0 _ | exact am_nw01 | rfl | assumption) ?_
            exact ⟨am_ii (if_pos ⟨e13.mp c13, ((hl 0 (e13.mp c13) (by omega)).2.2 104 (by omega)).mp c43, ((hl 1 (e13.mp c13) (by omega)).2.2 101 (by omega)).mp c43b, ((hl 2 (e13.mp c13) (by omega)).2.2 105 (by omega)).mp c43c, ((hl 3 (e13.mp c13) (by omega)).2.2 114 (by omega)).mp c43d⟩).symm, rfl⟩
          · refine Z_jump 1 rfl ?_
            show Zs _ _ (am_P 61).2 (47, [(0, .ref 1), (1, .retAddr 6), (2, .int (3 : Int32))], [.int (0 : Int32)]) (HH I J R T) _
            refine Z_rI rfl (by first | exact am_nw0 _ | exact am_nw01 | rfl | assumption) ?_
            exact ⟨am_ii (if_neg (fun z => c43d (((hl 3 (e13.mp c13) (by omega)).2.2 114 (by omega)).mpr z.2.2.2.2))).symm, rfl⟩
        · refine Z_jump 1 rfl ?_
          show Zs _ _ (am_P 61).2 (47, [(0, .ref 1), (1, .retAddr 6), (2, .int (2 : Int32))], [.int (0 : Int32)]) (HH I J R T) _
          refine Z_rI rfl (by first | exact am_nw0 _ | exact am_nw01 | rfl | assumption) ?_
          exact ⟨am_ii (if_neg (fun z => c43c (((hl 2 (e13.mp c13) (by omega)).2.2 105 (by omega)).mpr z.2.2.2.1))).symm, rfl⟩
      · refine Z_jump 1 rfl ?_
        show Zs _ _ (am_P 61).2 (47, [(0, .ref 1), (1, .retAddr 6), (2, .int (1 : Int32))], [.int (0 : Int32)]) (HH I J R T) _
        refine Z_rI rfl (by first | exact am_nw0 _ | exact am_nw01 | rfl | assumption) ?_
        exact ⟨am_ii (if_neg (fun z => c43b (((hl 1 (e13.mp c13) (by omega)).2.2 101 (by omega)).mpr z.2.2.1))).symm, rfl⟩
    · refine Z_jump 1 rfl ?_
      show Zs _ _ (am_P 61).2 (47, [(0, .ref 1), (1, .retAddr 6), (2, .int (0 : Int32))], [.int (0 : Int32)]) (HH I J R T) _
      refine Z_rI rfl (by first | exact am_nw0 _ | exact am_nw01 | rfl | assumption) ?_
      exact ⟨am_ii (if_neg (fun z => c43 (((hl 0 (e13.mp c13) (by omega)).2.2 104 (by omega)).mpr z.2.1))).symm, rfl⟩
  · refine Z_jump 1 rfl ?_
    show Zs _ _ (am_P 61).2 (17, [(0, .ref 1), (1, .retAddr 6)], [.int (0 : Int32)]) (HH I J R T) _
    refine Z_rI rfl (by first | exact am_nw0 _ | exact am_nw01 | rfl | assumption) ?_
    exact ⟨am_ii (if_neg (fun z => c13 (e13.mpr z.1))).symm, rfl⟩
theorem w_len7 : am_E sc (d + 5) 229 [.retAddr 7] h (some (.int 3)) h := E_run 20 rfl
theorem c_wS {s : Nat} (hK : CTK tx c s I) : am_E sc (d + 6) 61 [.ref 1, .retAddr 7] (HH I J R T) (some (.int (if wS tx s (tE tx c s) then 1 else 0))) (HH I J R T) := by
  refine E_Z (Ze_of (Nat.le_of_ble_eq_true rfl) ?_)
  have hc := hK.1.2.1
  have hE := tE_c (tx := tx) hK.2.1
  have e8 : I 1 4 - I 1 3 = nI (tE tx c s - s) := by rw [hK.2.2.1, hK.2.2.2.1]; exact nI_subI hE.1
  have e13 : nI (tE tx c s - s) = 3 ↔ tE tx c s = s + 3 := by rw [show (3 : Int32) = nI 3 from rfl, nI_eq (by omega) (by omega)]; omega
  have hl : ∀ j, tE tx c s = s + 3 → j < 3 → I 1 3 + nI j = nI (s + j) ∧ s + j < 160 ∧ ∀ t, t ≤ 255 → (I 2 (s + j) = nI t ↔ tx (s + j) = t) := fun j hj1 hj2 => by
    have hj : s + j < c := by omega
    have h255 := hK.1.2.2.2 _ hj
    refine ⟨by rw [hK.2.2.1]; exact nI_add s j, by omega, fun t ht => ?_⟩
    rw [hK.1.2.2.1 _ hj]
    exact nI_eq (by omega) (by omega)
  refine Z_jump 5 rfl ?_
  show Zs _ _ (am_P 61).2 (9, [(0, .ref 1), (1, .retAddr 7)], [.int ((I 1 4) - (I 1 3))]) (HH I J R T) _
  refine Z_eqI (e8) ?_
  show Zs _ _ (am_P 61).2 (9, [(0, .ref 1), (1, .retAddr 7)], [.int (nI (tE tx c s - s))]) (HH I J R T) _
  refine Z_jump 1 rfl ?_
  show Zs _ _ (am_P 61).2 (10, [(0, .ref 1), (1, .retAddr 7)], [.retAddr 7, .int (nI (tE tx c s - s))]) (HH I J R T) _
  refine Z_c1 rfl rfl rfl (w_len7) ?_
  show Zs _ _ (am_P 61).2 (13, [(0, .ref 1), (1, .retAddr 7)], [.int (3 : Int32), .int (nI (tE tx c s - s))]) (HH I J R T) _
  refine Z_jump 1 rfl ?_
  refine Z_bd (fun (c13 : (nI (tE tx c s - s)) = (3 : Int32)) => ?_) (fun (c13 : ¬ ((nI (tE tx c s - s)) = (3 : Int32))) => ?_)
  · refine Z_jump 4 rfl ?_
    show Zs _ _ (am_P 61).2 (22, [(0, .ref 1), (1, .retAddr 7), (2, .int (0 : Int32))], [.retAddr 7, .int (0 : Int32)]) (HH I J R T) _
    refine Z_c1 rfl rfl rfl (w_len7) ?_
    show Zs _ _ (am_P 61).2 (25, [(0, .ref 1), (1, .retAddr 7), (2, .int (0 : Int32))], [.int (3 : Int32), .int (0 : Int32)]) (HH I J R T) _
    refine Z_jump 6 rfl ?_
    show Zs _ _ (am_P 61).2 (35, [(0, .ref 1), (1, .retAddr 7), (2, .int (0 : Int32))], [.int ((I 1 3) + (0 : Int32)), .ref 1]) (HH I J R T) _
    refine Z_c1 rfl rfl rfl (c_letterAt (hl 0 (e13.mp c13) (by omega)).1 (hl 0 (e13.mp c13) (by omega)).2.1) ?_
    show Zs _ _ (am_P 61).2 (38, [(0, .ref 1), (1, .retAddr 7), (2, .int (0 : Int32))], [.int (I 2 (s + 0))]) (HH I J R T) _
    refine Z_jump 2 rfl ?_
    show Zs _ _ (am_P 61).2 (40, [(0, .ref 1), (1, .retAddr 7), (2, .int (0 : Int32))], [.int (0 : Int32), .retAddr 7, .int (I 2 (s + 0))]) (HH I J R T) _
    refine Z_c1 rfl rfl rfl ((E_run 60 rfl)) ?_
    show Zs _ _ (am_P 61).2 (43, [(0, .ref 1), (1, .retAddr 7), (2, .int (0 : Int32))], [.int (115 : Int32), .int (I 2 (s + 0))]) (HH I J R T) _
    refine Z_jump 1 rfl ?_
    refine Z_bd (fun (c43 : (I 2 (s + 0)) = (115 : Int32)) => ?_) (fun (c43 : ¬ ((I 2 (s + 0)) = (115 : Int32))) => ?_)
    · refine Z_jump 4 rfl ?_
      show Zs _ _ (am_P 61).2 (22, [(0, .ref 1), (1, .retAddr 7), (2, .int (1 : Int32))], [.retAddr 7, .int (1 : Int32)]) (HH I J R T) _
      refine Z_c1 rfl rfl rfl (w_len7) ?_
      show Zs _ _ (am_P 61).2 (25, [(0, .ref 1), (1, .retAddr 7), (2, .int (1 : Int32))], [.int (3 : Int32), .int (1 : Int32)]) (HH I J R T) _
      refine Z_jump 6 rfl ?_
      show Zs _ _ (am_P 61).2 (35, [(0, .ref 1), (1, .retAddr 7), (2, .int (1 : Int32))], [.int ((I 1 3) + (1 : Int32)), .ref 1]) (HH I J R T) _
      refine Z_c1 rfl rfl rfl (c_letterAt (hl 1 (e13.mp c13) (by omega)).1 (hl 1 (e13.mp c13) (by omega)).2.1) ?_
      show Zs _ _ (am_P 61).2 (38, [(0, .ref 1), (1, .retAddr 7), (2, .int (1 : Int32))], [.int (I 2 (s + 1))]) (HH I J R T) _
      refine Z_jump 2 rfl ?_
      show Zs _ _ (am_P 61).2 (40, [(0, .ref 1), (1, .retAddr 7), (2, .int (1 : Int32))], [.int (1 : Int32), .retAddr 7, .int (I 2 (s + 1))]) (HH I J R T) _
      refine Z_c1 rfl rfl rfl ((E_run 60 rfl)) ?_
      show Zs _ _ (am_P 61).2 (43, [(0, .ref 1), (1, .retAddr 7), (2, .int (1 : Int32))], [.int (101 : Int32), .int (I 2 (s + 1))]) (HH I J R T) _
      refine Z_jump 1 rfl ?_
      refine Z_bd (fun (c43b : (I 2 (s + 1)) = (101 : Int32)) => ?_) (fun (c43b : ¬ ((I 2 (s + 1)) = (101 : Int32))) => ?_)
      · refine Z_jump 4 rfl ?_
        show Zs _ _ (am_P 61).2 (22, [(0, .ref 1), (1, .retAddr 7), (2, .int (2 : Int32))], [.retAddr 7, .int (2 : Int32)]) (HH I J R T) _
        refine Z_c1 rfl rfl rfl (w_len7) ?_
        show Zs _ _ (am_P 61).2 (25, [(0, .ref 1), (1, .retAddr 7), (2, .int (2 : Int32))], [.int (3 : Int32), .int (2 : Int32)]) (HH I J R T) _
        refine Z_jump 6 rfl ?_
        show Zs _ _ (am_P 61).2 (35, [(0, .ref 1), (1, .retAddr 7), (2, .int (2 : Int32))], [.int ((I 1 3) + (2 : Int32)), .ref 1]) (HH I J R T) _
        refine Z_c1 rfl rfl rfl (c_letterAt (hl 2 (e13.mp c13) (by omega)).1 (hl 2 (e13.mp c13) (by omega)).2.1) ?_
        show Zs _ _ (am_P 61).2 (38, [(0, .ref 1), (1, .retAddr 7), (2, .int (2 : Int32))], [.int (I 2 (s + 2))]) (HH I J R T) _
        refine Z_jump 2 rfl ?_
        show Zs _ _ (am_P 61).2 (40, [(0, .ref 1), (1, .retAddr 7), (2, .int (2 : Int32))], [.int (2 : Int32), .retAddr 7, .int (I 2 (s + 2))]) (HH I J R T) _
        refine Z_c1 rfl rfl rfl ((E_run 60 rfl)) ?_
        show Zs _ _ (am_P 61).2 (43, [(0, .ref 1), (1, .retAddr 7), (2, .int (2 : Int32))], [.int (116 : Int32), .int (I 2 (s + 2))]) (HH I J R T) _
        refine Z_jump 1 rfl ?_
        refine Z_bd (fun (c43c : (I 2 (s + 2)) = (116 : Int32)) => ?_) (fun (c43c : ¬ ((I 2 (s + 2)) = (116 : Int32))) => ?_)
        · refine Z_jump 4 rfl ?_
          show Zs _ _ (am_P 61).2 (22, [(0, .ref 1), (1, .retAddr 7), (2, .int (3 : Int32))], [.retAddr 7, .int (3 : Int32)]) (HH I J R T) _
          refine Z_c1 rfl rfl rfl (w_len7) ?_
          show Zs _ _ (am_P 61).2 (25, [(0, .ref 1), (1, .retAddr 7), (2, .int (3 : Int32))], [.int (3 : Int32), .int (3 : Int32)]) (HH I J R T) _
          refine Z_jump 2 rfl ?_
          show Zs _ _ (am_P 61).2 (55, [(0, .ref 1), (1, .retAddr 7), (2, .int (3 : Int32))], [.int (1 : Int32)]) (HH I J R T) _
          refine Z_rI rfl (by first | exact am_nw0 _ | exact am_nw01 | rfl | assumption) ?_
          exact ⟨am_ii (if_pos ⟨e13.mp c13, ((hl 0 (e13.mp c13) (by omega)).2.2 115 (by omega)).mp c43, ((hl 1 (e13.mp c13) (by omega)).2.2 101 (by omega)).mp c43b, ((hl 2 (e13.mp c13) (by omega)).2.2 116 (by omega)).mp c43c⟩).symm, rfl⟩
        · refine Z_jump 1 rfl ?_
          show Zs _ _ (am_P 61).2 (47, [(0, .ref 1), (1, .retAddr 7), (2, .int (2 : Int32))], [.int (0 : Int32)]) (HH I J R T) _
          refine Z_rI rfl (by first | exact am_nw0 _ | exact am_nw01 | rfl | assumption) ?_
          exact ⟨am_ii (if_neg (fun z => c43c (((hl 2 (e13.mp c13) (by omega)).2.2 116 (by omega)).mpr z.2.2.2))).symm, rfl⟩
      · refine Z_jump 1 rfl ?_
        show Zs _ _ (am_P 61).2 (47, [(0, .ref 1), (1, .retAddr 7), (2, .int (1 : Int32))], [.int (0 : Int32)]) (HH I J R T) _
        refine Z_rI rfl (by first | exact am_nw0 _ | exact am_nw01 | rfl | assumption) ?_
        exact ⟨am_ii (if_neg (fun z => c43b (((hl 1 (e13.mp c13) (by omega)).2.2 101 (by omega)).mpr z.2.2.1))).symm, rfl⟩
    · refine Z_jump 1 rfl ?_
      show Zs _ _ (am_P 61).2 (47, [(0, .ref 1), (1, .retAddr 7), (2, .int (0 : Int32))], [.int (0 : Int32)]) (HH I J R T) _
      refine Z_rI rfl (by first | exact am_nw0 _ | exact am_nw01 | rfl | assumption) ?_
      exact ⟨am_ii (if_neg (fun z => c43 (((hl 0 (e13.mp c13) (by omega)).2.2 115 (by omega)).mpr z.2.1))).symm, rfl⟩
  · refine Z_jump 1 rfl ?_
    show Zs _ _ (am_P 61).2 (17, [(0, .ref 1), (1, .retAddr 7)], [.int (0 : Int32)]) (HH I J R T) _
    refine Z_rI rfl (by first | exact am_nw0 _ | exact am_nw01 | rfl | assumption) ?_
    exact ⟨am_ii (if_neg (fun z => c13 (e13.mpr z.1))).symm, rfl⟩
theorem w_len8 : am_E sc (d + 5) 229 [.retAddr 8] h (some (.int 3)) h := E_run 20 rfl
theorem c_wA {s : Nat} (hK : CTK tx c s I) : am_E sc (d + 6) 61 [.ref 1, .retAddr 8] (HH I J R T) (some (.int (if wA tx s (tE tx c s) then 1 else 0))) (HH I J R T) := by
  refine E_Z (Ze_of (Nat.le_of_ble_eq_true rfl) ?_)
  have hc := hK.1.2.1
  have hE := tE_c (tx := tx) hK.2.1
  have e8 : I 1 4 - I 1 3 = nI (tE tx c s - s) := by rw [hK.2.2.1, hK.2.2.2.1]; exact nI_subI hE.1
  have e13 : nI (tE tx c s - s) = 3 ↔ tE tx c s = s + 3 := by rw [show (3 : Int32) = nI 3 from rfl, nI_eq (by omega) (by omega)]; omega
  have hl : ∀ j, tE tx c s = s + 3 → j < 3 → I 1 3 + nI j = nI (s + j) ∧ s + j < 160 ∧ ∀ t, t ≤ 255 → (I 2 (s + j) = nI t ↔ tx (s + j) = t) := fun j hj1 hj2 => by
    have hj : s + j < c := by omega
    have h255 := hK.1.2.2.2 _ hj
    refine ⟨by rw [hK.2.2.1]; exact nI_add s j, by omega, fun t ht => ?_⟩
    rw [hK.1.2.2.1 _ hj]
    exact nI_eq (by omega) (by omega)
  refine Z_jump 5 rfl ?_
  show Zs _ _ (am_P 61).2 (9, [(0, .ref 1), (1, .retAddr 8)], [.int ((I 1 4) - (I 1 3))]) (HH I J R T) _
  refine Z_eqI (e8) ?_
  show Zs _ _ (am_P 61).2 (9, [(0, .ref 1), (1, .retAddr 8)], [.int (nI (tE tx c s - s))]) (HH I J R T) _
  refine Z_jump 1 rfl ?_
  show Zs _ _ (am_P 61).2 (10, [(0, .ref 1), (1, .retAddr 8)], [.retAddr 8, .int (nI (tE tx c s - s))]) (HH I J R T) _
  refine Z_c1 rfl rfl rfl (w_len8) ?_
  show Zs _ _ (am_P 61).2 (13, [(0, .ref 1), (1, .retAddr 8)], [.int (3 : Int32), .int (nI (tE tx c s - s))]) (HH I J R T) _
  refine Z_jump 1 rfl ?_
  refine Z_bd (fun (c13 : (nI (tE tx c s - s)) = (3 : Int32)) => ?_) (fun (c13 : ¬ ((nI (tE tx c s - s)) = (3 : Int32))) => ?_)
  · refine Z_jump 4 rfl ?_
    show Zs _ _ (am_P 61).2 (22, [(0, .ref 1), (1, .retAddr 8), (2, .int (0 : Int32))], [.retAddr 8, .int (0 : Int32)]) (HH I J R T) _
    refine Z_c1 rfl rfl rfl (w_len8) ?_
    show Zs _ _ (am_P 61).2 (25, [(0, .ref 1), (1, .retAddr 8), (2, .int (0 : Int32))], [.int (3 : Int32), .int (0 : Int32)]) (HH I J R T) _
    refine Z_jump 6 rfl ?_
    show Zs _ _ (am_P 61).2 (35, [(0, .ref 1), (1, .retAddr 8), (2, .int (0 : Int32))], [.int ((I 1 3) + (0 : Int32)), .ref 1]) (HH I J R T) _
    refine Z_c1 rfl rfl rfl (c_letterAt (hl 0 (e13.mp c13) (by omega)).1 (hl 0 (e13.mp c13) (by omega)).2.1) ?_
    show Zs _ _ (am_P 61).2 (38, [(0, .ref 1), (1, .retAddr 8), (2, .int (0 : Int32))], [.int (I 2 (s + 0))]) (HH I J R T) _
    refine Z_jump 2 rfl ?_
    show Zs _ _ (am_P 61).2 (40, [(0, .ref 1), (1, .retAddr 8), (2, .int (0 : Int32))], [.int (0 : Int32), .retAddr 8, .int (I 2 (s + 0))]) (HH I J R T) _
    refine Z_c1 rfl rfl rfl ((E_run 60 rfl)) ?_
    show Zs _ _ (am_P 61).2 (43, [(0, .ref 1), (1, .retAddr 8), (2, .int (0 : Int32))], [.int (97 : Int32), .int (I 2 (s + 0))]) (HH I J R T) _
    refine Z_jump 1 rfl ?_
    refine Z_bd (fun (c43 : (I 2 (s + 0)) = (97 : Int32)) => ?_) (fun (c43 : ¬ ((I 2 (s + 0)) = (97 : Int32))) => ?_)
    · refine Z_jump 4 rfl ?_
      show Zs _ _ (am_P 61).2 (22, [(0, .ref 1), (1, .retAddr 8), (2, .int (1 : Int32))], [.retAddr 8, .int (1 : Int32)]) (HH I J R T) _
      refine Z_c1 rfl rfl rfl (w_len8) ?_
      show Zs _ _ (am_P 61).2 (25, [(0, .ref 1), (1, .retAddr 8), (2, .int (1 : Int32))], [.int (3 : Int32), .int (1 : Int32)]) (HH I J R T) _
      refine Z_jump 6 rfl ?_
      show Zs _ _ (am_P 61).2 (35, [(0, .ref 1), (1, .retAddr 8), (2, .int (1 : Int32))], [.int ((I 1 3) + (1 : Int32)), .ref 1]) (HH I J R T) _
      refine Z_c1 rfl rfl rfl (c_letterAt (hl 1 (e13.mp c13) (by omega)).1 (hl 1 (e13.mp c13) (by omega)).2.1) ?_
      show Zs _ _ (am_P 61).2 (38, [(0, .ref 1), (1, .retAddr 8), (2, .int (1 : Int32))], [.int (I 2 (s + 1))]) (HH I J R T) _
      refine Z_jump 2 rfl ?_
      show Zs _ _ (am_P 61).2 (40, [(0, .ref 1), (1, .retAddr 8), (2, .int (1 : Int32))], [.int (1 : Int32), .retAddr 8, .int (I 2 (s + 1))]) (HH I J R T) _
      refine Z_c1 rfl rfl rfl ((E_run 60 rfl)) ?_
      show Zs _ _ (am_P 61).2 (43, [(0, .ref 1), (1, .retAddr 8), (2, .int (1 : Int32))], [.int (100 : Int32), .int (I 2 (s + 1))]) (HH I J R T) _
      refine Z_jump 1 rfl ?_
      refine Z_bd (fun (c43b : (I 2 (s + 1)) = (100 : Int32)) => ?_) (fun (c43b : ¬ ((I 2 (s + 1)) = (100 : Int32))) => ?_)
      · refine Z_jump 4 rfl ?_
        show Zs _ _ (am_P 61).2 (22, [(0, .ref 1), (1, .retAddr 8), (2, .int (2 : Int32))], [.retAddr 8, .int (2 : Int32)]) (HH I J R T) _
        refine Z_c1 rfl rfl rfl (w_len8) ?_
        show Zs _ _ (am_P 61).2 (25, [(0, .ref 1), (1, .retAddr 8), (2, .int (2 : Int32))], [.int (3 : Int32), .int (2 : Int32)]) (HH I J R T) _
        refine Z_jump 6 rfl ?_
        show Zs _ _ (am_P 61).2 (35, [(0, .ref 1), (1, .retAddr 8), (2, .int (2 : Int32))], [.int ((I 1 3) + (2 : Int32)), .ref 1]) (HH I J R T) _
        refine Z_c1 rfl rfl rfl (c_letterAt (hl 2 (e13.mp c13) (by omega)).1 (hl 2 (e13.mp c13) (by omega)).2.1) ?_
        show Zs _ _ (am_P 61).2 (38, [(0, .ref 1), (1, .retAddr 8), (2, .int (2 : Int32))], [.int (I 2 (s + 2))]) (HH I J R T) _
        refine Z_jump 2 rfl ?_
        show Zs _ _ (am_P 61).2 (40, [(0, .ref 1), (1, .retAddr 8), (2, .int (2 : Int32))], [.int (2 : Int32), .retAddr 8, .int (I 2 (s + 2))]) (HH I J R T) _
        refine Z_c1 rfl rfl rfl ((E_run 60 rfl)) ?_
        show Zs _ _ (am_P 61).2 (43, [(0, .ref 1), (1, .retAddr 8), (2, .int (2 : Int32))], [.int (100 : Int32), .int (I 2 (s + 2))]) (HH I J R T) _
        refine Z_jump 1 rfl ?_
        refine Z_bd (fun (c43c : (I 2 (s + 2)) = (100 : Int32)) => ?_) (fun (c43c : ¬ ((I 2 (s + 2)) = (100 : Int32))) => ?_)
        · refine Z_jump 4 rfl ?_
          show Zs _ _ (am_P 61).2 (22, [(0, .ref 1), (1, .retAddr 8), (2, .int (3 : Int32))], [.retAddr 8, .int (3 : Int32)]) (HH I J R T) _
          refine Z_c1 rfl rfl rfl (w_len8) ?_
          show Zs _ _ (am_P 61).2 (25, [(0, .ref 1), (1, .retAddr 8), (2, .int (3 : Int32))], [.int (3 : Int32), .int (3 : Int32)]) (HH I J R T) _
          refine Z_jump 2 rfl ?_
          show Zs _ _ (am_P 61).2 (55, [(0, .ref 1), (1, .retAddr 8), (2, .int (3 : Int32))], [.int (1 : Int32)]) (HH I J R T) _
          refine Z_rI rfl (by first | exact am_nw0 _ | exact am_nw01 | rfl | assumption) ?_
          exact ⟨am_ii (if_pos ⟨e13.mp c13, ((hl 0 (e13.mp c13) (by omega)).2.2 97 (by omega)).mp c43, ((hl 1 (e13.mp c13) (by omega)).2.2 100 (by omega)).mp c43b, ((hl 2 (e13.mp c13) (by omega)).2.2 100 (by omega)).mp c43c⟩).symm, rfl⟩
        · refine Z_jump 1 rfl ?_
          show Zs _ _ (am_P 61).2 (47, [(0, .ref 1), (1, .retAddr 8), (2, .int (2 : Int32))], [.int (0 : Int32)]) (HH I J R T) _
          refine Z_rI rfl (by first | exact am_nw0 _ | exact am_nw01 | rfl | assumption) ?_
          exact ⟨am_ii (if_neg (fun z => c43c (((hl 2 (e13.mp c13) (by omega)).2.2 100 (by omega)).mpr z.2.2.2))).symm, rfl⟩
      · refine Z_jump 1 rfl ?_
        show Zs _ _ (am_P 61).2 (47, [(0, .ref 1), (1, .retAddr 8), (2, .int (1 : Int32))], [.int (0 : Int32)]) (HH I J R T) _
        refine Z_rI rfl (by first | exact am_nw0 _ | exact am_nw01 | rfl | assumption) ?_
        exact ⟨am_ii (if_neg (fun z => c43b (((hl 1 (e13.mp c13) (by omega)).2.2 100 (by omega)).mpr z.2.2.1))).symm, rfl⟩
    · refine Z_jump 1 rfl ?_
      show Zs _ _ (am_P 61).2 (47, [(0, .ref 1), (1, .retAddr 8), (2, .int (0 : Int32))], [.int (0 : Int32)]) (HH I J R T) _
      refine Z_rI rfl (by first | exact am_nw0 _ | exact am_nw01 | rfl | assumption) ?_
      exact ⟨am_ii (if_neg (fun z => c43 (((hl 0 (e13.mp c13) (by omega)).2.2 97 (by omega)).mpr z.2.1))).symm, rfl⟩
  · refine Z_jump 1 rfl ?_
    show Zs _ _ (am_P 61).2 (17, [(0, .ref 1), (1, .retAddr 8)], [.int (0 : Int32)]) (HH I J R T) _
    refine Z_rI rfl (by first | exact am_nw0 _ | exact am_nw01 | rfl | assumption) ?_
    exact ⟨am_ii (if_neg (fun z => c13 (e13.mpr z.1))).symm, rfl⟩
theorem w_len9 : am_E sc (d + 5) 229 [.retAddr 9] h (some (.int 3)) h := E_run 20 rfl
theorem c_wB {s : Nat} (hK : CTK tx c s I) : am_E sc (d + 6) 61 [.ref 1, .retAddr 9] (HH I J R T) (some (.int (if wB tx s (tE tx c s) then 1 else 0))) (HH I J R T) := by
  refine E_Z (Ze_of (Nat.le_of_ble_eq_true rfl) ?_)
  have hc := hK.1.2.1
  have hE := tE_c (tx := tx) hK.2.1
  have e8 : I 1 4 - I 1 3 = nI (tE tx c s - s) := by rw [hK.2.2.1, hK.2.2.2.1]; exact nI_subI hE.1
  have e13 : nI (tE tx c s - s) = 3 ↔ tE tx c s = s + 3 := by rw [show (3 : Int32) = nI 3 from rfl, nI_eq (by omega) (by omega)]; omega
  have hl : ∀ j, tE tx c s = s + 3 → j < 3 → I 1 3 + nI j = nI (s + j) ∧ s + j < 160 ∧ ∀ t, t ≤ 255 → (I 2 (s + j) = nI t ↔ tx (s + j) = t) := fun j hj1 hj2 => by
    have hj : s + j < c := by omega
    have h255 := hK.1.2.2.2 _ hj
    refine ⟨by rw [hK.2.2.1]; exact nI_add s j, by omega, fun t ht => ?_⟩
    rw [hK.1.2.2.1 _ hj]
    exact nI_eq (by omega) (by omega)
  refine Z_jump 5 rfl ?_
  show Zs _ _ (am_P 61).2 (9, [(0, .ref 1), (1, .retAddr 9)], [.int ((I 1 4) - (I 1 3))]) (HH I J R T) _
  refine Z_eqI (e8) ?_
  show Zs _ _ (am_P 61).2 (9, [(0, .ref 1), (1, .retAddr 9)], [.int (nI (tE tx c s - s))]) (HH I J R T) _
  refine Z_jump 1 rfl ?_
  show Zs _ _ (am_P 61).2 (10, [(0, .ref 1), (1, .retAddr 9)], [.retAddr 9, .int (nI (tE tx c s - s))]) (HH I J R T) _
  refine Z_c1 rfl rfl rfl (w_len9) ?_
  show Zs _ _ (am_P 61).2 (13, [(0, .ref 1), (1, .retAddr 9)], [.int (3 : Int32), .int (nI (tE tx c s - s))]) (HH I J R T) _
  refine Z_jump 1 rfl ?_
  refine Z_bd (fun (c13 : (nI (tE tx c s - s)) = (3 : Int32)) => ?_) (fun (c13 : ¬ ((nI (tE tx c s - s)) = (3 : Int32))) => ?_)
  · refine Z_jump 4 rfl ?_
    show Zs _ _ (am_P 61).2 (22, [(0, .ref 1), (1, .retAddr 9), (2, .int (0 : Int32))], [.retAddr 9, .int (0 : Int32)]) (HH I J R T) _
    refine Z_c1 rfl rfl rfl (w_len9) ?_
    show Zs _ _ (am_P 61).2 (25, [(0, .ref 1), (1, .retAddr 9), (2, .int (0 : Int32))], [.int (3 : Int32), .int (0 : Int32)]) (HH I J R T) _
    refine Z_jump 6 rfl ?_
    show Zs _ _ (am_P 61).2 (35, [(0, .ref 1), (1, .retAddr 9), (2, .int (0 : Int32))], [.int ((I 1 3) + (0 : Int32)), .ref 1]) (HH I J R T) _
    refine Z_c1 rfl rfl rfl (c_letterAt (hl 0 (e13.mp c13) (by omega)).1 (hl 0 (e13.mp c13) (by omega)).2.1) ?_
    show Zs _ _ (am_P 61).2 (38, [(0, .ref 1), (1, .retAddr 9), (2, .int (0 : Int32))], [.int (I 2 (s + 0))]) (HH I J R T) _
    refine Z_jump 2 rfl ?_
    show Zs _ _ (am_P 61).2 (40, [(0, .ref 1), (1, .retAddr 9), (2, .int (0 : Int32))], [.int (0 : Int32), .retAddr 9, .int (I 2 (s + 0))]) (HH I J R T) _
    refine Z_c1 rfl rfl rfl ((E_run 60 rfl)) ?_
    show Zs _ _ (am_P 61).2 (43, [(0, .ref 1), (1, .retAddr 9), (2, .int (0 : Int32))], [.int (115 : Int32), .int (I 2 (s + 0))]) (HH I J R T) _
    refine Z_jump 1 rfl ?_
    refine Z_bd (fun (c43 : (I 2 (s + 0)) = (115 : Int32)) => ?_) (fun (c43 : ¬ ((I 2 (s + 0)) = (115 : Int32))) => ?_)
    · refine Z_jump 4 rfl ?_
      show Zs _ _ (am_P 61).2 (22, [(0, .ref 1), (1, .retAddr 9), (2, .int (1 : Int32))], [.retAddr 9, .int (1 : Int32)]) (HH I J R T) _
      refine Z_c1 rfl rfl rfl (w_len9) ?_
      show Zs _ _ (am_P 61).2 (25, [(0, .ref 1), (1, .retAddr 9), (2, .int (1 : Int32))], [.int (3 : Int32), .int (1 : Int32)]) (HH I J R T) _
      refine Z_jump 6 rfl ?_
      show Zs _ _ (am_P 61).2 (35, [(0, .ref 1), (1, .retAddr 9), (2, .int (1 : Int32))], [.int ((I 1 3) + (1 : Int32)), .ref 1]) (HH I J R T) _
      refine Z_c1 rfl rfl rfl (c_letterAt (hl 1 (e13.mp c13) (by omega)).1 (hl 1 (e13.mp c13) (by omega)).2.1) ?_
      show Zs _ _ (am_P 61).2 (38, [(0, .ref 1), (1, .retAddr 9), (2, .int (1 : Int32))], [.int (I 2 (s + 1))]) (HH I J R T) _
      refine Z_jump 2 rfl ?_
      show Zs _ _ (am_P 61).2 (40, [(0, .ref 1), (1, .retAddr 9), (2, .int (1 : Int32))], [.int (1 : Int32), .retAddr 9, .int (I 2 (s + 1))]) (HH I J R T) _
      refine Z_c1 rfl rfl rfl ((E_run 60 rfl)) ?_
      show Zs _ _ (am_P 61).2 (43, [(0, .ref 1), (1, .retAddr 9), (2, .int (1 : Int32))], [.int (117 : Int32), .int (I 2 (s + 1))]) (HH I J R T) _
      refine Z_jump 1 rfl ?_
      refine Z_bd (fun (c43b : (I 2 (s + 1)) = (117 : Int32)) => ?_) (fun (c43b : ¬ ((I 2 (s + 1)) = (117 : Int32))) => ?_)
      · refine Z_jump 4 rfl ?_
        show Zs _ _ (am_P 61).2 (22, [(0, .ref 1), (1, .retAddr 9), (2, .int (2 : Int32))], [.retAddr 9, .int (2 : Int32)]) (HH I J R T) _
        refine Z_c1 rfl rfl rfl (w_len9) ?_
        show Zs _ _ (am_P 61).2 (25, [(0, .ref 1), (1, .retAddr 9), (2, .int (2 : Int32))], [.int (3 : Int32), .int (2 : Int32)]) (HH I J R T) _
        refine Z_jump 6 rfl ?_
        show Zs _ _ (am_P 61).2 (35, [(0, .ref 1), (1, .retAddr 9), (2, .int (2 : Int32))], [.int ((I 1 3) + (2 : Int32)), .ref 1]) (HH I J R T) _
        refine Z_c1 rfl rfl rfl (c_letterAt (hl 2 (e13.mp c13) (by omega)).1 (hl 2 (e13.mp c13) (by omega)).2.1) ?_
        show Zs _ _ (am_P 61).2 (38, [(0, .ref 1), (1, .retAddr 9), (2, .int (2 : Int32))], [.int (I 2 (s + 2))]) (HH I J R T) _
        refine Z_jump 2 rfl ?_
        show Zs _ _ (am_P 61).2 (40, [(0, .ref 1), (1, .retAddr 9), (2, .int (2 : Int32))], [.int (2 : Int32), .retAddr 9, .int (I 2 (s + 2))]) (HH I J R T) _
        refine Z_c1 rfl rfl rfl ((E_run 60 rfl)) ?_
        show Zs _ _ (am_P 61).2 (43, [(0, .ref 1), (1, .retAddr 9), (2, .int (2 : Int32))], [.int (98 : Int32), .int (I 2 (s + 2))]) (HH I J R T) _
        refine Z_jump 1 rfl ?_
        refine Z_bd (fun (c43c : (I 2 (s + 2)) = (98 : Int32)) => ?_) (fun (c43c : ¬ ((I 2 (s + 2)) = (98 : Int32))) => ?_)
        · refine Z_jump 4 rfl ?_
          show Zs _ _ (am_P 61).2 (22, [(0, .ref 1), (1, .retAddr 9), (2, .int (3 : Int32))], [.retAddr 9, .int (3 : Int32)]) (HH I J R T) _
          refine Z_c1 rfl rfl rfl (w_len9) ?_
          show Zs _ _ (am_P 61).2 (25, [(0, .ref 1), (1, .retAddr 9), (2, .int (3 : Int32))], [.int (3 : Int32), .int (3 : Int32)]) (HH I J R T) _
          refine Z_jump 2 rfl ?_
          show Zs _ _ (am_P 61).2 (55, [(0, .ref 1), (1, .retAddr 9), (2, .int (3 : Int32))], [.int (1 : Int32)]) (HH I J R T) _
          refine Z_rI rfl (by first | exact am_nw0 _ | exact am_nw01 | rfl | assumption) ?_
          exact ⟨am_ii (if_pos ⟨e13.mp c13, ((hl 0 (e13.mp c13) (by omega)).2.2 115 (by omega)).mp c43, ((hl 1 (e13.mp c13) (by omega)).2.2 117 (by omega)).mp c43b, ((hl 2 (e13.mp c13) (by omega)).2.2 98 (by omega)).mp c43c⟩).symm, rfl⟩
        · refine Z_jump 1 rfl ?_
          show Zs _ _ (am_P 61).2 (47, [(0, .ref 1), (1, .retAddr 9), (2, .int (2 : Int32))], [.int (0 : Int32)]) (HH I J R T) _
          refine Z_rI rfl (by first | exact am_nw0 _ | exact am_nw01 | rfl | assumption) ?_
          exact ⟨am_ii (if_neg (fun z => c43c (((hl 2 (e13.mp c13) (by omega)).2.2 98 (by omega)).mpr z.2.2.2))).symm, rfl⟩
      · refine Z_jump 1 rfl ?_
        show Zs _ _ (am_P 61).2 (47, [(0, .ref 1), (1, .retAddr 9), (2, .int (1 : Int32))], [.int (0 : Int32)]) (HH I J R T) _
        refine Z_rI rfl (by first | exact am_nw0 _ | exact am_nw01 | rfl | assumption) ?_
        exact ⟨am_ii (if_neg (fun z => c43b (((hl 1 (e13.mp c13) (by omega)).2.2 117 (by omega)).mpr z.2.2.1))).symm, rfl⟩
    · refine Z_jump 1 rfl ?_
      show Zs _ _ (am_P 61).2 (47, [(0, .ref 1), (1, .retAddr 9), (2, .int (0 : Int32))], [.int (0 : Int32)]) (HH I J R T) _
      refine Z_rI rfl (by first | exact am_nw0 _ | exact am_nw01 | rfl | assumption) ?_
      exact ⟨am_ii (if_neg (fun z => c43 (((hl 0 (e13.mp c13) (by omega)).2.2 115 (by omega)).mpr z.2.1))).symm, rfl⟩
  · refine Z_jump 1 rfl ?_
    show Zs _ _ (am_P 61).2 (17, [(0, .ref 1), (1, .retAddr 9)], [.int (0 : Int32)]) (HH I J R T) _
    refine Z_rI rfl (by first | exact am_nw0 _ | exact am_nw01 | rfl | assumption) ?_
    exact ⟨am_ii (if_neg (fun z => c13 (e13.mpr z.1))).symm, rfl⟩
theorem w_len10 : am_E sc (d + 5) 229 [.retAddr 10] h (some (.int 5)) h := E_run 20 rfl
theorem c_wC {s : Nat} (hK : CTK tx c s I) : am_E sc (d + 6) 61 [.ref 1, .retAddr 10] (HH I J R T) (some (.int (if wC tx s (tE tx c s) then 1 else 0))) (HH I J R T) := by
  refine E_Z (Ze_of (Nat.le_of_ble_eq_true rfl) ?_)
  have hc := hK.1.2.1
  have hE := tE_c (tx := tx) hK.2.1
  have e8 : I 1 4 - I 1 3 = nI (tE tx c s - s) := by rw [hK.2.2.1, hK.2.2.2.1]; exact nI_subI hE.1
  have e13 : nI (tE tx c s - s) = 5 ↔ tE tx c s = s + 5 := by rw [show (5 : Int32) = nI 5 from rfl, nI_eq (by omega) (by omega)]; omega
  have hl : ∀ j, tE tx c s = s + 5 → j < 5 → I 1 3 + nI j = nI (s + j) ∧ s + j < 160 ∧ ∀ t, t ≤ 255 → (I 2 (s + j) = nI t ↔ tx (s + j) = t) := fun j hj1 hj2 => by
    have hj : s + j < c := by omega
    have h255 := hK.1.2.2.2 _ hj
    refine ⟨by rw [hK.2.2.1]; exact nI_add s j, by omega, fun t ht => ?_⟩
    rw [hK.1.2.2.1 _ hj]
    exact nI_eq (by omega) (by omega)
  refine Z_jump 5 rfl ?_
  show Zs _ _ (am_P 61).2 (9, [(0, .ref 1), (1, .retAddr 10)], [.int ((I 1 4) - (I 1 3))]) (HH I J R T) _
  refine Z_eqI (e8) ?_
  show Zs _ _ (am_P 61).2 (9, [(0, .ref 1), (1, .retAddr 10)], [.int (nI (tE tx c s - s))]) (HH I J R T) _
  refine Z_jump 1 rfl ?_
  show Zs _ _ (am_P 61).2 (10, [(0, .ref 1), (1, .retAddr 10)], [.retAddr 10, .int (nI (tE tx c s - s))]) (HH I J R T) _
  refine Z_c1 rfl rfl rfl (w_len10) ?_
  show Zs _ _ (am_P 61).2 (13, [(0, .ref 1), (1, .retAddr 10)], [.int (5 : Int32), .int (nI (tE tx c s - s))]) (HH I J R T) _
  refine Z_jump 1 rfl ?_
  refine Z_bd (fun (c13 : (nI (tE tx c s - s)) = (5 : Int32)) => ?_) (fun (c13 : ¬ ((nI (tE tx c s - s)) = (5 : Int32))) => ?_)
  · refine Z_jump 4 rfl ?_
    show Zs _ _ (am_P 61).2 (22, [(0, .ref 1), (1, .retAddr 10), (2, .int (0 : Int32))], [.retAddr 10, .int (0 : Int32)]) (HH I J R T) _
    refine Z_c1 rfl rfl rfl (w_len10) ?_
    show Zs _ _ (am_P 61).2 (25, [(0, .ref 1), (1, .retAddr 10), (2, .int (0 : Int32))], [.int (5 : Int32), .int (0 : Int32)]) (HH I J R T) _
    refine Z_jump 6 rfl ?_
    show Zs _ _ (am_P 61).2 (35, [(0, .ref 1), (1, .retAddr 10), (2, .int (0 : Int32))], [.int ((I 1 3) + (0 : Int32)), .ref 1]) (HH I J R T) _
    refine Z_c1 rfl rfl rfl (c_letterAt (hl 0 (e13.mp c13) (by omega)).1 (hl 0 (e13.mp c13) (by omega)).2.1) ?_
    show Zs _ _ (am_P 61).2 (38, [(0, .ref 1), (1, .retAddr 10), (2, .int (0 : Int32))], [.int (I 2 (s + 0))]) (HH I J R T) _
    refine Z_jump 2 rfl ?_
    show Zs _ _ (am_P 61).2 (40, [(0, .ref 1), (1, .retAddr 10), (2, .int (0 : Int32))], [.int (0 : Int32), .retAddr 10, .int (I 2 (s + 0))]) (HH I J R T) _
    refine Z_c1 rfl rfl rfl ((E_run 60 rfl)) ?_
    show Zs _ _ (am_P 61).2 (43, [(0, .ref 1), (1, .retAddr 10), (2, .int (0 : Int32))], [.int (99 : Int32), .int (I 2 (s + 0))]) (HH I J R T) _
    refine Z_jump 1 rfl ?_
    refine Z_bd (fun (c43 : (I 2 (s + 0)) = (99 : Int32)) => ?_) (fun (c43 : ¬ ((I 2 (s + 0)) = (99 : Int32))) => ?_)
    · refine Z_jump 4 rfl ?_
      show Zs _ _ (am_P 61).2 (22, [(0, .ref 1), (1, .retAddr 10), (2, .int (1 : Int32))], [.retAddr 10, .int (1 : Int32)]) (HH I J R T) _
      refine Z_c1 rfl rfl rfl (w_len10) ?_
      show Zs _ _ (am_P 61).2 (25, [(0, .ref 1), (1, .retAddr 10), (2, .int (1 : Int32))], [.int (5 : Int32), .int (1 : Int32)]) (HH I J R T) _
      refine Z_jump 6 rfl ?_
      show Zs _ _ (am_P 61).2 (35, [(0, .ref 1), (1, .retAddr 10), (2, .int (1 : Int32))], [.int ((I 1 3) + (1 : Int32)), .ref 1]) (HH I J R T) _
      refine Z_c1 rfl rfl rfl (c_letterAt (hl 1 (e13.mp c13) (by omega)).1 (hl 1 (e13.mp c13) (by omega)).2.1) ?_
      show Zs _ _ (am_P 61).2 (38, [(0, .ref 1), (1, .retAddr 10), (2, .int (1 : Int32))], [.int (I 2 (s + 1))]) (HH I J R T) _
      refine Z_jump 2 rfl ?_
      show Zs _ _ (am_P 61).2 (40, [(0, .ref 1), (1, .retAddr 10), (2, .int (1 : Int32))], [.int (1 : Int32), .retAddr 10, .int (I 2 (s + 1))]) (HH I J R T) _
      refine Z_c1 rfl rfl rfl ((E_run 60 rfl)) ?_
      show Zs _ _ (am_P 61).2 (43, [(0, .ref 1), (1, .retAddr 10), (2, .int (1 : Int32))], [.int (108 : Int32), .int (I 2 (s + 1))]) (HH I J R T) _
      refine Z_jump 1 rfl ?_
      refine Z_bd (fun (c43b : (I 2 (s + 1)) = (108 : Int32)) => ?_) (fun (c43b : ¬ ((I 2 (s + 1)) = (108 : Int32))) => ?_)
      · refine Z_jump 4 rfl ?_
        show Zs _ _ (am_P 61).2 (22, [(0, .ref 1), (1, .retAddr 10), (2, .int (2 : Int32))], [.retAddr 10, .int (2 : Int32)]) (HH I J R T) _
        refine Z_c1 rfl rfl rfl (w_len10) ?_
        show Zs _ _ (am_P 61).2 (25, [(0, .ref 1), (1, .retAddr 10), (2, .int (2 : Int32))], [.int (5 : Int32), .int (2 : Int32)]) (HH I J R T) _
        refine Z_jump 6 rfl ?_
        show Zs _ _ (am_P 61).2 (35, [(0, .ref 1), (1, .retAddr 10), (2, .int (2 : Int32))], [.int ((I 1 3) + (2 : Int32)), .ref 1]) (HH I J R T) _
        refine Z_c1 rfl rfl rfl (c_letterAt (hl 2 (e13.mp c13) (by omega)).1 (hl 2 (e13.mp c13) (by omega)).2.1) ?_
        show Zs _ _ (am_P 61).2 (38, [(0, .ref 1), (1, .retAddr 10), (2, .int (2 : Int32))], [.int (I 2 (s + 2))]) (HH I J R T) _
        refine Z_jump 2 rfl ?_
        show Zs _ _ (am_P 61).2 (40, [(0, .ref 1), (1, .retAddr 10), (2, .int (2 : Int32))], [.int (2 : Int32), .retAddr 10, .int (I 2 (s + 2))]) (HH I J R T) _
        refine Z_c1 rfl rfl rfl ((E_run 60 rfl)) ?_
        show Zs _ _ (am_P 61).2 (43, [(0, .ref 1), (1, .retAddr 10), (2, .int (2 : Int32))], [.int (101 : Int32), .int (I 2 (s + 2))]) (HH I J R T) _
        refine Z_jump 1 rfl ?_
        refine Z_bd (fun (c43c : (I 2 (s + 2)) = (101 : Int32)) => ?_) (fun (c43c : ¬ ((I 2 (s + 2)) = (101 : Int32))) => ?_)
        · refine Z_jump 4 rfl ?_
          show Zs _ _ (am_P 61).2 (22, [(0, .ref 1), (1, .retAddr 10), (2, .int (3 : Int32))], [.retAddr 10, .int (3 : Int32)]) (HH I J R T) _
          refine Z_c1 rfl rfl rfl (w_len10) ?_
          show Zs _ _ (am_P 61).2 (25, [(0, .ref 1), (1, .retAddr 10), (2, .int (3 : Int32))], [.int (5 : Int32), .int (3 : Int32)]) (HH I J R T) _
          refine Z_jump 6 rfl ?_
          show Zs _ _ (am_P 61).2 (35, [(0, .ref 1), (1, .retAddr 10), (2, .int (3 : Int32))], [.int ((I 1 3) + (3 : Int32)), .ref 1]) (HH I J R T) _
          refine Z_c1 rfl rfl rfl (c_letterAt (hl 3 (e13.mp c13) (by omega)).1 (hl 3 (e13.mp c13) (by omega)).2.1) ?_
          show Zs _ _ (am_P 61).2 (38, [(0, .ref 1), (1, .retAddr 10), (2, .int (3 : Int32))], [.int (I 2 (s + 3))]) (HH I J R T) _
          refine Z_jump 2 rfl ?_
          show Zs _ _ (am_P 61).2 (40, [(0, .ref 1), (1, .retAddr 10), (2, .int (3 : Int32))], [.int (3 : Int32), .retAddr 10, .int (I 2 (s + 3))]) (HH I J R T) _
          refine Z_c1 rfl rfl rfl ((E_run 60 rfl)) ?_
          show Zs _ _ (am_P 61).2 (43, [(0, .ref 1), (1, .retAddr 10), (2, .int (3 : Int32))], [.int (97 : Int32), .int (I 2 (s + 3))]) (HH I J R T) _
          refine Z_jump 1 rfl ?_
          refine Z_bd (fun (c43d : (I 2 (s + 3)) = (97 : Int32)) => ?_) (fun (c43d : ¬ ((I 2 (s + 3)) = (97 : Int32))) => ?_)
          · refine Z_jump 4 rfl ?_
            show Zs _ _ (am_P 61).2 (22, [(0, .ref 1), (1, .retAddr 10), (2, .int (4 : Int32))], [.retAddr 10, .int (4 : Int32)]) (HH I J R T) _
            refine Z_c1 rfl rfl rfl (w_len10) ?_
            show Zs _ _ (am_P 61).2 (25, [(0, .ref 1), (1, .retAddr 10), (2, .int (4 : Int32))], [.int (5 : Int32), .int (4 : Int32)]) (HH I J R T) _
            refine Z_jump 6 rfl ?_
            show Zs _ _ (am_P 61).2 (35, [(0, .ref 1), (1, .retAddr 10), (2, .int (4 : Int32))], [.int ((I 1 3) + (4 : Int32)), .ref 1]) (HH I J R T) _
            refine Z_c1 rfl rfl rfl (c_letterAt (hl 4 (e13.mp c13) (by omega)).1 (hl 4 (e13.mp c13) (by omega)).2.1) ?_
            show Zs _ _ (am_P 61).2 (38, [(0, .ref 1), (1, .retAddr 10), (2, .int (4 : Int32))], [.int (I 2 (s + 4))]) (HH I J R T) _
            refine Z_jump 2 rfl ?_
            show Zs _ _ (am_P 61).2 (40, [(0, .ref 1), (1, .retAddr 10), (2, .int (4 : Int32))], [.int (4 : Int32), .retAddr 10, .int (I 2 (s + 4))]) (HH I J R T) _
            refine Z_c1 rfl rfl rfl ((E_run 60 rfl)) ?_
            show Zs _ _ (am_P 61).2 (43, [(0, .ref 1), (1, .retAddr 10), (2, .int (4 : Int32))], [.int (114 : Int32), .int (I 2 (s + 4))]) (HH I J R T) _
            refine Z_jump 1 rfl ?_
            refine Z_bd (fun (c43e : (I 2 (s + 4)) = (114 : Int32)) => ?_) (fun (c43e : ¬ ((I 2 (s + 4)) = (114 : Int32))) => ?_)
            · refine Z_jump 4 rfl ?_
              show Zs _ _ (am_P 61).2 (22, [(0, .ref 1), (1, .retAddr 10), (2, .int (5 : Int32))], [.retAddr 10, .int (5 : Int32)]) (HH I J R T) _
              refine Z_c1 rfl rfl rfl (w_len10) ?_
              show Zs _ _ (am_P 61).2 (25, [(0, .ref 1), (1, .retAddr 10), (2, .int (5 : Int32))], [.int (5 : Int32), .int (5 : Int32)]) (HH I J R T) _
              refine Z_jump 2 rfl ?_
              show Zs _ _ (am_P 61).2 (55, [(0, .ref 1), (1, .retAddr 10), (2, .int (5 : Int32))], [.int (1 : Int32)]) (HH I J R T) _
              refine Z_rI rfl (by first | exact am_nw0 _ | exact am_nw01 | rfl | assumption) ?_
              exact ⟨am_ii (if_pos ⟨e13.mp c13, ((hl 0 (e13.mp c13) (by omega)).2.2 99 (by omega)).mp c43, ((hl 1 (e13.mp c13) (by omega)).2.2 108 (by omega)).mp c43b, ((hl 2 (e13.mp c13) (by omega)).2.2 101 (by omega)).mp c43c, ((hl 3 (e13.mp c13) (by omega)).2.2 97 (by omega)).mp c43d, ((hl 4 (e13.mp c13) (by omega)).2.2 114 (by omega)).mp c43e⟩).symm, rfl⟩
            · refine Z_jump 1 rfl ?_
              show Zs _ _ (am_P 61).2 (47, [(0, .ref 1), (1, .retAddr 10), (2, .int (4 : Int32))], [.int (0 : Int32)]) (HH I J R T) _
              refine Z_rI rfl (by first | exact am_nw0 _ | exact am_nw01 | rfl | assumption) ?_
              exact ⟨am_ii (if_neg (fun z => c43e (((hl 4 (e13.mp c13) (by omega)).2.2 114 (by omega)).mpr z.2.2.2.2.2))).symm, rfl⟩
          · refine Z_jump 1 rfl ?_
            show Zs _ _ (am_P 61).2 (47, [(0, .ref 1), (1, .retAddr 10), (2, .int (3 : Int32))], [.int (0 : Int32)]) (HH I J R T) _
            refine Z_rI rfl (by first | exact am_nw0 _ | exact am_nw01 | rfl | assumption) ?_
            exact ⟨am_ii (if_neg (fun z => c43d (((hl 3 (e13.mp c13) (by omega)).2.2 97 (by omega)).mpr z.2.2.2.2.1))).symm, rfl⟩
        · refine Z_jump 1 rfl ?_
          show Zs _ _ (am_P 61).2 (47, [(0, .ref 1), (1, .retAddr 10), (2, .int (2 : Int32))], [.int (0 : Int32)]) (HH I J R T) _
          refine Z_rI rfl (by first | exact am_nw0 _ | exact am_nw01 | rfl | assumption) ?_
          exact ⟨am_ii (if_neg (fun z => c43c (((hl 2 (e13.mp c13) (by omega)).2.2 101 (by omega)).mpr z.2.2.2.1))).symm, rfl⟩
      · refine Z_jump 1 rfl ?_
        show Zs _ _ (am_P 61).2 (47, [(0, .ref 1), (1, .retAddr 10), (2, .int (1 : Int32))], [.int (0 : Int32)]) (HH I J R T) _
        refine Z_rI rfl (by first | exact am_nw0 _ | exact am_nw01 | rfl | assumption) ?_
        exact ⟨am_ii (if_neg (fun z => c43b (((hl 1 (e13.mp c13) (by omega)).2.2 108 (by omega)).mpr z.2.2.1))).symm, rfl⟩
    · refine Z_jump 1 rfl ?_
      show Zs _ _ (am_P 61).2 (47, [(0, .ref 1), (1, .retAddr 10), (2, .int (0 : Int32))], [.int (0 : Int32)]) (HH I J R T) _
      refine Z_rI rfl (by first | exact am_nw0 _ | exact am_nw01 | rfl | assumption) ?_
      exact ⟨am_ii (if_neg (fun z => c43 (((hl 0 (e13.mp c13) (by omega)).2.2 99 (by omega)).mpr z.2.1))).symm, rfl⟩
  · refine Z_jump 1 rfl ?_
    show Zs _ _ (am_P 61).2 (17, [(0, .ref 1), (1, .retAddr 10)], [.int (0 : Int32)]) (HH I J R T) _
    refine Z_rI rfl (by first | exact am_nw0 _ | exact am_nw01 | rfl | assumption) ?_
    exact ⟨am_ii (if_neg (fun z => c13 (e13.mpr z.1))).symm, rfl⟩
theorem w_len11 : am_E sc (d + 5) 229 [.retAddr 11] h (some (.int 5)) h := E_run 20 rfl
theorem c_wY {s : Nat} (hK : CTK tx c s I) : am_E sc (d + 6) 61 [.ref 1, .retAddr 11] (HH I J R T) (some (.int (if wY tx s (tE tx c s) then 1 else 0))) (HH I J R T) := by
  refine E_Z (Ze_of (Nat.le_of_ble_eq_true rfl) ?_)
  have hc := hK.1.2.1
  have hE := tE_c (tx := tx) hK.2.1
  have e8 : I 1 4 - I 1 3 = nI (tE tx c s - s) := by rw [hK.2.2.1, hK.2.2.2.1]; exact nI_subI hE.1
  have e13 : nI (tE tx c s - s) = 5 ↔ tE tx c s = s + 5 := by rw [show (5 : Int32) = nI 5 from rfl, nI_eq (by omega) (by omega)]; omega
  have hl : ∀ j, tE tx c s = s + 5 → j < 5 → I 1 3 + nI j = nI (s + j) ∧ s + j < 160 ∧ ∀ t, t ≤ 255 → (I 2 (s + j) = nI t ↔ tx (s + j) = t) := fun j hj1 hj2 => by
    have hj : s + j < c := by omega
    have h255 := hK.1.2.2.2 _ hj
    refine ⟨by rw [hK.2.2.1]; exact nI_add s j, by omega, fun t ht => ?_⟩
    rw [hK.1.2.2.1 _ hj]
    exact nI_eq (by omega) (by omega)
  refine Z_jump 5 rfl ?_
  show Zs _ _ (am_P 61).2 (9, [(0, .ref 1), (1, .retAddr 11)], [.int ((I 1 4) - (I 1 3))]) (HH I J R T) _
  refine Z_eqI (e8) ?_
  show Zs _ _ (am_P 61).2 (9, [(0, .ref 1), (1, .retAddr 11)], [.int (nI (tE tx c s - s))]) (HH I J R T) _
  refine Z_jump 1 rfl ?_
  show Zs _ _ (am_P 61).2 (10, [(0, .ref 1), (1, .retAddr 11)], [.retAddr 11, .int (nI (tE tx c s - s))]) (HH I J R T) _
  refine Z_c1 rfl rfl rfl (w_len11) ?_
  show Zs _ _ (am_P 61).2 (13, [(0, .ref 1), (1, .retAddr 11)], [.int (5 : Int32), .int (nI (tE tx c s - s))]) (HH I J R T) _
  refine Z_jump 1 rfl ?_
  refine Z_bd (fun (c13 : (nI (tE tx c s - s)) = (5 : Int32)) => ?_) (fun (c13 : ¬ ((nI (tE tx c s - s)) = (5 : Int32))) => ?_)
  · refine Z_jump 4 rfl ?_
    show Zs _ _ (am_P 61).2 (22, [(0, .ref 1), (1, .retAddr 11), (2, .int (0 : Int32))], [.retAddr 11, .int (0 : Int32)]) (HH I J R T) _
    refine Z_c1 rfl rfl rfl (w_len11) ?_
    show Zs _ _ (am_P 61).2 (25, [(0, .ref 1), (1, .retAddr 11), (2, .int (0 : Int32))], [.int (5 : Int32), .int (0 : Int32)]) (HH I J R T) _
    refine Z_jump 6 rfl ?_
    show Zs _ _ (am_P 61).2 (35, [(0, .ref 1), (1, .retAddr 11), (2, .int (0 : Int32))], [.int ((I 1 3) + (0 : Int32)), .ref 1]) (HH I J R T) _
    refine Z_c1 rfl rfl rfl (c_letterAt (hl 0 (e13.mp c13) (by omega)).1 (hl 0 (e13.mp c13) (by omega)).2.1) ?_
    show Zs _ _ (am_P 61).2 (38, [(0, .ref 1), (1, .retAddr 11), (2, .int (0 : Int32))], [.int (I 2 (s + 0))]) (HH I J R T) _
    refine Z_jump 2 rfl ?_
    show Zs _ _ (am_P 61).2 (40, [(0, .ref 1), (1, .retAddr 11), (2, .int (0 : Int32))], [.int (0 : Int32), .retAddr 11, .int (I 2 (s + 0))]) (HH I J R T) _
    refine Z_c1 rfl rfl rfl ((E_run 60 rfl)) ?_
    show Zs _ _ (am_P 61).2 (43, [(0, .ref 1), (1, .retAddr 11), (2, .int (0 : Int32))], [.int (99 : Int32), .int (I 2 (s + 0))]) (HH I J R T) _
    refine Z_jump 1 rfl ?_
    refine Z_bd (fun (c43 : (I 2 (s + 0)) = (99 : Int32)) => ?_) (fun (c43 : ¬ ((I 2 (s + 0)) = (99 : Int32))) => ?_)
    · refine Z_jump 4 rfl ?_
      show Zs _ _ (am_P 61).2 (22, [(0, .ref 1), (1, .retAddr 11), (2, .int (1 : Int32))], [.retAddr 11, .int (1 : Int32)]) (HH I J R T) _
      refine Z_c1 rfl rfl rfl (w_len11) ?_
      show Zs _ _ (am_P 61).2 (25, [(0, .ref 1), (1, .retAddr 11), (2, .int (1 : Int32))], [.int (5 : Int32), .int (1 : Int32)]) (HH I J R T) _
      refine Z_jump 6 rfl ?_
      show Zs _ _ (am_P 61).2 (35, [(0, .ref 1), (1, .retAddr 11), (2, .int (1 : Int32))], [.int ((I 1 3) + (1 : Int32)), .ref 1]) (HH I J R T) _
      refine Z_c1 rfl rfl rfl (c_letterAt (hl 1 (e13.mp c13) (by omega)).1 (hl 1 (e13.mp c13) (by omega)).2.1) ?_
      show Zs _ _ (am_P 61).2 (38, [(0, .ref 1), (1, .retAddr 11), (2, .int (1 : Int32))], [.int (I 2 (s + 1))]) (HH I J R T) _
      refine Z_jump 2 rfl ?_
      show Zs _ _ (am_P 61).2 (40, [(0, .ref 1), (1, .retAddr 11), (2, .int (1 : Int32))], [.int (1 : Int32), .retAddr 11, .int (I 2 (s + 1))]) (HH I J R T) _
      refine Z_c1 rfl rfl rfl ((E_run 60 rfl)) ?_
      show Zs _ _ (am_P 61).2 (43, [(0, .ref 1), (1, .retAddr 11), (2, .int (1 : Int32))], [.int (97 : Int32), .int (I 2 (s + 1))]) (HH I J R T) _
      refine Z_jump 1 rfl ?_
      refine Z_bd (fun (c43b : (I 2 (s + 1)) = (97 : Int32)) => ?_) (fun (c43b : ¬ ((I 2 (s + 1)) = (97 : Int32))) => ?_)
      · refine Z_jump 4 rfl ?_
        show Zs _ _ (am_P 61).2 (22, [(0, .ref 1), (1, .retAddr 11), (2, .int (2 : Int32))], [.retAddr 11, .int (2 : Int32)]) (HH I J R T) _
        refine Z_c1 rfl rfl rfl (w_len11) ?_
        show Zs _ _ (am_P 61).2 (25, [(0, .ref 1), (1, .retAddr 11), (2, .int (2 : Int32))], [.int (5 : Int32), .int (2 : Int32)]) (HH I J R T) _
        refine Z_jump 6 rfl ?_
        show Zs _ _ (am_P 61).2 (35, [(0, .ref 1), (1, .retAddr 11), (2, .int (2 : Int32))], [.int ((I 1 3) + (2 : Int32)), .ref 1]) (HH I J R T) _
        refine Z_c1 rfl rfl rfl (c_letterAt (hl 2 (e13.mp c13) (by omega)).1 (hl 2 (e13.mp c13) (by omega)).2.1) ?_
        show Zs _ _ (am_P 61).2 (38, [(0, .ref 1), (1, .retAddr 11), (2, .int (2 : Int32))], [.int (I 2 (s + 2))]) (HH I J R T) _
        refine Z_jump 2 rfl ?_
        show Zs _ _ (am_P 61).2 (40, [(0, .ref 1), (1, .retAddr 11), (2, .int (2 : Int32))], [.int (2 : Int32), .retAddr 11, .int (I 2 (s + 2))]) (HH I J R T) _
        refine Z_c1 rfl rfl rfl ((E_run 60 rfl)) ?_
        show Zs _ _ (am_P 61).2 (43, [(0, .ref 1), (1, .retAddr 11), (2, .int (2 : Int32))], [.int (114 : Int32), .int (I 2 (s + 2))]) (HH I J R T) _
        refine Z_jump 1 rfl ?_
        refine Z_bd (fun (c43c : (I 2 (s + 2)) = (114 : Int32)) => ?_) (fun (c43c : ¬ ((I 2 (s + 2)) = (114 : Int32))) => ?_)
        · refine Z_jump 4 rfl ?_
          show Zs _ _ (am_P 61).2 (22, [(0, .ref 1), (1, .retAddr 11), (2, .int (3 : Int32))], [.retAddr 11, .int (3 : Int32)]) (HH I J R T) _
          refine Z_c1 rfl rfl rfl (w_len11) ?_
          show Zs _ _ (am_P 61).2 (25, [(0, .ref 1), (1, .retAddr 11), (2, .int (3 : Int32))], [.int (5 : Int32), .int (3 : Int32)]) (HH I J R T) _
          refine Z_jump 6 rfl ?_
          show Zs _ _ (am_P 61).2 (35, [(0, .ref 1), (1, .retAddr 11), (2, .int (3 : Int32))], [.int ((I 1 3) + (3 : Int32)), .ref 1]) (HH I J R T) _
          refine Z_c1 rfl rfl rfl (c_letterAt (hl 3 (e13.mp c13) (by omega)).1 (hl 3 (e13.mp c13) (by omega)).2.1) ?_
          show Zs _ _ (am_P 61).2 (38, [(0, .ref 1), (1, .retAddr 11), (2, .int (3 : Int32))], [.int (I 2 (s + 3))]) (HH I J R T) _
          refine Z_jump 2 rfl ?_
          show Zs _ _ (am_P 61).2 (40, [(0, .ref 1), (1, .retAddr 11), (2, .int (3 : Int32))], [.int (3 : Int32), .retAddr 11, .int (I 2 (s + 3))]) (HH I J R T) _
          refine Z_c1 rfl rfl rfl ((E_run 60 rfl)) ?_
          show Zs _ _ (am_P 61).2 (43, [(0, .ref 1), (1, .retAddr 11), (2, .int (3 : Int32))], [.int (114 : Int32), .int (I 2 (s + 3))]) (HH I J R T) _
          refine Z_jump 1 rfl ?_
          refine Z_bd (fun (c43d : (I 2 (s + 3)) = (114 : Int32)) => ?_) (fun (c43d : ¬ ((I 2 (s + 3)) = (114 : Int32))) => ?_)
          · refine Z_jump 4 rfl ?_
            show Zs _ _ (am_P 61).2 (22, [(0, .ref 1), (1, .retAddr 11), (2, .int (4 : Int32))], [.retAddr 11, .int (4 : Int32)]) (HH I J R T) _
            refine Z_c1 rfl rfl rfl (w_len11) ?_
            show Zs _ _ (am_P 61).2 (25, [(0, .ref 1), (1, .retAddr 11), (2, .int (4 : Int32))], [.int (5 : Int32), .int (4 : Int32)]) (HH I J R T) _
            refine Z_jump 6 rfl ?_
            show Zs _ _ (am_P 61).2 (35, [(0, .ref 1), (1, .retAddr 11), (2, .int (4 : Int32))], [.int ((I 1 3) + (4 : Int32)), .ref 1]) (HH I J R T) _
            refine Z_c1 rfl rfl rfl (c_letterAt (hl 4 (e13.mp c13) (by omega)).1 (hl 4 (e13.mp c13) (by omega)).2.1) ?_
            show Zs _ _ (am_P 61).2 (38, [(0, .ref 1), (1, .retAddr 11), (2, .int (4 : Int32))], [.int (I 2 (s + 4))]) (HH I J R T) _
            refine Z_jump 2 rfl ?_
            show Zs _ _ (am_P 61).2 (40, [(0, .ref 1), (1, .retAddr 11), (2, .int (4 : Int32))], [.int (4 : Int32), .retAddr 11, .int (I 2 (s + 4))]) (HH I J R T) _
            refine Z_c1 rfl rfl rfl ((E_run 60 rfl)) ?_
            show Zs _ _ (am_P 61).2 (43, [(0, .ref 1), (1, .retAddr 11), (2, .int (4 : Int32))], [.int (121 : Int32), .int (I 2 (s + 4))]) (HH I J R T) _
            refine Z_jump 1 rfl ?_
            refine Z_bd (fun (c43e : (I 2 (s + 4)) = (121 : Int32)) => ?_) (fun (c43e : ¬ ((I 2 (s + 4)) = (121 : Int32))) => ?_)
            · refine Z_jump 4 rfl ?_
              show Zs _ _ (am_P 61).2 (22, [(0, .ref 1), (1, .retAddr 11), (2, .int (5 : Int32))], [.retAddr 11, .int (5 : Int32)]) (HH I J R T) _
              refine Z_c1 rfl rfl rfl (w_len11) ?_
              show Zs _ _ (am_P 61).2 (25, [(0, .ref 1), (1, .retAddr 11), (2, .int (5 : Int32))], [.int (5 : Int32), .int (5 : Int32)]) (HH I J R T) _
              refine Z_jump 2 rfl ?_
              show Zs _ _ (am_P 61).2 (55, [(0, .ref 1), (1, .retAddr 11), (2, .int (5 : Int32))], [.int (1 : Int32)]) (HH I J R T) _
              refine Z_rI rfl (by first | exact am_nw0 _ | exact am_nw01 | rfl | assumption) ?_
              exact ⟨am_ii (if_pos ⟨e13.mp c13, ((hl 0 (e13.mp c13) (by omega)).2.2 99 (by omega)).mp c43, ((hl 1 (e13.mp c13) (by omega)).2.2 97 (by omega)).mp c43b, ((hl 2 (e13.mp c13) (by omega)).2.2 114 (by omega)).mp c43c, ((hl 3 (e13.mp c13) (by omega)).2.2 114 (by omega)).mp c43d, ((hl 4 (e13.mp c13) (by omega)).2.2 121 (by omega)).mp c43e⟩).symm, rfl⟩
            · refine Z_jump 1 rfl ?_
              show Zs _ _ (am_P 61).2 (47, [(0, .ref 1), (1, .retAddr 11), (2, .int (4 : Int32))], [.int (0 : Int32)]) (HH I J R T) _
              refine Z_rI rfl (by first | exact am_nw0 _ | exact am_nw01 | rfl | assumption) ?_
              exact ⟨am_ii (if_neg (fun z => c43e (((hl 4 (e13.mp c13) (by omega)).2.2 121 (by omega)).mpr z.2.2.2.2.2))).symm, rfl⟩
          · refine Z_jump 1 rfl ?_
            show Zs _ _ (am_P 61).2 (47, [(0, .ref 1), (1, .retAddr 11), (2, .int (3 : Int32))], [.int (0 : Int32)]) (HH I J R T) _
            refine Z_rI rfl (by first | exact am_nw0 _ | exact am_nw01 | rfl | assumption) ?_
            exact ⟨am_ii (if_neg (fun z => c43d (((hl 3 (e13.mp c13) (by omega)).2.2 114 (by omega)).mpr z.2.2.2.2.1))).symm, rfl⟩
        · refine Z_jump 1 rfl ?_
          show Zs _ _ (am_P 61).2 (47, [(0, .ref 1), (1, .retAddr 11), (2, .int (2 : Int32))], [.int (0 : Int32)]) (HH I J R T) _
          refine Z_rI rfl (by first | exact am_nw0 _ | exact am_nw01 | rfl | assumption) ?_
          exact ⟨am_ii (if_neg (fun z => c43c (((hl 2 (e13.mp c13) (by omega)).2.2 114 (by omega)).mpr z.2.2.2.1))).symm, rfl⟩
      · refine Z_jump 1 rfl ?_
        show Zs _ _ (am_P 61).2 (47, [(0, .ref 1), (1, .retAddr 11), (2, .int (1 : Int32))], [.int (0 : Int32)]) (HH I J R T) _
        refine Z_rI rfl (by first | exact am_nw0 _ | exact am_nw01 | rfl | assumption) ?_
        exact ⟨am_ii (if_neg (fun z => c43b (((hl 1 (e13.mp c13) (by omega)).2.2 97 (by omega)).mpr z.2.2.1))).symm, rfl⟩
    · refine Z_jump 1 rfl ?_
      show Zs _ _ (am_P 61).2 (47, [(0, .ref 1), (1, .retAddr 11), (2, .int (0 : Int32))], [.int (0 : Int32)]) (HH I J R T) _
      refine Z_rI rfl (by first | exact am_nw0 _ | exact am_nw01 | rfl | assumption) ?_
      exact ⟨am_ii (if_neg (fun z => c43 (((hl 0 (e13.mp c13) (by omega)).2.2 99 (by omega)).mpr z.2.1))).symm, rfl⟩
  · refine Z_jump 1 rfl ?_
    show Zs _ _ (am_P 61).2 (17, [(0, .ref 1), (1, .retAddr 11)], [.int (0 : Int32)]) (HH I J R T) _
    refine Z_rI rfl (by first | exact am_nw0 _ | exact am_nw01 | rfl | assumption) ?_
    exact ⟨am_ii (if_neg (fun z => c13 (e13.mpr z.1))).symm, rfl⟩
/-- a number that fits -/
abbrev TN (tx : Nat → Nat) (c s md : Nat) (lo hi : Int) : Prop := dg tx c s ∧ tE tx c s - s ≤ md ∧ lo ≤ (nv tx s (tE tx c s) : Int) ∧ (nv tx s (tE tx c s) : Int) ≤ hi
theorem tE_D {s : Nat} (hd : dg tx c s) : tE tx c s = ru pDb tx c (s + 1) := by
  unfold tE
  rw [if_pos hd.1, if_neg (by have := hd.2; omega), if_pos hd.2]
theorem dgs {s j : Nat} (hd : dg tx c s) (h1 : s ≤ j) (h2 : j < tE tx c s) : pD (tx j) := by
  by_cases e : j = s
  · rw [e]; exact hd.2
  · rw [tE_D hd] at h2
    exact of_decide_eq_true (ru_all (p := pDb) (show s + 1 ≤ j by omega) h2)
theorem nv_lt {s md : Nat} (hd : dg tx c s) (hm : tE tx c s - s ≤ md) (h7 : md ≤ 7) : nv tx s (tE tx c s) < 10000000 := by
  unfold nv
  refine Nat.lt_of_lt_of_le (nvl_lt tx (tE tx c s - s) s 0 (fun j h1 h2 => dgs hd h1 (by omega))) ?_
  have : 10 ^ (tE tx c s - s) ≤ 10 ^ 7 := Nat.pow_le_pow_right (by omega) (by omega)
  omega
theorem dig10 {a t : Nat} (h : 48 ≤ t) : nI a * 10 + (nI t - 48) = nI (a * 10 + (t - 48)) := by
  rw [show nI t - 48 = nI (t - 48) from nI_subI h, ← nI_add]
  congr 1
  exact (Int32.ofNat_mul a 10).symm
theorem c_take_l {s e : Nat} {m lo hi : Int32} (hK : CTK tx c s I) (he : e = tE tx c s) (hd : dg tx c s) : ∀ (k i a : Nat) (x : Int32), i + k = e → s ≤ i → x = nI i → Zs sc (d + 2) (am_P 62).2 (80, [(0, .ref 1), (1, .int m), (2, .int lo), (3, .int hi), (4, .int 1), (5, .int (nI (nvl tx i a k))), (6, .int (nI e))], []) (HH I J R T) Q → Zs sc (d + 2) (am_P 62).2 (43, [(0, .ref 1), (1, .int m), (2, .int lo), (3, .int hi), (4, .int 1), (5, .int (nI a)), (6, .int x)], []) (HH I J R T) Q
  | 0, i, a, x, hk, hi, hx, K => by
    have hc := hK.1.2.1
    have hE := tE_c (tx := tx) hK.2.1
    have e1 : i = e := by omega
    subst e1
    rw [← hx] at K
    refine Z_jump 4 rfl ?_
    refine Z_bd (fun c49 => ?_) (fun c49 => absurd ((show I 1 4 ≤ x by rw [hK.2.2.2.1, hx]; exact nI_le (by omega) (by omega))) c49)
    show Zs _ _ (am_P 62).2 (80, [(0, .ref 1), (1, .int m), (2, .int lo), (3, .int hi), (4, .int (1 : Int32)), (5, .int (nI a)), (6, .int x)], []) (HH I J R T) _
    exact K
  | k + 1, i, a, x, hk, hi, hx, K => by
    have hc := hK.1.2.1
    have hE := tE_c (tx := tx) hK.2.1
    have hic : i < c := by omega
    have hp := dgs (j := i) hd hi (by omega)
    have ea : nI a * 10 + (I 2 i - 48) = nI (a * 10 + (tx i - 48)) := by rw [hK.1.2.2.1 i hic]; exact dig10 hp.1
    refine Z_jump 4 rfl ?_
    refine Z_bd (fun c49 => absurd c49 ((show ¬ I 1 4 ≤ x by rw [hK.2.2.2.1, hx]; exact nI_ge (by omega) (by omega)))) (fun c49 => ?_)
    refine Z_jump 7 rfl ?_
    show Zs _ _ (am_P 62).2 (65, [(0, .ref 1), (1, .int m), (2, .int lo), (3, .int hi), (4, .int (1 : Int32)), (5, .int (nI a)), (6, .int x)], [.int x, .ref 1, .int ((nI a) * (10 : Int32))]) (HH I J R T) _
    refine Z_c1 rfl rfl rfl (c_letterAt hx (by omega)) ?_
    show Zs _ _ (am_P 62).2 (68, [(0, .ref 1), (1, .int m), (2, .int lo), (3, .int hi), (4, .int (1 : Int32)), (5, .int (nI a)), (6, .int x)], [.int (I 2 i), .int ((nI a) * (10 : Int32))]) (HH I J R T) _
    refine Z_jump 3 rfl ?_
    show Zs _ _ (am_P 62).2 (72, [(0, .ref 1), (1, .int m), (2, .int lo), (3, .int hi), (4, .int (1 : Int32)), (5, .int (nI a)), (6, .int x)], [.int (((nI a) * (10 : Int32)) + ((I 2 i) - (48 : Int32)))]) (HH I J R T) _
    refine Z_eqI (ea) ?_
    show Zs _ _ (am_P 62).2 (72, [(0, .ref 1), (1, .int m), (2, .int lo), (3, .int hi), (4, .int (1 : Int32)), (5, .int (nI a)), (6, .int x)], [.int (nI (a * 10 + (tx i - 48)))]) (HH I J R T) _
    refine Z_jump 3 rfl ?_
    show Zs _ _ (am_P 62).2 (43, [(0, .ref 1), (1, .int m), (2, .int lo), (3, .int hi), (4, .int (1 : Int32)), (5, .int (nI (a * 10 + (tx i - 48)))), (6, .int (x + 1))], []) (HH I J R T) _
    exact c_take_l hK he hd k (i + 1) (a * 10 + (tx i - 48)) _ (by omega) (by omega) (by rw [hx]; exact nI_1 i) K
/-- what takeNumber leaves, from a sound text -/
def TNq (tx : Nat → Nat) (c s md : Nat) (lo hi : Int) (I : hI) (J : hJ) (R : hR) (T : am_H) (r : Option Value) (h : am_H) : Prop :=
  (TN tx c s md lo hi ∧ r = some (.int (nI (nv tx s (tE tx c s)))) ∧ ∃ I', h = HH I' J R T ∧ CTK tx c (tS tx c (tE tx c s)) I' ∧ CTo I I' ∧ I' 1 2 = -1) ∨ (¬ TN tx c s md lo hi ∧ r = some (.int 0) ∧ h = HH (sf I 1 2 (nI s)) J R T)
theorem c_take {s md : Nat} {m lo hi : Int32} (hK : CTK tx c s I) (h2 : I 1 2 = -1) (hm : m = nI md) (h7 : md ≤ 7) : Ze sc (d + 3) 62 [.ref 1, .int m, .int lo, .int hi] (HH I J R T) (TNq tx c s md lo.toInt hi.toInt I J R T) := by
  refine Ze_of (Nat.le_of_ble_eq_true rfl) ?_
  have hc := hK.1.2.1
  have hE := tE_c (tx := tx) hK.2.1
  have e22 : I 1 4 - I 1 3 = nI (tE tx c s - s) := by rw [hK.2.2.1, hK.2.2.2.1]; exact nI_subI hE.1
  have e24 : m < nI (tE tx c s - s) ↔ md < tE tx c s - s := by rw [hm]; exact nI_ltI (by omega) (by omega)
  have hf : am_E sc (d + 2) 58 [.ref 1] (HH I J R T) none (HH (sf I 1 2 (nI s)) J R T) := by
    have w := c_fail (sc := sc) (d := d + 1) (J := J) (R := R) (T := T) hK.2.2.1
    rw [if_pos h2] at w
    exact w
  have hso : am_E sc (d + 2) 57 [.ref 1] (HH I J R T) (some (.int 1)) (HH I J R T) := by
    have w := c_isSound (sc := sc) (d := d + 1) (I := I) (J := J) (R := R) (T := T)
    rw [if_pos h2] at w
    exact w
  by_cases hd : dg tx c s
  · by_cases hmd : tE tx c s - s ≤ md
    · have hlt := nv_lt hd hmd h7
      have en : (nI (nv tx s (tE tx c s))).toInt = (nv tx s (tE tx c s) : Int) := nI_toInt (by omega)
      refine Z_jump 1 rfl ?_
      show Zs _ _ (am_P 62).2 (1, [(0, .ref 1), (1, .int m), (2, .int lo), (3, .int hi)], [.ref 1]) (HH I J R T) _
      refine Z_c1 rfl rfl rfl (hso) ?_
      show Zs _ _ (am_P 62).2 (4, [(0, .ref 1), (1, .int m), (2, .int lo), (3, .int hi)], [.int (1 : Int32)]) (HH I J R T) _
      refine Z_jump 3 rfl ?_
      show Zs _ _ (am_P 62).2 (11, [(0, .ref 1), (1, .int m), (2, .int lo), (3, .int hi)], [.int (I 1 5)]) (HH I J R T) _
      refine Z_eqI ((hK.2.2.2.2).trans (if_pos hd)) ?_
      show Zs _ _ (am_P 62).2 (11, [(0, .ref 1), (1, .int m), (2, .int lo), (3, .int hi)], [.int (1 : Int32)]) (HH I J R T) _
      refine Z_jump 6 rfl ?_
      show Zs _ _ (am_P 62).2 (23, [(0, .ref 1), (1, .int m), (2, .int lo), (3, .int hi)], [.int ((I 1 4) - (I 1 3))]) (HH I J R T) _
      refine Z_eqI (e22) ?_
      show Zs _ _ (am_P 62).2 (23, [(0, .ref 1), (1, .int m), (2, .int lo), (3, .int hi)], [.int (nI (tE tx c s - s))]) (HH I J R T) _
      refine Z_jump 2 rfl ?_
      refine Z_bd (fun c24 => absurd c24 ((fun z => absurd (e24.mp z) (by omega)))) (fun c24 => ?_)
      refine Z_jump 8 rfl ?_
      show Zs _ _ (am_P 62).2 (43, [(0, .ref 1), (1, .int m), (2, .int lo), (3, .int hi), (4, .int (1 : Int32)), (5, .int (0 : Int32)), (6, .int (I 1 3))], []) (HH I J R T) _
      refine c_take_l (a := 0) hK rfl hd (tE tx c s - s) s _ (by omega) (Nat.le_refl s) hK.2.2.1 ?_
      refine Z_jump 5 rfl ?_
      refine Z_bd (fun (c88 : (nI (nv tx s (tE tx c s))) < lo) => ?_) (fun (c88 : ¬ ((nI (nv tx s (tE tx c s))) < lo)) => ?_)
      · refine Z_jump 1 rfl ?_
        show Zs _ _ (am_P 62).2 (98, [(0, .ref 1), (1, .int m), (2, .int lo), (3, .int hi), (4, .int (1 : Int32)), (5, .int (nI (nv tx s (tE tx c s)))), (6, .int (nI (tE tx c s)))], [.ref 1]) (HH I J R T) _
        refine Z_c0 rfl rfl rfl (hf) ?_
        show Zs _ _ (am_P 62).2 (101, [(0, .ref 1), (1, .int m), (2, .int lo), (3, .int hi), (4, .int (1 : Int32)), (5, .int (nI (nv tx s (tE tx c s)))), (6, .int (nI (tE tx c s)))], []) (HH (sf I 1 2 (nI s)) J R T) _
        refine Z_jump 1 rfl ?_
        show Zs _ _ (am_P 62).2 (102, [(0, .ref 1), (1, .int m), (2, .int lo), (3, .int hi), (4, .int (1 : Int32)), (5, .int (nI (nv tx s (tE tx c s)))), (6, .int (nI (tE tx c s)))], [.int (0 : Int32)]) (HH (sf I 1 2 (nI s)) J R T) _
        refine Z_rI rfl (by first | exact am_nw0 _ | exact am_nw01 | rfl | assumption) ?_
        rw [fi_lt, en] at c88
        exact Or.inr ⟨fun z => by have := z.2.2.1; omega, rfl, rfl⟩
      · refine Z_jump 3 rfl ?_
        refine Z_bd (fun (c94 : (nI (nv tx s (tE tx c s))) ≤ hi) => ?_) (fun (c94 : ¬ ((nI (nv tx s (tE tx c s))) ≤ hi)) => ?_)
        · refine Z_jump 1 rfl ?_
          show Zs _ _ (am_P 62).2 (104, [(0, .ref 1), (1, .int m), (2, .int lo), (3, .int hi), (4, .int (1 : Int32)), (5, .int (nI (nv tx s (tE tx c s)))), (6, .int (nI (tE tx c s)))], [.ref 1]) (HH I J R T) _
          refine Z_cQ rfl rfl rfl (c_stepQ hK) (fun v h1 hq => ?_)
          obtain ⟨rfl, I', rfl, h3, h4, h5⟩ := hq
          show Zs _ _ (am_P 62).2 (107, [(0, .ref 1), (1, .int m), (2, .int lo), (3, .int hi), (4, .int (1 : Int32)), (5, .int (nI (nv tx s (tE tx c s)))), (6, .int (nI (tE tx c s)))], []) (HH I' J R T) _
          refine Z_jump 1 rfl ?_
          show Zs _ _ (am_P 62).2 (109, [(0, .ref 1), (1, .int m), (2, .int lo), (3, .int hi), (4, .int (1 : Int32)), (5, .int (nI (nv tx s (tE tx c s)))), (6, .int (nI (tE tx c s)))], [.int (nI (nv tx s (tE tx c s)))]) (HH I' J R T) _
          refine Z_rI rfl (by first | exact am_nw0 _ | exact am_nw01 | rfl | assumption) ?_
          rw [fi_lt, en] at c88
          rw [fi_le, en] at c94
          exact Or.inl ⟨⟨hd, hmd, by omega, c94⟩, rfl, I', rfl, h3, h4, h5.trans h2⟩
        · refine Z_jump 1 rfl ?_
          show Zs _ _ (am_P 62).2 (98, [(0, .ref 1), (1, .int m), (2, .int lo), (3, .int hi), (4, .int (1 : Int32)), (5, .int (nI (nv tx s (tE tx c s)))), (6, .int (nI (tE tx c s)))], [.ref 1]) (HH I J R T) _
          refine Z_c0 rfl rfl rfl (hf) ?_
          show Zs _ _ (am_P 62).2 (101, [(0, .ref 1), (1, .int m), (2, .int lo), (3, .int hi), (4, .int (1 : Int32)), (5, .int (nI (nv tx s (tE tx c s)))), (6, .int (nI (tE tx c s)))], []) (HH (sf I 1 2 (nI s)) J R T) _
          refine Z_jump 1 rfl ?_
          show Zs _ _ (am_P 62).2 (102, [(0, .ref 1), (1, .int m), (2, .int lo), (3, .int hi), (4, .int (1 : Int32)), (5, .int (nI (nv tx s (tE tx c s)))), (6, .int (nI (tE tx c s)))], [.int (0 : Int32)]) (HH (sf I 1 2 (nI s)) J R T) _
          refine Z_rI rfl (by first | exact am_nw0 _ | exact am_nw01 | rfl | assumption) ?_
          rw [fi_le, en] at c94
          exact Or.inr ⟨fun z => c94 z.2.2.2, rfl, rfl⟩
    · refine Z_jump 1 rfl ?_
      show Zs _ _ (am_P 62).2 (1, [(0, .ref 1), (1, .int m), (2, .int lo), (3, .int hi)], [.ref 1]) (HH I J R T) _
      refine Z_c1 rfl rfl rfl (hso) ?_
      show Zs _ _ (am_P 62).2 (4, [(0, .ref 1), (1, .int m), (2, .int lo), (3, .int hi)], [.int (1 : Int32)]) (HH I J R T) _
      refine Z_jump 3 rfl ?_
      show Zs _ _ (am_P 62).2 (11, [(0, .ref 1), (1, .int m), (2, .int lo), (3, .int hi)], [.int (I 1 5)]) (HH I J R T) _
      refine Z_eqI ((hK.2.2.2.2).trans (if_pos hd)) ?_
      show Zs _ _ (am_P 62).2 (11, [(0, .ref 1), (1, .int m), (2, .int lo), (3, .int hi)], [.int (1 : Int32)]) (HH I J R T) _
      refine Z_jump 6 rfl ?_
      show Zs _ _ (am_P 62).2 (23, [(0, .ref 1), (1, .int m), (2, .int lo), (3, .int hi)], [.int ((I 1 4) - (I 1 3))]) (HH I J R T) _
      refine Z_eqI (e22) ?_
      show Zs _ _ (am_P 62).2 (23, [(0, .ref 1), (1, .int m), (2, .int lo), (3, .int hi)], [.int (nI (tE tx c s - s))]) (HH I J R T) _
      refine Z_jump 2 rfl ?_
      refine Z_bd (fun c24 => ?_) (fun c24 => absurd ((e24.mpr (by omega))) c24)
      refine Z_jump 11 rfl ?_
      refine Z_bd (fun (c49 : (I 1 4) ≤ (I 1 3)) => ?_) (fun (c49 : ¬ ((I 1 4) ≤ (I 1 3))) => ?_)
      · refine Z_jump 3 rfl ?_
        show Zs _ _ (am_P 62).2 (98, [(0, .ref 1), (1, .int m), (2, .int lo), (3, .int hi), (4, .int (0 : Int32)), (5, .int (0 : Int32)), (6, .int (I 1 3))], [.ref 1]) (HH I J R T) _
        refine Z_c0 rfl rfl rfl (hf) ?_
        show Zs _ _ (am_P 62).2 (101, [(0, .ref 1), (1, .int m), (2, .int lo), (3, .int hi), (4, .int (0 : Int32)), (5, .int (0 : Int32)), (6, .int (I 1 3))], []) (HH (sf I 1 2 (nI s)) J R T) _
        refine Z_jump 1 rfl ?_
        show Zs _ _ (am_P 62).2 (102, [(0, .ref 1), (1, .int m), (2, .int lo), (3, .int hi), (4, .int (0 : Int32)), (5, .int (0 : Int32)), (6, .int (I 1 3))], [.int (0 : Int32)]) (HH (sf I 1 2 (nI s)) J R T) _
        refine Z_rI rfl (by first | exact am_nw0 _ | exact am_nw01 | rfl | assumption) ?_
        exact Or.inr ⟨fun z => hmd z.2.1, rfl, rfl⟩
      · refine Z_jump 5 rfl ?_
        show Zs _ _ (am_P 62).2 (98, [(0, .ref 1), (1, .int m), (2, .int lo), (3, .int hi), (4, .int (0 : Int32)), (5, .int (0 : Int32)), (6, .int (I 1 3))], [.ref 1]) (HH I J R T) _
        refine Z_c0 rfl rfl rfl (hf) ?_
        show Zs _ _ (am_P 62).2 (101, [(0, .ref 1), (1, .int m), (2, .int lo), (3, .int hi), (4, .int (0 : Int32)), (5, .int (0 : Int32)), (6, .int (I 1 3))], []) (HH (sf I 1 2 (nI s)) J R T) _
        refine Z_jump 1 rfl ?_
        show Zs _ _ (am_P 62).2 (102, [(0, .ref 1), (1, .int m), (2, .int lo), (3, .int hi), (4, .int (0 : Int32)), (5, .int (0 : Int32)), (6, .int (I 1 3))], [.int (0 : Int32)]) (HH (sf I 1 2 (nI s)) J R T) _
        refine Z_rI rfl (by first | exact am_nw0 _ | exact am_nw01 | rfl | assumption) ?_
        exact Or.inr ⟨fun z => hmd z.2.1, rfl, rfl⟩
  · refine Z_jump 1 rfl ?_
    show Zs _ _ (am_P 62).2 (1, [(0, .ref 1), (1, .int m), (2, .int lo), (3, .int hi)], [.ref 1]) (HH I J R T) _
    refine Z_c1 rfl rfl rfl (hso) ?_
    show Zs _ _ (am_P 62).2 (4, [(0, .ref 1), (1, .int m), (2, .int lo), (3, .int hi)], [.int (1 : Int32)]) (HH I J R T) _
    refine Z_jump 3 rfl ?_
    show Zs _ _ (am_P 62).2 (11, [(0, .ref 1), (1, .int m), (2, .int lo), (3, .int hi)], [.int (I 1 5)]) (HH I J R T) _
    refine Z_eqI ((hK.2.2.2.2).trans (if_neg hd)) ?_
    show Zs _ _ (am_P 62).2 (11, [(0, .ref 1), (1, .int m), (2, .int lo), (3, .int hi)], [.int (0 : Int32)]) (HH I J R T) _
    refine Z_jump 12 rfl ?_
    refine Z_bd (fun (c49 : (I 1 4) ≤ (I 1 3)) => ?_) (fun (c49 : ¬ ((I 1 4) ≤ (I 1 3))) => ?_)
    · refine Z_jump 3 rfl ?_
      show Zs _ _ (am_P 62).2 (98, [(0, .ref 1), (1, .int m), (2, .int lo), (3, .int hi), (4, .int (0 : Int32)), (5, .int (0 : Int32)), (6, .int (I 1 3))], [.ref 1]) (HH I J R T) _
      refine Z_c0 rfl rfl rfl (hf) ?_
      show Zs _ _ (am_P 62).2 (101, [(0, .ref 1), (1, .int m), (2, .int lo), (3, .int hi), (4, .int (0 : Int32)), (5, .int (0 : Int32)), (6, .int (I 1 3))], []) (HH (sf I 1 2 (nI s)) J R T) _
      refine Z_jump 1 rfl ?_
      show Zs _ _ (am_P 62).2 (102, [(0, .ref 1), (1, .int m), (2, .int lo), (3, .int hi), (4, .int (0 : Int32)), (5, .int (0 : Int32)), (6, .int (I 1 3))], [.int (0 : Int32)]) (HH (sf I 1 2 (nI s)) J R T) _
      refine Z_rI rfl (by first | exact am_nw0 _ | exact am_nw01 | rfl | assumption) ?_
      exact Or.inr ⟨fun z => hd z.1, rfl, rfl⟩
    · refine Z_jump 5 rfl ?_
      show Zs _ _ (am_P 62).2 (98, [(0, .ref 1), (1, .int m), (2, .int lo), (3, .int hi), (4, .int (0 : Int32)), (5, .int (0 : Int32)), (6, .int (I 1 3))], [.ref 1]) (HH I J R T) _
      refine Z_c0 rfl rfl rfl (hf) ?_
      show Zs _ _ (am_P 62).2 (101, [(0, .ref 1), (1, .int m), (2, .int lo), (3, .int hi), (4, .int (0 : Int32)), (5, .int (0 : Int32)), (6, .int (I 1 3))], []) (HH (sf I 1 2 (nI s)) J R T) _
      refine Z_jump 1 rfl ?_
      show Zs _ _ (am_P 62).2 (102, [(0, .ref 1), (1, .int m), (2, .int lo), (3, .int hi), (4, .int (0 : Int32)), (5, .int (0 : Int32)), (6, .int (I 1 3))], [.int (0 : Int32)]) (HH (sf I 1 2 (nI s)) J R T) _
      refine Z_rI rfl (by first | exact am_nw0 _ | exact am_nw01 | rfl | assumption) ?_
      exact Or.inr ⟨fun z => hd z.1, rfl, rfl⟩
/-- behind a fault nothing more happens -/
theorem c_take_u {s : Nat} {m lo hi : Int32} (hs : I 1 3 = nI s) (h2 : ¬ I 1 2 = -1) : am_E sc (d + 3) 62 [.ref 1, .int m, .int lo, .int hi] (HH I J R T) (some (.int 0)) (HH I J R T) := by
  refine E_Z (Ze_of (Nat.le_of_ble_eq_true rfl) ?_)
  have hf : am_E sc (d + 2) 58 [.ref 1] (HH I J R T) none (HH I J R T) := by
    have w := c_fail (sc := sc) (d := d + 1) (J := J) (R := R) (T := T) hs
    rw [if_neg h2] at w
    exact w
  have hso : am_E sc (d + 2) 57 [.ref 1] (HH I J R T) (some (.int 0)) (HH I J R T) := by
    have w := c_isSound (sc := sc) (d := d + 1) (I := I) (J := J) (R := R) (T := T)
    rw [if_neg h2] at w
    exact w
  refine Z_jump 1 rfl ?_
  show Zs _ _ (am_P 62).2 (1, [(0, .ref 1), (1, .int m), (2, .int lo), (3, .int hi)], [.ref 1]) (HH I J R T) _
  refine Z_c1 rfl rfl rfl (hso) ?_
  show Zs _ _ (am_P 62).2 (4, [(0, .ref 1), (1, .int m), (2, .int lo), (3, .int hi)], [.int (0 : Int32)]) (HH I J R T) _
  refine Z_jump 12 rfl ?_
  refine Z_bd (fun (c49 : (I 1 4) ≤ (I 1 3)) => ?_) (fun (c49 : ¬ ((I 1 4) ≤ (I 1 3))) => ?_)
  · refine Z_jump 3 rfl ?_
    show Zs _ _ (am_P 62).2 (98, [(0, .ref 1), (1, .int m), (2, .int lo), (3, .int hi), (4, .int (0 : Int32)), (5, .int (0 : Int32)), (6, .int (I 1 3))], [.ref 1]) (HH I J R T) _
    refine Z_c0 rfl rfl rfl (hf) ?_
    show Zs _ _ (am_P 62).2 (101, [(0, .ref 1), (1, .int m), (2, .int lo), (3, .int hi), (4, .int (0 : Int32)), (5, .int (0 : Int32)), (6, .int (I 1 3))], []) (HH I J R T) _
    refine Z_jump 1 rfl ?_
    show Zs _ _ (am_P 62).2 (102, [(0, .ref 1), (1, .int m), (2, .int lo), (3, .int hi), (4, .int (0 : Int32)), (5, .int (0 : Int32)), (6, .int (I 1 3))], [.int (0 : Int32)]) (HH I J R T) _
    refine Z_rI rfl (by first | exact am_nw0 _ | exact am_nw01 | rfl | assumption) ?_
    exact ⟨rfl, rfl⟩
  · refine Z_jump 5 rfl ?_
    show Zs _ _ (am_P 62).2 (98, [(0, .ref 1), (1, .int m), (2, .int lo), (3, .int hi), (4, .int (0 : Int32)), (5, .int (0 : Int32)), (6, .int (I 1 3))], [.ref 1]) (HH I J R T) _
    refine Z_c0 rfl rfl rfl (hf) ?_
    show Zs _ _ (am_P 62).2 (101, [(0, .ref 1), (1, .int m), (2, .int lo), (3, .int hi), (4, .int (0 : Int32)), (5, .int (0 : Int32)), (6, .int (I 1 3))], []) (HH I J R T) _
    refine Z_jump 1 rfl ?_
    show Zs _ _ (am_P 62).2 (102, [(0, .ref 1), (1, .int m), (2, .int lo), (3, .int hi), (4, .int (0 : Int32)), (5, .int (0 : Int32)), (6, .int (I 1 3))], [.int (0 : Int32)]) (HH I J R T) _
    refine Z_rI rfl (by first | exact am_nw0 _ | exact am_nw01 | rfl | assumption) ?_
    exact ⟨rfl, rfl⟩
/-- another: does a clause or statement follow? -/
theorem c_another {s n : Nat} {v : Int32} (hK : CTK tx c s I) (h2 : I 1 2 = -1) (hv : v = nI n) (hn : n ≤ 12) : Ze sc (d + 4) 63 [.ref 1, .int v] (HH I J R T) (fun r h =>
    (s = c ∧ r = some (.int 0) ∧ h = HH I J R T) ∨
    (s < c ∧ tx s = 59 ∧ n < 12 ∧ r = some (.int 1) ∧ ∃ I', h = HH I' J R T ∧ CTK tx c (tS tx c (tE tx c s)) I' ∧ CTo I I' ∧ I' 1 2 = -1) ∨
    (s < c ∧ ¬ (tx s = 59 ∧ n < 12) ∧ r = some (.int 0) ∧ h = HH (sf I 1 2 (nI s)) J R T)) := by
  refine Ze_of (Nat.le_of_ble_eq_true rfl) ?_
  have hs := hK.2.1
  have hf : am_E sc (d + 3) 58 [.ref 1] (HH I J R T) none (HH (sf I 1 2 (nI s)) J R T) := by
    have w := c_fail (sc := sc) (d := d + 2) (J := J) (R := R) (T := T) hK.2.2.1
    rw [if_pos h2] at w
    exact w
  have hso : am_E sc (d + 3) 57 [.ref 1] (HH I J R T) (some (.int 1)) (HH I J R T) := by
    have w := c_isSound (sc := sc) (d := d + 2) (I := I) (J := J) (R := R) (T := T)
    rw [if_pos h2] at w
    exact w
  have e19 : (12 : Int32) ≤ v ↔ 12 ≤ n := by rw [hv]; exact nI_leI (a := 12) (by omega) (by omega)
  refine Z_jump 1 rfl ?_
  show Zs _ _ (am_P 63).2 (1, [(0, .ref 1), (1, .int v)], [.ref 1]) (HH I J R T) _
  refine Z_c1 rfl rfl rfl (hso) ?_
  show Zs _ _ (am_P 63).2 (4, [(0, .ref 1), (1, .int v)], [.int (1 : Int32)]) (HH I J R T) _
  refine Z_jump 2 rfl ?_
  show Zs _ _ (am_P 63).2 (8, [(0, .ref 1), (1, .int v)], [.ref 1]) (HH I J R T) _
  refine Z_c1 rfl rfl rfl (c_isAtEnd hK) ?_
  show Zs _ _ (am_P 63).2 (11, [(0, .ref 1), (1, .int v)], [.int (if s < c then 0 else 1)]) (HH I J R T) _
  refine Z_jump 1 rfl ?_
  refine Z_bd (fun (c11 : (if s < c then 0 else 1) = (0 : Int32)) => ?_) (fun (c11 : ¬ ((if s < c then 0 else 1) = (0 : Int32))) => ?_)
  · refine Z_jump 3 rfl ?_
    refine Z_bd (fun (c19 : (12 : Int32) ≤ v) => ?_) (fun (c19 : ¬ ((12 : Int32) ≤ v)) => ?_)
    · refine Z_jump 1 rfl ?_
      show Zs _ _ (am_P 63).2 (38, [(0, .ref 1), (1, .int v)], [.ref 1]) (HH I J R T) _
      refine Z_c0 rfl rfl rfl (hf) ?_
      show Zs _ _ (am_P 63).2 (41, [(0, .ref 1), (1, .int v)], []) (HH (sf I 1 2 (nI s)) J R T) _
      refine Z_jump 1 rfl ?_
      show Zs _ _ (am_P 63).2 (42, [(0, .ref 1), (1, .int v)], [.int (0 : Int32)]) (HH (sf I 1 2 (nI s)) J R T) _
      refine Z_rI rfl (by first | exact am_nw0 _ | exact am_nw01 | rfl | assumption) ?_
      have hsc : s < c := Classical.byContradiction (fun z => by rw [if_neg z] at c11; exact absurd c11 (by decide))
      exact Or.inr (Or.inr ⟨hsc, fun z => absurd (e19.mp c19) (by omega), rfl, rfl⟩)
    · refine Z_jump 2 rfl ?_
      show Zs _ _ (am_P 63).2 (25, [(0, .ref 1), (1, .int v)], [.int (59 : Int32), .ref 1]) (HH I J R T) _
      refine Z_c1 rfl rfl rfl (c_isSign (t := 59) hK rfl (by omega)) ?_
      show Zs _ _ (am_P 63).2 (28, [(0, .ref 1), (1, .int v)], [.int (if s < c ∧ tx s = 59 then 1 else 0)]) (HH I J R T) _
      refine Z_jump 1 rfl ?_
      refine Z_bd (fun (c28 : (if s < c ∧ tx s = 59 then 1 else 0) = (0 : Int32)) => ?_) (fun (c28 : ¬ ((if s < c ∧ tx s = 59 then 1 else 0) = (0 : Int32))) => ?_)
      · refine Z_jump 1 rfl ?_
        show Zs _ _ (am_P 63).2 (38, [(0, .ref 1), (1, .int v)], [.ref 1]) (HH I J R T) _
        refine Z_c0 rfl rfl rfl (hf) ?_
        show Zs _ _ (am_P 63).2 (41, [(0, .ref 1), (1, .int v)], []) (HH (sf I 1 2 (nI s)) J R T) _
        refine Z_jump 1 rfl ?_
        show Zs _ _ (am_P 63).2 (42, [(0, .ref 1), (1, .int v)], [.int (0 : Int32)]) (HH (sf I 1 2 (nI s)) J R T) _
        refine Z_rI rfl (by first | exact am_nw0 _ | exact am_nw01 | rfl | assumption) ?_
        have hsc : s < c := Classical.byContradiction (fun z => by rw [if_neg z] at c11; exact absurd c11 (by decide))
        exact Or.inr (Or.inr ⟨hsc, fun z => if10.mp c28 ⟨hsc, z.1⟩, rfl, rfl⟩)
      · refine Z_jump 1 rfl ?_
        show Zs _ _ (am_P 63).2 (32, [(0, .ref 1), (1, .int v)], [.ref 1]) (HH I J R T) _
        refine Z_cQ rfl rfl rfl (c_stepQ hK) (fun v h1 hq => ?_)
        obtain ⟨rfl, I', rfl, h3, h4, h5⟩ := hq
        show Zs _ _ (am_P 63).2 (35, [(0, .ref 1), (1, .int v)], []) (HH I' J R T) _
        refine Z_jump 1 rfl ?_
        show Zs _ _ (am_P 63).2 (36, [(0, .ref 1), (1, .int v)], [.int (1 : Int32)]) (HH I' J R T) _
        refine Z_rI rfl (by first | exact am_nw0 _ | exact am_nw01 | rfl | assumption) ?_
        have h9 := if10n c28
        exact Or.inr (Or.inl ⟨h9.1, h9.2, Nat.lt_of_not_le (fun z => c19 (e19.mpr z)), rfl, I', rfl, h3, h4, h5.trans h2⟩)
  · refine Z_jump 1 rfl ?_
    show Zs _ _ (am_P 63).2 (15, [(0, .ref 1), (1, .int v)], [.int (0 : Int32)]) (HH I J R T) _
    refine Z_rI rfl (by first | exact am_nw0 _ | exact am_nw01 | rfl | assumption) ?_
    have hsc : ¬ s < c := fun z => c11 (if_pos z)
    exact Or.inl ⟨by omega, rfl, rfl⟩
theorem c_another_u {v : Int32} (h2 : ¬ I 1 2 = -1) : am_E sc (d + 4) 63 [.ref 1, .int v] (HH I J R T) (some (.int 0)) (HH I J R T) := by
  refine E_Z (Ze_of (Nat.le_of_ble_eq_true rfl) ?_)
  have hso : am_E sc (d + 3) 57 [.ref 1] (HH I J R T) (some (.int 0)) (HH I J R T) := by
    have w := c_isSound (sc := sc) (d := d + 2) (I := I) (J := J) (R := R) (T := T)
    rw [if_neg h2] at w
    exact w
  refine Z_jump 1 rfl ?_
  show Zs _ _ (am_P 63).2 (1, [(0, .ref 1), (1, .int v)], [.ref 1]) (HH I J R T) _
  refine Z_c1 rfl rfl rfl (hso) ?_
  show Zs _ _ (am_P 63).2 (4, [(0, .ref 1), (1, .int v)], [.int (0 : Int32)]) (HH I J R T) _
  refine Z_jump 2 rfl ?_
  show Zs _ _ (am_P 63).2 (15, [(0, .ref 1), (1, .int v)], [.int (0 : Int32)]) (HH I J R T) _
  refine Z_rI rfl (by first | exact am_nw0 _ | exact am_nw01 | rfl | assumption) ?_
  exact ⟨rfl, rfl⟩
end CTY

