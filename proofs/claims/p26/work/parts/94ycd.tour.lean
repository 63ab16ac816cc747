section TOU
variable {sc : Nat × (Nat → Int32)} {d : Nat} {J : hJ} {R : hR} {T : am_H} {Q : Option Value → am_H → Prop}
theorem c_goOn1 {I : hI} {D : FD} {v : Int32} (hR : R 28 1 = some 32) (hD : DC 18 D I R T) (hB : BS I) : am_E sc (d + 13) 138 [.ref 0, .ref 29, .int 1, .int v] (HH I J R T) (some (.int (if (gS1 I D v).1 = -1 then 0 else 1))) (HH (gS1 I D v).2 J R T) := by
  refine E_Z (Ze_of (Nat.le_of_ble_eq_true rfl) ?_)
  have hC : CP 32 29 I (cpF I 32 29) := cpF_CP (by decide) (by decide) (by decide)
  have hD1 : DC 18 D (cpF I 32 29) R T := DC_of hD (hC.1 18 (by decide) (by decide) (by decide)) rfl
  have hB1 : BS (cpF I 32 29) := BS_of hB (hC.1 8 (by decide) (by decide) (by decide))
  refine Z_jump 3 rfl ?_
  show Zs _ _ (am_P 138).2 (5, [(0, .ref 0), (1, .ref 29), (2, .int (1 : Int32)), (3, .int v)], [.int (1 : Int32), .ref 28]) (HH I J R T) _
  refine Z_c1 rfl rfl rfl (c_stAt28 (K := 1) hR rfl (by omega)) ?_
  show Zs _ _ (am_P 138).2 (8, [(0, .ref 0), (1, .ref 29), (2, .int (1 : Int32)), (3, .int v)], [.ref 32]) (HH I J R T) _
  refine Z_jump 7 rfl ?_
  show Zs _ _ (am_P 138).2 (24, [(0, .ref 0), (1, .ref 29), (2, .int (1 : Int32)), (3, .int v), (4, .ref 32)], [.ref 29, .ref 32]) (HH I J R T) _
  refine Z_c0 rfl rfl rfl (c_copyE (by decide) (by decide)) ?_
  show Zs _ _ (am_P 138).2 (27, [(0, .ref 0), (1, .ref 29), (2, .int (1 : Int32)), (3, .int v), (4, .ref 32)], []) (HH (cpF I 32 29) J R T) _
  refine Z_jump 6 rfl ?_
  show Zs _ _ (am_P 138).2 (42, [(0, .ref 0), (1, .ref 29), (2, .int (1 : Int32)), (3, .int v), (4, .ref 32)], [.long (Int32.toInt64 v), .ref 32, .ref 0]) (HH (cpF I 32 29) J R T) _
  refine Z_c1 rfl rfl rfl (c_settle (D := D) (by decide) hD1 hB1) ?_
  show Zs _ _ (am_P 138).2 (45, [(0, .ref 0), (1, .ref 29), (2, .int (1 : Int32)), (3, .int v), (4, .ref 32)], [.int (gS1 I D v).1]) (HH (gS1 I D v).2 J R T) _
  refine Z_jump 2 rfl ?_
  refine Z_bd (fun (c46 : (gS1 I D v).1 = (-1 : Int32)) => ?_) (fun (c46 : ¬ ((gS1 I D v).1 = (-1 : Int32))) => ?_)
  · refine Z_jump 1 rfl ?_
    show Zs _ _ (am_P 138).2 (54, [(0, .ref 0), (1, .ref 29), (2, .int (1 : Int32)), (3, .int v), (4, .ref 32)], [.int (0 : Int32)]) (HH (gS1 I D v).2 J R T) _
    refine Z_rI rfl (by first | exact am_nw0 _ | exact am_nw01 | rfl | assumption) ?_
    rw [if_pos c46]
    exact ⟨rfl, rfl⟩
  · refine Z_jump 2 rfl ?_
    show Zs _ _ (am_P 138).2 (54, [(0, .ref 0), (1, .ref 29), (2, .int (1 : Int32)), (3, .int v), (4, .ref 32)], [.int (1 : Int32)]) (HH (gS1 I D v).2 J R T) _
    refine Z_rI rfl (by first | exact am_nw0 _ | exact am_nw01 | rfl | assumption) ?_
    rw [if_neg c46]
    exact ⟨rfl, rfl⟩

theorem c_goOn2 {I : hI} {D : FD} {v : Int32} (hR : R 28 2 = some 35) (hD : DC 18 D I R T) (hB : BS I) : am_E sc (d + 13) 138 [.ref 0, .ref 32, .int 2, .int v] (HH I J R T) (some (.int (if (gS2 I D v).1 = -1 then 0 else 1))) (HH (gS2 I D v).2 J R T) := by
  refine E_Z (Ze_of (Nat.le_of_ble_eq_true rfl) ?_)
  have hC : CP 35 32 I (cpF I 35 32) := cpF_CP (by decide) (by decide) (by decide)
  have hD1 : DC 18 D (cpF I 35 32) R T := DC_of hD (hC.1 18 (by decide) (by decide) (by decide)) rfl
  have hB1 : BS (cpF I 35 32) := BS_of hB (hC.1 8 (by decide) (by decide) (by decide))
  refine Z_jump 3 rfl ?_
  show Zs _ _ (am_P 138).2 (5, [(0, .ref 0), (1, .ref 32), (2, .int (2 : Int32)), (3, .int v)], [.int (2 : Int32), .ref 28]) (HH I J R T) _
  refine Z_c1 rfl rfl rfl (c_stAt28 (K := 2) hR rfl (by omega)) ?_
  show Zs _ _ (am_P 138).2 (8, [(0, .ref 0), (1, .ref 32), (2, .int (2 : Int32)), (3, .int v)], [.ref 35]) (HH I J R T) _
  refine Z_jump 7 rfl ?_
  show Zs _ _ (am_P 138).2 (24, [(0, .ref 0), (1, .ref 32), (2, .int (2 : Int32)), (3, .int v), (4, .ref 35)], [.ref 32, .ref 35]) (HH I J R T) _
  refine Z_c0 rfl rfl rfl (c_copyE (by decide) (by decide)) ?_
  show Zs _ _ (am_P 138).2 (27, [(0, .ref 0), (1, .ref 32), (2, .int (2 : Int32)), (3, .int v), (4, .ref 35)], []) (HH (cpF I 35 32) J R T) _
  refine Z_jump 6 rfl ?_
  show Zs _ _ (am_P 138).2 (42, [(0, .ref 0), (1, .ref 32), (2, .int (2 : Int32)), (3, .int v), (4, .ref 35)], [.long (Int32.toInt64 v), .ref 35, .ref 0]) (HH (cpF I 35 32) J R T) _
  refine Z_c1 rfl rfl rfl (c_settle (D := D) (by decide) hD1 hB1) ?_
  show Zs _ _ (am_P 138).2 (45, [(0, .ref 0), (1, .ref 32), (2, .int (2 : Int32)), (3, .int v), (4, .ref 35)], [.int (gS2 I D v).1]) (HH (gS2 I D v).2 J R T) _
  refine Z_jump 2 rfl ?_
  refine Z_bd (fun (c46 : (gS2 I D v).1 = (-1 : Int32)) => ?_) (fun (c46 : ¬ ((gS2 I D v).1 = (-1 : Int32))) => ?_)
  · refine Z_jump 1 rfl ?_
    show Zs _ _ (am_P 138).2 (54, [(0, .ref 0), (1, .ref 32), (2, .int (2 : Int32)), (3, .int v), (4, .ref 35)], [.int (0 : Int32)]) (HH (gS2 I D v).2 J R T) _
    refine Z_rI rfl (by first | exact am_nw0 _ | exact am_nw01 | rfl | assumption) ?_
    rw [if_pos c46]
    exact ⟨rfl, rfl⟩
  · refine Z_jump 2 rfl ?_
    show Zs _ _ (am_P 138).2 (54, [(0, .ref 0), (1, .ref 32), (2, .int (2 : Int32)), (3, .int v), (4, .ref 35)], [.int (1 : Int32)]) (HH (gS2 I D v).2 J R T) _
    refine Z_rI rfl (by first | exact am_nw0 _ | exact am_nw01 | rfl | assumption) ?_
    rw [if_neg c46]
    exact ⟨rfl, rfl⟩
end TOU

