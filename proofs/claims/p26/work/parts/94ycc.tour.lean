section TOU
variable {sc : Nat × (Nat → Int32)} {d : Nat} {J : hJ} {R : hR} {T : am_H} {Q : Option Value → am_H → Prop}
/-- a field written over any heap (over a copy, unfolded, it took a minute) -/
theorem go0_k {I : hI} {v : Int32} {e : Nat} (k : Zs sc e (am_P 138).2 (37, [(0, .ref 0), (1, .ref 22), (2, .int (0 : Int32)), (3, .int v), (4, .ref 29)], []) (HH (sf I 29 3 (0 : Int32)) J R T) Q) : Zs sc e (am_P 138).2 (27, [(0, .ref 0), (1, .ref 22), (2, .int (0 : Int32)), (3, .int v), (4, .ref 29)], []) (HH I J R T) Q := by
  refine Z_jump 5 rfl ?_
  exact k
theorem c_goOn0 {I : hI} {D : FD} {v : Int32} (hR : R 28 0 = some 29) (hD : DC 18 D I R T) (hB : BS I) : am_E sc (d + 13) 138 [.ref 0, .ref 22, .int 0, .int v] (HH I J R T) (some (.int (if (gS0 I D v).1 = -1 then 0 else 1))) (HH (gS0 I D v).2 J R T) := by
  refine E_Z (Ze_of (Nat.le_of_ble_eq_true rfl) ?_)
  have hC : CP 29 22 I (cpF I 29 22) := cpF_CP (by decide) (by decide) (by decide)
  have hD1 : DC 18 D (cpF I 29 22) R T := DC_of hD (hC.1 18 (by decide) (by decide) (by decide)) rfl
  have hB1 : BS (cpF I 29 22) := BS_of hB (hC.1 8 (by decide) (by decide) (by decide))
  have hD2 : DC 18 D (sf (cpF I 29 22) 29 3 (0 : Int32)) R T := DC_of hD1 (sf_c (by decide)) rfl
  have hB2 : BS (sf (cpF I 29 22) 29 3 (0 : Int32)) := BS_of hB1 (sf_c (by decide))
  refine Z_jump 3 rfl ?_
  show Zs _ _ (am_P 138).2 (5, [(0, .ref 0), (1, .ref 22), (2, .int (0 : Int32)), (3, .int v)], [.int (0 : Int32), .ref 28]) (HH I J R T) _
  refine Z_c1 rfl rfl rfl (c_stAt28 (K := 0) hR rfl (by omega)) ?_
  show Zs _ _ (am_P 138).2 (8, [(0, .ref 0), (1, .ref 22), (2, .int (0 : Int32)), (3, .int v)], [.ref 29]) (HH I J R T) _
  refine Z_jump 7 rfl ?_
  show Zs _ _ (am_P 138).2 (24, [(0, .ref 0), (1, .ref 22), (2, .int (0 : Int32)), (3, .int v), (4, .ref 29)], [.ref 22, .ref 29]) (HH I J R T) _
  refine Z_c0 rfl rfl rfl (c_copyE (by decide) (by decide)) ?_
  show Zs _ _ (am_P 138).2 (27, [(0, .ref 0), (1, .ref 22), (2, .int (0 : Int32)), (3, .int v), (4, .ref 29)], []) (HH (cpF I 29 22) J R T) _
  refine go0_k ?_
  show Zs _ _ (am_P 138).2 (37, [(0, .ref 0), (1, .ref 22), (2, .int (0 : Int32)), (3, .int v), (4, .ref 29)], []) (HH (sf (cpF I 29 22) 29 3 (0 : Int32)) J R T) _
  refine Z_jump 4 rfl ?_
  show Zs _ _ (am_P 138).2 (42, [(0, .ref 0), (1, .ref 22), (2, .int (0 : Int32)), (3, .int v), (4, .ref 29)], [.long (Int32.toInt64 v), .ref 29, .ref 0]) (HH (sf (cpF I 29 22) 29 3 (0 : Int32)) J R T) _
  refine Z_c1 rfl rfl rfl (c_settle (D := D) (by decide) hD2 hB2) ?_
  show Zs _ _ (am_P 138).2 (45, [(0, .ref 0), (1, .ref 22), (2, .int (0 : Int32)), (3, .int v), (4, .ref 29)], [.int (gS0 I D v).1]) (HH (gS0 I D v).2 J R T) _
  refine Z_jump 2 rfl ?_
  refine Z_bd (fun (c46 : (gS0 I D v).1 = (-1 : Int32)) => ?_) (fun (c46 : ¬ ((gS0 I D v).1 = (-1 : Int32))) => ?_)
  · refine Z_jump 1 rfl ?_
    show Zs _ _ (am_P 138).2 (54, [(0, .ref 0), (1, .ref 22), (2, .int (0 : Int32)), (3, .int v), (4, .ref 29)], [.int (0 : Int32)]) (HH (gS0 I D v).2 J R T) _
    refine Z_rI rfl (by first | exact am_nw0 _ | exact am_nw01 | rfl | assumption) ?_
    rw [if_pos c46]
    exact ⟨rfl, rfl⟩
  · refine Z_jump 2 rfl ?_
    show Zs _ _ (am_P 138).2 (54, [(0, .ref 0), (1, .ref 22), (2, .int (0 : Int32)), (3, .int v), (4, .ref 29)], [.int (1 : Int32)]) (HH (gS0 I D v).2 J R T) _
    refine Z_rI rfl (by first | exact am_nw0 _ | exact am_nw01 | rfl | assumption) ?_
    rw [if_neg c46]
    exact ⟨rfl, rfl⟩
end TOU


