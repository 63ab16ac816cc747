section TOU
variable {sc : Nat × (Nat → Int32)} {d : Nat} {J : hJ} {R : hR} {T : am_H} {Q : Option Value → am_H → Prop}
theorem c_spentA {I : hI} (hR : R 28 2 = some 35) : am_E sc (d + 2) 139 [.ref 0] (HH I J R T) (some (.int (I 35 3))) (HH I J R T) := by
  refine E_Z (Ze_of (Nat.le_of_ble_eq_true rfl) ?_)
  refine Z_jump 5 rfl ?_
  show Zs _ _ (am_P 139).2 (9, [(0, .ref 0)], [.int (3 : Int32), .ref 28]) (HH I J R T) _
  refine Z_jump 2 rfl ?_
  show Zs _ _ (am_P 139).2 (11, [(0, .ref 0)], [.int (2 : Int32), .ref 28]) (HH I J R T) _
  refine Z_c1 rfl rfl rfl (c_stAt28 (K := 2) hR rfl (by omega)) ?_
  show Zs _ _ (am_P 139).2 (14, [(0, .ref 0)], [.ref 35]) (HH I J R T) _
  refine Z_jump 5 rfl ?_
  show Zs _ _ (am_P 139).2 (28, [(0, .ref 0), (1, .ref 35)], [.int (I 35 3)]) (HH I J R T) _
  refine Z_rI rfl (by first | exact am_nw0 _ | exact am_nw01 | rfl | assumption) ?_
  exact ⟨rfl, rfl⟩
/-- the orders that are left, each by its three numbers and its own -/
def toM (D : FD) (y z o : Int32) (K : hI → Int32 → Int32 → Option (Int32 × Int32) × hI) (I : hI) (lt lo : Int32) : Option (Int32 × Int32) × hI :=
  if (gS1 I D y).1 = -1 then (none, (gS1 I D y).2) else if (gS2 (gS1 I D y).2 D z).1 = -1 then (none, (gS2 (gS1 I D y).2 D z).2)
  else if lt ≤ (gS2 (gS1 I D y).2 D z).2 35 3 then K (gS2 (gS1 I D y).2 D z).2 lt lo else K (gS2 (gS1 I D y).2 D z).2 ((gS2 (gS1 I D y).2 D z).2 35 3) o
def toN (D : FD) (x y z o : Int32) (K : hI → Int32 → Int32 → Option (Int32 × Int32) × hI) (I : hI) (lt lo : Int32) : Option (Int32 × Int32) × hI :=
  if (gS0 I D x).1 = -1 then (none, (gS0 I D x).2) else toM D y z o K (gS0 I D x).2 lt lo
def to6 (_ : FD) (_ _ _ : Int32) : hI → Int32 → Int32 → Option (Int32 × Int32) × hI := fun I lt lo => (some (lt, lo), I)
def to5 (D : FD) (a b c : Int32) : hI → Int32 → Int32 → Option (Int32 × Int32) × hI := toM D b a 5 (to6 D a b c)
def to4 (D : FD) (a b c : Int32) : hI → Int32 → Int32 → Option (Int32 × Int32) × hI := toN D c a b 4 (to5 D a b c)
def to3 (D : FD) (a b c : Int32) : hI → Int32 → Int32 → Option (Int32 × Int32) × hI := toM D c a 3 (to4 D a b c)
def to2 (D : FD) (a b c : Int32) : hI → Int32 → Int32 → Option (Int32 × Int32) × hI := toN D b a c 2 (to3 D a b c)
def to1 (D : FD) (a b c : Int32) : hI → Int32 → Int32 → Option (Int32 × Int32) × hI := toM D c b 1 (to2 D a b c)
def to0 (D : FD) (a b c : Int32) : hI → Int32 → Int32 → Option (Int32 × Int32) × hI := toN D a b c 0 (to1 D a b c)
def toQ (w : Int32) (J : hJ) (R : hR) (T : am_H) (Q : Option Value → am_H → Prop) (x : Option (Int32 × Int32) × hI) : Prop := Q (some (.int (match x.1 with
  | none => -1
  | some p => if w = 0 then p.1 else p.2))) (HH x.2 J R T)
def P28 (R : hR) : Prop := R 28 0 = some 29 ∧ R 28 1 = some 32 ∧ R 28 2 = some 35
theorem c_to6 {D : FD} {a b c w : Int32} {I : hI} {lt lo : Int32} (H : toQ w J R T Q (to6 D a b c I lt lo)) : Zs sc (d + 13) (am_P 112).2 (45, [(0, .ref 0), (1, .int a), (2, .int b), (3, .int c), (4, .int w), (5, .int lt), (6, .int lo), (7, .int 6)], []) (HH I J R T) Q := by
  unfold to6 toQ at H
  dsimp only at H
  refine Z_jump 5 rfl ?_
  refine Z_bn (fun (c178 : ¬ (w = (0 : Int32))) => ?_) (fun (c178 : w = (0 : Int32)) => ?_)
  · refine Z_jump 1 rfl ?_
    show Zs _ _ (am_P 112).2 (188, [(0, .ref 0), (1, .int a), (2, .int b), (3, .int c), (4, .int w), (5, .int lt), (6, .int lo), (7, .int (6 : Int32))], [.int lo]) (HH I J R T) _
    refine Z_rI rfl (by first | exact am_nw0 _ | exact am_nw01 | rfl | assumption) ?_
    rw [if_neg c178] at H
    exact H
  · refine Z_jump 2 rfl ?_
    show Zs _ _ (am_P 112).2 (188, [(0, .ref 0), (1, .int a), (2, .int b), (3, .int c), (4, .int w), (5, .int lt), (6, .int lo), (7, .int (6 : Int32))], [.int lt]) (HH I J R T) _
    refine Z_rI rfl (by first | exact am_nw0 _ | exact am_nw01 | rfl | assumption) ?_
    rw [if_pos c178] at H
    exact H
end TOU

