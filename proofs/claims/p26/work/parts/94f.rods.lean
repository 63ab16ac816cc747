/-! The class: rods as objects; standings and rods. -/
def hwv (q : RD4) : Nat := if q.1 = 0 then 0 else if q.1 = 3 then q.2.2.1 + 1 else 5
def ltv (q : RD4) : Nat := if q.1 = 2 then 2 else 1
def htv (q : RD4) : Nat := if q.1 = 2 then 2 else if q.1 = 3 then 3 else 1
section ROD
variable {sc : Nat × (Nat → Int32)} {d : Nat} {I : hI} {J : hJ} {R : hR} {T : am_H} {Q : Option Value → am_H → Prop}
theorem c_kn0 {b l g r : Nat} (hL : (HH I J R T)[r]? = some (rodC (0, b, l, g))) : am_E sc (d + 1) 16 [.ref r] (HH I J R T) (some (.int 0)) (HH I J R T) := by
  refine E_Z (Ze_of (Nat.le_of_ble_eq_true rfl) ?_)
  refine Z_jump 1 rfl ?_
  show Zs _ _ (am_P 16).2 (1, [(0, .ref r)], [.int (0 : Int32)]) (HH I J R T) _
  refine Z_rI rfl (by first | exact am_nw0 _ | exact am_nw01 | rfl | assumption) ?_
  exact ⟨rfl, rfl⟩
theorem c_kn1 {b l g r : Nat} (hL : (HH I J R T)[r]? = some (rodC (1, b, l, g))) : am_E sc (d + 1) 1 [.ref r] (HH I J R T) (some (.int 1)) (HH I J R T) := by
  refine E_Z (Ze_of (Nat.le_of_ble_eq_true rfl) ?_)
  refine Z_jump 1 rfl ?_
  show Zs _ _ (am_P 1).2 (1, [(0, .ref r)], [.int (1 : Int32)]) (HH I J R T) _
  refine Z_rI rfl (by first | exact am_nw0 _ | exact am_nw01 | rfl | assumption) ?_
  exact ⟨rfl, rfl⟩
theorem c_kn2 {b l g r : Nat} (hL : (HH I J R T)[r]? = some (rodC (2, b, l, g))) : am_E sc (d + 1) 28 [.ref r] (HH I J R T) (some (.int 2)) (HH I J R T) := by
  refine E_Z (Ze_of (Nat.le_of_ble_eq_true rfl) ?_)
  refine Z_jump 1 rfl ?_
  show Zs _ _ (am_P 28).2 (1, [(0, .ref r)], [.int (2 : Int32)]) (HH I J R T) _
  refine Z_rI rfl (by first | exact am_nw0 _ | exact am_nw01 | rfl | assumption) ?_
  exact ⟨rfl, rfl⟩
theorem c_kn3 {b l g r : Nat} (hL : (HH I J R T)[r]? = some (rodC (3, b, l, g))) : am_E sc (d + 1) 12 [.ref r] (HH I J R T) (some (.int 3)) (HH I J R T) := by
  refine E_Z (Ze_of (Nat.le_of_ble_eq_true rfl) ?_)
  refine Z_jump 1 rfl ?_
  show Zs _ _ (am_P 12).2 (1, [(0, .ref r)], [.int (3 : Int32)]) (HH I J R T) _
  refine Z_rI rfl (by first | exact am_nw0 _ | exact am_nw01 | rfl | assumption) ?_
  exact ⟨rfl, rfl⟩
theorem c_hw0 {b l g r : Nat} (hL : (HH I J R T)[r]? = some (rodC (0, b, l, g))) : am_E sc (d + 1) 17 [.ref r] (HH I J R T) (some (.int 0)) (HH I J R T) := by
  refine E_Z (Ze_of (Nat.le_of_ble_eq_true rfl) ?_)
  refine Z_jump 1 rfl ?_
  show Zs _ _ (am_P 17).2 (1, [(0, .ref r)], [.int (0 : Int32)]) (HH I J R T) _
  refine Z_rI rfl (by first | exact am_nw0 _ | exact am_nw01 | rfl | assumption) ?_
  exact ⟨rfl, rfl⟩
theorem c_hw1 {b l g r : Nat} (hL : (HH I J R T)[r]? = some (rodC (1, b, l, g))) : am_E sc (d + 1) 2 [.ref r] (HH I J R T) (some (.int 5)) (HH I J R T) := by
  refine E_Z (Ze_of (Nat.le_of_ble_eq_true rfl) ?_)
  refine Z_jump 1 rfl ?_
  show Zs _ _ (am_P 2).2 (1, [(0, .ref r)], [.int (5 : Int32)]) (HH I J R T) _
  refine Z_rI rfl (by first | exact am_nw0 _ | exact am_nw01 | rfl | assumption) ?_
  exact ⟨rfl, rfl⟩
theorem c_hw2 {b l g r : Nat} (hL : (HH I J R T)[r]? = some (rodC (2, b, l, g))) : am_E sc (d + 1) 2 [.ref r] (HH I J R T) (some (.int 5)) (HH I J R T) := by
  refine E_Z (Ze_of (Nat.le_of_ble_eq_true rfl) ?_)
  refine Z_jump 1 rfl ?_
  show Zs _ _ (am_P 2).2 (1, [(0, .ref r)], [.int (5 : Int32)]) (HH I J R T) _
  refine Z_rI rfl (by first | exact am_nw0 _ | exact am_nw01 | rfl | assumption) ?_
  exact ⟨rfl, rfl⟩
theorem c_hw3 {b l g r : Nat} (hL : (HH I J R T)[r]? = some (rodC (3, b, l, g))) : am_E sc (d + 1) 13 [.ref r] (HH I J R T) (some (.int (nI l + 1))) (HH I J R T) := by
  refine E_Z (Ze_of (Nat.le_of_ble_eq_true rfl) ?_)
  refine Z_jump 1 rfl ?_
  show Zs _ _ (am_P 13).2 (1, [(0, .ref r)], [.ref r]) (HH I J R T) _
  refine Z_gf rfl (hL) rfl rfl ?_
  refine Z_jump 2 rfl ?_
  show Zs _ _ (am_P 13).2 (6, [(0, .ref r)], [.int ((nI l) + (1 : Int32))]) (HH I J R T) _
  refine Z_rI rfl (by first | exact am_nw0 _ | exact am_nw01 | rfl | assumption) ?_
  exact ⟨rfl, rfl⟩
theorem c_lt0 {b l g r : Nat} (hL : (HH I J R T)[r]? = some (rodC (0, b, l, g))) : am_E sc (d + 1) 19 [.ref r] (HH I J R T) (some (.int 1)) (HH I J R T) := by
  refine E_Z (Ze_of (Nat.le_of_ble_eq_true rfl) ?_)
  refine Z_jump 1 rfl ?_
  show Zs _ _ (am_P 19).2 (1, [(0, .ref r)], [.int (1 : Int32)]) (HH I J R T) _
  refine Z_rI rfl (by first | exact am_nw0 _ | exact am_nw01 | rfl | assumption) ?_
  exact ⟨rfl, rfl⟩
theorem c_lt1 {b l g r : Nat} (hL : (HH I J R T)[r]? = some (rodC (1, b, l, g))) : am_E sc (d + 1) 19 [.ref r] (HH I J R T) (some (.int 1)) (HH I J R T) := by
  refine E_Z (Ze_of (Nat.le_of_ble_eq_true rfl) ?_)
  refine Z_jump 1 rfl ?_
  show Zs _ _ (am_P 19).2 (1, [(0, .ref r)], [.int (1 : Int32)]) (HH I J R T) _
  refine Z_rI rfl (by first | exact am_nw0 _ | exact am_nw01 | rfl | assumption) ?_
  exact ⟨rfl, rfl⟩
theorem c_lt2 {b l g r : Nat} (hL : (HH I J R T)[r]? = some (rodC (2, b, l, g))) : am_E sc (d + 1) 29 [.ref r] (HH I J R T) (some (.int 2)) (HH I J R T) := by
  refine E_Z (Ze_of (Nat.le_of_ble_eq_true rfl) ?_)
  refine Z_jump 1 rfl ?_
  show Zs _ _ (am_P 29).2 (1, [(0, .ref r)], [.int (2 : Int32)]) (HH I J R T) _
  refine Z_rI rfl (by first | exact am_nw0 _ | exact am_nw01 | rfl | assumption) ?_
  exact ⟨rfl, rfl⟩
theorem c_lt3 {b l g r : Nat} (hL : (HH I J R T)[r]? = some (rodC (3, b, l, g))) : am_E sc (d + 1) 19 [.ref r] (HH I J R T) (some (.int 1)) (HH I J R T) := by
  refine E_Z (Ze_of (Nat.le_of_ble_eq_true rfl) ?_)
  refine Z_jump 1 rfl ?_
  show Zs _ _ (am_P 19).2 (1, [(0, .ref r)], [.int (1 : Int32)]) (HH I J R T) _
  refine Z_rI rfl (by first | exact am_nw0 _ | exact am_nw01 | rfl | assumption) ?_
  exact ⟨rfl, rfl⟩
theorem c_ht0 {b l g r : Nat} (hL : (HH I J R T)[r]? = some (rodC (0, b, l, g))) : am_E sc (d + 1) 20 [.ref r] (HH I J R T) (some (.int 1)) (HH I J R T) := by
  refine E_Z (Ze_of (Nat.le_of_ble_eq_true rfl) ?_)
  refine Z_jump 1 rfl ?_
  show Zs _ _ (am_P 20).2 (1, [(0, .ref r)], [.int (1 : Int32)]) (HH I J R T) _
  refine Z_rI rfl (by first | exact am_nw0 _ | exact am_nw01 | rfl | assumption) ?_
  exact ⟨rfl, rfl⟩
theorem c_ht1 {b l g r : Nat} (hL : (HH I J R T)[r]? = some (rodC (1, b, l, g))) : am_E sc (d + 1) 20 [.ref r] (HH I J R T) (some (.int 1)) (HH I J R T) := by
  refine E_Z (Ze_of (Nat.le_of_ble_eq_true rfl) ?_)
  refine Z_jump 1 rfl ?_
  show Zs _ _ (am_P 20).2 (1, [(0, .ref r)], [.int (1 : Int32)]) (HH I J R T) _
  refine Z_rI rfl (by first | exact am_nw0 _ | exact am_nw01 | rfl | assumption) ?_
  exact ⟨rfl, rfl⟩
theorem c_ht2 {b l g r : Nat} (hL : (HH I J R T)[r]? = some (rodC (2, b, l, g))) : am_E sc (d + 1) 30 [.ref r] (HH I J R T) (some (.int 2)) (HH I J R T) := by
  refine E_Z (Ze_of (Nat.le_of_ble_eq_true rfl) ?_)
  refine Z_jump 1 rfl ?_
  show Zs _ _ (am_P 30).2 (1, [(0, .ref r)], [.int (2 : Int32)]) (HH I J R T) _
  refine Z_rI rfl (by first | exact am_nw0 _ | exact am_nw01 | rfl | assumption) ?_
  exact ⟨rfl, rfl⟩
theorem c_ht3 {b l g r : Nat} (hL : (HH I J R T)[r]? = some (rodC (3, b, l, g))) : am_E sc (d + 1) 14 [.ref r] (HH I J R T) (some (.int 3)) (HH I J R T) := by
  refine E_Z (Ze_of (Nat.le_of_ble_eq_true rfl) ?_)
  refine Z_jump 1 rfl ?_
  show Zs _ _ (am_P 14).2 (1, [(0, .ref r)], [.int (3 : Int32)]) (HH I J R T) _
  refine Z_rI rfl (by first | exact am_nw0 _ | exact am_nw01 | rfl | assumption) ?_
  exact ⟨rfl, rfl⟩
theorem kd_c {kd : Nat} (h : kd ≤ 3) : kd = 0 ∨ kd = 1 ∨ kd = 2 ∨ kd = 3 := by omega
theorem c_worthOf {q : RD4} {r : Nat} {x y : Int32} (hL : (HH I J R T)[r]? = some (rodC q)) (hq : q.1 ≤ 3) : am_E sc (d + 2) 23 [.ref r, .int x, .int y] (HH I J R T) (some (.int (x + y * nI (hwv q)))) (HH I J R T) := by
  refine E_Z (Ze_of (Nat.le_of_ble_eq_true rfl) ?_)
  obtain ⟨kd, b, l, g⟩ := q
  rcases kd_c hq with rfl | rfl | rfl | rfl
  · refine Z_jump 3 rfl ?_
    show Zs _ _ (am_P 23).2 (3, [(0, .ref r), (1, .int x), (2, .int y)], [.ref r, .int y, .int x]) (HH I J R T) _
    refine Z_c1 rfl (am_do_inv (hL) rfl rfl (Nat.le_of_ble_eq_true rfl)) rfl (c_hw0 hL) ?_
    show Zs _ _ (am_P 23).2 (6, [(0, .ref r), (1, .int x), (2, .int y)], [.int (0 : Int32), .int y, .int x]) (HH I J R T) _
    refine Z_jump 2 rfl ?_
    show Zs _ _ (am_P 23).2 (8, [(0, .ref r), (1, .int x), (2, .int y)], [.int (x + (y * (0 : Int32)))]) (HH I J R T) _
    refine Z_rI rfl (by first | exact am_nw0 _ | exact am_nw01 | rfl | assumption) ?_
    exact ⟨rfl, rfl⟩
  · refine Z_jump 3 rfl ?_
    show Zs _ _ (am_P 23).2 (3, [(0, .ref r), (1, .int x), (2, .int y)], [.ref r, .int y, .int x]) (HH I J R T) _
    refine Z_c1 rfl (am_do_inv (hL) rfl rfl (Nat.le_of_ble_eq_true rfl)) rfl (c_hw1 hL) ?_
    show Zs _ _ (am_P 23).2 (6, [(0, .ref r), (1, .int x), (2, .int y)], [.int (5 : Int32), .int y, .int x]) (HH I J R T) _
    refine Z_jump 2 rfl ?_
    show Zs _ _ (am_P 23).2 (8, [(0, .ref r), (1, .int x), (2, .int y)], [.int (x + (y * (5 : Int32)))]) (HH I J R T) _
    refine Z_rI rfl (by first | exact am_nw0 _ | exact am_nw01 | rfl | assumption) ?_
    exact ⟨rfl, rfl⟩
  · refine Z_jump 3 rfl ?_
    show Zs _ _ (am_P 23).2 (3, [(0, .ref r), (1, .int x), (2, .int y)], [.ref r, .int y, .int x]) (HH I J R T) _
    refine Z_c1 rfl (am_do_inv (hL) rfl rfl (Nat.le_of_ble_eq_true rfl)) rfl (c_hw2 hL) ?_
    show Zs _ _ (am_P 23).2 (6, [(0, .ref r), (1, .int x), (2, .int y)], [.int (5 : Int32), .int y, .int x]) (HH I J R T) _
    refine Z_jump 2 rfl ?_
    show Zs _ _ (am_P 23).2 (8, [(0, .ref r), (1, .int x), (2, .int y)], [.int (x + (y * (5 : Int32)))]) (HH I J R T) _
    refine Z_rI rfl (by first | exact am_nw0 _ | exact am_nw01 | rfl | assumption) ?_
    exact ⟨rfl, rfl⟩
  · refine Z_jump 3 rfl ?_
    show Zs _ _ (am_P 23).2 (3, [(0, .ref r), (1, .int x), (2, .int y)], [.ref r, .int y, .int x]) (HH I J R T) _
    refine Z_c1 rfl (am_do_inv (hL) rfl rfl (Nat.le_of_ble_eq_true rfl)) rfl (c_hw3 hL) ?_
    show Zs _ _ (am_P 23).2 (6, [(0, .ref r), (1, .int x), (2, .int y)], [.int (nI l + 1), .int y, .int x]) (HH I J R T) _
    refine Z_jump 2 rfl ?_
    show Zs _ _ (am_P 23).2 (8, [(0, .ref r), (1, .int x), (2, .int y)], [.int (x + (y * (nI l + 1)))]) (HH I J R T) _
    refine Z_rI rfl (by first | exact am_nw0 _ | exact am_nw01 | rfl | assumption) ?_
    exact ⟨am_ii (by rw [nI_1]; rfl), rfl⟩
theorem c_beadsOf {q : RD4} {r : Nat} {p : Int32} (hL : (HH I J R T)[r]? = some (rodC q)) (hq : q.1 ≤ 3) : am_E sc (d + 2) 21 [.ref r, .int p] (HH I J R T) (some (.int (if p = 1 then nI q.2.2.2 else nI q.2.2.1))) (HH I J R T) := by
  refine E_Z (Ze_of (Nat.le_of_ble_eq_true rfl) ?_)
  obtain ⟨kd, b, l, g⟩ := q
  rcases kd_c hq with rfl | rfl | rfl | rfl
  · refine Z_jump 3 rfl ?_
    refine Z_bn (fun (c2 : ¬ (p = (1 : Int32))) => ?_) (fun (c2 : p = (1 : Int32)) => ?_)
    · refine Z_jump 1 rfl ?_
      show Zs _ _ (am_P 21).2 (13, [(0, .ref r), (1, .int p)], [.ref r]) (HH I J R T) _
      refine Z_gf rfl (hL) rfl rfl ?_
      show Zs _ _ (am_P 21).2 (16, [(0, .ref r), (1, .int p)], [.int (nI l)]) (HH I J R T) _
      refine Z_rI rfl (by first | exact am_nw0 _ | exact am_nw01 | rfl | assumption) ?_
      exact ⟨am_ii (if_neg c2).symm, rfl⟩
    · refine Z_jump 1 rfl ?_
      show Zs _ _ (am_P 21).2 (6, [(0, .ref r), (1, .int p)], [.ref r]) (HH I J R T) _
      refine Z_gf rfl (hL) rfl rfl ?_
      refine Z_jump 1 rfl ?_
      show Zs _ _ (am_P 21).2 (16, [(0, .ref r), (1, .int p)], [.int (nI g)]) (HH I J R T) _
      refine Z_rI rfl (by first | exact am_nw0 _ | exact am_nw01 | rfl | assumption) ?_
      exact ⟨am_ii (if_pos c2).symm, rfl⟩
  · refine Z_jump 3 rfl ?_
    refine Z_bn (fun (c2 : ¬ (p = (1 : Int32))) => ?_) (fun (c2 : p = (1 : Int32)) => ?_)
    · refine Z_jump 1 rfl ?_
      show Zs _ _ (am_P 21).2 (13, [(0, .ref r), (1, .int p)], [.ref r]) (HH I J R T) _
      refine Z_gf rfl (hL) rfl rfl ?_
      show Zs _ _ (am_P 21).2 (16, [(0, .ref r), (1, .int p)], [.int (nI l)]) (HH I J R T) _
      refine Z_rI rfl (by first | exact am_nw0 _ | exact am_nw01 | rfl | assumption) ?_
      exact ⟨am_ii (if_neg c2).symm, rfl⟩
    · refine Z_jump 1 rfl ?_
      show Zs _ _ (am_P 21).2 (6, [(0, .ref r), (1, .int p)], [.ref r]) (HH I J R T) _
      refine Z_gf rfl (hL) rfl rfl ?_
      refine Z_jump 1 rfl ?_
      show Zs _ _ (am_P 21).2 (16, [(0, .ref r), (1, .int p)], [.int (nI g)]) (HH I J R T) _
      refine Z_rI rfl (by first | exact am_nw0 _ | exact am_nw01 | rfl | assumption) ?_
      exact ⟨am_ii (if_pos c2).symm, rfl⟩
  · refine Z_jump 3 rfl ?_
    refine Z_bn (fun (c2 : ¬ (p = (1 : Int32))) => ?_) (fun (c2 : p = (1 : Int32)) => ?_)
    · refine Z_jump 1 rfl ?_
      show Zs _ _ (am_P 21).2 (13, [(0, .ref r), (1, .int p)], [.ref r]) (HH I J R T) _
      refine Z_gf rfl (hL) rfl rfl ?_
      show Zs _ _ (am_P 21).2 (16, [(0, .ref r), (1, .int p)], [.int (nI l)]) (HH I J R T) _
      refine Z_rI rfl (by first | exact am_nw0 _ | exact am_nw01 | rfl | assumption) ?_
      exact ⟨am_ii (if_neg c2).symm, rfl⟩
    · refine Z_jump 1 rfl ?_
      show Zs _ _ (am_P 21).2 (6, [(0, .ref r), (1, .int p)], [.ref r]) (HH I J R T) _
      refine Z_gf rfl (hL) rfl rfl ?_
      refine Z_jump 1 rfl ?_
      show Zs _ _ (am_P 21).2 (16, [(0, .ref r), (1, .int p)], [.int (nI g)]) (HH I J R T) _
      refine Z_rI rfl (by first | exact am_nw0 _ | exact am_nw01 | rfl | assumption) ?_
      exact ⟨am_ii (if_pos c2).symm, rfl⟩
  · refine Z_jump 3 rfl ?_
    refine Z_bn (fun (c2 : ¬ (p = (1 : Int32))) => ?_) (fun (c2 : p = (1 : Int32)) => ?_)
    · refine Z_jump 1 rfl ?_
      show Zs _ _ (am_P 21).2 (13, [(0, .ref r), (1, .int p)], [.ref r]) (HH I J R T) _
      refine Z_gf rfl (hL) rfl rfl ?_
      show Zs _ _ (am_P 21).2 (16, [(0, .ref r), (1, .int p)], [.int (nI l)]) (HH I J R T) _
      refine Z_rI rfl (by first | exact am_nw0 _ | exact am_nw01 | rfl | assumption) ?_
      exact ⟨am_ii (if_neg c2).symm, rfl⟩
    · refine Z_jump 1 rfl ?_
      show Zs _ _ (am_P 21).2 (6, [(0, .ref r), (1, .int p)], [.ref r]) (HH I J R T) _
      refine Z_gf rfl (hL) rfl rfl ?_
      refine Z_jump 1 rfl ?_
      show Zs _ _ (am_P 21).2 (16, [(0, .ref r), (1, .int p)], [.int (nI g)]) (HH I J R T) _
      refine Z_rI rfl (by first | exact am_nw0 _ | exact am_nw01 | rfl | assumption) ?_
      exact ⟨am_ii (if_pos c2).symm, rfl⟩
theorem c_timeOf {q : RD4} {r : Nat} {p : Int32} (hL : (HH I J R T)[r]? = some (rodC q)) (hq : q.1 ≤ 3) : am_E sc (d + 2) 22 [.ref r, .int p] (HH I J R T) (some (.int (if p = 1 then nI (htv q) else nI (ltv q)))) (HH I J R T) := by
  refine E_Z (Ze_of (Nat.le_of_ble_eq_true rfl) ?_)
  obtain ⟨kd, b, l, g⟩ := q
  rcases kd_c hq with rfl | rfl | rfl | rfl
  · refine Z_jump 3 rfl ?_
    refine Z_bn (fun (c2 : ¬ (p = (1 : Int32))) => ?_) (fun (c2 : p = (1 : Int32)) => ?_)
    · refine Z_jump 1 rfl ?_
      show Zs _ _ (am_P 22).2 (13, [(0, .ref r), (1, .int p)], [.ref r]) (HH I J R T) _
      refine Z_c1 rfl (am_do_inv (hL) rfl rfl (Nat.le_of_ble_eq_true rfl)) rfl (c_lt0 hL) ?_
      show Zs _ _ (am_P 22).2 (16, [(0, .ref r), (1, .int p)], [.int (1 : Int32)]) (HH I J R T) _
      show Zs _ _ (am_P 22).2 (16, [(0, .ref r), (1, .int p)], [.int (1 : Int32)]) (HH I J R T) _
      refine Z_rI rfl (by first | exact am_nw0 _ | exact am_nw01 | rfl | assumption) ?_
      exact ⟨am_ii (if_neg c2).symm, rfl⟩
    · refine Z_jump 1 rfl ?_
      show Zs _ _ (am_P 22).2 (6, [(0, .ref r), (1, .int p)], [.ref r]) (HH I J R T) _
      refine Z_c1 rfl (am_do_inv (hL) rfl rfl (Nat.le_of_ble_eq_true rfl)) rfl (c_ht0 hL) ?_
      show Zs _ _ (am_P 22).2 (9, [(0, .ref r), (1, .int p)], [.int (1 : Int32)]) (HH I J R T) _
      refine Z_jump 1 rfl ?_
      show Zs _ _ (am_P 22).2 (16, [(0, .ref r), (1, .int p)], [.int (1 : Int32)]) (HH I J R T) _
      refine Z_rI rfl (by first | exact am_nw0 _ | exact am_nw01 | rfl | assumption) ?_
      exact ⟨am_ii (if_pos c2).symm, rfl⟩
  · refine Z_jump 3 rfl ?_
    refine Z_bn (fun (c2 : ¬ (p = (1 : Int32))) => ?_) (fun (c2 : p = (1 : Int32)) => ?_)
    · refine Z_jump 1 rfl ?_
      show Zs _ _ (am_P 22).2 (13, [(0, .ref r), (1, .int p)], [.ref r]) (HH I J R T) _
      refine Z_c1 rfl (am_do_inv (hL) rfl rfl (Nat.le_of_ble_eq_true rfl)) rfl (c_lt1 hL) ?_
      show Zs _ _ (am_P 22).2 (16, [(0, .ref r), (1, .int p)], [.int (1 : Int32)]) (HH I J R T) _
      show Zs _ _ (am_P 22).2 (16, [(0, .ref r), (1, .int p)], [.int (1 : Int32)]) (HH I J R T) _
      refine Z_rI rfl (by first | exact am_nw0 _ | exact am_nw01 | rfl | assumption) ?_
      exact ⟨am_ii (if_neg c2).symm, rfl⟩
    · refine Z_jump 1 rfl ?_
      show Zs _ _ (am_P 22).2 (6, [(0, .ref r), (1, .int p)], [.ref r]) (HH I J R T) _
      refine Z_c1 rfl (am_do_inv (hL) rfl rfl (Nat.le_of_ble_eq_true rfl)) rfl (c_ht1 hL) ?_
      show Zs _ _ (am_P 22).2 (9, [(0, .ref r), (1, .int p)], [.int (1 : Int32)]) (HH I J R T) _
      refine Z_jump 1 rfl ?_
      show Zs _ _ (am_P 22).2 (16, [(0, .ref r), (1, .int p)], [.int (1 : Int32)]) (HH I J R T) _
      refine Z_rI rfl (by first | exact am_nw0 _ | exact am_nw01 | rfl | assumption) ?_
      exact ⟨am_ii (if_pos c2).symm, rfl⟩
  · refine Z_jump 3 rfl ?_
    refine Z_bn (fun (c2 : ¬ (p = (1 : Int32))) => ?_) (fun (c2 : p = (1 : Int32)) => ?_)
    · refine Z_jump 1 rfl ?_
      show Zs _ _ (am_P 22).2 (13, [(0, .ref r), (1, .int p)], [.ref r]) (HH I J R T) _
      refine Z_c1 rfl (am_do_inv (hL) rfl rfl (Nat.le_of_ble_eq_true rfl)) rfl (c_lt2 hL) ?_
      show Zs _ _ (am_P 22).2 (16, [(0, .ref r), (1, .int p)], [.int (2 : Int32)]) (HH I J R T) _
      show Zs _ _ (am_P 22).2 (16, [(0, .ref r), (1, .int p)], [.int (2 : Int32)]) (HH I J R T) _
      refine Z_rI rfl (by first | exact am_nw0 _ | exact am_nw01 | rfl | assumption) ?_
      exact ⟨am_ii (if_neg c2).symm, rfl⟩
    · refine Z_jump 1 rfl ?_
      show Zs _ _ (am_P 22).2 (6, [(0, .ref r), (1, .int p)], [.ref r]) (HH I J R T) _
      refine Z_c1 rfl (am_do_inv (hL) rfl rfl (Nat.le_of_ble_eq_true rfl)) rfl (c_ht2 hL) ?_
      show Zs _ _ (am_P 22).2 (9, [(0, .ref r), (1, .int p)], [.int (2 : Int32)]) (HH I J R T) _
      refine Z_jump 1 rfl ?_
      show Zs _ _ (am_P 22).2 (16, [(0, .ref r), (1, .int p)], [.int (2 : Int32)]) (HH I J R T) _
      refine Z_rI rfl (by first | exact am_nw0 _ | exact am_nw01 | rfl | assumption) ?_
      exact ⟨am_ii (if_pos c2).symm, rfl⟩
  · refine Z_jump 3 rfl ?_
    refine Z_bn (fun (c2 : ¬ (p = (1 : Int32))) => ?_) (fun (c2 : p = (1 : Int32)) => ?_)
    · refine Z_jump 1 rfl ?_
      show Zs _ _ (am_P 22).2 (13, [(0, .ref r), (1, .int p)], [.ref r]) (HH I J R T) _
      refine Z_c1 rfl (am_do_inv (hL) rfl rfl (Nat.le_of_ble_eq_true rfl)) rfl (c_lt3 hL) ?_
      show Zs _ _ (am_P 22).2 (16, [(0, .ref r), (1, .int p)], [.int (1 : Int32)]) (HH I J R T) _
      show Zs _ _ (am_P 22).2 (16, [(0, .ref r), (1, .int p)], [.int (1 : Int32)]) (HH I J R T) _
      refine Z_rI rfl (by first | exact am_nw0 _ | exact am_nw01 | rfl | assumption) ?_
      exact ⟨am_ii (if_neg c2).symm, rfl⟩
    · refine Z_jump 1 rfl ?_
      show Zs _ _ (am_P 22).2 (6, [(0, .ref r), (1, .int p)], [.ref r]) (HH I J R T) _
      refine Z_c1 rfl (am_do_inv (hL) rfl rfl (Nat.le_of_ble_eq_true rfl)) rfl (c_ht3 hL) ?_
      show Zs _ _ (am_P 22).2 (9, [(0, .ref r), (1, .int p)], [.int (3 : Int32)]) (HH I J R T) _
      refine Z_jump 1 rfl ?_
      show Zs _ _ (am_P 22).2 (16, [(0, .ref r), (1, .int p)], [.int (3 : Int32)]) (HH I J R T) _
      refine Z_rI rfl (by first | exact am_nw0 _ | exact am_nw01 | rfl | assumption) ?_
      exact ⟨am_ii (if_pos c2).symm, rfl⟩
theorem c_isStuck {a : Nat} {x p : Int32} (ha : isSt a) : am_E sc (d + 2) 37 [.ref a, .int x, .int p] (HH I J R T) (some (.int (if I a 2 &&& (1 <<< ((2 * x + p) &&& 31)) = 0 then 0 else 1))) (HH I J R T) := by
  refine E_Z (Ze_of (Nat.le_of_ble_eq_true rfl) ?_)
  refine Z_jump 1 rfl ?_
  show Zs _ _ (am_P 37).2 (1, [(0, .ref a), (1, .int x), (2, .int p)], [.ref a]) (HH I J R T) _
  refine Z_gf rfl (st_0 ha) rfl rfl ?_
  refine Z_jump 2 rfl ?_
  show Zs _ _ (am_P 37).2 (6, [(0, .ref a), (1, .int x), (2, .int p)], [.int p, .int x, .int (I a 2)]) (HH I J R T) _
  refine Z_c1 rfl rfl rfl (c_partBit) ?_
  show Zs _ _ (am_P 37).2 (9, [(0, .ref a), (1, .int x), (2, .int p)], [.int (1 <<< ((2 * x + p) &&& 31)), .int (I a 2)]) (HH I J R T) _
  refine Z_jump 2 rfl ?_
  refine Z_bd (fun (c10 : ((I a 2) &&& (1 <<< ((2 * x + p) &&& 31))) = (0 : Int32)) => ?_) (fun (c10 : ¬ (((I a 2) &&& (1 <<< ((2 * x + p) &&& 31))) = (0 : Int32))) => ?_)
  · refine Z_jump 1 rfl ?_
    show Zs _ _ (am_P 37).2 (18, [(0, .ref a), (1, .int x), (2, .int p)], [.int (0 : Int32)]) (HH I J R T) _
    refine Z_rI rfl (by first | exact am_nw0 _ | exact am_nw01 | rfl | assumption) ?_
    exact ⟨am_ii (if_pos c10).symm, rfl⟩
  · refine Z_jump 2 rfl ?_
    show Zs _ _ (am_P 37).2 (18, [(0, .ref a), (1, .int x), (2, .int p)], [.int (1 : Int32)]) (HH I J R T) _
    refine Z_rI rfl (by first | exact am_nw0 _ | exact am_nw01 | rfl | assumption) ?_
    exact ⟨am_ii (if_neg c10).symm, rfl⟩
/-- what a rod of a standing shows -/
def shw (I : hI) (a i : Nat) (q : RD4) : Int32 := I (a + 1) i + I (a + 2) i * nI (hwv q)
theorem c_shows {q : RD4} {a i r : Nat} {x : Int32} (ha : isSt a) (hx : x = nI i) (hi : i < 6) (hL : (HH I J R T)[r]? = some (rodC q)) (hq : q.1 ≤ 3) : am_E sc (d + 3) 38 [.ref a, .int x, .ref r] (HH I J R T) (some (.int (shw I a i q))) (HH I J R T) := by
  refine E_Z (Ze_of (Nat.le_of_ble_eq_true rfl) ?_)
  obtain ⟨kd, b, l, g⟩ := q
  rcases kd_c hq with rfl | rfl | rfl | rfl
  · refine Z_jump 4 rfl ?_
    show Zs _ _ (am_P 38).2 (4, [(0, .ref a), (1, .int x), (2, .ref r)], [.int (0 : Int32), .int x, .ref a, .ref r]) (HH I J R T) _
    refine Z_c1 rfl (am_do_inv (st_0 ha) rfl rfl (Nat.le_of_ble_eq_true rfl)) rfl (c_beads (p := 0) ha hx hi) ?_
    show Zs _ _ (am_P 38).2 (7, [(0, .ref a), (1, .int x), (2, .ref r)], [.int (I (a + 1) i), .ref r]) (HH I J R T) _
    refine Z_jump 3 rfl ?_
    show Zs _ _ (am_P 38).2 (10, [(0, .ref a), (1, .int x), (2, .ref r)], [.int (1 : Int32), .int x, .ref a, .int (I (a + 1) i), .ref r]) (HH I J R T) _
    refine Z_c1 rfl (am_do_inv (st_0 ha) rfl rfl (Nat.le_of_ble_eq_true rfl)) rfl (c_beads (p := 1) ha hx hi) ?_
    show Zs _ _ (am_P 38).2 (13, [(0, .ref a), (1, .int x), (2, .ref r)], [.int (I (a + 2) i), .int (I (a + 1) i), .ref r]) (HH I J R T) _
    show Zs _ _ (am_P 38).2 (13, [(0, .ref a), (1, .int x), (2, .ref r)], [.int (I (a + 2) i), .int (I (a + 1) i), .ref r]) (HH I J R T) _
    refine Z_c1 rfl (am_do_inv (hL) rfl rfl (Nat.le_of_ble_eq_true rfl)) rfl (c_worthOf hL hq) ?_
    show Zs _ _ (am_P 38).2 (16, [(0, .ref a), (1, .int x), (2, .ref r)], [.int ((I (a + 1) i) + (I (a + 2) i) * nI (hwv (0, b, l, g)))]) (HH I J R T) _
    show Zs _ _ (am_P 38).2 (16, [(0, .ref a), (1, .int x), (2, .ref r)], [.int ((I (a + 1) i) + (I (a + 2) i) * nI (hwv (0, b, l, g)))]) (HH I J R T) _
    refine Z_rI rfl (by first | exact am_nw0 _ | exact am_nw01 | rfl | assumption) ?_
    exact ⟨rfl, rfl⟩
  · refine Z_jump 4 rfl ?_
    show Zs _ _ (am_P 38).2 (4, [(0, .ref a), (1, .int x), (2, .ref r)], [.int (0 : Int32), .int x, .ref a, .ref r]) (HH I J R T) _
    refine Z_c1 rfl (am_do_inv (st_0 ha) rfl rfl (Nat.le_of_ble_eq_true rfl)) rfl (c_beads (p := 0) ha hx hi) ?_
    show Zs _ _ (am_P 38).2 (7, [(0, .ref a), (1, .int x), (2, .ref r)], [.int (I (a + 1) i), .ref r]) (HH I J R T) _
    refine Z_jump 3 rfl ?_
    show Zs _ _ (am_P 38).2 (10, [(0, .ref a), (1, .int x), (2, .ref r)], [.int (1 : Int32), .int x, .ref a, .int (I (a + 1) i), .ref r]) (HH I J R T) _
    refine Z_c1 rfl (am_do_inv (st_0 ha) rfl rfl (Nat.le_of_ble_eq_true rfl)) rfl (c_beads (p := 1) ha hx hi) ?_
    show Zs _ _ (am_P 38).2 (13, [(0, .ref a), (1, .int x), (2, .ref r)], [.int (I (a + 2) i), .int (I (a + 1) i), .ref r]) (HH I J R T) _
    show Zs _ _ (am_P 38).2 (13, [(0, .ref a), (1, .int x), (2, .ref r)], [.int (I (a + 2) i), .int (I (a + 1) i), .ref r]) (HH I J R T) _
    refine Z_c1 rfl (am_do_inv (hL) rfl rfl (Nat.le_of_ble_eq_true rfl)) rfl (c_worthOf hL hq) ?_
    show Zs _ _ (am_P 38).2 (16, [(0, .ref a), (1, .int x), (2, .ref r)], [.int ((I (a + 1) i) + (I (a + 2) i) * nI (hwv (1, b, l, g)))]) (HH I J R T) _
    show Zs _ _ (am_P 38).2 (16, [(0, .ref a), (1, .int x), (2, .ref r)], [.int ((I (a + 1) i) + (I (a + 2) i) * nI (hwv (1, b, l, g)))]) (HH I J R T) _
    refine Z_rI rfl (by first | exact am_nw0 _ | exact am_nw01 | rfl | assumption) ?_
    exact ⟨rfl, rfl⟩
  · refine Z_jump 4 rfl ?_
    show Zs _ _ (am_P 38).2 (4, [(0, .ref a), (1, .int x), (2, .ref r)], [.int (0 : Int32), .int x, .ref a, .ref r]) (HH I J R T) _
    refine Z_c1 rfl (am_do_inv (st_0 ha) rfl rfl (Nat.le_of_ble_eq_true rfl)) rfl (c_beads (p := 0) ha hx hi) ?_
    show Zs _ _ (am_P 38).2 (7, [(0, .ref a), (1, .int x), (2, .ref r)], [.int (I (a + 1) i), .ref r]) (HH I J R T) _
    refine Z_jump 3 rfl ?_
    show Zs _ _ (am_P 38).2 (10, [(0, .ref a), (1, .int x), (2, .ref r)], [.int (1 : Int32), .int x, .ref a, .int (I (a + 1) i), .ref r]) (HH I J R T) _
    refine Z_c1 rfl (am_do_inv (st_0 ha) rfl rfl (Nat.le_of_ble_eq_true rfl)) rfl (c_beads (p := 1) ha hx hi) ?_
    show Zs _ _ (am_P 38).2 (13, [(0, .ref a), (1, .int x), (2, .ref r)], [.int (I (a + 2) i), .int (I (a + 1) i), .ref r]) (HH I J R T) _
    show Zs _ _ (am_P 38).2 (13, [(0, .ref a), (1, .int x), (2, .ref r)], [.int (I (a + 2) i), .int (I (a + 1) i), .ref r]) (HH I J R T) _
    refine Z_c1 rfl (am_do_inv (hL) rfl rfl (Nat.le_of_ble_eq_true rfl)) rfl (c_worthOf hL hq) ?_
    show Zs _ _ (am_P 38).2 (16, [(0, .ref a), (1, .int x), (2, .ref r)], [.int ((I (a + 1) i) + (I (a + 2) i) * nI (hwv (2, b, l, g)))]) (HH I J R T) _
    show Zs _ _ (am_P 38).2 (16, [(0, .ref a), (1, .int x), (2, .ref r)], [.int ((I (a + 1) i) + (I (a + 2) i) * nI (hwv (2, b, l, g)))]) (HH I J R T) _
    refine Z_rI rfl (by first | exact am_nw0 _ | exact am_nw01 | rfl | assumption) ?_
    exact ⟨rfl, rfl⟩
  · refine Z_jump 4 rfl ?_
    show Zs _ _ (am_P 38).2 (4, [(0, .ref a), (1, .int x), (2, .ref r)], [.int (0 : Int32), .int x, .ref a, .ref r]) (HH I J R T) _
    refine Z_c1 rfl (am_do_inv (st_0 ha) rfl rfl (Nat.le_of_ble_eq_true rfl)) rfl (c_beads (p := 0) ha hx hi) ?_
    show Zs _ _ (am_P 38).2 (7, [(0, .ref a), (1, .int x), (2, .ref r)], [.int (I (a + 1) i), .ref r]) (HH I J R T) _
    refine Z_jump 3 rfl ?_
    show Zs _ _ (am_P 38).2 (10, [(0, .ref a), (1, .int x), (2, .ref r)], [.int (1 : Int32), .int x, .ref a, .int (I (a + 1) i), .ref r]) (HH I J R T) _
    refine Z_c1 rfl (am_do_inv (st_0 ha) rfl rfl (Nat.le_of_ble_eq_true rfl)) rfl (c_beads (p := 1) ha hx hi) ?_
    show Zs _ _ (am_P 38).2 (13, [(0, .ref a), (1, .int x), (2, .ref r)], [.int (I (a + 2) i), .int (I (a + 1) i), .ref r]) (HH I J R T) _
    show Zs _ _ (am_P 38).2 (13, [(0, .ref a), (1, .int x), (2, .ref r)], [.int (I (a + 2) i), .int (I (a + 1) i), .ref r]) (HH I J R T) _
    refine Z_c1 rfl (am_do_inv (hL) rfl rfl (Nat.le_of_ble_eq_true rfl)) rfl (c_worthOf hL hq) ?_
    show Zs _ _ (am_P 38).2 (16, [(0, .ref a), (1, .int x), (2, .ref r)], [.int ((I (a + 1) i) + (I (a + 2) i) * nI (hwv (3, b, l, g)))]) (HH I J R T) _
    show Zs _ _ (am_P 38).2 (16, [(0, .ref a), (1, .int x), (2, .ref r)], [.int ((I (a + 1) i) + (I (a + 2) i) * nI (hwv (3, b, l, g)))]) (HH I J R T) _
    refine Z_rI rfl (by first | exact am_nw0 _ | exact am_nw01 | rfl | assumption) ?_
    exact ⟨rfl, rfl⟩
end ROD

