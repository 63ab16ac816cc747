/-! The class's Ways: exact contracts, method by method: load, loadRod, loadBounds, price, addChoice, aim. -/
section WY1
variable {sc : Nat × (Nat → Int32)} {d : Nat} {I : hI} {J : hJ} {R : hR} {T : am_H} {Q : Option Value → am_H → Prop} {h h1 : am_H}
theorem E_pos {P : Prop} [Decidable P] {M : Nat} {as : List Value} {a b : Int32} (e : am_E sc d M as h (some (.int (if P then a else b))) h1) (hp : P) : am_E sc d M as h (some (.int a)) h1 := by
  rw [if_pos hp] at e; exact e
theorem E_neg {P : Prop} [Decidable P] {M : Nat} {as : List Value} {a b : Int32} (e : am_E sc d M as h (some (.int (if P then a else b))) h1) (hp : ¬ P) : am_E sc d M as h (some (.int b)) h1 := by
  rw [if_neg hp] at e; exact e
def wI (I : hI) (c L : Nat) (x v : Int32) : hI := va_up I c (am_wr L (I c) x v)
theorem wI_c {I : hI} {c L c2 : Nat} {x v : Int32} (h : c2 ≠ c) : wI I c L x v c2 = I c2 := up_ne h
def slotF (i s : Int32) : Int32 := if s < 0 then -1 else if 40 ≤ s then -1 else i * 40 + s
theorem c_slot {i s : Int32} : am_E sc (d + 1) 70 [.int i, .int s] (HH I J R T) (some (.int (slotF i s))) (HH I J R T) := by
  refine E_Z (Ze_of (Nat.le_of_ble_eq_true rfl) ?_)
  refine Z_jump 2 rfl ?_
  refine Z_bd (fun (c1 : s < (0 : Int32)) => ?_) (fun (c1 : ¬ (s < (0 : Int32))) => ?_)
  · refine Z_jump 1 rfl ?_
    show Zs _ _ (am_P 70).2 (20, [(0, .int i), (1, .int s)], [.int (-1 : Int32)]) (HH I J R T) _
    refine Z_rI rfl (by first | exact am_nw0 _ | exact am_nw01 | rfl | assumption) ?_
    exact ⟨am_ii (by unfold slotF; rw [if_pos c1]), rfl⟩
  · refine Z_jump 3 rfl ?_
    refine Z_bd (fun (c7 : (40 : Int32) ≤ s) => ?_) (fun (c7 : ¬ ((40 : Int32) ≤ s)) => ?_)
    · refine Z_jump 1 rfl ?_
      show Zs _ _ (am_P 70).2 (20, [(0, .int i), (1, .int s)], [.int (-1 : Int32)]) (HH I J R T) _
      refine Z_rI rfl (by first | exact am_nw0 _ | exact am_nw01 | rfl | assumption) ?_
      exact ⟨am_ii (by unfold slotF; rw [if_neg c1, if_pos c7]), rfl⟩
    · refine Z_jump 6 rfl ?_
      show Zs _ _ (am_P 70).2 (20, [(0, .int i), (1, .int s)], [.int ((i * (40 : Int32)) + s)]) (HH I J R T) _
      refine Z_rI rfl (by first | exact am_nw0 _ | exact am_nw01 | rfl | assumption) ?_
      exact ⟨am_ii (by unfold slotF; rw [if_neg c1, if_neg c7]), rfl⟩
def costF (I : hI) (i s : Int32) : Int32 := if slotF i s = -1 then 1048576 else am_rd 240 (I 5) (slotF i s)
theorem c_costOf {i s : Int32} : am_E sc (d + 2) 71 [.ref 4, .int i, .int s] (HH I J R T) (some (.int (costF I i s))) (HH I J R T) := by
  refine E_Z (Ze_of (Nat.le_of_ble_eq_true rfl) ?_)
  refine Z_jump 2 rfl ?_
  show Zs _ _ (am_P 71).2 (2, [(0, .ref 4), (1, .int i), (2, .int s)], [.int s, .int i]) (HH I J R T) _
  refine Z_c1 rfl rfl rfl (c_slot) ?_
  show Zs _ _ (am_P 71).2 (5, [(0, .ref 4), (1, .int i), (2, .int s)], [.int (slotF i s)]) (HH I J R T) _
  refine Z_jump 4 rfl ?_
  refine Z_bn (fun (c8 : ¬ ((slotF i s) = (-1 : Int32))) => ?_) (fun (c8 : (slotF i s) = (-1 : Int32)) => ?_)
  · refine Z_jump 3 rfl ?_
    show Zs _ _ (am_P 71).2 (21, [(0, .ref 4), (1, .int i), (2, .int s), (3, .int (slotF i s))], [.int (slotF i s), .ref 5]) (HH I J R T) _
    refine Z_c1 rfl rfl rfl (k_at (a := 5) (L := 240) (f := I 5) rfl (by decide)) ?_
    show Zs _ _ (am_P 71).2 (24, [(0, .ref 4), (1, .int i), (2, .int s), (3, .int (slotF i s))], [.int (am_rd 240 (I 5) (slotF i s))]) (HH I J R T) _
    show Zs _ _ (am_P 71).2 (24, [(0, .ref 4), (1, .int i), (2, .int s), (3, .int (slotF i s))], [.int (am_rd 240 (I 5) (slotF i s))]) (HH I J R T) _
    refine Z_rI rfl (by first | exact am_nw0 _ | exact am_nw01 | rfl | assumption) ?_
    exact ⟨am_ii (by unfold costF; rw [if_neg c8]), rfl⟩
  · refine Z_jump 2 rfl ?_
    show Zs _ _ (am_P 71).2 (24, [(0, .ref 4), (1, .int i), (2, .int s), (3, .int (slotF i s))], [.int (1048576 : Int32)]) (HH I J R T) _
    refine Z_rI rfl (by first | exact am_nw0 _ | exact am_nw01 | rfl | assumption) ?_
    exact ⟨am_ii (by unfold costF; rw [if_pos c8]), rfl⟩
def baseF (I : hI) (i : Int32) : Int32 := if am_rd 6 (I 8) i < 2 then 2 else am_rd 6 (I 8) i
theorem c_baseOf {i : Int32} : am_E sc (d + 2) 74 [.ref 4, .int i] (HH I J R T) (some (.int (baseF I i))) (HH I J R T) := by
  refine E_Z (Ze_of (Nat.le_of_ble_eq_true rfl) ?_)
  refine Z_jump 3 rfl ?_
  show Zs _ _ (am_P 74).2 (5, [(0, .ref 4), (1, .int i)], [.int i, .ref 8]) (HH I J R T) _
  refine Z_c1 rfl rfl rfl (k_at (a := 8) (L := 6) (f := I 8) rfl (by decide)) ?_
  show Zs _ _ (am_P 74).2 (8, [(0, .ref 4), (1, .int i)], [.int (am_rd 6 (I 8) i)]) (HH I J R T) _
  refine Z_jump 2 rfl ?_
  show Zs _ _ (am_P 74).2 (12, [(0, .ref 4), (1, .int i)], [.int (if (am_rd 6 (I 8) i) < (2 : Int32) then (2 : Int32) else (am_rd 6 (I 8) i))]) (HH I J R T) _
  refine Z_rI rfl (by first | exact am_nw0 _ | exact am_nw01 | rfl | assumption) ?_
  exact ⟨rfl, rfl⟩
abbrev inR (I : hI) (i left : Int32) : Prop := ¬ left < am_rd 7 (I 11) i ∧ ¬ am_rd 7 (I 10) i < left
theorem c_inReach {i s : Int32} : am_E sc (d + 2) 78 [.ref 4, .int i, .int s] (HH I J R T) (some (.int (if inR I i s then 1 else 0))) (HH I J R T) := by
  refine E_Z (Ze_of (Nat.le_of_ble_eq_true rfl) ?_)
  refine Z_jump 4 rfl ?_
  show Zs _ _ (am_P 78).2 (6, [(0, .ref 4), (1, .int i), (2, .int s)], [.int i, .ref 11, .int s]) (HH I J R T) _
  refine Z_c1 rfl rfl rfl (k_at (a := 11) (L := 7) (f := I 11) rfl (by decide)) ?_
  show Zs _ _ (am_P 78).2 (9, [(0, .ref 4), (1, .int i), (2, .int s)], [.int (am_rd 7 (I 11) i), .int s]) (HH I J R T) _
  refine Z_jump 1 rfl ?_
  refine Z_bd (fun (c9 : s < (am_rd 7 (I 11) i)) => ?_) (fun (c9 : ¬ (s < (am_rd 7 (I 11) i))) => ?_)
  · refine Z_jump 1 rfl ?_
    show Zs _ _ (am_P 78).2 (29, [(0, .ref 4), (1, .int i), (2, .int s)], [.int (0 : Int32)]) (HH I J R T) _
    refine Z_rI rfl (by first | exact am_nw0 _ | exact am_nw01 | rfl | assumption) ?_
    exact ⟨am_ii (if_neg (fun z => z.1 c9)).symm, rfl⟩
  · refine Z_jump 4 rfl ?_
    show Zs _ _ (am_P 78).2 (18, [(0, .ref 4), (1, .int i), (2, .int s)], [.int i, .ref 10, .int s]) (HH I J R T) _
    refine Z_c1 rfl rfl rfl (k_at (a := 10) (L := 7) (f := I 10) rfl (by decide)) ?_
    show Zs _ _ (am_P 78).2 (21, [(0, .ref 4), (1, .int i), (2, .int s)], [.int (am_rd 7 (I 10) i), .int s]) (HH I J R T) _
    refine Z_jump 1 rfl ?_
    refine Z_bd (fun (c21 : (am_rd 7 (I 10) i) < s) => ?_) (fun (c21 : ¬ ((am_rd 7 (I 10) i) < s)) => ?_)
    · refine Z_jump 1 rfl ?_
      show Zs _ _ (am_P 78).2 (29, [(0, .ref 4), (1, .int i), (2, .int s)], [.int (0 : Int32)]) (HH I J R T) _
      refine Z_rI rfl (by first | exact am_nw0 _ | exact am_nw01 | rfl | assumption) ?_
      exact ⟨am_ii (if_neg (fun z => z.2 c21)).symm, rfl⟩
    · refine Z_jump 2 rfl ?_
      show Zs _ _ (am_P 78).2 (29, [(0, .ref 4), (1, .int i), (2, .int s)], [.int (1 : Int32)]) (HH I J R T) _
      refine Z_rI rfl (by first | exact am_nw0 _ | exact am_nw01 | rfl | assumption) ?_
      exact ⟨am_ii (if_pos ⟨c9, c21⟩).symm, rfl⟩
/-- price -/
def bdF (I : hI) (a i : Nat) (p : Int32) : Int32 := if p = 1 then I (a + 2) i else I (a + 1) i
def tmF (q : RD4) (p : Int32) : Int32 := if p = 1 then nI (htv q) else nI (ltv q)
def offF (I : hI) (a i : Nat) (p n : Int32) : Int32 := if 0 ≤ n - bdF I a i p then n - bdF I a i p else 0 - (n - bdF I a i p)
def bitF (x p : Int32) : Int32 := 1 <<< ((2 * x + p) &&& 31)
def priceF (I : hI) (a : Nat) (q : RD4) (i : Nat) (p n lo : Int32) : Int32 :=
  if I a 2 &&& bitF (nI i) p = 0 then (if lo = 0 then offF I a i p n * tmF q p else 0)
  else if lo = 0 then (if offF I a i p n ≤ 0 then offF I a i p n * tmF q p else 1048576) else if offF I a i p n ≤ 0 then 0 else 4096 + bitF (nI i) p
theorem c_price {q : RD4} {a i r : Nat} {p n lo : Int32} (ha : isSt a) (hi : i < 6) (hL : (HH I J R T)[r]? = some (rodC q)) (hq : q.1 ≤ 3) : am_E sc (d + 3) 67 [.int (nI i), .ref r, .int p, .int n, .ref a, .int lo] (HH I J R T) (some (.int (priceF I a q i p n lo))) (HH I J R T) := by
  refine E_Z (Ze_of (Nat.le_of_ble_eq_true rfl) ?_)
  refine Z_jump 4 rfl ?_
  show Zs _ _ (am_P 67).2 (5, [(0, .int (nI i)), (1, .ref r), (2, .int p), (3, .int n), (4, .ref a), (5, .int lo)], [.int p, .int (nI i), .ref a, .int n]) (HH I J R T) _
  refine Z_c1 rfl (am_do_inv (st_0 ha) rfl (rfl) (Nat.le_of_ble_eq_true rfl)) rfl (c_beads ha rfl hi) ?_
  show Zs _ _ (am_P 67).2 (8, [(0, .int (nI i)), (1, .ref r), (2, .int p), (3, .int n), (4, .ref a), (5, .int lo)], [.int (bdF I a i p), .int n]) (HH I J R T) _
  refine Z_jump 2 rfl ?_
  show Zs _ _ (am_P 67).2 (12, [(0, .int (nI i)), (1, .ref r), (2, .int p), (3, .int n), (4, .ref a), (5, .int lo)], [.int (if 0 ≤ (n - (bdF I a i p)) then (n - (bdF I a i p)) else 0 - (n - (bdF I a i p)))]) (HH I J R T) _
  refine Z_eqI (y := (offF I a i p n)) (rfl) ?_
  show Zs _ _ (am_P 67).2 (12, [(0, .int (nI i)), (1, .ref r), (2, .int p), (3, .int n), (4, .ref a), (5, .int lo)], [.int (offF I a i p n)]) (HH I J R T) _
  refine Z_jump 4 rfl ?_
  show Zs _ _ (am_P 67).2 (18, [(0, .int (nI i)), (1, .ref r), (2, .int p), (3, .int n), (4, .ref a), (5, .int lo), (6, .int (offF I a i p n))], [.int p, .int (nI i), .ref a]) (HH I J R T) _
  by_cases b18 : I a 2 &&& bitF (nI i) p = 0
  · refine Z_c1 rfl (am_do_inv (st_0 ha) rfl (rfl) (Nat.le_of_ble_eq_true rfl)) rfl (E_pos (c_isStuck ha) b18) ?_
    show Zs _ _ (am_P 67).2 (21, [(0, .int (nI i)), (1, .ref r), (2, .int p), (3, .int n), (4, .ref a), (5, .int lo), (6, .int (offF I a i p n))], [.int (0 : Int32)]) (HH I J R T) _
    refine Z_jump 3 rfl ?_
    refine Z_bd (fun (c25 : lo = (0 : Int32)) => ?_) (fun (c25 : ¬ (lo = (0 : Int32))) => ?_)
    · refine Z_jump 5 rfl ?_
      show Zs _ _ (am_P 67).2 (71, [(0, .int (nI i)), (1, .ref r), (2, .int p), (3, .int n), (4, .ref a), (5, .int lo), (6, .int (offF I a i p n)), (7, .int (0 : Int32))], [.int p, .ref r, .int (offF I a i p n)]) (HH I J R T) _
      refine Z_c1 rfl (am_do_inv (hL) rfl (dis4 hq) (Nat.le_of_ble_eq_true rfl)) rfl (c_timeOf hL hq) ?_
      show Zs _ _ (am_P 67).2 (74, [(0, .int (nI i)), (1, .ref r), (2, .int p), (3, .int n), (4, .ref a), (5, .int lo), (6, .int (offF I a i p n)), (7, .int (0 : Int32))], [.int (tmF q p), .int (offF I a i p n)]) (HH I J R T) _
      refine Z_jump 1 rfl ?_
      show Zs _ _ (am_P 67).2 (75, [(0, .int (nI i)), (1, .ref r), (2, .int p), (3, .int n), (4, .ref a), (5, .int lo), (6, .int (offF I a i p n)), (7, .int (0 : Int32))], [.int ((offF I a i p n) * (tmF q p))]) (HH I J R T) _
      refine Z_rI rfl (by first | exact am_nw0 _ | exact am_nw01 | rfl | assumption) ?_
      exact ⟨am_ii (by unfold priceF; rw [if_pos b18, if_pos c25]), rfl⟩
    · refine Z_jump 3 rfl ?_
      show Zs _ _ (am_P 67).2 (51, [(0, .int (nI i)), (1, .ref r), (2, .int p), (3, .int n), (4, .ref a), (5, .int lo), (6, .int (offF I a i p n)), (7, .int (0 : Int32))], [.int (0 : Int32)]) (HH I J R T) _
      refine Z_rI rfl (by first | exact am_nw0 _ | exact am_nw01 | rfl | assumption) ?_
      exact ⟨am_ii (by unfold priceF; rw [if_pos b18, if_neg c25]), rfl⟩
  · refine Z_c1 rfl (am_do_inv (st_0 ha) rfl (rfl) (Nat.le_of_ble_eq_true rfl)) rfl (E_neg (c_isStuck ha) b18) ?_
    show Zs _ _ (am_P 67).2 (21, [(0, .int (nI i)), (1, .ref r), (2, .int p), (3, .int n), (4, .ref a), (5, .int lo), (6, .int (offF I a i p n))], [.int (1 : Int32)]) (HH I J R T) _
    refine Z_jump 3 rfl ?_
    refine Z_bd (fun (c25 : lo = (0 : Int32)) => ?_) (fun (c25 : ¬ (lo = (0 : Int32))) => ?_)
    · refine Z_jump 4 rfl ?_
      refine Z_bd (fun (c59 : (offF I a i p n) ≤ (0 : Int32)) => ?_) (fun (c59 : ¬ ((offF I a i p n) ≤ (0 : Int32))) => ?_)
      · refine Z_jump 3 rfl ?_
        show Zs _ _ (am_P 67).2 (71, [(0, .int (nI i)), (1, .ref r), (2, .int p), (3, .int n), (4, .ref a), (5, .int lo), (6, .int (offF I a i p n)), (7, .int (1 : Int32))], [.int p, .ref r, .int (offF I a i p n)]) (HH I J R T) _
        refine Z_c1 rfl (am_do_inv (hL) rfl (dis4 hq) (Nat.le_of_ble_eq_true rfl)) rfl (c_timeOf hL hq) ?_
        show Zs _ _ (am_P 67).2 (74, [(0, .int (nI i)), (1, .ref r), (2, .int p), (3, .int n), (4, .ref a), (5, .int lo), (6, .int (offF I a i p n)), (7, .int (1 : Int32))], [.int (tmF q p), .int (offF I a i p n)]) (HH I J R T) _
        refine Z_jump 1 rfl ?_
        show Zs _ _ (am_P 67).2 (75, [(0, .int (nI i)), (1, .ref r), (2, .int p), (3, .int n), (4, .ref a), (5, .int lo), (6, .int (offF I a i p n)), (7, .int (1 : Int32))], [.int ((offF I a i p n) * (tmF q p))]) (HH I J R T) _
        refine Z_rI rfl (by first | exact am_nw0 _ | exact am_nw01 | rfl | assumption) ?_
        exact ⟨am_ii (by unfold priceF; rw [if_neg b18, if_pos c25, if_pos c59]), rfl⟩
      · refine Z_jump 2 rfl ?_
        show Zs _ _ (am_P 67).2 (75, [(0, .int (nI i)), (1, .ref r), (2, .int p), (3, .int n), (4, .ref a), (5, .int lo), (6, .int (offF I a i p n)), (7, .int (1 : Int32))], [.int (1048576 : Int32)]) (HH I J R T) _
        refine Z_rI rfl (by first | exact am_nw0 _ | exact am_nw01 | rfl | assumption) ?_
        exact ⟨am_ii (by unfold priceF; rw [if_neg b18, if_pos c25, if_neg c59]), rfl⟩
    · refine Z_jump 4 rfl ?_
      refine Z_bd (fun (c35 : (offF I a i p n) ≤ (0 : Int32)) => ?_) (fun (c35 : ¬ ((offF I a i p n) ≤ (0 : Int32))) => ?_)
      · refine Z_jump 1 rfl ?_
        show Zs _ _ (am_P 67).2 (51, [(0, .int (nI i)), (1, .ref r), (2, .int p), (3, .int n), (4, .ref a), (5, .int lo), (6, .int (offF I a i p n)), (7, .int (1 : Int32))], [.int (0 : Int32)]) (HH I J R T) _
        refine Z_rI rfl (by first | exact am_nw0 _ | exact am_nw01 | rfl | assumption) ?_
        exact ⟨am_ii (by unfold priceF; rw [if_neg b18, if_neg c25, if_pos c35]), rfl⟩
      · refine Z_jump 3 rfl ?_
        show Zs _ _ (am_P 67).2 (43, [(0, .int (nI i)), (1, .ref r), (2, .int p), (3, .int n), (4, .ref a), (5, .int lo), (6, .int (offF I a i p n)), (7, .int (1 : Int32))], [.int p, .int (nI i), .int (4096 : Int32)]) (HH I J R T) _
        refine Z_c1 rfl rfl rfl (c_partBit) ?_
        show Zs _ _ (am_P 67).2 (46, [(0, .int (nI i)), (1, .ref r), (2, .int p), (3, .int n), (4, .ref a), (5, .int lo), (6, .int (offF I a i p n)), (7, .int (1 : Int32))], [.int (bitF (nI i) p), .int (4096 : Int32)]) (HH I J R T) _
        refine Z_jump 2 rfl ?_
        show Zs _ _ (am_P 67).2 (51, [(0, .int (nI i)), (1, .ref r), (2, .int p), (3, .int n), (4, .ref a), (5, .int lo), (6, .int (offF I a i p n)), (7, .int (1 : Int32))], [.int ((4096 : Int32) + (bitF (nI i) p))]) (HH I J R T) _
        refine Z_rI rfl (by first | exact am_nw0 _ | exact am_nw01 | rfl | assumption) ?_
        exact ⟨am_ii (by unfold priceF; rw [if_neg b18, if_neg c25, if_neg c35]), rfl⟩
/-- addChoice -/
def acF (I : hI) (s h p : Int32) : hI :=
  if s < 0 then wI I 7 240 s (am_rd 240 (I 7) s + 1) else if am_rd 240 (I 5) s ≤ p then wI I 7 240 s (am_rd 240 (I 7) s + 1)
  else wI (wI (wI I 7 240 s (am_rd 240 (I 7) s + 1)) 5 240 s p) 6 240 s h
theorem c_addChoice {s h p : Int32} : am_E sc (d + 2) 68 [.ref 4, .int s, .int h, .int p] (HH I J R T) none (HH (acF I s h p) J R T) := by
  refine E_Z (Ze_of (Nat.le_of_ble_eq_true rfl) ?_)
  refine Z_jump 6 rfl ?_
  show Zs _ _ (am_P 68).2 (10, [(0, .ref 4), (1, .int s), (2, .int h), (3, .int p)], [.int s, .ref 7, .int s, .ref 7]) (HH I J R T) _
  refine Z_c1 rfl rfl rfl (k_at (a := 7) (L := 240) (f := I 7) rfl (by decide)) ?_
  show Zs _ _ (am_P 68).2 (13, [(0, .ref 4), (1, .int s), (2, .int h), (3, .int p)], [.int (am_rd 240 (I 7) s), .int s, .ref 7]) (HH I J R T) _
  refine Z_jump 2 rfl ?_
  show Zs _ _ (am_P 68).2 (15, [(0, .ref 4), (1, .int s), (2, .int h), (3, .int p)], [.int ((am_rd 240 (I 7) s) + (1 : Int32)), .int s, .ref 7]) (HH I J R T) _
  refine Z_c0 rfl rfl rfl (k_put (a := 7) (L := 240) (f := I 7) rfl (by decide)) ?_
  show Zs _ _ (am_P 68).2 (18, [(0, .ref 4), (1, .int s), (2, .int h), (3, .int p)], []) (HH (wI I 7 240 s (am_rd 240 (I 7) s + 1)) J R T) _
  refine Z_jump 2 rfl ?_
  refine Z_bd (fun (c19 : s < (0 : Int32)) => ?_) (fun (c19 : ¬ (s < (0 : Int32))) => ?_)
  · show Zs _ _ (am_P 68).2 (52, [(0, .ref 4), (1, .int s), (2, .int h), (3, .int p)], []) (HH (wI I 7 240 s (am_rd 240 (I 7) s + 1)) J R T) _
    refine Z_ret rfl rfl rfl ?_
    exact ⟨rfl, by unfold acF; rw [if_pos c19]⟩
  · refine Z_jump 4 rfl ?_
    show Zs _ _ (am_P 68).2 (28, [(0, .ref 4), (1, .int s), (2, .int h), (3, .int p)], [.int s, .ref 5, .int p]) (HH (wI I 7 240 s (am_rd 240 (I 7) s + 1)) J R T) _
    refine Z_c1 rfl rfl rfl (k_at (a := 5) (L := 240) (f := I 5) rfl (by decide)) ?_
    show Zs _ _ (am_P 68).2 (31, [(0, .ref 4), (1, .int s), (2, .int h), (3, .int p)], [.int (am_rd 240 (I 5) s), .int p]) (HH (wI I 7 240 s (am_rd 240 (I 7) s + 1)) J R T) _
    refine Z_jump 1 rfl ?_
    refine Z_bd (fun (c31 : (am_rd 240 (I 5) s) ≤ p) => ?_) (fun (c31 : ¬ ((am_rd 240 (I 5) s) ≤ p)) => ?_)
    · show Zs _ _ (am_P 68).2 (52, [(0, .ref 4), (1, .int s), (2, .int h), (3, .int p)], []) (HH (wI I 7 240 s (am_rd 240 (I 7) s + 1)) J R T) _
      refine Z_ret rfl rfl rfl ?_
      exact ⟨rfl, by unfold acF; rw [if_neg c19, if_pos c31]⟩
    · refine Z_jump 4 rfl ?_
      show Zs _ _ (am_P 68).2 (40, [(0, .ref 4), (1, .int s), (2, .int h), (3, .int p)], [.int p, .int s, .ref 5]) (HH (wI I 7 240 s (am_rd 240 (I 7) s + 1)) J R T) _
      refine Z_c0 rfl rfl rfl (k_put (a := 5) (L := 240) (f := I 5) rfl (by decide)) ?_
      show Zs _ _ (am_P 68).2 (43, [(0, .ref 4), (1, .int s), (2, .int h), (3, .int p)], []) (HH (wI (wI I 7 240 s (am_rd 240 (I 7) s + 1)) 5 240 s p) J R T) _
      refine Z_jump 4 rfl ?_
      show Zs _ _ (am_P 68).2 (49, [(0, .ref 4), (1, .int s), (2, .int h), (3, .int p)], [.int h, .int s, .ref 6]) (HH (wI (wI I 7 240 s (am_rd 240 (I 7) s + 1)) 5 240 s p) J R T) _
      refine Z_c0 rfl rfl rfl (k_put (a := 6) (L := 240) (f := I 6) rfl (by decide)) ?_
      show Zs _ _ (am_P 68).2 (52, [(0, .ref 4), (1, .int s), (2, .int h), (3, .int p)], []) (HH (wI (wI (wI I 7 240 s (am_rd 240 (I 7) s + 1)) 5 240 s p) 6 240 s h) J R T) _
      show Zs _ _ (am_P 68).2 (52, [(0, .ref 4), (1, .int s), (2, .int h), (3, .int p)], []) (HH (wI (wI (wI I 7 240 s (am_rd 240 (I 7) s + 1)) 5 240 s p) 6 240 s h) J R T) _
      refine Z_ret rfl rfl rfl ?_
      exact ⟨rfl, by unfold acF; rw [if_neg c19, if_neg c31]⟩
end WY1

