/-! The class without rods: the rest of its calls but the reading of texts. -/
section C3
variable {sc : Nat × (Nat → Int32)} {d : Nat} {I : hI} {J : hJ} {R : hR} {T : am_H} {h : am_H} {Q : Option Value → am_H → Prop} {code : List am_I}
theorem c_undo_no (hp : I 0 9 = 0) : am_E sc (d + 1) 103 [.ref 0] (HH I J R T) (some (.int (-4))) (HH I J R T) := by
  refine E_Z (Ze_of (Nat.le_of_ble_eq_true rfl) ?_)
  refine Z_jump 2 rfl ?_
  show Zs _ _ (am_P 103).2 (4, [(0, .ref 0)], [.int (I 0 9)]) (HH I J R T) _
  refine Z_eqI (hp) ?_
  show Zs _ _ (am_P 103).2 (4, [(0, .ref 0)], [.int (0 : Int32)]) (HH I J R T) _
  refine Z_jump 2 rfl ?_
  show Zs _ _ (am_P 103).2 (9, [(0, .ref 0)], [.int (-4 : Int32)]) (HH I J R T) _
  refine Z_rI rfl (by first | exact am_nw0 _ | exact am_nw01 | rfl | assumption) ?_
  exact ⟨rfl, rfl⟩
theorem c_erase : am_E sc (d + 1) 92 [.ref 0] (HH I J R T) (some (.int (I 1 1))) (HH (sf I 1 1 0) J R T) := by
  refine E_Z (Ze_of (Nat.le_of_ble_eq_true rfl) ?_)
  refine Z_jump 8 rfl ?_
  show Zs _ _ (am_P 92).2 (16, [(0, .ref 0), (1, .int (I 1 1))], []) (HH (sf I 1 1 (0 : Int32)) J R T) _
  refine Z_jump 1 rfl ?_
  show Zs _ _ (am_P 92).2 (17, [(0, .ref 0), (1, .int (I 1 1))], [.int (I 1 1)]) (HH (sf I 1 1 (0 : Int32)) J R T) _
  refine Z_rI rfl (by first | exact am_nw0 _ | exact am_nw01 | rfl | assumption) ?_
  exact ⟨rfl, rfl⟩
theorem c_forget : am_E sc (d + 1) 114 [.ref 0] (HH I J R T) (some (.int (I 0 15))) (HH (sf I 0 15 0) J R T) := by
  refine E_Z (Ze_of (Nat.le_of_ble_eq_true rfl) ?_)
  refine Z_jump 6 rfl ?_
  show Zs _ _ (am_P 114).2 (10, [(0, .ref 0), (1, .int (I 0 15))], []) (HH (sf I 0 15 (0 : Int32)) J R T) _
  refine Z_jump 1 rfl ?_
  show Zs _ _ (am_P 114).2 (11, [(0, .ref 0), (1, .int (I 0 15))], [.int (I 0 15)]) (HH (sf I 0 15 (0 : Int32)) J R T) _
  refine Z_rI rfl (by first | exact am_nw0 _ | exact am_nw01 | rfl | assumption) ?_
  exact ⟨rfl, rfl⟩
/-- Text.add, write -/
theorem c_add {c : Nat} {v : Int32} (hc : I 1 1 = nI c) (h160 : c ≤ 160) : am_E sc (d + 2) 51 [.ref 1, .int v] (HH I J R T) (some (.int (if c = 160 then 0 else 1))) (HH (if c = 160 then I else sf (sf I 2 c v) 1 1 (nI (c + 1))) J R T) := by
  refine E_Z (Ze_of (Nat.le_of_ble_eq_true rfl) ?_)
  have e : I 1 1 < 160 ↔ c < 160 := by rw [hc]; exact nI_ltI (b := 160) (by omega) (by omega)
  have e2 : I 1 1 + 1 = nI (c + 1) := by rw [hc]; exact nI_1 c
  refine Z_jump 4 rfl ?_
  refine Z_bd (fun (c7 : (I 1 1) < (160 : Int32)) => ?_) (fun (c7 : ¬ ((I 1 1) < (160 : Int32))) => ?_)
  · refine Z_jump 5 rfl ?_
    show Zs _ _ (am_P 51).2 (21, [(0, .ref 1), (1, .int v)], [.int v, .int (I 1 1), .ref 2]) (HH I J R T) _
    refine Z_c0 rfl rfl rfl (k_putK (a := 2) (L := 160) (f := I 2) (i := c) rfl hc (by have := e.mp c7; omega) (by decide)) ?_
    show Zs _ _ (am_P 51).2 (24, [(0, .ref 1), (1, .int v)], []) (HH (sf I 2 c v) J R T) _
    refine Z_jump 6 rfl ?_
    show Zs _ _ (am_P 51).2 (34, [(0, .ref 1), (1, .int v)], []) (HH (sf (sf I 2 c v) 1 1 (((sf I 2 c v) 1 1) + (1 : Int32))) J R T) _
    refine Z_jump 1 rfl ?_
    show Zs _ _ (am_P 51).2 (35, [(0, .ref 1), (1, .int v)], [.int (1 : Int32)]) (HH (sf (sf I 2 c v) 1 1 (((sf I 2 c v) 1 1) + (1 : Int32))) J R T) _
    refine Z_rI rfl (by first | exact am_nw0 _ | exact am_nw01 | rfl | assumption) ?_
    have h1 := e.mp c7
    refine ⟨am_ii (if_neg (by omega)).symm, ?_⟩
    rw [if_neg (show ¬ c = 160 by omega), ← e2]
    rfl
  · refine Z_jump 1 rfl ?_
    show Zs _ _ (am_P 51).2 (11, [(0, .ref 1), (1, .int v)], [.int (0 : Int32)]) (HH I J R T) _
    refine Z_rI rfl (by first | exact am_nw0 _ | exact am_nw01 | rfl | assumption) ?_
    have h1 : ¬ c < 160 := fun z => c7 (e.mpr z)
    refine ⟨am_ii (if_pos (by omega)).symm, ?_⟩
    rw [if_pos (show c = 160 by omega)]
theorem c_write {c : Nat} {v : Int32} (hc : I 1 1 = nI c) (h160 : c ≤ 160) : am_E sc (d + 3) 91 [.ref 0, .int v] (HH I J R T) (some (.int (if M_let v then (if c = 160 then -5 else nI (c + 1)) else -3))) (HH (if M_let v ∧ c ≠ 160 then sf (sf I 2 c v) 1 1 (nI (c + 1)) else I) J R T) := by
  refine E_Z (Ze_of (Nat.le_of_ble_eq_true rfl) ?_)
  have z0 : (0 : Int32).toInt = 0 := rfl
  have z1 : (255 : Int32).toInt = 255 := rfl
  by_cases h6 : c = 160
  · have w := c_add (sc := sc) (d := d) (I := I) (J := J) (R := R) (T := T) (v := v) hc h160
    rw [if_pos h6, if_pos h6] at w
    refine Z_jump 2 rfl ?_
    refine Z_bd (fun (c1 : v < (0 : Int32)) => ?_) (fun (c1 : ¬ (v < (0 : Int32))) => ?_)
    · refine Z_jump 1 rfl ?_
      show Zs _ _ (am_P 91).2 (13, [(0, .ref 0), (1, .int v)], [.int (-3 : Int32)]) (HH I J R T) _
      refine Z_rI rfl (by first | exact am_nw0 _ | exact am_nw01 | rfl | assumption) ?_
      rw [fi_lt, z0] at c1
      exact ⟨am_ii (if_neg (show ¬ M_let v by omega)).symm, by rw [if_neg (fun z => z.2 h6)]⟩
    · refine Z_jump 3 rfl ?_
      refine Z_bd (fun (c8 : v ≤ (255 : Int32)) => ?_) (fun (c8 : ¬ (v ≤ (255 : Int32))) => ?_)
      · refine Z_jump 3 rfl ?_
        show Zs _ _ (am_P 91).2 (19, [(0, .ref 0), (1, .int v)], [.int v, .ref 1]) (HH I J R T) _
        refine Z_c1 rfl rfl rfl (w) ?_
        show Zs _ _ (am_P 91).2 (22, [(0, .ref 0), (1, .int v)], [.int (0 : Int32)]) (HH I J R T) _
        refine Z_jump 2 rfl ?_
        show Zs _ _ (am_P 91).2 (37, [(0, .ref 0), (1, .int v)], [.int (-5 : Int32)]) (HH I J R T) _
        refine Z_rI rfl (by first | exact am_nw0 _ | exact am_nw01 | rfl | assumption) ?_
        rw [fi_le, z1] at c8
        rw [fi_lt, z0] at c1
        exact ⟨am_ii (by rw [if_pos (show M_let v by omega), if_pos h6]), by rw [if_neg (fun z => z.2 h6)]⟩
      · refine Z_jump 1 rfl ?_
        show Zs _ _ (am_P 91).2 (13, [(0, .ref 0), (1, .int v)], [.int (-3 : Int32)]) (HH I J R T) _
        refine Z_rI rfl (by first | exact am_nw0 _ | exact am_nw01 | rfl | assumption) ?_
        rw [fi_le, z1] at c8
        exact ⟨am_ii (if_neg (show ¬ M_let v by omega)).symm, by rw [if_neg (fun z => z.2 h6)]⟩
  · have w := c_add (sc := sc) (d := d) (I := I) (J := J) (R := R) (T := T) (v := v) hc h160
    rw [if_neg h6, if_neg h6] at w
    refine Z_jump 2 rfl ?_
    refine Z_bd (fun (c1 : v < (0 : Int32)) => ?_) (fun (c1 : ¬ (v < (0 : Int32))) => ?_)
    · refine Z_jump 1 rfl ?_
      show Zs _ _ (am_P 91).2 (13, [(0, .ref 0), (1, .int v)], [.int (-3 : Int32)]) (HH I J R T) _
      refine Z_rI rfl (by first | exact am_nw0 _ | exact am_nw01 | rfl | assumption) ?_
      rw [fi_lt, z0] at c1
      exact ⟨am_ii (if_neg (show ¬ M_let v by omega)).symm, by rw [if_neg (show ¬ (M_let v ∧ c ≠ 160) by omega)]⟩
    · refine Z_jump 3 rfl ?_
      refine Z_bd (fun (c8 : v ≤ (255 : Int32)) => ?_) (fun (c8 : ¬ (v ≤ (255 : Int32))) => ?_)
      · refine Z_jump 3 rfl ?_
        show Zs _ _ (am_P 91).2 (19, [(0, .ref 0), (1, .int v)], [.int v, .ref 1]) (HH I J R T) _
        refine Z_c1 rfl rfl rfl (w) ?_
        show Zs _ _ (am_P 91).2 (22, [(0, .ref 0), (1, .int v)], [.int (1 : Int32)]) (HH (sf (sf I 2 c v) 1 1 (nI (c + 1))) J R T) _
        refine Z_jump 5 rfl ?_
        show Zs _ _ (am_P 91).2 (37, [(0, .ref 0), (1, .int v)], [.int ((sf (sf I 2 c v) 1 1 (nI (c + 1))) 1 1)]) (HH (sf (sf I 2 c v) 1 1 (nI (c + 1))) J R T) _
        refine Z_rI rfl (by first | exact am_nw0 _ | exact am_nw01 | rfl | assumption) ?_
        rw [fi_le, z1] at c8
        rw [fi_lt, z0] at c1
        exact ⟨am_ii (by rw [if_pos (show M_let v by omega), if_neg h6]; rfl), by rw [if_pos (show M_let v ∧ c ≠ 160 by omega)]⟩
      · refine Z_jump 1 rfl ?_
        show Zs _ _ (am_P 91).2 (13, [(0, .ref 0), (1, .int v)], [.int (-3 : Int32)]) (HH I J R T) _
        refine Z_rI rfl (by first | exact am_nw0 _ | exact am_nw01 | rfl | assumption) ?_
        rw [fi_le, z1] at c8
        exact ⟨am_ii (if_neg (show ¬ M_let v by omega)).symm, by rw [if_neg (show ¬ (M_let v ∧ c ≠ 160) by omega)]⟩
theorem c_theNumber0 (hn : I 18 1 = 0) : am_E sc (d + 1) 125 [.ref 0] (HH I J R T) (some (.long 0)) (HH I J R T) := by
  refine E_Z (Ze_of (Nat.le_of_ble_eq_true rfl) ?_)
  refine Z_jump 10 rfl ?_
  show Zs _ _ (am_P 125).2 (16, [(0, .ref 0), (1, .long (0 : Int64)), (3, .long (1 : Int64)), (5, .int (0 : Int32))], [.int (I 18 1), .int (0 : Int32)]) (HH I J R T) _
  refine Z_eqI (hn) ?_
  show Zs _ _ (am_P 125).2 (16, [(0, .ref 0), (1, .long (0 : Int64)), (3, .long (1 : Int64)), (5, .int (0 : Int32))], [.int (0 : Int32), .int (0 : Int32)]) (HH I J R T) _
  refine Z_jump 2 rfl ?_
  show Zs _ _ (am_P 125).2 (68, [(0, .ref 0), (1, .long (0 : Int64)), (3, .long (1 : Int64)), (5, .int (0 : Int32))], [.long (0 : Int64)]) (HH I J R T) _
  refine Z_ret rfl rfl rfl ?_
  exact ⟨rfl, rfl⟩
theorem c_number0 (hn : I 18 1 = 0) : am_E sc (d + 2) 97 [.ref 0] (HH I J R T) (some (.long 0)) (HH I J R T) := by
  refine E_Z (Ze_of (Nat.le_of_ble_eq_true rfl) ?_)
  refine Z_jump 1 rfl ?_
  show Zs _ _ (am_P 97).2 (1, [(0, .ref 0)], [.ref 0]) (HH I J R T) _
  refine Z_c1 rfl rfl rfl (c_theNumber0 hn) ?_
  show Zs _ _ (am_P 97).2 (4, [(0, .ref 0)], [.long (0 : Int64)]) (HH I J R T) _
  show Zs _ _ (am_P 97).2 (4, [(0, .ref 0)], [.long (0 : Int64)]) (HH I J R T) _
  refine Z_ret rfl rfl rfl ?_
  exact ⟨rfl, rfl⟩
/-- beads of a standing, any -/
theorem c_beads {a i : Nat} {x p : Int32} (ha : isSt a) (hx : x = nI i) (hi : i < 6) : am_E sc (d + 2) 34 [.ref a, .int x, .int p] (HH I J R T) (some (.int (if p = 1 then I (a + 2) i else I (a + 1) i))) (HH I J R T) := by
  refine E_Z (Ze_of (Nat.le_of_ble_eq_true rfl) ?_)
  by_cases hp : p = 1
  · rw [if_pos hp]
    refine Z_jump 3 rfl ?_
    refine Z_bn (fun c2 => absurd (hp) c2) (fun c2 => ?_)
    refine Z_jump 1 rfl ?_
    show Zs _ _ (am_P 34).2 (6, [(0, .ref a), (1, .int x), (2, .int p)], [.ref a]) (HH I J R T) _
    refine Z_gf rfl (st_0 ha) rfl rfl ?_
    refine Z_jump 2 rfl ?_
    show Zs _ _ (am_P 34).2 (17, [(0, .ref a), (1, .int x), (2, .int p)], [.int x, .ref (a + 2)]) (HH I J R T) _
    refine Z_c1 rfl rfl rfl (k_at2 ha hx hi) ?_
    show Zs _ _ (am_P 34).2 (20, [(0, .ref a), (1, .int x), (2, .int p)], [.int (I (a + 2) i)]) (HH I J R T) _
    show Zs _ _ (am_P 34).2 (20, [(0, .ref a), (1, .int x), (2, .int p)], [.int (I (a + 2) i)]) (HH I J R T) _
    refine Z_rI rfl (by first | exact am_nw0 _ | exact am_nw01 | rfl | assumption) ?_
    exact ⟨rfl, rfl⟩
  · rw [if_neg hp]
    refine Z_jump 3 rfl ?_
    refine Z_bn (fun c2 => ?_) (fun c2 => absurd c2 (hp))
    refine Z_jump 1 rfl ?_
    show Zs _ _ (am_P 34).2 (13, [(0, .ref a), (1, .int x), (2, .int p)], [.ref a]) (HH I J R T) _
    refine Z_gf rfl (st_0 ha) rfl rfl ?_
    refine Z_jump 1 rfl ?_
    show Zs _ _ (am_P 34).2 (17, [(0, .ref a), (1, .int x), (2, .int p)], [.int x, .ref (a + 1)]) (HH I J R T) _
    refine Z_c1 rfl rfl rfl (k_at1 ha hx hi) ?_
    show Zs _ _ (am_P 34).2 (20, [(0, .ref a), (1, .int x), (2, .int p)], [.int (I (a + 1) i)]) (HH I J R T) _
    show Zs _ _ (am_P 34).2 (20, [(0, .ref a), (1, .int x), (2, .int p)], [.int (I (a + 1) i)]) (HH I J R T) _
    refine Z_rI rfl (by first | exact am_nw0 _ | exact am_nw01 | rfl | assumption) ?_
    exact ⟨rfl, rfl⟩
def C_ap (I : hI) (a : Nat) : Nat → Int32 → Nat → Int32
  | _, s, 0 => s
  | i, s, k + 1 => C_ap I a (i + 1) (s + (I (a + 1) i + I (a + 2) i)) k
theorem c_beadsInAll_l {a : Nat} (ha : isSt a) : ∀ (k i : Nat) (x s : Int32), i + k = 6 → x = nI i → Zs sc (d + 2) (am_P 39).2 (4, [(0, .ref a), (1, .int s), (2, .int x)], []) (HH I J R T) (fun r h => r = some (.int (C_ap I a i s k)) ∧ h = HH I J R T)
  | 0, i, x, s, hi, hx => by
    have e : i = 6 := by omega
    subst e
    refine Z_jump 3 rfl ?_
    refine Z_bd (fun c7 => ?_) (fun c7 => absurd ((show (6 : Int32) ≤ x by rw [hx]; decide)) c7)
    refine Z_jump 1 rfl ?_
    show Zs _ _ (am_P 39).2 (33, [(0, .ref a), (1, .int s), (2, .int x)], [.int s]) (HH I J R T) _
    refine Z_rI rfl (by first | exact am_nw0 _ | exact am_nw01 | rfl | assumption) ?_
    exact ⟨rfl, rfl⟩
  | k + 1, i, x, s, hi, hx => by
    refine Z_jump 3 rfl ?_
    refine Z_bd (fun c7 => absurd c7 ((show ¬ (6 : Int32) ≤ x by rw [hx]; exact nI_ge (b := 6) (by omega) (by omega)))) (fun c7 => ?_)
    refine Z_jump 4 rfl ?_
    show Zs _ _ (am_P 39).2 (14, [(0, .ref a), (1, .int s), (2, .int x)], [.int (0 : Int32), .int x, .ref a, .int s]) (HH I J R T) _
    refine Z_c1 rfl (am_do_inv (st_0 ha) rfl rfl (Nat.le_of_ble_eq_true rfl)) rfl (c_beads (p := 0) ha hx (by omega)) ?_
    show Zs _ _ (am_P 39).2 (17, [(0, .ref a), (1, .int s), (2, .int x)], [.int (I (a + 1) i), .int s]) (HH I J R T) _
    refine Z_jump 3 rfl ?_
    show Zs _ _ (am_P 39).2 (20, [(0, .ref a), (1, .int s), (2, .int x)], [.int (1 : Int32), .int x, .ref a, .int (I (a + 1) i), .int s]) (HH I J R T) _
    refine Z_c1 rfl (am_do_inv (st_0 ha) rfl rfl (Nat.le_of_ble_eq_true rfl)) rfl (c_beads (p := 1) ha hx (by omega)) ?_
    show Zs _ _ (am_P 39).2 (23, [(0, .ref a), (1, .int s), (2, .int x)], [.int (I (a + 2) i), .int (I (a + 1) i), .int s]) (HH I J R T) _
    refine Z_jump 5 rfl ?_
    show Zs _ _ (am_P 39).2 (4, [(0, .ref a), (1, .int (s + ((I (a + 1) i) + (I (a + 2) i)))), (2, .int (x + 1))], []) (HH I J R T) _
    exact c_beadsInAll_l ha k (i + 1) _ _ (by omega) (by rw [hx]; exact nI_1 i)
theorem c_beadsInAll {a : Nat} (ha : isSt a) : am_E sc (d + 3) 39 [.ref a] (HH I J R T) (some (.int (C_ap I a 0 0 6))) (HH I J R T) := by
  refine E_Z (Ze_of (Nat.le_of_ble_eq_true rfl) ?_)
  refine Z_jump 4 rfl ?_
  show Zs _ _ (am_P 39).2 (4, [(0, .ref a), (1, .int (0 : Int32)), (2, .int (0 : Int32))], []) (HH I J R T) _
  exact c_beadsInAll_l ha 6 0 _ _ (by omega) rfl
theorem C_ap0 {a : Nat} (h1 : ∀ k, I (a + 1) k = 0) (h2 : ∀ k, I (a + 2) k = 0) : C_ap I a 0 0 6 = 0 := by
  show (0 : Int32) + (I (a + 1) 0 + I (a + 2) 0) + (I (a + 1) 1 + I (a + 2) 1) + (I (a + 1) 2 + I (a + 2) 2) + (I (a + 1) 3 + I (a + 2) 3) + (I (a + 1) 4 + I (a + 2) 4) + (I (a + 1) 5 + I (a + 2) 5) = 0
  rw [h1, h1, h1, h1, h1, h1, h2, h2, h2, h2, h2, h2]
  decide
theorem c_keep0 {k : Int32} (hR0 : R 63 0 = some 64) (hR1 : R 63 1 = some 67) (h1 : ∀ k, I 23 k = 0) (h2 : ∀ k, I 24 k = 0) : Ze sc (d + 4) 104 [.ref 0, .int k] (HH I J R T) (C0p (.int (if M_01 k then 0 else -2)) I J T) := by
  refine Ze_of (Nat.le_of_ble_eq_true rfl) ?_
  by_cases hb : M_01 k
  · rw [if_pos hb]
    rcases bit_c hb with rfl | rfl
    · refine Z_jump 3 rfl ?_
      show Zs _ _ (am_P 104).2 (5, [(0, .ref 0), (1, .int (0 : Int32))], [.int (0 : Int32), .ref 63]) (HH I J R T) _
      refine Z_c1 rfl rfl rfl (c_stAt63 (K := 0) hR0 rfl (by omega)) ?_
      show Zs _ _ (am_P 104).2 (8, [(0, .ref 0), (1, .int (0 : Int32))], [.ref 64]) (HH I J R T) _
      refine Z_jump 6 rfl ?_
      show Zs _ _ (am_P 104).2 (21, [(0, .ref 0), (1, .int (0 : Int32)), (2, .ref 64)], [.ref 22, .ref 64]) (HH I J R T) _
      refine Z_cQ rfl rfl rfl (Ze_deep (d := 2) (by omega) (c_copy (d := 0) (a := 64) (b := 22) (by decide) (by decide) (by decide))) (fun v h1 hq => ?_)
      obtain ⟨rfl, I1, rfl, hC⟩ := hq
      show Zs _ _ (am_P 104).2 (24, [(0, .ref 0), (1, .int (0 : Int32)), (2, .ref 64)], []) (HH I1 J R T) _
      refine Z_jump 8 rfl ?_
      show Zs _ _ (am_P 104).2 (36, [(0, .ref 0), (1, .int (0 : Int32)), (2, .ref 64)], []) (HH (sf I1 0 11 ((I1 0 11) ||| (1 : Int32))) J R T) _
      refine Z_jump 2 rfl ?_
      show Zs _ _ (am_P 104).2 (40, [(0, .ref 0), (1, .int (0 : Int32)), (2, .ref 64)], [.ref 22]) (HH (sf I1 0 11 ((I1 0 11) ||| (1 : Int32))) J R T) _
      refine Z_c1 rfl rfl rfl (c_beadsInAll (a := 22) (by decide)) ?_
      show Zs _ _ (am_P 104).2 (43, [(0, .ref 0), (1, .int (0 : Int32)), (2, .ref 64)], [.int (C_ap (sf I1 0 11 ((I1 0 11) ||| (1 : Int32))) 22 0 0 6)]) (HH (sf I1 0 11 ((I1 0 11) ||| (1 : Int32))) J R T) _
      show Zs _ _ (am_P 104).2 (43, [(0, .ref 0), (1, .int (0 : Int32)), (2, .ref 64)], [.int (C_ap (sf I1 0 11 ((I1 0 11) ||| (1 : Int32))) 22 0 0 6)]) (HH (sf I1 0 11 ((I1 0 11) ||| (1 : Int32))) J R T) _
      refine Z_rI rfl (by first | exact am_nw0 _ | exact am_nw01 | rfl | assumption) ?_
      have e1 : ∀ k, I1 23 k = 0 := fun k => (congrFun (hC.1 23 (by decide) (by decide) (by decide)) k).trans (h1 k)
      have e2 : ∀ k, I1 24 k = 0 := fun k => (congrFun (hC.1 24 (by decide) (by decide) (by decide)) k).trans (h2 k)
      refine ⟨am_ii (C_ap0 e1 e2), _, J, R, rfl, fun c hc => ?_, fun _ _ => rfl⟩
      rw [sf_c (by omega), hC.1 c (by omega) (by omega) (by omega)]
    · refine Z_jump 3 rfl ?_
      show Zs _ _ (am_P 104).2 (5, [(0, .ref 0), (1, .int (1 : Int32))], [.int (1 : Int32), .ref 63]) (HH I J R T) _
      refine Z_c1 rfl rfl rfl (c_stAt63 (K := 1) hR1 rfl (by omega)) ?_
      show Zs _ _ (am_P 104).2 (8, [(0, .ref 0), (1, .int (1 : Int32))], [.ref 67]) (HH I J R T) _
      refine Z_jump 6 rfl ?_
      show Zs _ _ (am_P 104).2 (21, [(0, .ref 0), (1, .int (1 : Int32)), (2, .ref 67)], [.ref 22, .ref 67]) (HH I J R T) _
      refine Z_cQ rfl rfl rfl (Ze_deep (d := 2) (by omega) (c_copy (d := 0) (a := 67) (b := 22) (by decide) (by decide) (by decide))) (fun v h1 hq => ?_)
      obtain ⟨rfl, I1, rfl, hC⟩ := hq
      show Zs _ _ (am_P 104).2 (24, [(0, .ref 0), (1, .int (1 : Int32)), (2, .ref 67)], []) (HH I1 J R T) _
      refine Z_jump 8 rfl ?_
      show Zs _ _ (am_P 104).2 (36, [(0, .ref 0), (1, .int (1 : Int32)), (2, .ref 67)], []) (HH (sf I1 0 11 ((I1 0 11) ||| (2 : Int32))) J R T) _
      refine Z_jump 2 rfl ?_
      show Zs _ _ (am_P 104).2 (40, [(0, .ref 0), (1, .int (1 : Int32)), (2, .ref 67)], [.ref 22]) (HH (sf I1 0 11 ((I1 0 11) ||| (2 : Int32))) J R T) _
      refine Z_c1 rfl rfl rfl (c_beadsInAll (a := 22) (by decide)) ?_
      show Zs _ _ (am_P 104).2 (43, [(0, .ref 0), (1, .int (1 : Int32)), (2, .ref 67)], [.int (C_ap (sf I1 0 11 ((I1 0 11) ||| (2 : Int32))) 22 0 0 6)]) (HH (sf I1 0 11 ((I1 0 11) ||| (2 : Int32))) J R T) _
      show Zs _ _ (am_P 104).2 (43, [(0, .ref 0), (1, .int (1 : Int32)), (2, .ref 67)], [.int (C_ap (sf I1 0 11 ((I1 0 11) ||| (2 : Int32))) 22 0 0 6)]) (HH (sf I1 0 11 ((I1 0 11) ||| (2 : Int32))) J R T) _
      refine Z_rI rfl (by first | exact am_nw0 _ | exact am_nw01 | rfl | assumption) ?_
      have e1 : ∀ k, I1 23 k = 0 := fun k => (congrFun (hC.1 23 (by decide) (by decide) (by decide)) k).trans (h1 k)
      have e2 : ∀ k, I1 24 k = 0 := fun k => (congrFun (hC.1 24 (by decide) (by decide) (by decide)) k).trans (h2 k)
      refine ⟨am_ii (C_ap0 e1 e2), _, J, R, rfl, fun c hc => ?_, fun _ _ => rfl⟩
      rw [sf_c (by omega), hC.1 c (by omega) (by omega) (by omega)]
  · rw [if_neg hb]
    refine Z_jump 3 rfl ?_
    show Zs _ _ (am_P 104).2 (5, [(0, .ref 0), (1, .int k)], [.int k, .ref 63]) (HH I J R T) _
    refine Z_c1 rfl rfl rfl (c_stAt63_no hb) ?_
    show Zs _ _ (am_P 104).2 (8, [(0, .ref 0), (1, .int k)], [.null]) (HH I J R T) _
    refine Z_jump 4 rfl ?_
    show Zs _ _ (am_P 104).2 (15, [(0, .ref 0), (1, .int k), (2, .null)], [.int (-2 : Int32)]) (HH I J R T) _
    refine Z_rI rfl (by first | exact am_nw0 _ | exact am_nw01 | rfl | assumption) ?_
    exact C0p_c (fun _ _ => rfl)
theorem c_back0 {k : Int32} (hR0 : R 63 0 = some 64) (hR1 : R 63 1 = some 67) (h0 : I 0 11 = 0) : am_E sc (d + 2) 105 [.ref 0, .int k] (HH I J R T) (some (.int (if M_01 k then -4 else -2))) (HH I J R T) := by
  refine E_Z (Ze_of (Nat.le_of_ble_eq_true rfl) ?_)
  by_cases hb : M_01 k
  · rw [if_pos hb]
    rcases bit_c hb with rfl | rfl
    · refine Z_jump 3 rfl ?_
      show Zs _ _ (am_P 105).2 (5, [(0, .ref 0), (1, .int (0 : Int32))], [.int (0 : Int32), .ref 63]) (HH I J R T) _
      refine Z_c1 rfl rfl rfl (c_stAt63 (K := 0) hR0 rfl (by omega)) ?_
      show Zs _ _ (am_P 105).2 (8, [(0, .ref 0), (1, .int (0 : Int32))], [.ref 64]) (HH I J R T) _
      refine Z_jump 5 rfl ?_
      show Zs _ _ (am_P 105).2 (20, [(0, .ref 0), (1, .int (0 : Int32)), (2, .ref 64)], [.int (I 0 11)]) (HH I J R T) _
      refine Z_eqI (h0) ?_
      show Zs _ _ (am_P 105).2 (20, [(0, .ref 0), (1, .int (0 : Int32)), (2, .ref 64)], [.int (0 : Int32)]) (HH I J R T) _
      refine Z_jump 6 rfl ?_
      show Zs _ _ (am_P 105).2 (29, [(0, .ref 0), (1, .int (0 : Int32)), (2, .ref 64)], [.int (-4 : Int32)]) (HH I J R T) _
      refine Z_rI rfl (by first | exact am_nw0 _ | exact am_nw01 | rfl | assumption) ?_
      exact ⟨rfl, rfl⟩
    · refine Z_jump 3 rfl ?_
      show Zs _ _ (am_P 105).2 (5, [(0, .ref 0), (1, .int (1 : Int32))], [.int (1 : Int32), .ref 63]) (HH I J R T) _
      refine Z_c1 rfl rfl rfl (c_stAt63 (K := 1) hR1 rfl (by omega)) ?_
      show Zs _ _ (am_P 105).2 (8, [(0, .ref 0), (1, .int (1 : Int32))], [.ref 67]) (HH I J R T) _
      refine Z_jump 5 rfl ?_
      show Zs _ _ (am_P 105).2 (20, [(0, .ref 0), (1, .int (1 : Int32)), (2, .ref 67)], [.int (I 0 11)]) (HH I J R T) _
      refine Z_eqI (h0) ?_
      show Zs _ _ (am_P 105).2 (20, [(0, .ref 0), (1, .int (1 : Int32)), (2, .ref 67)], [.int (0 : Int32)]) (HH I J R T) _
      refine Z_jump 6 rfl ?_
      show Zs _ _ (am_P 105).2 (29, [(0, .ref 0), (1, .int (1 : Int32)), (2, .ref 67)], [.int (-4 : Int32)]) (HH I J R T) _
      refine Z_rI rfl (by first | exact am_nw0 _ | exact am_nw01 | rfl | assumption) ?_
      exact ⟨rfl, rfl⟩
  · rw [if_neg hb]
    refine Z_jump 3 rfl ?_
    show Zs _ _ (am_P 105).2 (5, [(0, .ref 0), (1, .int k)], [.int k, .ref 63]) (HH I J R T) _
    refine Z_c1 rfl rfl rfl (c_stAt63_no hb) ?_
    show Zs _ _ (am_P 105).2 (8, [(0, .ref 0), (1, .int k)], [.null]) (HH I J R T) _
    refine Z_jump 4 rfl ?_
    show Zs _ _ (am_P 105).2 (15, [(0, .ref 0), (1, .int k), (2, .null)], [.int (-2 : Int32)]) (HH I J R T) _
    refine Z_rI rfl (by first | exact am_nw0 _ | exact am_nw01 | rfl | assumption) ?_
    exact ⟨rfl, rfl⟩
theorem c_fullRods0 (hn : I 18 1 = 0) : am_E sc (d + 1) 126 [.ref 0] (HH I J R T) (some (.int 0)) (HH I J R T) := by
  refine E_Z (Ze_of (Nat.le_of_ble_eq_true rfl) ?_)
  refine Z_jump 8 rfl ?_
  show Zs _ _ (am_P 126).2 (12, [(0, .ref 0), (1, .int (0 : Int32)), (2, .int (0 : Int32))], [.int (I 18 1), .int (0 : Int32)]) (HH I J R T) _
  refine Z_eqI (hn) ?_
  show Zs _ _ (am_P 126).2 (12, [(0, .ref 0), (1, .int (0 : Int32)), (2, .int (0 : Int32))], [.int (0 : Int32), .int (0 : Int32)]) (HH I J R T) _
  refine Z_jump 2 rfl ?_
  show Zs _ _ (am_P 126).2 (57, [(0, .ref 0), (1, .int (0 : Int32)), (2, .int (0 : Int32))], [.int (0 : Int32)]) (HH I J R T) _
  refine Z_rI rfl (by first | exact am_nw0 _ | exact am_nw01 | rfl | assumption) ?_
  exact ⟨rfl, rfl⟩
theorem c_count0 {w : Int32} (hn : I 18 1 = 0) (h1 : ∀ k, I 23 k = 0) (h2 : ∀ k, I 24 k = 0) (h3 : I 22 2 = 0) (h4 : I 22 3 = 0) (h5 : I 0 15 = 0) (h6 : I 0 9 = 0) (h7 : I 1 1 = 0) : am_E sc (d + 4) 117 [.ref 0, .int w] (HH I J R T) (some (.int (if 0 ≤ w.toInt ∧ w.toInt ≤ 7 then 0 else -3))) (HH I J R T) := by
  refine E_Z (Ze_of (Nat.le_of_ble_eq_true rfl) ?_)
  by_cases hb : 0 ≤ w.toInt ∧ w.toInt ≤ 7
  · obtain ⟨t, ht, rfl⟩ : ∃ t : Nat, t ≤ 7 ∧ w = nI t := by
      obtain ⟨j, hj, e⟩ := nI_of (x := w) (by rw [fi_lt]; have := hb.1; have z : (0 : Int32).toInt = 0 := rfl; omega)
      refine ⟨j, ?_, e⟩
      have := hb.2
      rw [e, nI_toInt hj] at this
      omega
    rw [if_pos hb]
    rcases (show t = 0 ∨ t = 1 ∨ t = 2 ∨ t = 3 ∨ t = 4 ∨ t = 5 ∨ t = 6 ∨ t = 7 by omega) with rfl | rfl | rfl | rfl | rfl | rfl | rfl | rfl
    · refine Z_jump 5 rfl ?_
      show Zs _ _ (am_P 117).2 (55, [(0, .ref 0), (1, .int (0 : Int32))], [.int (I 18 1)]) (HH I J R T) _
      refine Z_rI rfl (by first | exact am_nw0 _ | exact am_nw01 | rfl | assumption) ?_
      exact ⟨am_ii hn, rfl⟩
    · refine Z_jump 4 rfl ?_
      show Zs _ _ (am_P 117).2 (60, [(0, .ref 0), (1, .int (1 : Int32))], [.ref 22]) (HH I J R T) _
      refine Z_c1 rfl rfl rfl (c_beadsInAll (a := 22) (by decide)) ?_
      show Zs _ _ (am_P 117).2 (63, [(0, .ref 0), (1, .int (1 : Int32))], [.int (C_ap I 22 0 0 6)]) (HH I J R T) _
      show Zs _ _ (am_P 117).2 (63, [(0, .ref 0), (1, .int (1 : Int32))], [.int (C_ap I 22 0 0 6)]) (HH I J R T) _
      refine Z_rI rfl (by first | exact am_nw0 _ | exact am_nw01 | rfl | assumption) ?_
      exact ⟨am_ii (C_ap0 h1 h2), rfl⟩
    · refine Z_jump 5 rfl ?_
      show Zs _ _ (am_P 117).2 (71, [(0, .ref 0), (1, .int (2 : Int32))], [.int (I 22 2)]) (HH I J R T) _
      refine Z_rI rfl (by first | exact am_nw0 _ | exact am_nw01 | rfl | assumption) ?_
      exact ⟨am_ii h3, rfl⟩
    · refine Z_jump 5 rfl ?_
      show Zs _ _ (am_P 117).2 (79, [(0, .ref 0), (1, .int (3 : Int32))], [.int (I 22 3)]) (HH I J R T) _
      refine Z_rI rfl (by first | exact am_nw0 _ | exact am_nw01 | rfl | assumption) ?_
      exact ⟨am_ii h4, rfl⟩
    · refine Z_jump 4 rfl ?_
      show Zs _ _ (am_P 117).2 (84, [(0, .ref 0), (1, .int (4 : Int32))], [.int (I 0 15)]) (HH I J R T) _
      refine Z_rI rfl (by first | exact am_nw0 _ | exact am_nw01 | rfl | assumption) ?_
      exact ⟨am_ii h5, rfl⟩
    · refine Z_jump 4 rfl ?_
      show Zs _ _ (am_P 117).2 (89, [(0, .ref 0), (1, .int (5 : Int32))], [.int (I 0 9)]) (HH I J R T) _
      refine Z_rI rfl (by first | exact am_nw0 _ | exact am_nw01 | rfl | assumption) ?_
      exact ⟨am_ii h6, rfl⟩
    · refine Z_jump 5 rfl ?_
      show Zs _ _ (am_P 117).2 (97, [(0, .ref 0), (1, .int (6 : Int32))], [.int (I 1 1)]) (HH I J R T) _
      refine Z_rI rfl (by first | exact am_nw0 _ | exact am_nw01 | rfl | assumption) ?_
      exact ⟨am_ii h7, rfl⟩
    · refine Z_jump 3 rfl ?_
      show Zs _ _ (am_P 117).2 (99, [(0, .ref 0), (1, .int (7 : Int32))], [.ref 0]) (HH I J R T) _
      refine Z_c1 rfl rfl rfl (c_fullRods0 hn) ?_
      show Zs _ _ (am_P 117).2 (102, [(0, .ref 0), (1, .int (7 : Int32))], [.int (0 : Int32)]) (HH I J R T) _
      show Zs _ _ (am_P 117).2 (102, [(0, .ref 0), (1, .int (7 : Int32))], [.int (0 : Int32)]) (HH I J R T) _
      refine Z_rI rfl (by first | exact am_nw0 _ | exact am_nw01 | rfl | assumption) ?_
      exact ⟨rfl, rfl⟩
  · refine Z_jump 1 rfl ?_
    show Zs _ _ (am_P 117).2 (1, [(0, .ref 0), (1, .int w)], [.int w]) (HH I J R T) _
    refine Z_tsO rfl (by omega) ?_
    show Zs _ _ (am_P 117).2 (103, [(0, .ref 0), (1, .int w)], []) (HH I J R T) _
    refine Z_jump 1 rfl ?_
    show Zs _ _ (am_P 117).2 (105, [(0, .ref 0), (1, .int w)], [.int (-3 : Int32)]) (HH I J R T) _
    refine Z_rI rfl (by first | exact am_nw0 _ | exact am_nw01 | rfl | assumption) ?_
    exact ⟨am_ii (if_neg hb).symm, rfl⟩
/-- the sieve, without rods -/
theorem c_sieveOf0 : am_E sc (d + 1) 87 [.ref 4, .int 0] (HH I J R T) (some (.ref 16)) (HH I J R T) := E_run 20 rfl
def SV (f : Nat) (I0 : hI) (m : Nat) (I : hI) : Prop := (∀ c, c ≠ 16 → I c = I0 c) ∧ ∀ j, f + j < m → I 16 j = if f + j = 0 then 1 else 0
theorem SV_s {f m : Nat} {I0 I : hI} {v : Int32} (hf : f ≤ m) (H : SV f I0 m I) (hv : v = if m = 0 then 1 else 0) : SV f I0 (m + 1) (sf I 16 (m - f) v) := by
  refine ⟨fun c hc => by rw [sf_c hc]; exact H.1 c hc, fun j hj => ?_⟩
  by_cases e : j = m - f
  · subst e
    rw [sf_s, hv, show f + (m - f) = m by omega]
  · rw [sf_k e]; exact H.2 j (by omega)
theorem c_siftFrom_l {f u : Nat} {I0 : hI} (hf : f ≤ 1000) (hu : u ≤ 1000) (h13 : I0 4 13 = 0) : ∀ (k m : Nat) (I : hI) (x : Int32) (t : am_L), m + k = u + 1 → f ≤ m → x = nI m → (t = [] ∨ ∃ b, t = [(6, Value.int b)]) → SV f I0 m I → Zs sc (d + 1) (am_P 85).2 (38, (0, .ref 4) :: (1, .int 0) :: (2, .ref 16) :: (3, .int (nI f)) :: (4, .int (nI u)) :: (5, .int x) :: t, []) (HH I J R T) (fun r h => r = none ∧ ∃ I', h = HH I' J R T ∧ SV f I0 (u + 1) I')
  | 0, m, I, x, t, hk, hm, hx, ht, hS => by
    have e : m = u + 1 := by omega
    subst e
    rcases ht with rfl | ⟨b, rfl⟩
    · refine Z_jump 3 rfl ?_
      refine Z_bd (fun c42 => ?_) (fun c42 => absurd ((show nI u < x by rw [hx]; exact nI_lt (by omega) (by omega))) c42)
      show Zs _ _ (am_P 85).2 (99, [(0, .ref 4), (1, .int (0 : Int32)), (2, .ref 16), (3, .int (nI f)), (4, .int (nI u)), (5, .int x)], []) (HH I J R T) _
      refine Z_ret rfl rfl rfl ?_
      exact ⟨rfl, I, rfl, hS⟩
    · refine Z_jump 3 rfl ?_
      refine Z_bd (fun c42 => ?_) (fun c42 => absurd ((show nI u < x by rw [hx]; exact nI_lt (by omega) (by omega))) c42)
      show Zs _ _ (am_P 85).2 (99, [(0, .ref 4), (1, .int (0 : Int32)), (2, .ref 16), (3, .int (nI f)), (4, .int (nI u)), (5, .int x), (6, .int b)], []) (HH I J R T) _
      refine Z_ret rfl rfl rfl ?_
      exact ⟨rfl, I, rfl, hS⟩
  | k + 1, m, I, x, t, hk, hm, hx, ht, hS => by
    have hle : ¬ nI u < x := by rw [hx]; exact nI_nlt (by omega) (by omega)
    have h13' : I 4 13 = 0 := (congrFun (hS.1 4 (by decide)) 13).trans h13
    have hix : x - nI f = nI (m - f) := by rw [hx]; exact nI_subI hm
    have hz : x = 0 ↔ m = 0 := by rw [hx]; exact nI_eq (b := 0) (by omega) (by omega)
    rcases ht with rfl | ⟨b, rfl⟩
    · refine Z_jump 3 rfl ?_
      refine Z_bd (fun c42 => absurd c42 (hle)) (fun c42 => ?_)
      refine Z_jump 3 rfl ?_
      show Zs _ _ (am_P 85).2 (50, [(0, .ref 4), (1, .int (0 : Int32)), (2, .ref 16), (3, .int (nI f)), (4, .int (nI u)), (5, .int x)], [.int (I 4 13), .int (0 : Int32)]) (HH I J R T) _
      refine Z_eqI (h13') ?_
      show Zs _ _ (am_P 85).2 (50, [(0, .ref 4), (1, .int (0 : Int32)), (2, .ref 16), (3, .int (nI f)), (4, .int (nI u)), (5, .int x)], [.int (0 : Int32), .int (0 : Int32)]) (HH I J R T) _
      refine Z_jump 3 rfl ?_
      refine Z_bn (fun (c55 : ¬ (x = (0 : Int32))) => ?_) (fun (c55 : x = (0 : Int32)) => ?_)
      · refine Z_jump 10 rfl ?_
        show Zs _ _ (am_P 85).2 (90, [(0, .ref 4), (1, .int (0 : Int32)), (2, .ref 16), (3, .int (nI f)), (4, .int (nI u)), (5, .int x), (6, .int (0 : Int32))], [.int (0 : Int32), .int (x - (nI f)), .ref 16]) (HH I J R T) _
        refine Z_c0 rfl rfl rfl (k_putK (a := 16) (L := 1024) (f := I 16) (i := m - f) rfl hix (by omega) (by decide)) ?_
        show Zs _ _ (am_P 85).2 (93, [(0, .ref 4), (1, .int (0 : Int32)), (2, .ref 16), (3, .int (nI f)), (4, .int (nI u)), (5, .int x), (6, .int (0 : Int32))], []) (HH (sf I 16 (m - f) (0 : Int32)) J R T) _
        refine Z_jump 2 rfl ?_
        show Zs _ _ (am_P 85).2 (38, [(0, .ref 4), (1, .int (0 : Int32)), (2, .ref 16), (3, .int (nI f)), (4, .int (nI u)), (5, .int (x + 1)), (6, .int (0 : Int32))], []) (HH (sf I 16 (m - f) (0 : Int32)) J R T) _
        exact c_siftFrom_l hf hu h13 k (m + 1) _ _ _ (by omega) (by omega) (by rw [hx]; exact nI_1 m) (Or.inr ⟨_, rfl⟩) (SV_s hm hS (by first | exact (if_pos (hz.mp c55)).symm | exact (if_neg (fun z => c55 (hz.mpr z))).symm))
      · refine Z_jump 11 rfl ?_
        show Zs _ _ (am_P 85).2 (90, [(0, .ref 4), (1, .int (0 : Int32)), (2, .ref 16), (3, .int (nI f)), (4, .int (nI u)), (5, .int x), (6, .int (1 : Int32))], [.int (1 : Int32), .int (x - (nI f)), .ref 16]) (HH I J R T) _
        refine Z_c0 rfl rfl rfl (k_putK (a := 16) (L := 1024) (f := I 16) (i := m - f) rfl hix (by omega) (by decide)) ?_
        show Zs _ _ (am_P 85).2 (93, [(0, .ref 4), (1, .int (0 : Int32)), (2, .ref 16), (3, .int (nI f)), (4, .int (nI u)), (5, .int x), (6, .int (1 : Int32))], []) (HH (sf I 16 (m - f) (1 : Int32)) J R T) _
        refine Z_jump 2 rfl ?_
        show Zs _ _ (am_P 85).2 (38, [(0, .ref 4), (1, .int (0 : Int32)), (2, .ref 16), (3, .int (nI f)), (4, .int (nI u)), (5, .int (x + 1)), (6, .int (1 : Int32))], []) (HH (sf I 16 (m - f) (1 : Int32)) J R T) _
        exact c_siftFrom_l hf hu h13 k (m + 1) _ _ _ (by omega) (by omega) (by rw [hx]; exact nI_1 m) (Or.inr ⟨_, rfl⟩) (SV_s hm hS (by first | exact (if_pos (hz.mp c55)).symm | exact (if_neg (fun z => c55 (hz.mpr z))).symm))
    · refine Z_jump 3 rfl ?_
      refine Z_bd (fun c42 => absurd c42 (hle)) (fun c42 => ?_)
      refine Z_jump 3 rfl ?_
      show Zs _ _ (am_P 85).2 (50, [(0, .ref 4), (1, .int (0 : Int32)), (2, .ref 16), (3, .int (nI f)), (4, .int (nI u)), (5, .int x), (6, .int b)], [.int (I 4 13), .int (0 : Int32)]) (HH I J R T) _
      refine Z_eqI (h13') ?_
      show Zs _ _ (am_P 85).2 (50, [(0, .ref 4), (1, .int (0 : Int32)), (2, .ref 16), (3, .int (nI f)), (4, .int (nI u)), (5, .int x), (6, .int b)], [.int (0 : Int32), .int (0 : Int32)]) (HH I J R T) _
      refine Z_jump 3 rfl ?_
      refine Z_bn (fun (c55 : ¬ (x = (0 : Int32))) => ?_) (fun (c55 : x = (0 : Int32)) => ?_)
      · refine Z_jump 10 rfl ?_
        show Zs _ _ (am_P 85).2 (90, [(0, .ref 4), (1, .int (0 : Int32)), (2, .ref 16), (3, .int (nI f)), (4, .int (nI u)), (5, .int x), (6, .int (0 : Int32))], [.int (0 : Int32), .int (x - (nI f)), .ref 16]) (HH I J R T) _
        refine Z_c0 rfl rfl rfl (k_putK (a := 16) (L := 1024) (f := I 16) (i := m - f) rfl hix (by omega) (by decide)) ?_
        show Zs _ _ (am_P 85).2 (93, [(0, .ref 4), (1, .int (0 : Int32)), (2, .ref 16), (3, .int (nI f)), (4, .int (nI u)), (5, .int x), (6, .int (0 : Int32))], []) (HH (sf I 16 (m - f) (0 : Int32)) J R T) _
        refine Z_jump 2 rfl ?_
        show Zs _ _ (am_P 85).2 (38, [(0, .ref 4), (1, .int (0 : Int32)), (2, .ref 16), (3, .int (nI f)), (4, .int (nI u)), (5, .int (x + 1)), (6, .int (0 : Int32))], []) (HH (sf I 16 (m - f) (0 : Int32)) J R T) _
        exact c_siftFrom_l hf hu h13 k (m + 1) _ _ _ (by omega) (by omega) (by rw [hx]; exact nI_1 m) (Or.inr ⟨_, rfl⟩) (SV_s hm hS (by first | exact (if_pos (hz.mp c55)).symm | exact (if_neg (fun z => c55 (hz.mpr z))).symm))
      · refine Z_jump 11 rfl ?_
        show Zs _ _ (am_P 85).2 (90, [(0, .ref 4), (1, .int (0 : Int32)), (2, .ref 16), (3, .int (nI f)), (4, .int (nI u)), (5, .int x), (6, .int (1 : Int32))], [.int (1 : Int32), .int (x - (nI f)), .ref 16]) (HH I J R T) _
        refine Z_c0 rfl rfl rfl (k_putK (a := 16) (L := 1024) (f := I 16) (i := m - f) rfl hix (by omega) (by decide)) ?_
        show Zs _ _ (am_P 85).2 (93, [(0, .ref 4), (1, .int (0 : Int32)), (2, .ref 16), (3, .int (nI f)), (4, .int (nI u)), (5, .int x), (6, .int (1 : Int32))], []) (HH (sf I 16 (m - f) (1 : Int32)) J R T) _
        refine Z_jump 2 rfl ?_
        show Zs _ _ (am_P 85).2 (38, [(0, .ref 4), (1, .int (0 : Int32)), (2, .ref 16), (3, .int (nI f)), (4, .int (nI u)), (5, .int (x + 1)), (6, .int (1 : Int32))], []) (HH (sf I 16 (m - f) (1 : Int32)) J R T) _
        exact c_siftFrom_l hf hu h13 k (m + 1) _ _ _ (by omega) (by omega) (by rw [hx]; exact nI_1 m) (Or.inr ⟨_, rfl⟩) (SV_s hm hS (by first | exact (if_pos (hz.mp c55)).symm | exact (if_neg (fun z => c55 (hz.mpr z))).symm))
theorem c_siftFrom0a (h13 : I 4 13 = 0) (hf : I 14 0 = 1) (hu : I 15 0 = 500) : Ze sc (d + 2) 85 [.ref 4, .int 0] (HH I J R T) (fun r h => r = none ∧ ∃ I', h = HH I' J R T ∧ SV 1 I 501 I') := by
  refine Ze_of (Nat.le_of_ble_eq_true rfl) ?_
  refine Z_jump 2 rfl ?_
  show Zs _ _ (am_P 85).2 (2, [(0, .ref 4), (1, .int (0 : Int32))], [.int (0 : Int32), .ref 4]) (HH I J R T) _
  refine Z_c1 rfl rfl rfl (c_sieveOf0) ?_
  show Zs _ _ (am_P 85).2 (5, [(0, .ref 4), (1, .int (0 : Int32))], [.ref 16]) (HH I J R T) _
  refine Z_jump 4 rfl ?_
  show Zs _ _ (am_P 85).2 (11, [(0, .ref 4), (1, .int (0 : Int32)), (2, .ref 16)], [.int (0 : Int32), .ref 14]) (HH I J R T) _
  refine Z_c1 rfl rfl rfl (k_at (a := 14) (L := 7) (f := I 14) rfl (by decide)) ?_
  show Zs _ _ (am_P 85).2 (14, [(0, .ref 4), (1, .int (0 : Int32)), (2, .ref 16)], [.int (I 14 0)]) (HH I J R T) _
  show Zs _ _ (am_P 85).2 (14, [(0, .ref 4), (1, .int (0 : Int32)), (2, .ref 16)], [.int (I 14 0)]) (HH I J R T) _
  refine Z_eqI (hf) ?_
  show Zs _ _ (am_P 85).2 (14, [(0, .ref 4), (1, .int (0 : Int32)), (2, .ref 16)], [.int (1 : Int32)]) (HH I J R T) _
  refine Z_jump 4 rfl ?_
  show Zs _ _ (am_P 85).2 (20, [(0, .ref 4), (1, .int (0 : Int32)), (2, .ref 16), (3, .int (1 : Int32))], [.int (0 : Int32), .ref 15]) (HH I J R T) _
  refine Z_c1 rfl rfl rfl (k_at (a := 15) (L := 7) (f := I 15) rfl (by decide)) ?_
  show Zs _ _ (am_P 85).2 (23, [(0, .ref 4), (1, .int (0 : Int32)), (2, .ref 16), (3, .int (1 : Int32))], [.int (I 15 0)]) (HH I J R T) _
  show Zs _ _ (am_P 85).2 (23, [(0, .ref 4), (1, .int (0 : Int32)), (2, .ref 16), (3, .int (1 : Int32))], [.int (I 15 0)]) (HH I J R T) _
  refine Z_eqI (hu) ?_
  show Zs _ _ (am_P 85).2 (23, [(0, .ref 4), (1, .int (0 : Int32)), (2, .ref 16), (3, .int (1 : Int32))], [.int (500 : Int32)]) (HH I J R T) _
  refine Z_jump 9 rfl ?_
  show Zs _ _ (am_P 85).2 (38, [(0, .ref 4), (1, .int (0 : Int32)), (2, .ref 16), (3, .int (1 : Int32)), (4, .int (500 : Int32)), (5, .int (1 : Int32))], []) (HH I J R T) _
  exact c_siftFrom_l (f := 1) (u := 500) (by omega) (by omega) h13 500 1 _ _ _ (by omega) (by omega) rfl (Or.inl rfl) ⟨fun _ _ => rfl, fun j hj => absurd hj (by omega)⟩
theorem c_sift0a (h13 : I 4 13 = 0) : Ze sc (d + 3) 84 [.ref 4, .int 1, .int 500] (HH I J R T) (fun r h => r = none ∧ ∃ I', h = HH I' J R T ∧ SV 1 (sf (sf I 14 0 1) 15 0 500) 501 I') := by
  refine Ze_of (Nat.le_of_ble_eq_true rfl) ?_
  refine Z_jump 6 rfl ?_
  show Zs _ _ (am_P 84).2 (10, [(0, .ref 4), (1, .int (1 : Int32)), (2, .int (500 : Int32))], [.int (1 : Int32), .int (0 : Int32), .ref 14]) (HH I J R T) _
  refine Z_c0 rfl rfl rfl (k_put (a := 14) (L := 7) (f := I 14) rfl (by decide)) ?_
  show Zs _ _ (am_P 84).2 (13, [(0, .ref 4), (1, .int (1 : Int32)), (2, .int (500 : Int32))], []) (HH (sf I 14 0 1) J R T) _
  refine Z_jump 4 rfl ?_
  show Zs _ _ (am_P 84).2 (19, [(0, .ref 4), (1, .int (1 : Int32)), (2, .int (500 : Int32))], [.int (500 : Int32), .int (0 : Int32), .ref 15]) (HH (sf I 14 0 1) J R T) _
  refine Z_c0 rfl rfl rfl (k_put (a := 15) (L := 7) (f := (sf I 14 0 1) 15) rfl (by decide)) ?_
  show Zs _ _ (am_P 84).2 (22, [(0, .ref 4), (1, .int (1 : Int32)), (2, .int (500 : Int32))], []) (HH (sf (sf I 14 0 1) 15 0 500) J R T) _
  refine Z_jump 5 rfl ?_
  show Zs _ _ (am_P 84).2 (29, [(0, .ref 4), (1, .int (1 : Int32)), (2, .int (500 : Int32)), (3, .int (0 : Int32))], [.int ((sf (sf I 14 0 1) 15 0 500) 4 13), .int (0 : Int32)]) (HH (sf (sf I 14 0 1) 15 0 500) J R T) _
  refine Z_eqI (h13) ?_
  show Zs _ _ (am_P 84).2 (29, [(0, .ref 4), (1, .int (1 : Int32)), (2, .int (500 : Int32)), (3, .int (0 : Int32))], [.int (0 : Int32), .int (0 : Int32)]) (HH (sf (sf I 14 0 1) 15 0 500) J R T) _
  refine Z_jump 3 rfl ?_
  show Zs _ _ (am_P 84).2 (101, [(0, .ref 4), (1, .int (1 : Int32)), (2, .int (500 : Int32)), (3, .int (0 : Int32))], [.int ((sf (sf I 14 0 1) 15 0 500) 4 13)]) (HH (sf (sf I 14 0 1) 15 0 500) J R T) _
  refine Z_eqI (h13) ?_
  show Zs _ _ (am_P 84).2 (101, [(0, .ref 4), (1, .int (1 : Int32)), (2, .int (500 : Int32)), (3, .int (0 : Int32))], [.int (0 : Int32)]) (HH (sf (sf I 14 0 1) 15 0 500) J R T) _
  refine Z_jump 5 rfl ?_
  show Zs _ _ (am_P 84).2 (108, [(0, .ref 4), (1, .int (1 : Int32)), (2, .int (500 : Int32)), (3, .int (0 : Int32))], [.int (0 : Int32), .ref 4]) (HH (sf (sf I 14 0 1) 15 0 500) J R T) _
  refine Z_cQ rfl rfl rfl (c_siftFrom0a (I := (sf (sf I 14 0 1) 15 0 500)) h13 rfl rfl) (fun v h1 hq => ?_)
  obtain ⟨rfl, I', rfl, hS⟩ := hq
  show Zs _ _ (am_P 84).2 (111, [(0, .ref 4), (1, .int (1 : Int32)), (2, .int (500 : Int32)), (3, .int (0 : Int32))], []) (HH I' J R T) _
  refine Z_jump 4 rfl ?_
  show Zs _ _ (am_P 84).2 (117, [(0, .ref 4), (1, .int (1 : Int32)), (2, .int (500 : Int32)), (3, .int (-1 : Int32))], []) (HH I' J R T) _
  refine Z_ret rfl rfl rfl ?_
  exact ⟨rfl, I', rfl, hS⟩
theorem c_siftFrom0b (h13 : I 4 13 = 0) (hf : I 14 0 = 0) (hu : I 15 0 = 0) : Ze sc (d + 2) 85 [.ref 4, .int 0] (HH I J R T) (fun r h => r = none ∧ ∃ I', h = HH I' J R T ∧ SV 0 I 1 I') := by
  refine Ze_of (Nat.le_of_ble_eq_true rfl) ?_
  refine Z_jump 2 rfl ?_
  show Zs _ _ (am_P 85).2 (2, [(0, .ref 4), (1, .int (0 : Int32))], [.int (0 : Int32), .ref 4]) (HH I J R T) _
  refine Z_c1 rfl rfl rfl (c_sieveOf0) ?_
  show Zs _ _ (am_P 85).2 (5, [(0, .ref 4), (1, .int (0 : Int32))], [.ref 16]) (HH I J R T) _
  refine Z_jump 4 rfl ?_
  show Zs _ _ (am_P 85).2 (11, [(0, .ref 4), (1, .int (0 : Int32)), (2, .ref 16)], [.int (0 : Int32), .ref 14]) (HH I J R T) _
  refine Z_c1 rfl rfl rfl (k_at (a := 14) (L := 7) (f := I 14) rfl (by decide)) ?_
  show Zs _ _ (am_P 85).2 (14, [(0, .ref 4), (1, .int (0 : Int32)), (2, .ref 16)], [.int (I 14 0)]) (HH I J R T) _
  show Zs _ _ (am_P 85).2 (14, [(0, .ref 4), (1, .int (0 : Int32)), (2, .ref 16)], [.int (I 14 0)]) (HH I J R T) _
  refine Z_eqI (hf) ?_
  show Zs _ _ (am_P 85).2 (14, [(0, .ref 4), (1, .int (0 : Int32)), (2, .ref 16)], [.int (0 : Int32)]) (HH I J R T) _
  refine Z_jump 4 rfl ?_
  show Zs _ _ (am_P 85).2 (20, [(0, .ref 4), (1, .int (0 : Int32)), (2, .ref 16), (3, .int (0 : Int32))], [.int (0 : Int32), .ref 15]) (HH I J R T) _
  refine Z_c1 rfl rfl rfl (k_at (a := 15) (L := 7) (f := I 15) rfl (by decide)) ?_
  show Zs _ _ (am_P 85).2 (23, [(0, .ref 4), (1, .int (0 : Int32)), (2, .ref 16), (3, .int (0 : Int32))], [.int (I 15 0)]) (HH I J R T) _
  show Zs _ _ (am_P 85).2 (23, [(0, .ref 4), (1, .int (0 : Int32)), (2, .ref 16), (3, .int (0 : Int32))], [.int (I 15 0)]) (HH I J R T) _
  refine Z_eqI (hu) ?_
  show Zs _ _ (am_P 85).2 (23, [(0, .ref 4), (1, .int (0 : Int32)), (2, .ref 16), (3, .int (0 : Int32))], [.int (0 : Int32)]) (HH I J R T) _
  refine Z_jump 9 rfl ?_
  show Zs _ _ (am_P 85).2 (38, [(0, .ref 4), (1, .int (0 : Int32)), (2, .ref 16), (3, .int (0 : Int32)), (4, .int (0 : Int32)), (5, .int (0 : Int32))], []) (HH I J R T) _
  exact c_siftFrom_l (f := 0) (u := 0) (by omega) (by omega) h13 1 0 _ _ _ (by omega) (by omega) rfl (Or.inl rfl) ⟨fun _ _ => rfl, fun j hj => absurd hj (by omega)⟩
theorem c_sift0b (h13 : I 4 13 = 0) : Ze sc (d + 3) 84 [.ref 4, .int 0, .int 0] (HH I J R T) (fun r h => r = none ∧ ∃ I', h = HH I' J R T ∧ SV 0 (sf (sf I 14 0 0) 15 0 0) 1 I') := by
  refine Ze_of (Nat.le_of_ble_eq_true rfl) ?_
  refine Z_jump 6 rfl ?_
  show Zs _ _ (am_P 84).2 (10, [(0, .ref 4), (1, .int (0 : Int32)), (2, .int (0 : Int32))], [.int (0 : Int32), .int (0 : Int32), .ref 14]) (HH I J R T) _
  refine Z_c0 rfl rfl rfl (k_put (a := 14) (L := 7) (f := I 14) rfl (by decide)) ?_
  show Zs _ _ (am_P 84).2 (13, [(0, .ref 4), (1, .int (0 : Int32)), (2, .int (0 : Int32))], []) (HH (sf I 14 0 0) J R T) _
  refine Z_jump 4 rfl ?_
  show Zs _ _ (am_P 84).2 (19, [(0, .ref 4), (1, .int (0 : Int32)), (2, .int (0 : Int32))], [.int (0 : Int32), .int (0 : Int32), .ref 15]) (HH (sf I 14 0 0) J R T) _
  refine Z_c0 rfl rfl rfl (k_put (a := 15) (L := 7) (f := (sf I 14 0 0) 15) rfl (by decide)) ?_
  show Zs _ _ (am_P 84).2 (22, [(0, .ref 4), (1, .int (0 : Int32)), (2, .int (0 : Int32))], []) (HH (sf (sf I 14 0 0) 15 0 0) J R T) _
  refine Z_jump 5 rfl ?_
  show Zs _ _ (am_P 84).2 (29, [(0, .ref 4), (1, .int (0 : Int32)), (2, .int (0 : Int32)), (3, .int (0 : Int32))], [.int ((sf (sf I 14 0 0) 15 0 0) 4 13), .int (0 : Int32)]) (HH (sf (sf I 14 0 0) 15 0 0) J R T) _
  refine Z_eqI (h13) ?_
  show Zs _ _ (am_P 84).2 (29, [(0, .ref 4), (1, .int (0 : Int32)), (2, .int (0 : Int32)), (3, .int (0 : Int32))], [.int (0 : Int32), .int (0 : Int32)]) (HH (sf (sf I 14 0 0) 15 0 0) J R T) _
  refine Z_jump 3 rfl ?_
  show Zs _ _ (am_P 84).2 (101, [(0, .ref 4), (1, .int (0 : Int32)), (2, .int (0 : Int32)), (3, .int (0 : Int32))], [.int ((sf (sf I 14 0 0) 15 0 0) 4 13)]) (HH (sf (sf I 14 0 0) 15 0 0) J R T) _
  refine Z_eqI (h13) ?_
  show Zs _ _ (am_P 84).2 (101, [(0, .ref 4), (1, .int (0 : Int32)), (2, .int (0 : Int32)), (3, .int (0 : Int32))], [.int (0 : Int32)]) (HH (sf (sf I 14 0 0) 15 0 0) J R T) _
  refine Z_jump 5 rfl ?_
  show Zs _ _ (am_P 84).2 (108, [(0, .ref 4), (1, .int (0 : Int32)), (2, .int (0 : Int32)), (3, .int (0 : Int32))], [.int (0 : Int32), .ref 4]) (HH (sf (sf I 14 0 0) 15 0 0) J R T) _
  refine Z_cQ rfl rfl rfl (c_siftFrom0b (I := (sf (sf I 14 0 0) 15 0 0)) h13 rfl rfl) (fun v h1 hq => ?_)
  obtain ⟨rfl, I', rfl, hS⟩ := hq
  show Zs _ _ (am_P 84).2 (111, [(0, .ref 4), (1, .int (0 : Int32)), (2, .int (0 : Int32)), (3, .int (0 : Int32))], []) (HH I' J R T) _
  refine Z_jump 4 rfl ?_
  show Zs _ _ (am_P 84).2 (117, [(0, .ref 4), (1, .int (0 : Int32)), (2, .int (0 : Int32)), (3, .int (-1 : Int32))], []) (HH I' J R T) _
  refine Z_ret rfl rfl rfl ?_
  exact ⟨rfl, I', rfl, hS⟩
theorem c_isS_a (hf : I 14 0 = 1) (hu : I 15 0 = 500) (h16 : I 16 0 = 0) : am_E sc (d + 3) 89 [.ref 4, .int 1] (HH I J R T) (some (.int 0)) (HH I J R T) := by
  have w : am_E sc (d + 2) 88 [.ref 4, .int 0, .int 1] (HH I J R T) (some (.int 0)) (HH I J R T) := by
    refine E_Z (Ze_of (Nat.le_of_ble_eq_true rfl) ?_)
    refine Z_jump 4 rfl ?_
    show Zs _ _ (am_P 88).2 (6, [(0, .ref 4), (1, .int (0 : Int32)), (2, .int (1 : Int32))], [.int (0 : Int32), .ref 14, .int (1 : Int32)]) (HH I J R T) _
    refine Z_c1 rfl rfl rfl (k_at (a := 14) (L := 7) (f := I 14) rfl (by decide)) ?_
    show Zs _ _ (am_P 88).2 (9, [(0, .ref 4), (1, .int (0 : Int32)), (2, .int (1 : Int32))], [.int (I 14 0), .int (1 : Int32)]) (HH I J R T) _
    show Zs _ _ (am_P 88).2 (9, [(0, .ref 4), (1, .int (0 : Int32)), (2, .int (1 : Int32))], [.int (I 14 0), .int (1 : Int32)]) (HH I J R T) _
    refine Z_eqI (hf) ?_
    show Zs _ _ (am_P 88).2 (9, [(0, .ref 4), (1, .int (0 : Int32)), (2, .int (1 : Int32))], [.int (1 : Int32), .int (1 : Int32)]) (HH I J R T) _
    refine Z_jump 5 rfl ?_
    show Zs _ _ (am_P 88).2 (18, [(0, .ref 4), (1, .int (0 : Int32)), (2, .int (1 : Int32))], [.int (0 : Int32), .ref 15, .int (1 : Int32)]) (HH I J R T) _
    refine Z_c1 rfl rfl rfl (k_at (a := 15) (L := 7) (f := I 15) rfl (by decide)) ?_
    show Zs _ _ (am_P 88).2 (21, [(0, .ref 4), (1, .int (0 : Int32)), (2, .int (1 : Int32))], [.int (I 15 0), .int (1 : Int32)]) (HH I J R T) _
    show Zs _ _ (am_P 88).2 (21, [(0, .ref 4), (1, .int (0 : Int32)), (2, .int (1 : Int32))], [.int (I 15 0), .int (1 : Int32)]) (HH I J R T) _
    refine Z_eqI (hu) ?_
    show Zs _ _ (am_P 88).2 (21, [(0, .ref 4), (1, .int (0 : Int32)), (2, .int (1 : Int32))], [.int (500 : Int32), .int (1 : Int32)]) (HH I J R T) _
    refine Z_jump 8 rfl ?_
    show Zs _ _ (am_P 88).2 (36, [(0, .ref 4), (1, .int (0 : Int32)), (2, .int (1 : Int32)), (3, .int (1 : Int32))], [.int (0 : Int32), .ref 4]) (HH I J R T) _
    refine Z_c1 rfl rfl rfl (c_sieveOf0) ?_
    show Zs _ _ (am_P 88).2 (39, [(0, .ref 4), (1, .int (0 : Int32)), (2, .int (1 : Int32)), (3, .int (1 : Int32))], [.ref 16]) (HH I J R T) _
    refine Z_jump 4 rfl ?_
    show Zs _ _ (am_P 88).2 (45, [(0, .ref 4), (1, .int (0 : Int32)), (2, .int (1 : Int32)), (3, .int (1 : Int32))], [.int (0 : Int32), .ref 14, .int (1 : Int32), .ref 16]) (HH I J R T) _
    refine Z_c1 rfl rfl rfl (k_at (a := 14) (L := 7) (f := I 14) rfl (by decide)) ?_
    show Zs _ _ (am_P 88).2 (48, [(0, .ref 4), (1, .int (0 : Int32)), (2, .int (1 : Int32)), (3, .int (1 : Int32))], [.int (I 14 0), .int (1 : Int32), .ref 16]) (HH I J R T) _
    show Zs _ _ (am_P 88).2 (48, [(0, .ref 4), (1, .int (0 : Int32)), (2, .int (1 : Int32)), (3, .int (1 : Int32))], [.int (I 14 0), .int (1 : Int32), .ref 16]) (HH I J R T) _
    refine Z_eqI (hf) ?_
    show Zs _ _ (am_P 88).2 (48, [(0, .ref 4), (1, .int (0 : Int32)), (2, .int (1 : Int32)), (3, .int (1 : Int32))], [.int (1 : Int32), .int (1 : Int32), .ref 16]) (HH I J R T) _
    refine Z_jump 1 rfl ?_
    show Zs _ _ (am_P 88).2 (49, [(0, .ref 4), (1, .int (0 : Int32)), (2, .int (1 : Int32)), (3, .int (1 : Int32))], [.int (0 : Int32), .ref 16]) (HH I J R T) _
    refine Z_c1 rfl rfl rfl (k_at (a := 16) (L := 1024) (f := I 16) rfl (by decide)) ?_
    show Zs _ _ (am_P 88).2 (52, [(0, .ref 4), (1, .int (0 : Int32)), (2, .int (1 : Int32)), (3, .int (1 : Int32))], [.int (I 16 0)]) (HH I J R T) _
    show Zs _ _ (am_P 88).2 (52, [(0, .ref 4), (1, .int (0 : Int32)), (2, .int (1 : Int32)), (3, .int (1 : Int32))], [.int (I 16 0)]) (HH I J R T) _
    refine Z_eqI (h16) ?_
    show Zs _ _ (am_P 88).2 (52, [(0, .ref 4), (1, .int (0 : Int32)), (2, .int (1 : Int32)), (3, .int (1 : Int32))], [.int (0 : Int32)]) (HH I J R T) _
    refine Z_jump 3 rfl ?_
    show Zs _ _ (am_P 88).2 (61, [(0, .ref 4), (1, .int (0 : Int32)), (2, .int (1 : Int32)), (3, .int (1 : Int32))], [.int (0 : Int32)]) (HH I J R T) _
    refine Z_rI rfl (by first | exact am_nw0 _ | exact am_nw01 | rfl | assumption) ?_
    exact ⟨rfl, rfl⟩
  refine E_Z (Ze_of (Nat.le_of_ble_eq_true rfl) ?_)
  refine Z_jump 3 rfl ?_
  show Zs _ _ (am_P 89).2 (3, [(0, .ref 4), (1, .int (1 : Int32))], [.int (1 : Int32), .int (0 : Int32), .ref 4]) (HH I J R T) _
  refine Z_c1 rfl rfl rfl (w) ?_
  show Zs _ _ (am_P 89).2 (6, [(0, .ref 4), (1, .int (1 : Int32))], [.int (0 : Int32)]) (HH I J R T) _
  show Zs _ _ (am_P 89).2 (6, [(0, .ref 4), (1, .int (1 : Int32))], [.int (0 : Int32)]) (HH I J R T) _
  refine Z_rI rfl (by first | exact am_nw0 _ | exact am_nw01 | rfl | assumption) ?_
  exact ⟨rfl, rfl⟩
theorem c_isS_b {n : Int32} (hf : I 14 0 = 0) (hu : I 15 0 = 0) (h16 : I 16 0 = 1) : am_E sc (d + 3) 89 [.ref 4, .int n] (HH I J R T) (some (.int (if n = 0 then 1 else 0))) (HH I J R T) := by
  have w : am_E sc (d + 2) 88 [.ref 4, .int 0, .int n] (HH I J R T) (some (.int (if n = 0 then 1 else 0))) (HH I J R T) := by
    refine E_Z (Ze_of (Nat.le_of_ble_eq_true rfl) ?_)
    by_cases hn : n = 0
    · subst hn
      refine Z_jump 4 rfl ?_
      show Zs _ _ (am_P 88).2 (6, [(0, .ref 4), (1, .int (0 : Int32)), (2, .int (0 : Int32))], [.int (0 : Int32), .ref 14, .int (0 : Int32)]) (HH I J R T) _
      refine Z_c1 rfl rfl rfl (k_at (a := 14) (L := 7) (f := I 14) rfl (by decide)) ?_
      show Zs _ _ (am_P 88).2 (9, [(0, .ref 4), (1, .int (0 : Int32)), (2, .int (0 : Int32))], [.int (I 14 0), .int (0 : Int32)]) (HH I J R T) _
      show Zs _ _ (am_P 88).2 (9, [(0, .ref 4), (1, .int (0 : Int32)), (2, .int (0 : Int32))], [.int (I 14 0), .int (0 : Int32)]) (HH I J R T) _
      refine Z_eqI (hf) ?_
      show Zs _ _ (am_P 88).2 (9, [(0, .ref 4), (1, .int (0 : Int32)), (2, .int (0 : Int32))], [.int (0 : Int32), .int (0 : Int32)]) (HH I J R T) _
      refine Z_jump 5 rfl ?_
      show Zs _ _ (am_P 88).2 (18, [(0, .ref 4), (1, .int (0 : Int32)), (2, .int (0 : Int32))], [.int (0 : Int32), .ref 15, .int (0 : Int32)]) (HH I J R T) _
      refine Z_c1 rfl rfl rfl (k_at (a := 15) (L := 7) (f := I 15) rfl (by decide)) ?_
      show Zs _ _ (am_P 88).2 (21, [(0, .ref 4), (1, .int (0 : Int32)), (2, .int (0 : Int32))], [.int (I 15 0), .int (0 : Int32)]) (HH I J R T) _
      show Zs _ _ (am_P 88).2 (21, [(0, .ref 4), (1, .int (0 : Int32)), (2, .int (0 : Int32))], [.int (I 15 0), .int (0 : Int32)]) (HH I J R T) _
      refine Z_eqI (hu) ?_
      show Zs _ _ (am_P 88).2 (21, [(0, .ref 4), (1, .int (0 : Int32)), (2, .int (0 : Int32))], [.int (0 : Int32), .int (0 : Int32)]) (HH I J R T) _
      refine Z_jump 8 rfl ?_
      show Zs _ _ (am_P 88).2 (36, [(0, .ref 4), (1, .int (0 : Int32)), (2, .int (0 : Int32)), (3, .int (1 : Int32))], [.int (0 : Int32), .ref 4]) (HH I J R T) _
      refine Z_c1 rfl rfl rfl (c_sieveOf0) ?_
      show Zs _ _ (am_P 88).2 (39, [(0, .ref 4), (1, .int (0 : Int32)), (2, .int (0 : Int32)), (3, .int (1 : Int32))], [.ref 16]) (HH I J R T) _
      refine Z_jump 4 rfl ?_
      show Zs _ _ (am_P 88).2 (45, [(0, .ref 4), (1, .int (0 : Int32)), (2, .int (0 : Int32)), (3, .int (1 : Int32))], [.int (0 : Int32), .ref 14, .int (0 : Int32), .ref 16]) (HH I J R T) _
      refine Z_c1 rfl rfl rfl (k_at (a := 14) (L := 7) (f := I 14) rfl (by decide)) ?_
      show Zs _ _ (am_P 88).2 (48, [(0, .ref 4), (1, .int (0 : Int32)), (2, .int (0 : Int32)), (3, .int (1 : Int32))], [.int (I 14 0), .int (0 : Int32), .ref 16]) (HH I J R T) _
      show Zs _ _ (am_P 88).2 (48, [(0, .ref 4), (1, .int (0 : Int32)), (2, .int (0 : Int32)), (3, .int (1 : Int32))], [.int (I 14 0), .int (0 : Int32), .ref 16]) (HH I J R T) _
      refine Z_eqI (hf) ?_
      show Zs _ _ (am_P 88).2 (48, [(0, .ref 4), (1, .int (0 : Int32)), (2, .int (0 : Int32)), (3, .int (1 : Int32))], [.int (0 : Int32), .int (0 : Int32), .ref 16]) (HH I J R T) _
      refine Z_jump 1 rfl ?_
      show Zs _ _ (am_P 88).2 (49, [(0, .ref 4), (1, .int (0 : Int32)), (2, .int (0 : Int32)), (3, .int (1 : Int32))], [.int (0 : Int32), .ref 16]) (HH I J R T) _
      refine Z_c1 rfl rfl rfl (k_at (a := 16) (L := 1024) (f := I 16) rfl (by decide)) ?_
      show Zs _ _ (am_P 88).2 (52, [(0, .ref 4), (1, .int (0 : Int32)), (2, .int (0 : Int32)), (3, .int (1 : Int32))], [.int (I 16 0)]) (HH I J R T) _
      show Zs _ _ (am_P 88).2 (52, [(0, .ref 4), (1, .int (0 : Int32)), (2, .int (0 : Int32)), (3, .int (1 : Int32))], [.int (I 16 0)]) (HH I J R T) _
      refine Z_eqI (h16) ?_
      show Zs _ _ (am_P 88).2 (52, [(0, .ref 4), (1, .int (0 : Int32)), (2, .int (0 : Int32)), (3, .int (1 : Int32))], [.int (1 : Int32)]) (HH I J R T) _
      refine Z_jump 4 rfl ?_
      show Zs _ _ (am_P 88).2 (61, [(0, .ref 4), (1, .int (0 : Int32)), (2, .int (0 : Int32)), (3, .int (1 : Int32))], [.int (1 : Int32)]) (HH I J R T) _
      refine Z_rI rfl (by first | exact am_nw0 _ | exact am_nw01 | rfl | assumption) ?_
      exact ⟨rfl, rfl⟩
    · rw [if_neg hn]
      refine Z_jump 4 rfl ?_
      show Zs _ _ (am_P 88).2 (6, [(0, .ref 4), (1, .int (0 : Int32)), (2, .int n)], [.int (0 : Int32), .ref 14, .int n]) (HH I J R T) _
      refine Z_c1 rfl rfl rfl (k_at (a := 14) (L := 7) (f := I 14) rfl (by decide)) ?_
      show Zs _ _ (am_P 88).2 (9, [(0, .ref 4), (1, .int (0 : Int32)), (2, .int n)], [.int (I 14 0), .int n]) (HH I J R T) _
      show Zs _ _ (am_P 88).2 (9, [(0, .ref 4), (1, .int (0 : Int32)), (2, .int n)], [.int (I 14 0), .int n]) (HH I J R T) _
      refine Z_eqI (hf) ?_
      show Zs _ _ (am_P 88).2 (9, [(0, .ref 4), (1, .int (0 : Int32)), (2, .int n)], [.int (0 : Int32), .int n]) (HH I J R T) _
      refine Z_jump 1 rfl ?_
      refine Z_bd (fun (c9 : n < (0 : Int32)) => ?_) (fun (c9 : ¬ (n < (0 : Int32))) => ?_)
      · refine Z_jump 5 rfl ?_
        show Zs _ _ (am_P 88).2 (61, [(0, .ref 4), (1, .int (0 : Int32)), (2, .int n), (3, .int (0 : Int32))], [.int (0 : Int32)]) (HH I J R T) _
        refine Z_rI rfl (by first | exact am_nw0 _ | exact am_nw01 | rfl | assumption) ?_
        exact ⟨rfl, rfl⟩
      · refine Z_jump 4 rfl ?_
        show Zs _ _ (am_P 88).2 (18, [(0, .ref 4), (1, .int (0 : Int32)), (2, .int n)], [.int (0 : Int32), .ref 15, .int n]) (HH I J R T) _
        refine Z_c1 rfl rfl rfl (k_at (a := 15) (L := 7) (f := I 15) rfl (by decide)) ?_
        show Zs _ _ (am_P 88).2 (21, [(0, .ref 4), (1, .int (0 : Int32)), (2, .int n)], [.int (I 15 0), .int n]) (HH I J R T) _
        show Zs _ _ (am_P 88).2 (21, [(0, .ref 4), (1, .int (0 : Int32)), (2, .int n)], [.int (I 15 0), .int n]) (HH I J R T) _
        refine Z_eqI (hu) ?_
        show Zs _ _ (am_P 88).2 (21, [(0, .ref 4), (1, .int (0 : Int32)), (2, .int n)], [.int (0 : Int32), .int n]) (HH I J R T) _
        refine Z_jump 1 rfl ?_
        refine Z_bd (fun c21 => ?_) (fun c21 => absurd ((show (0 : Int32) < n by rw [fi_lt]; rw [fi_lt] at c9; rw [fi_eq] at hn; omega)) c21)
        refine Z_jump 5 rfl ?_
        show Zs _ _ (am_P 88).2 (61, [(0, .ref 4), (1, .int (0 : Int32)), (2, .int n), (3, .int (0 : Int32))], [.int (0 : Int32)]) (HH I J R T) _
        refine Z_rI rfl (by first | exact am_nw0 _ | exact am_nw01 | rfl | assumption) ?_
        exact ⟨rfl, rfl⟩
  refine E_Z (Ze_of (Nat.le_of_ble_eq_true rfl) ?_)
  refine Z_jump 3 rfl ?_
  show Zs _ _ (am_P 89).2 (3, [(0, .ref 4), (1, .int n)], [.int n, .int (0 : Int32), .ref 4]) (HH I J R T) _
  refine Z_c1 rfl rfl rfl (w) ?_
  show Zs _ _ (am_P 89).2 (6, [(0, .ref 4), (1, .int n)], [.int (if n = 0 then 1 else 0)]) (HH I J R T) _
  show Zs _ _ (am_P 89).2 (6, [(0, .ref 4), (1, .int n)], [.int (if n = 0 then 1 else 0)]) (HH I J R T) _
  refine Z_rI rfl (by first | exact am_nw0 _ | exact am_nw01 | rfl | assumption) ?_
  exact ⟨rfl, rfl⟩
theorem c_gap0 (h13 : I 4 13 = 0) : Ze sc (d + 4) 134 [.ref 0, .int 0] (HH I J R T) (fun r h => r = some (.int 1) ∧ ∃ I', h = HH I' J R T ∧ ∀ c, 73 ≤ c → I' c = I c) := by
  refine Ze_of (Nat.le_of_ble_eq_true rfl) ?_
  refine Z_jump 8 rfl ?_
  show Zs _ _ (am_P 134).2 (12, [(0, .ref 0), (1, .int (0 : Int32))], [.int (500 : Int32), .int (1 : Int32), .ref 4]) (HH I J R T) _
  refine Z_cQ rfl rfl rfl (c_sift0a h13) (fun v h1 hq => ?_)
  obtain ⟨rfl, I1, rfl, hS⟩ := hq
  show Zs _ _ (am_P 134).2 (15, [(0, .ref 0), (1, .int (0 : Int32))], []) (HH I1 J R T) _
  refine Z_jump 12 rfl ?_
  show Zs _ _ (am_P 134).2 (33, [(0, .ref 0), (1, .int (0 : Int32)), (2, .int (1 : Int32))], [.int (1 : Int32), .ref 4]) (HH I1 J R T) _
  refine Z_c1 rfl rfl rfl (c_isS_a (congrFun (hS.1 14 (by decide)) 0) (congrFun (hS.1 15 (by decide)) 0) (hS.2 0 (by omega))) ?_
  show Zs _ _ (am_P 134).2 (36, [(0, .ref 0), (1, .int (0 : Int32)), (2, .int (1 : Int32))], [.int (0 : Int32)]) (HH I1 J R T) _
  refine Z_jump 2 rfl ?_
  show Zs _ _ (am_P 134).2 (40, [(0, .ref 0), (1, .int (0 : Int32)), (2, .int (1 : Int32))], [.int (1 : Int32)]) (HH I1 J R T) _
  refine Z_rI rfl (by first | exact am_nw0 _ | exact am_nw01 | rfl | assumption) ?_
  exact ⟨rfl, I1, rfl, fun c hc => by rw [hS.1 c (by omega), sf_c (by omega), sf_c (by omega)]⟩
theorem c_span0 {w : Int32} (hn : I 18 1 = 0) : Ze sc (d + 5) 109 [.ref 0, .int w] (HH I J R T) (C0p (.long (if M_tri w then (if w = 2 then 1 else 0) else -3)) I J T) := by
  refine Ze_of (Nat.le_of_ble_eq_true rfl) ?_
  by_cases hb : M_tri w
  · rw [if_pos hb]
    rcases tri_c hb with rfl | rfl | rfl
    · refine Z_jump 12 rfl ?_
      show Zs _ _ (am_P 109).2 (26, [(0, .ref 0), (1, .int (0 : Int32))], [.int (0 : Int32), .ref 22, .ref 18, .ref 4]) (HH I J R T) _
      refine Z_cQ rfl rfl rfl (Ze_deep (d := 2) (by omega) (c_load0 (d := 0) hn)) (fun v h1 hq => ?_)
      obtain ⟨rfl, I1, rfl, hI1, h13, h10, h11⟩ := hq
      show Zs _ _ (am_P 109).2 (29, [(0, .ref 0), (1, .int (0 : Int32))], []) (HH I1 J R T) _
      refine Z_jump 5 rfl ?_
      show Zs _ _ (am_P 109).2 (38, [(0, .ref 0), (1, .int (0 : Int32))], [.int (0 : Int32), .ref 4]) (HH I1 J R T) _
      refine Z_c1 rfl rfl rfl (c_most0 h10) ?_
      show Zs _ _ (am_P 109).2 (41, [(0, .ref 0), (1, .int (0 : Int32))], [.int (0 : Int32)]) (HH I1 J R T) _
      refine Z_jump 1 rfl ?_
      show Zs _ _ (am_P 109).2 (42, [(0, .ref 0), (1, .int (0 : Int32))], [.long (0 : Int64)]) (HH I1 J R T) _
      refine Z_ret rfl rfl rfl ?_
      exact C0p_c (fun c hc => by rw [hI1 c (by omega) (by omega) (by omega) (by omega) (by omega)])
    · refine Z_jump 12 rfl ?_
      show Zs _ _ (am_P 109).2 (26, [(0, .ref 0), (1, .int (1 : Int32))], [.int (0 : Int32), .ref 22, .ref 18, .ref 4]) (HH I J R T) _
      refine Z_cQ rfl rfl rfl (Ze_deep (d := 2) (by omega) (c_load0 (d := 0) hn)) (fun v h1 hq => ?_)
      obtain ⟨rfl, I1, rfl, hI1, h13, h10, h11⟩ := hq
      show Zs _ _ (am_P 109).2 (29, [(0, .ref 0), (1, .int (1 : Int32))], []) (HH I1 J R T) _
      refine Z_jump 8 rfl ?_
      show Zs _ _ (am_P 109).2 (53, [(0, .ref 0), (1, .int (1 : Int32))], [.int (0 : Int32), .ref 4]) (HH I1 J R T) _
      refine Z_c1 rfl rfl rfl (c_few0 h11) ?_
      show Zs _ _ (am_P 109).2 (56, [(0, .ref 0), (1, .int (1 : Int32))], [.int (0 : Int32)]) (HH I1 J R T) _
      refine Z_jump 2 rfl ?_
      show Zs _ _ (am_P 109).2 (73, [(0, .ref 0), (1, .int (1 : Int32))], [.long (0 : Int64)]) (HH I1 J R T) _
      refine Z_ret rfl rfl rfl ?_
      exact C0p_c (fun c hc => by rw [hI1 c (by omega) (by omega) (by omega) (by omega) (by omega)])
    · refine Z_jump 12 rfl ?_
      show Zs _ _ (am_P 109).2 (26, [(0, .ref 0), (1, .int (2 : Int32))], [.int (0 : Int32), .ref 22, .ref 18, .ref 4]) (HH I J R T) _
      refine Z_cQ rfl rfl rfl (Ze_deep (d := 2) (by omega) (c_load0 (d := 0) hn)) (fun v h1 hq => ?_)
      obtain ⟨rfl, I1, rfl, hI1, h13, h10, h11⟩ := hq
      show Zs _ _ (am_P 109).2 (29, [(0, .ref 0), (1, .int (2 : Int32))], []) (HH I1 J R T) _
      refine Z_jump 9 rfl ?_
      show Zs _ _ (am_P 109).2 (66, [(0, .ref 0), (1, .int (2 : Int32))], [.int (0 : Int32), .ref 4, .ref 0]) (HH I1 J R T) _
      refine Z_c1 rfl rfl rfl (c_few0 h11) ?_
      show Zs _ _ (am_P 109).2 (69, [(0, .ref 0), (1, .int (2 : Int32))], [.int (0 : Int32), .ref 0]) (HH I1 J R T) _
      show Zs _ _ (am_P 109).2 (69, [(0, .ref 0), (1, .int (2 : Int32))], [.int (0 : Int32), .ref 0]) (HH I1 J R T) _
      refine Z_cQ rfl rfl rfl (c_gap0 h13) (fun v h1 hq => ?_)
      obtain ⟨rfl, I2, rfl, hI2⟩ := hq
      show Zs _ _ (am_P 109).2 (72, [(0, .ref 0), (1, .int (2 : Int32))], [.int (1 : Int32)]) (HH I2 J R T) _
      refine Z_jump 1 rfl ?_
      show Zs _ _ (am_P 109).2 (73, [(0, .ref 0), (1, .int (2 : Int32))], [.long (1 : Int64)]) (HH I2 J R T) _
      refine Z_ret rfl rfl rfl ?_
      exact C0p_c (fun c hc => by rw [hI2 c hc, hI1 c (by omega) (by omega) (by omega) (by omega) (by omega)])
  · rw [if_neg hb]
    have z0 : (0 : Int32).toInt = 0 := rfl
    have z2 : (2 : Int32).toInt = 2 := rfl
    refine Z_jump 2 rfl ?_
    refine Z_bd (fun (c1 : w < (0 : Int32)) => ?_) (fun (c1 : ¬ (w < (0 : Int32))) => ?_)
    · refine Z_jump 1 rfl ?_
      show Zs _ _ (am_P 109).2 (12, [(0, .ref 0), (1, .int w)], [.long (-3 : Int64)]) (HH I J R T) _
      refine Z_ret rfl rfl rfl ?_
      exact C0p_c (fun _ _ => rfl)
    · refine Z_jump 3 rfl ?_
      refine Z_bd (fun c6 => absurd c6 ((show ¬ w ≤ 2 by rw [fi_le, z2]; rw [fi_lt, z0] at c1; omega))) (fun c6 => ?_)
      refine Z_jump 1 rfl ?_
      show Zs _ _ (am_P 109).2 (12, [(0, .ref 0), (1, .int w)], [.long (-3 : Int64)]) (HH I J R T) _
      refine Z_ret rfl rfl rfl ?_
      exact C0p_c (fun _ _ => rfl)
theorem c_near_l {t : Nat} (ht : t ≤ 500) {y z : Int32} (hf : I 14 0 = 0) (hu : I 15 0 = 0) (h16 : I 16 0 = 1) : ∀ (k i : Nat) (x : Int32), i + k = t → 1 ≤ i → x = nI i → Zs sc (d + 3) (am_P 135).2 (69, [(0, .ref 0), (1, .int (nI t)), (2, .int y), (3, .int z), (4, .int x)], []) (HH I J R T) (fun r h => r = some (.int 0) ∧ h = HH I J R T)
  | 0, i, x, hi, h1, hx => by
    have e : i = t := by omega
    subst e
    have e0 : nI i - x = 0 := by rw [hx, nI_subI (Nat.le_refl i), Nat.sub_self]; rfl
    refine Z_jump 3 rfl ?_
    refine Z_bd (fun c74 => absurd c74 ((show ¬ (500 : Int32) < x by rw [hx]; exact nI_nlt (a := 500) (by omega) (by omega)))) (fun c74 => ?_)
    refine Z_jump 5 rfl ?_
    show Zs _ _ (am_P 135).2 (85, [(0, .ref 0), (1, .int (nI i)), (2, .int y), (3, .int z), (4, .int x)], [.int ((nI i) - x), .ref 4]) (HH I J R T) _
    refine Z_c1 rfl rfl rfl (c_isS_b hf hu h16) ?_
    show Zs _ _ (am_P 135).2 (88, [(0, .ref 0), (1, .int (nI i)), (2, .int y), (3, .int z), (4, .int x)], [.int (if nI i - x = 0 then 1 else 0)]) (HH I J R T) _
    refine Z_jump 1 rfl ?_
    refine Z_bd (fun c88 => absurd c88 ((fun y => if10.mp y e0))) (fun c88 => ?_)
    refine Z_jump 3 rfl ?_
    show Zs _ _ (am_P 135).2 (95, [(0, .ref 0), (1, .int (nI i)), (2, .int y), (3, .int z), (4, .int x)], [.int ((nI i) - x)]) (HH I J R T) _
    refine Z_rI rfl (by first | exact am_nw0 _ | exact am_nw01 | rfl | assumption) ?_
    exact ⟨am_ii e0, rfl⟩
  | k + 1, i, x, hi, h1, hx => by
    have e0 : ¬ nI t - x = 0 := by rw [hx, nI_subI (by omega)]; exact fun y => by have := (nI_eq (b := 0) (by omega) (by omega)).mp y; omega
    have e1 : ¬ nI t + x = 0 := by rw [hx, nI_add]; exact fun y => by have := (nI_eq (b := 0) (by omega) (by omega)).mp y; omega
    refine Z_jump 3 rfl ?_
    refine Z_bd (fun c74 => absurd c74 ((show ¬ (500 : Int32) < x by rw [hx]; exact nI_nlt (a := 500) (by omega) (by omega)))) (fun c74 => ?_)
    refine Z_jump 5 rfl ?_
    show Zs _ _ (am_P 135).2 (85, [(0, .ref 0), (1, .int (nI t)), (2, .int y), (3, .int z), (4, .int x)], [.int ((nI t) - x), .ref 4]) (HH I J R T) _
    refine Z_c1 rfl rfl rfl (c_isS_b hf hu h16) ?_
    show Zs _ _ (am_P 135).2 (88, [(0, .ref 0), (1, .int (nI t)), (2, .int y), (3, .int z), (4, .int x)], [.int (if nI t - x = 0 then 1 else 0)]) (HH I J R T) _
    refine Z_jump 1 rfl ?_
    refine Z_bd (fun c88 => ?_) (fun c88 => absurd ((if10.mpr e0)) c88)
    refine Z_jump 5 rfl ?_
    show Zs _ _ (am_P 135).2 (104, [(0, .ref 0), (1, .int (nI t)), (2, .int y), (3, .int z), (4, .int x)], [.int ((nI t) + x), .ref 4]) (HH I J R T) _
    refine Z_c1 rfl rfl rfl (c_isS_b hf hu h16) ?_
    show Zs _ _ (am_P 135).2 (107, [(0, .ref 0), (1, .int (nI t)), (2, .int y), (3, .int z), (4, .int x)], [.int (if nI t + x = 0 then 1 else 0)]) (HH I J R T) _
    refine Z_jump 1 rfl ?_
    refine Z_bd (fun c107 => ?_) (fun c107 => absurd ((if10.mpr e1)) c107)
    refine Z_jump 2 rfl ?_
    show Zs _ _ (am_P 135).2 (69, [(0, .ref 0), (1, .int (nI t)), (2, .int y), (3, .int z), (4, .int (x + 1))], []) (HH I J R T) _
    exact c_near_l ht hf hu h16 k (i + 1) _ (by omega) (by omega) (by rw [hx]; exact nI_1 i)
theorem c_nearestShown0 {t : Nat} (ht : t ≤ 1000000000) (h13 : I 4 13 = 0) (h10 : I 10 0 = 0) (h11 : I 11 0 = 0) : Ze sc (d + 4) 135 [.ref 0, .int (nI t)] (HH I J R T) (fun r h => r = some (.int (if t ≤ 500 then 0 else -1)) ∧ ∃ I', h = HH I' J R T ∧ ∀ c, 73 ≤ c → I' c = I c) := by
  refine Ze_of (Nat.le_of_ble_eq_true rfl) ?_
  have e2 : (if (0 : Int32) < nI t + 500 then (0 : Int32) else nI t + 500) = 0 := if_pos (by rw [show nI t + 500 = nI (t + 500) from nI_add t 500]; exact nI_lt (a := 0) (by omega) (by omega))
  by_cases h5 : t ≤ 500
  · rw [if_pos h5]
    have e1 : (if nI t - 500 < (0 : Int32) then (0 : Int32) else nI t - 500) = 0 := by
      by_cases h : t = 500
      · subst h; decide
      · exact if_pos ((show ∀ t, t < 500 → nI t - 500 < (0 : Int32) by decide +kernel) t (by omega))
    by_cases h0 : t = 0
    · subst h0
      refine Z_jump 6 rfl ?_
      show Zs _ _ (am_P 135).2 (10, [(0, .ref 0), (1, .int (nI 0))], [.int (0 : Int32), .ref 4, .int ((nI 0) - (500 : Int32))]) (HH I J R T) _
      refine Z_c1 rfl rfl rfl (c_few0 h11) ?_
      show Zs _ _ (am_P 135).2 (13, [(0, .ref 0), (1, .int (nI 0))], [.int (0 : Int32), .int ((nI 0) - (500 : Int32))]) (HH I J R T) _
      refine Z_jump 1 rfl ?_
      show Zs _ _ (am_P 135).2 (16, [(0, .ref 0), (1, .int (nI 0))], [.int (if ((nI 0) - (500 : Int32)) < (0 : Int32) then (0 : Int32) else ((nI 0) - (500 : Int32)))]) (HH I J R T) _
      refine Z_eqI (e1) ?_
      show Zs _ _ (am_P 135).2 (16, [(0, .ref 0), (1, .int (nI 0))], [.int (0 : Int32)]) (HH I J R T) _
      refine Z_jump 7 rfl ?_
      show Zs _ _ (am_P 135).2 (27, [(0, .ref 0), (1, .int (nI 0)), (2, .int (0 : Int32))], [.int (0 : Int32), .ref 4, .int ((nI 0) + (500 : Int32))]) (HH I J R T) _
      refine Z_c1 rfl rfl rfl (c_most0 h10) ?_
      show Zs _ _ (am_P 135).2 (30, [(0, .ref 0), (1, .int (nI 0)), (2, .int (0 : Int32))], [.int (0 : Int32), .int ((nI 0) + (500 : Int32))]) (HH I J R T) _
      refine Z_jump 1 rfl ?_
      show Zs _ _ (am_P 135).2 (33, [(0, .ref 0), (1, .int (nI 0)), (2, .int (0 : Int32))], [.int (if (0 : Int32) < ((nI 0) + (500 : Int32)) then (0 : Int32) else ((nI 0) + (500 : Int32)))]) (HH I J R T) _
      refine Z_eqI (e2) ?_
      show Zs _ _ (am_P 135).2 (33, [(0, .ref 0), (1, .int (nI 0)), (2, .int (0 : Int32))], [.int (0 : Int32)]) (HH I J R T) _
      refine Z_jump 8 rfl ?_
      show Zs _ _ (am_P 135).2 (47, [(0, .ref 0), (1, .int (nI 0)), (2, .int (0 : Int32)), (3, .int (0 : Int32))], [.long (Int32.toInt64 (nI 0)), .ref 4]) (HH I J R T) _
      refine Z_cQ rfl rfl rfl (c_least0 (v := (nI 0).toInt64) h13 h10 h11) (fun v h1 hq => ?_)
      obtain ⟨rfl, I1, rfl, hI1⟩ := hq
      show Zs _ _ (am_P 135).2 (50, [(0, .ref 0), (1, .int (nI 0)), (2, .int (0 : Int32)), (3, .int (0 : Int32))], [.int (0 : Int32)]) (HH I1 J R T) _
      refine Z_jump 3 rfl ?_
      show Zs _ _ (am_P 135).2 (56, [(0, .ref 0), (1, .int (nI 0)), (2, .int (0 : Int32)), (3, .int (0 : Int32))], [.int (nI 0)]) (HH I1 J R T) _
      refine Z_rI rfl (by first | exact am_nw0 _ | exact am_nw01 | rfl | assumption) ?_
      exact ⟨rfl, I1, rfl, fun c hc => by rw [hI1 c (by omega)]⟩
    · refine Z_jump 6 rfl ?_
      show Zs _ _ (am_P 135).2 (10, [(0, .ref 0), (1, .int (nI t))], [.int (0 : Int32), .ref 4, .int ((nI t) - (500 : Int32))]) (HH I J R T) _
      refine Z_c1 rfl rfl rfl (c_few0 h11) ?_
      show Zs _ _ (am_P 135).2 (13, [(0, .ref 0), (1, .int (nI t))], [.int (0 : Int32), .int ((nI t) - (500 : Int32))]) (HH I J R T) _
      refine Z_jump 1 rfl ?_
      show Zs _ _ (am_P 135).2 (16, [(0, .ref 0), (1, .int (nI t))], [.int (if ((nI t) - (500 : Int32)) < (0 : Int32) then (0 : Int32) else ((nI t) - (500 : Int32)))]) (HH I J R T) _
      refine Z_eqI (e1) ?_
      show Zs _ _ (am_P 135).2 (16, [(0, .ref 0), (1, .int (nI t))], [.int (0 : Int32)]) (HH I J R T) _
      refine Z_jump 7 rfl ?_
      show Zs _ _ (am_P 135).2 (27, [(0, .ref 0), (1, .int (nI t)), (2, .int (0 : Int32))], [.int (0 : Int32), .ref 4, .int ((nI t) + (500 : Int32))]) (HH I J R T) _
      refine Z_c1 rfl rfl rfl (c_most0 h10) ?_
      show Zs _ _ (am_P 135).2 (30, [(0, .ref 0), (1, .int (nI t)), (2, .int (0 : Int32))], [.int (0 : Int32), .int ((nI t) + (500 : Int32))]) (HH I J R T) _
      refine Z_jump 1 rfl ?_
      show Zs _ _ (am_P 135).2 (33, [(0, .ref 0), (1, .int (nI t)), (2, .int (0 : Int32))], [.int (if (0 : Int32) < ((nI t) + (500 : Int32)) then (0 : Int32) else ((nI t) + (500 : Int32)))]) (HH I J R T) _
      refine Z_eqI (e2) ?_
      show Zs _ _ (am_P 135).2 (33, [(0, .ref 0), (1, .int (nI t)), (2, .int (0 : Int32))], [.int (0 : Int32)]) (HH I J R T) _
      refine Z_jump 8 rfl ?_
      show Zs _ _ (am_P 135).2 (47, [(0, .ref 0), (1, .int (nI t)), (2, .int (0 : Int32)), (3, .int (0 : Int32))], [.long (Int32.toInt64 (nI t)), .ref 4]) (HH I J R T) _
      refine Z_cQ rfl rfl rfl (c_least0 (v := (nI t).toInt64) h13 h10 h11) (fun v h1 hq => ?_)
      rw [if_neg (fun y => h0 ((nI64_0 (by omega)).mp y))] at hq
      obtain ⟨rfl, I1, rfl, hI1⟩ := hq
      show Zs _ _ (am_P 135).2 (50, [(0, .ref 0), (1, .int (nI t)), (2, .int (0 : Int32)), (3, .int (0 : Int32))], [.int (1048576 : Int32)]) (HH I1 J R T) _
      refine Z_jump 6 rfl ?_
      show Zs _ _ (am_P 135).2 (63, [(0, .ref 0), (1, .int (nI t)), (2, .int (0 : Int32)), (3, .int (0 : Int32))], [.int (0 : Int32), .int (0 : Int32), .ref 4]) (HH I1 J R T) _
      refine Z_cQ rfl rfl rfl (c_sift0b ((congrFun (hI1 4 (by decide)) 13).trans h13)) (fun v h1 hq => ?_)
      obtain ⟨rfl, I2, rfl, hS⟩ := hq
      show Zs _ _ (am_P 135).2 (66, [(0, .ref 0), (1, .int (nI t)), (2, .int (0 : Int32)), (3, .int (0 : Int32))], []) (HH I2 J R T) _
      refine Z_jump 2 rfl ?_
      show Zs _ _ (am_P 135).2 (69, [(0, .ref 0), (1, .int (nI t)), (2, .int (0 : Int32)), (3, .int (0 : Int32)), (4, .int (1 : Int32))], []) (HH I2 J R T) _
      refine Zs_mono (c_near_l (t := t) h5 (congrFun (hS.1 14 (by decide)) 0) (congrFun (hS.1 15 (by decide)) 0) (hS.2 0 (by omega)) (t - 1) 1 _ (by omega) (by omega) rfl) (fun r h' q => ⟨q.1, I2, q.2, fun c hc => by rw [hS.1 c (by omega), sf_c (by omega), sf_c (by omega), hI1 c (by omega)]⟩)
  · rw [if_neg h5]
    have e3 : nI t - 500 = nI (t - 500) := nI_subI (b := 500) (by omega)
    refine Z_jump 6 rfl ?_
    show Zs _ _ (am_P 135).2 (10, [(0, .ref 0), (1, .int (nI t))], [.int (0 : Int32), .ref 4, .int ((nI t) - (500 : Int32))]) (HH I J R T) _
    refine Z_c1 rfl rfl rfl (c_few0 h11) ?_
    show Zs _ _ (am_P 135).2 (13, [(0, .ref 0), (1, .int (nI t))], [.int (0 : Int32), .int ((nI t) - (500 : Int32))]) (HH I J R T) _
    refine Z_jump 1 rfl ?_
    show Zs _ _ (am_P 135).2 (16, [(0, .ref 0), (1, .int (nI t))], [.int (if ((nI t) - (500 : Int32)) < (0 : Int32) then (0 : Int32) else ((nI t) - (500 : Int32)))]) (HH I J R T) _
    refine Z_eqI (show (if nI t - 500 < (0 : Int32) then (0 : Int32) else nI t - 500) = nI (t - 500) by rw [e3]; exact if_neg (nI_pos (by omega))) ?_
    show Zs _ _ (am_P 135).2 (16, [(0, .ref 0), (1, .int (nI t))], [.int (nI (t - 500))]) (HH I J R T) _
    refine Z_jump 7 rfl ?_
    show Zs _ _ (am_P 135).2 (27, [(0, .ref 0), (1, .int (nI t)), (2, .int (nI (t - 500)))], [.int (0 : Int32), .ref 4, .int ((nI t) + (500 : Int32))]) (HH I J R T) _
    refine Z_c1 rfl rfl rfl (c_most0 h10) ?_
    show Zs _ _ (am_P 135).2 (30, [(0, .ref 0), (1, .int (nI t)), (2, .int (nI (t - 500)))], [.int (0 : Int32), .int ((nI t) + (500 : Int32))]) (HH I J R T) _
    refine Z_jump 1 rfl ?_
    show Zs _ _ (am_P 135).2 (33, [(0, .ref 0), (1, .int (nI t)), (2, .int (nI (t - 500)))], [.int (if (0 : Int32) < ((nI t) + (500 : Int32)) then (0 : Int32) else ((nI t) + (500 : Int32)))]) (HH I J R T) _
    refine Z_eqI (e2) ?_
    show Zs _ _ (am_P 135).2 (33, [(0, .ref 0), (1, .int (nI t)), (2, .int (nI (t - 500)))], [.int (0 : Int32)]) (HH I J R T) _
    refine Z_jump 4 rfl ?_
    refine Z_bd (fun c36 => absurd c36 ((show ¬ nI (t - 500) ≤ 0 from nI_nle (by omega) (by omega)))) (fun c36 => ?_)
    refine Z_jump 1 rfl ?_
    show Zs _ _ (am_P 135).2 (40, [(0, .ref 0), (1, .int (nI t)), (2, .int (nI (t - 500))), (3, .int (0 : Int32))], [.int (-1 : Int32)]) (HH I J R T) _
    refine Z_rI rfl (by first | exact am_nw0 _ | exact am_nw01 | rfl | assumption) ?_
    exact ⟨rfl, I, rfl, fun _ _ => rfl⟩
theorem c_nearest0 {v : Int32} (hn : I 18 1 = 0) : Ze sc (d + 5) 110 [.ref 0, .int v] (HH I J R T) (C0p (.int (if M_num v then (if v.toInt ≤ 500 then 0 else -1) else -3)) I J T) := by
  refine Ze_of (Nat.le_of_ble_eq_true rfl) ?_
  by_cases hb : M_num v
  · obtain ⟨t, ht, rfl⟩ : ∃ t : Nat, t ≤ 1000000000 ∧ v = nI t := by
      obtain ⟨j, hj, e⟩ := nI_of (x := v) (by rw [fi_lt]; have := hb.1; have z : (0 : Int32).toInt = 0 := rfl; omega)
      refine ⟨j, ?_, e⟩
      have := hb.2
      rw [e, nI_toInt hj] at this
      omega
    have e : (if M_num (nI t) then (if (nI t).toInt ≤ 500 then (0 : Int32) else -1) else -3) = if t ≤ 500 then 0 else -1 := by
      rw [if_pos hb, nI_toInt (by omega)]
      by_cases h : t ≤ 500
      · rw [if_pos h, if_pos (by omega)]
      · rw [if_neg h, if_neg (by omega)]
    rw [e]
    refine Z_jump 1 rfl ?_
    show Zs _ _ (am_P 110).2 (1, [(0, .ref 0), (1, .int (nI t))], [.int (nI t)]) (HH I J R T) _
    refine Z_c1 rfl rfl rfl (c_isNumber) ?_
    show Zs _ _ (am_P 110).2 (4, [(0, .ref 0), (1, .int (nI t))], [.int (if M_num (nI t) then 1 else 0)]) (HH I J R T) _
    refine Z_jump 1 rfl ?_
    refine Z_bn (fun c4 => ?_) (fun c4 => absurd c4 ((fun z => if10.mp z hb)))
    refine Z_jump 7 rfl ?_
    show Zs _ _ (am_P 110).2 (23, [(0, .ref 0), (1, .int (nI t))], [.int (0 : Int32), .ref 22, .ref 18, .ref 4]) (HH I J R T) _
    refine Z_cQ rfl rfl rfl (Ze_deep (d := 2) (by omega) (c_load0 (d := 0) hn)) (fun v h1 hq => ?_)
    obtain ⟨rfl, I1, rfl, hI1, h13, h10, h11⟩ := hq
    show Zs _ _ (am_P 110).2 (26, [(0, .ref 0), (1, .int (nI t))], []) (HH I1 J R T) _
    refine Z_jump 2 rfl ?_
    show Zs _ _ (am_P 110).2 (28, [(0, .ref 0), (1, .int (nI t))], [.int (nI t), .ref 0]) (HH I1 J R T) _
    refine Z_cQ rfl rfl rfl (c_nearestShown0 ht h13 h10 h11) (fun v h1 hq => ?_)
    obtain ⟨rfl, I2, rfl, hI2⟩ := hq
    show Zs _ _ (am_P 110).2 (31, [(0, .ref 0), (1, .int (nI t))], [.int (if t ≤ 500 then 0 else -1)]) (HH I2 J R T) _
    show Zs _ _ (am_P 110).2 (31, [(0, .ref 0), (1, .int (nI t))], [.int (if t ≤ 500 then 0 else -1)]) (HH I2 J R T) _
    refine Z_rI rfl (by first | exact am_nw0 _ | exact am_nw01 | rfl | assumption) ?_
    exact C0p_c (fun c hc => by rw [hI2 c hc, hI1 c (by omega) (by omega) (by omega) (by omega) (by omega)])
  · rw [if_neg hb]
    refine Z_jump 1 rfl ?_
    show Zs _ _ (am_P 110).2 (1, [(0, .ref 0), (1, .int v)], [.int v]) (HH I J R T) _
    refine Z_c1 rfl rfl rfl (c_isNumber) ?_
    show Zs _ _ (am_P 110).2 (4, [(0, .ref 0), (1, .int v)], [.int (if M_num v then 1 else 0)]) (HH I J R T) _
    refine Z_jump 1 rfl ?_
    refine Z_bn (fun c4 => absurd (if10.mpr hb) c4) (fun c4 => ?_)
    refine Z_jump 1 rfl ?_
    show Zs _ _ (am_P 110).2 (9, [(0, .ref 0), (1, .int v)], [.int (-3 : Int32)]) (HH I J R T) _
    refine Z_rI rfl (by first | exact am_nw0 _ | exact am_nw01 | rfl | assumption) ?_
    exact C0p_c (fun _ _ => rfl)
end C3

