/-! Sums: the class reads a statement, and checks a text. -/
/-- the expression behind a verb -/
def sE (tx : Nat → Nat) (c : Nat) (num : Int64) (s v : Nat) : Nat ⊕ (Nat × Nat × Int64 × Int32) := match sx tx c num 500 1 (nx tx c s) 0 (0, 0, 0) 1 with
  | .inl p => .inl p
  | .inr (s2, val, fl) => .inr (s2, v, val, fl)
def sStmt (tx : Nat → Nat) (c n : Nat) (num : Int64) (s : Nat) : Nat ⊕ (Nat × Nat × Int64 × Int32) :=
  if wS tx s (tE tx c s) then sE tx c num s 0 else if wA tx s (tE tx c s) then sE tx c num s 1 else if wB tx s (tE tx c s) then sE tx c num s 2
  else if wC tx s (tE tx c s) then .inr (nx tx c s, 3, 0, 1)
  else if wY tx s (tE tx c s) then (if TN tx c (nx tx c s) 2 0 ((n : Int) - 1) then .inr (nx tx c (nx tx c s), 4, lN (nv tx (nx tx c s) (tE tx c (nx tx c s))), 1) else .inl (nx tx c s))
  else .inl s
def sRead (tx : Nat → Nat) (c n : Nat) : Nat → Nat → Nat → Nat ⊕ Nat
  | 0, _, _ => .inl 0
  | k + 1, j, s => match sStmt tx c n 0 s with
    | .inl p => .inl p
    | .inr q => if q.1 = c then .inr (j + 1) else if tx q.1 = 59 ∧ j + 1 < 12 then sRead tx c n k (j + 1) (nx tx c q.1) else .inl q.1
theorem sRead_l {tx : Nat → Nat} {c n k j s p : Nat} (h : sStmt tx c n 0 s = .inl p) : sRead tx c n (k + 1) j s = .inl p := by
  simp only [sRead, h]
theorem sRead_r {tx : Nat → Nat} {c n k j s : Nat} {q : Nat × Nat × Int64 × Int32} (h : sStmt tx c n 0 s = .inr q) : sRead tx c n (k + 1) j s = if q.1 = c then .inr (j + 1) else if tx q.1 = 59 ∧ j + 1 < 12 then sRead tx c n k (j + 1) (nx tx c q.1) else .inl q.1 := by
  simp only [sRead, h]
section CS2
variable {sc : Nat × (Nat → Int32)} {d : Nat} {I : hI} {J : hJ} {R : hR} {T : am_H} {Q : Option Value → am_H → Prop} {tx : Nat → Nat} {c : Nat}
theorem c_verbTold {s : Nat} (hK : CTK tx c s I) : am_E sc (d + 7) 44 [.ref 1] (HH I J R T) (some (.int (if wS tx s (tE tx c s) then 0 else if wA tx s (tE tx c s) then 1 else if wB tx s (tE tx c s) then 2 else if wC tx s (tE tx c s) then 3 else if wY tx s (tE tx c s) then 4 else -1))) (HH I J R T) := by
  refine E_Z (Ze_of (Nat.le_of_ble_eq_true rfl) ?_)
  refine Z_jump 2 rfl ?_
  show Zs _ _ (am_P 44).2 (3, [(0, .ref 1)], [.retAddr 7, .ref 1]) (HH I J R T) _
  refine Z_c1 rfl rfl rfl (c_wS hK) ?_
  show Zs _ _ (am_P 44).2 (6, [(0, .ref 1)], [.int (if wS tx s (tE tx c s) then 1 else 0)]) (HH I J R T) _
  refine Z_jump 1 rfl ?_
  refine Z_bd (fun (c6 : (if wS tx s (tE tx c s) then 1 else 0) = (0 : Int32)) => ?_) (fun (c6 : ¬ ((if wS tx s (tE tx c s) then 1 else 0) = (0 : Int32))) => ?_)
  · refine Z_jump 2 rfl ?_
    show Zs _ _ (am_P 44).2 (14, [(0, .ref 1)], [.retAddr 8, .ref 1]) (HH I J R T) _
    refine Z_c1 rfl rfl rfl (c_wA hK) ?_
    show Zs _ _ (am_P 44).2 (17, [(0, .ref 1)], [.int (if wA tx s (tE tx c s) then 1 else 0)]) (HH I J R T) _
    refine Z_jump 1 rfl ?_
    refine Z_bd (fun (c17 : (if wA tx s (tE tx c s) then 1 else 0) = (0 : Int32)) => ?_) (fun (c17 : ¬ ((if wA tx s (tE tx c s) then 1 else 0) = (0 : Int32))) => ?_)
    · refine Z_jump 2 rfl ?_
      show Zs _ _ (am_P 44).2 (25, [(0, .ref 1)], [.retAddr 9, .ref 1]) (HH I J R T) _
      refine Z_c1 rfl rfl rfl (c_wB hK) ?_
      show Zs _ _ (am_P 44).2 (28, [(0, .ref 1)], [.int (if wB tx s (tE tx c s) then 1 else 0)]) (HH I J R T) _
      refine Z_jump 1 rfl ?_
      refine Z_bd (fun (c28 : (if wB tx s (tE tx c s) then 1 else 0) = (0 : Int32)) => ?_) (fun (c28 : ¬ ((if wB tx s (tE tx c s) then 1 else 0) = (0 : Int32))) => ?_)
      · refine Z_jump 2 rfl ?_
        show Zs _ _ (am_P 44).2 (36, [(0, .ref 1)], [.retAddr 10, .ref 1]) (HH I J R T) _
        refine Z_c1 rfl rfl rfl (c_wC hK) ?_
        show Zs _ _ (am_P 44).2 (39, [(0, .ref 1)], [.int (if wC tx s (tE tx c s) then 1 else 0)]) (HH I J R T) _
        refine Z_jump 1 rfl ?_
        refine Z_bd (fun (c39 : (if wC tx s (tE tx c s) then 1 else 0) = (0 : Int32)) => ?_) (fun (c39 : ¬ ((if wC tx s (tE tx c s) then 1 else 0) = (0 : Int32))) => ?_)
        · refine Z_jump 2 rfl ?_
          show Zs _ _ (am_P 44).2 (47, [(0, .ref 1)], [.retAddr 11, .ref 1]) (HH I J R T) _
          refine Z_c1 rfl rfl rfl (c_wY hK) ?_
          show Zs _ _ (am_P 44).2 (50, [(0, .ref 1)], [.int (if wY tx s (tE tx c s) then 1 else 0)]) (HH I J R T) _
          refine Z_jump 1 rfl ?_
          refine Z_bd (fun (c50 : (if wY tx s (tE tx c s) then 1 else 0) = (0 : Int32)) => ?_) (fun (c50 : ¬ ((if wY tx s (tE tx c s) then 1 else 0) = (0 : Int32))) => ?_)
          · refine Z_jump 1 rfl ?_
            show Zs _ _ (am_P 44).2 (58, [(0, .ref 1)], [.int (-1 : Int32)]) (HH I J R T) _
            refine Z_rI rfl (by first | exact am_nw0 _ | exact am_nw01 | rfl | assumption) ?_
            exact ⟨am_ii (by rw [if_neg (if10.mp c6), if_neg (if10.mp c17), if_neg (if10.mp c28), if_neg (if10.mp c39), if_neg (if10.mp c50)]), rfl⟩
          · refine Z_jump 2 rfl ?_
            show Zs _ _ (am_P 44).2 (58, [(0, .ref 1)], [.int (4 : Int32)]) (HH I J R T) _
            refine Z_rI rfl (by first | exact am_nw0 _ | exact am_nw01 | rfl | assumption) ?_
            exact ⟨am_ii (by rw [if_neg (if10.mp c6), if_neg (if10.mp c17), if_neg (if10.mp c28), if_neg (if10.mp c39), if_pos (if10n c50)]), rfl⟩
        · refine Z_jump 1 rfl ?_
          show Zs _ _ (am_P 44).2 (43, [(0, .ref 1)], [.int (3 : Int32)]) (HH I J R T) _
          refine Z_rI rfl (by first | exact am_nw0 _ | exact am_nw01 | rfl | assumption) ?_
          exact ⟨am_ii (by rw [if_neg (if10.mp c6), if_neg (if10.mp c17), if_neg (if10.mp c28), if_pos (if10n c39)]), rfl⟩
      · refine Z_jump 1 rfl ?_
        show Zs _ _ (am_P 44).2 (32, [(0, .ref 1)], [.int (2 : Int32)]) (HH I J R T) _
        refine Z_rI rfl (by first | exact am_nw0 _ | exact am_nw01 | rfl | assumption) ?_
        exact ⟨am_ii (by rw [if_neg (if10.mp c6), if_neg (if10.mp c17), if_pos (if10n c28)]), rfl⟩
    · refine Z_jump 1 rfl ?_
      show Zs _ _ (am_P 44).2 (21, [(0, .ref 1)], [.int (1 : Int32)]) (HH I J R T) _
      refine Z_rI rfl (by first | exact am_nw0 _ | exact am_nw01 | rfl | assumption) ?_
      exact ⟨am_ii (by rw [if_neg (if10.mp c6), if_pos (if10n c17)]), rfl⟩
  · refine Z_jump 1 rfl ?_
    show Zs _ _ (am_P 44).2 (10, [(0, .ref 1)], [.int (0 : Int32)]) (HH I J R T) _
    refine Z_rI rfl (by first | exact am_nw0 _ | exact am_nw01 | rfl | assumption) ?_
    exact ⟨am_ii (by rw [if_pos (if10n c6)]), rfl⟩
def STq (tx : Nat → Nat) (c : Nat) (res : Nat ⊕ (Nat × Nat × Int64 × Int32)) (I : hI) (J : hJ) (R : hR) (T : am_H) (r : Option Value) (h : am_H) : Prop := r = none ∧ ∃ I' J', h = HH I' J' R T ∧ (∀ a, a ≠ 1 → a ≠ 3 → I' a = I a) ∧ (∀ a, a ≠ 3 → J' a = J a) ∧ CT tx c I' ∧ (match res with
  | .inl p => p ≤ c ∧ I' 1 2 = nI p
  | .inr q => I' 1 2 = -1 ∧ CTK tx c q.1 I' ∧ I' 3 0 = nI q.2.1 ∧ J' 3 1 = q.2.2.1 ∧ I' 3 2 = q.2.2.2)
theorem CTK_x {s : Nat} {I I' : hI} (h : CTK tx c s I) (e1 : I' 1 = I 1) (e2 : I' 2 = I 2) : CTK tx c s I' :=
  ⟨CT_of h.1 (congrFun e1 1) e2, h.2.1, (congrFun e1 3).trans h.2.2.1, (congrFun e1 4).trans h.2.2.2.1, (congrFun e1 5).trans h.2.2.2.2⟩
theorem c_readStatement {s n : Nat} {x : Int32} {num : Int64} (hK : CTK tx c s I) (h2 : I 1 2 = -1) (hx : x = nI n) (hn : n ≤ 6) : Ze sc (d + 520) 43 [.ref 3, .ref 1, .int x, .long num] (HH I J R T) (STq tx c (sStmt tx c n num s) I J R T) := by
  refine Ze_of (Nat.le_of_ble_eq_true rfl) ?_
  have hc := hK.1.2.1
  unfold sStmt
  by_cases hS : wS tx s (tE tx c s)
  · rw [if_pos hS]
    unfold sE
    refine Z_jump 3 rfl ?_
    show Zs _ _ (am_P 43).2 (5, [(0, .ref 3), (1, .ref 1), (2, .int x), (3, .long num)], []) (HH I (sl J 3 3 num) R T) _
    refine Z_jump 3 rfl ?_
    show Zs _ _ (am_P 43).2 (10, [(0, .ref 3), (1, .ref 1), (2, .int x), (3, .long num)], []) (HH I (sl (sl J 3 3 num) 3 1 (0 : Int64)) R T) _
    refine Z_jump 3 rfl ?_
    show Zs _ _ (am_P 43).2 (15, [(0, .ref 3), (1, .ref 1), (2, .int x), (3, .long num)], []) (HH (sf I 3 2 (1 : Int32)) (sl (sl J 3 3 num) 3 1 (0 : Int64)) R T) _
    refine Z_jump 2 rfl ?_
    show Zs _ _ (am_P 43).2 (17, [(0, .ref 3), (1, .ref 1), (2, .int x), (3, .long num)], [.ref 1, .ref 3]) (HH (sf I 3 2 (1 : Int32)) (sl (sl J 3 3 num) 3 1 (0 : Int64)) R T) _
    refine Z_c1 rfl rfl rfl (c_verbTold (I := (sf I 3 2 (1 : Int32))) (CTK_x hK rfl rfl)) ?_
    show Zs _ _ (am_P 43).2 (20, [(0, .ref 3), (1, .ref 1), (2, .int x), (3, .long num)], [.int (if wS tx s (tE tx c s) then 0 else if wA tx s (tE tx c s) then 1 else if wB tx s (tE tx c s) then 2 else if wC tx s (tE tx c s) then 3 else if wY tx s (tE tx c s) then 4 else -1), .ref 3]) (HH (sf I 3 2 (1 : Int32)) (sl (sl J 3 3 num) 3 1 (0 : Int64)) R T) _
    show Zs _ _ (am_P 43).2 (20, [(0, .ref 3), (1, .ref 1), (2, .int x), (3, .long num)], [.int (if wS tx s (tE tx c s) then 0 else if wA tx s (tE tx c s) then 1 else if wB tx s (tE tx c s) then 2 else if wC tx s (tE tx c s) then 3 else if wY tx s (tE tx c s) then 4 else -1), .ref 3]) (HH (sf I 3 2 (1 : Int32)) (sl (sl J 3 3 num) 3 1 (0 : Int64)) R T) _
    refine Z_eqI (y := (0 : Int32)) (by rw [if_pos hS]) ?_
    show Zs _ _ (am_P 43).2 (20, [(0, .ref 3), (1, .ref 1), (2, .int x), (3, .long num)], [.int (0 : Int32), .ref 3]) (HH (sf I 3 2 (1 : Int32)) (sl (sl J 3 3 num) 3 1 (0 : Int64)) R T) _
    refine Z_jump 1 rfl ?_
    show Zs _ _ (am_P 43).2 (23, [(0, .ref 3), (1, .ref 1), (2, .int x), (3, .long num)], []) (HH (sf (sf I 3 2 (1 : Int32)) 3 0 (0 : Int32)) (sl (sl J 3 3 num) 3 1 (0 : Int64)) R T) _
    refine Z_jump 5 rfl ?_
    show Zs _ _ (am_P 43).2 (37, [(0, .ref 3), (1, .ref 1), (2, .int x), (3, .long num)], [.ref 1]) (HH (sf (sf I 3 2 (1 : Int32)) 3 0 (0 : Int32)) (sl (sl J 3 3 num) 3 1 (0 : Int64)) R T) _
    refine Z_cQ rfl rfl rfl (Ze_deep (d := 2) (by omega) (c_stepQ (d := 0) (I := (sf (sf I 3 2 (1 : Int32)) 3 0 (0 : Int32))) (CTK_x hK rfl rfl))) (fun v h1 hq => ?_)
    obtain ⟨rfl, I1, rfl, K1, u1, f1⟩ := hq
    have uu : ∀ a, a ≠ 1 → a ≠ 3 → I1 a = I a := fun a a1 a3 => (u1 a a1).trans (by rw [sf_c a3, sf_c a3])
    show Zs _ _ (am_P 43).2 (40, [(0, .ref 3), (1, .ref 1), (2, .int x), (3, .long num)], []) (HH I1 (sl (sl J 3 3 num) 3 1 (0 : Int64)) R T) _
    refine Z_jump 4 rfl ?_
    refine Z_bn (fun c45 => ?_) (fun c45 => absurd c45 ((show ¬ I1 3 0 = 4 by rw [show I1 3 0 = 0 from congrFun (u1 3 (by decide)) 0]; decide)))
    refine Z_jump 4 rfl ?_
    refine Z_bd (fun c70 => absurd c70 ((show ¬ I1 3 0 = 3 by rw [show I1 3 0 = 0 from congrFun (u1 3 (by decide)) 0]; decide))) (fun c70 => ?_)
    refine Z_jump 4 rfl ?_
    show Zs _ _ (am_P 43).2 (77, [(0, .ref 3), (1, .ref 1), (2, .int x), (3, .long num)], [.int (0 : Int32), .ref 1, .ref 3, .ref 3]) (HH I1 (sl (sl J 3 3 num) 3 1 (0 : Int64)) R T) _
    have w := (c_ex (sc := sc) (tx := tx) (c := c) (num := num) 500).2.1 (nx tx c s) 0 (d + 519) I1 (sl (sl J 3 3 num) 3 1 0) R T 0 (by have := tS_c (tx := tx) (tE_c (tx := tx) hK.2.1).2; omega) K1 (f1.trans h2) rfl rfl (by omega) (by omega)
    rw [show I1 3 2 = 1 from congrFun (u1 3 (by decide)) 2] at w
    refine Z_cQ rfl rfl rfl w (fun v h1 hq => ?_)
    obtain ⟨I2, rfl, u2, C2, v, rfl, hq⟩ := hq
    have v0 : I2 3 0 = 0 := (u2.2 0 (by decide)).trans (congrFun (u1 3 (by decide)) 0)
    refine Z_jump 1 rfl ?_
    show Zs _ _ (am_P 43).2 (83, [(0, .ref 3), (1, .ref 1), (2, .int x), (3, .long num)], []) (HH I2 (sl (sl (sl J 3 3 num) 3 1 0) 3 1 v) R T) _
    show Zs _ _ (am_P 43).2 (83, [(0, .ref 3), (1, .ref 1), (2, .int x), (3, .long num)], []) (HH I2 (sl (sl (sl J 3 3 num) 3 1 0) 3 1 v) R T) _
    refine Z_ret rfl rfl rfl ?_
    refine ⟨rfl, I2, _, rfl, fun a a1 a3 => (u2.1 a a1 a3).trans (uu a a1 a3), fun a a3 => by rw [sl_c a3, sl_c a3, sl_c a3], C2, ?_⟩
    rcases hf : sx tx c num 500 1 (nx tx c s) 0 (0, 0, 0) 1 with p | ⟨s2, v2, f2⟩
    · rw [hf] at hq; exact hq
    · rw [hf] at hq; exact ⟨hq.2.1, hq.2.2.1, v0, hq.1, hq.2.2.2⟩
  · rw [if_neg hS]
    by_cases hA : wA tx s (tE tx c s)
    · rw [if_pos hA]
      unfold sE
      refine Z_jump 3 rfl ?_
      show Zs _ _ (am_P 43).2 (5, [(0, .ref 3), (1, .ref 1), (2, .int x), (3, .long num)], []) (HH I (sl J 3 3 num) R T) _
      refine Z_jump 3 rfl ?_
      show Zs _ _ (am_P 43).2 (10, [(0, .ref 3), (1, .ref 1), (2, .int x), (3, .long num)], []) (HH I (sl (sl J 3 3 num) 3 1 (0 : Int64)) R T) _
      refine Z_jump 3 rfl ?_
      show Zs _ _ (am_P 43).2 (15, [(0, .ref 3), (1, .ref 1), (2, .int x), (3, .long num)], []) (HH (sf I 3 2 (1 : Int32)) (sl (sl J 3 3 num) 3 1 (0 : Int64)) R T) _
      refine Z_jump 2 rfl ?_
      show Zs _ _ (am_P 43).2 (17, [(0, .ref 3), (1, .ref 1), (2, .int x), (3, .long num)], [.ref 1, .ref 3]) (HH (sf I 3 2 (1 : Int32)) (sl (sl J 3 3 num) 3 1 (0 : Int64)) R T) _
      refine Z_c1 rfl rfl rfl (c_verbTold (I := (sf I 3 2 (1 : Int32))) (CTK_x hK rfl rfl)) ?_
      show Zs _ _ (am_P 43).2 (20, [(0, .ref 3), (1, .ref 1), (2, .int x), (3, .long num)], [.int (if wS tx s (tE tx c s) then 0 else if wA tx s (tE tx c s) then 1 else if wB tx s (tE tx c s) then 2 else if wC tx s (tE tx c s) then 3 else if wY tx s (tE tx c s) then 4 else -1), .ref 3]) (HH (sf I 3 2 (1 : Int32)) (sl (sl J 3 3 num) 3 1 (0 : Int64)) R T) _
      show Zs _ _ (am_P 43).2 (20, [(0, .ref 3), (1, .ref 1), (2, .int x), (3, .long num)], [.int (if wS tx s (tE tx c s) then 0 else if wA tx s (tE tx c s) then 1 else if wB tx s (tE tx c s) then 2 else if wC tx s (tE tx c s) then 3 else if wY tx s (tE tx c s) then 4 else -1), .ref 3]) (HH (sf I 3 2 (1 : Int32)) (sl (sl J 3 3 num) 3 1 (0 : Int64)) R T) _
      refine Z_eqI (y := (1 : Int32)) (by rw [if_neg hS, if_pos hA]) ?_
      show Zs _ _ (am_P 43).2 (20, [(0, .ref 3), (1, .ref 1), (2, .int x), (3, .long num)], [.int (1 : Int32), .ref 3]) (HH (sf I 3 2 (1 : Int32)) (sl (sl J 3 3 num) 3 1 (0 : Int64)) R T) _
      refine Z_jump 1 rfl ?_
      show Zs _ _ (am_P 43).2 (23, [(0, .ref 3), (1, .ref 1), (2, .int x), (3, .long num)], []) (HH (sf (sf I 3 2 (1 : Int32)) 3 0 (1 : Int32)) (sl (sl J 3 3 num) 3 1 (0 : Int64)) R T) _
      refine Z_jump 5 rfl ?_
      show Zs _ _ (am_P 43).2 (37, [(0, .ref 3), (1, .ref 1), (2, .int x), (3, .long num)], [.ref 1]) (HH (sf (sf I 3 2 (1 : Int32)) 3 0 (1 : Int32)) (sl (sl J 3 3 num) 3 1 (0 : Int64)) R T) _
      refine Z_cQ rfl rfl rfl (Ze_deep (d := 2) (by omega) (c_stepQ (d := 0) (I := (sf (sf I 3 2 (1 : Int32)) 3 0 (1 : Int32))) (CTK_x hK rfl rfl))) (fun v h1 hq => ?_)
      obtain ⟨rfl, I1, rfl, K1, u1, f1⟩ := hq
      have uu : ∀ a, a ≠ 1 → a ≠ 3 → I1 a = I a := fun a a1 a3 => (u1 a a1).trans (by rw [sf_c a3, sf_c a3])
      show Zs _ _ (am_P 43).2 (40, [(0, .ref 3), (1, .ref 1), (2, .int x), (3, .long num)], []) (HH I1 (sl (sl J 3 3 num) 3 1 (0 : Int64)) R T) _
      refine Z_jump 4 rfl ?_
      refine Z_bn (fun c45 => ?_) (fun c45 => absurd c45 ((show ¬ I1 3 0 = 4 by rw [show I1 3 0 = 1 from congrFun (u1 3 (by decide)) 0]; decide)))
      refine Z_jump 4 rfl ?_
      refine Z_bd (fun c70 => absurd c70 ((show ¬ I1 3 0 = 3 by rw [show I1 3 0 = 1 from congrFun (u1 3 (by decide)) 0]; decide))) (fun c70 => ?_)
      refine Z_jump 4 rfl ?_
      show Zs _ _ (am_P 43).2 (77, [(0, .ref 3), (1, .ref 1), (2, .int x), (3, .long num)], [.int (0 : Int32), .ref 1, .ref 3, .ref 3]) (HH I1 (sl (sl J 3 3 num) 3 1 (0 : Int64)) R T) _
      have w := (c_ex (sc := sc) (tx := tx) (c := c) (num := num) 500).2.1 (nx tx c s) 0 (d + 519) I1 (sl (sl J 3 3 num) 3 1 0) R T 0 (by have := tS_c (tx := tx) (tE_c (tx := tx) hK.2.1).2; omega) K1 (f1.trans h2) rfl rfl (by omega) (by omega)
      rw [show I1 3 2 = 1 from congrFun (u1 3 (by decide)) 2] at w
      refine Z_cQ rfl rfl rfl w (fun v h1 hq => ?_)
      obtain ⟨I2, rfl, u2, C2, v, rfl, hq⟩ := hq
      have v0 : I2 3 0 = 1 := (u2.2 0 (by decide)).trans (congrFun (u1 3 (by decide)) 0)
      refine Z_jump 1 rfl ?_
      show Zs _ _ (am_P 43).2 (83, [(0, .ref 3), (1, .ref 1), (2, .int x), (3, .long num)], []) (HH I2 (sl (sl (sl J 3 3 num) 3 1 0) 3 1 v) R T) _
      show Zs _ _ (am_P 43).2 (83, [(0, .ref 3), (1, .ref 1), (2, .int x), (3, .long num)], []) (HH I2 (sl (sl (sl J 3 3 num) 3 1 0) 3 1 v) R T) _
      refine Z_ret rfl rfl rfl ?_
      refine ⟨rfl, I2, _, rfl, fun a a1 a3 => (u2.1 a a1 a3).trans (uu a a1 a3), fun a a3 => by rw [sl_c a3, sl_c a3, sl_c a3], C2, ?_⟩
      rcases hf : sx tx c num 500 1 (nx tx c s) 0 (0, 0, 0) 1 with p | ⟨s2, v2, f2⟩
      · rw [hf] at hq; exact hq
      · rw [hf] at hq; exact ⟨hq.2.1, hq.2.2.1, v0, hq.1, hq.2.2.2⟩
    · rw [if_neg hA]
      by_cases hB : wB tx s (tE tx c s)
      · rw [if_pos hB]
        unfold sE
        refine Z_jump 3 rfl ?_
        show Zs _ _ (am_P 43).2 (5, [(0, .ref 3), (1, .ref 1), (2, .int x), (3, .long num)], []) (HH I (sl J 3 3 num) R T) _
        refine Z_jump 3 rfl ?_
        show Zs _ _ (am_P 43).2 (10, [(0, .ref 3), (1, .ref 1), (2, .int x), (3, .long num)], []) (HH I (sl (sl J 3 3 num) 3 1 (0 : Int64)) R T) _
        refine Z_jump 3 rfl ?_
        show Zs _ _ (am_P 43).2 (15, [(0, .ref 3), (1, .ref 1), (2, .int x), (3, .long num)], []) (HH (sf I 3 2 (1 : Int32)) (sl (sl J 3 3 num) 3 1 (0 : Int64)) R T) _
        refine Z_jump 2 rfl ?_
        show Zs _ _ (am_P 43).2 (17, [(0, .ref 3), (1, .ref 1), (2, .int x), (3, .long num)], [.ref 1, .ref 3]) (HH (sf I 3 2 (1 : Int32)) (sl (sl J 3 3 num) 3 1 (0 : Int64)) R T) _
        refine Z_c1 rfl rfl rfl (c_verbTold (I := (sf I 3 2 (1 : Int32))) (CTK_x hK rfl rfl)) ?_
        show Zs _ _ (am_P 43).2 (20, [(0, .ref 3), (1, .ref 1), (2, .int x), (3, .long num)], [.int (if wS tx s (tE tx c s) then 0 else if wA tx s (tE tx c s) then 1 else if wB tx s (tE tx c s) then 2 else if wC tx s (tE tx c s) then 3 else if wY tx s (tE tx c s) then 4 else -1), .ref 3]) (HH (sf I 3 2 (1 : Int32)) (sl (sl J 3 3 num) 3 1 (0 : Int64)) R T) _
        show Zs _ _ (am_P 43).2 (20, [(0, .ref 3), (1, .ref 1), (2, .int x), (3, .long num)], [.int (if wS tx s (tE tx c s) then 0 else if wA tx s (tE tx c s) then 1 else if wB tx s (tE tx c s) then 2 else if wC tx s (tE tx c s) then 3 else if wY tx s (tE tx c s) then 4 else -1), .ref 3]) (HH (sf I 3 2 (1 : Int32)) (sl (sl J 3 3 num) 3 1 (0 : Int64)) R T) _
        refine Z_eqI (y := (2 : Int32)) (by rw [if_neg hS, if_neg hA, if_pos hB]) ?_
        show Zs _ _ (am_P 43).2 (20, [(0, .ref 3), (1, .ref 1), (2, .int x), (3, .long num)], [.int (2 : Int32), .ref 3]) (HH (sf I 3 2 (1 : Int32)) (sl (sl J 3 3 num) 3 1 (0 : Int64)) R T) _
        refine Z_jump 1 rfl ?_
        show Zs _ _ (am_P 43).2 (23, [(0, .ref 3), (1, .ref 1), (2, .int x), (3, .long num)], []) (HH (sf (sf I 3 2 (1 : Int32)) 3 0 (2 : Int32)) (sl (sl J 3 3 num) 3 1 (0 : Int64)) R T) _
        refine Z_jump 5 rfl ?_
        show Zs _ _ (am_P 43).2 (37, [(0, .ref 3), (1, .ref 1), (2, .int x), (3, .long num)], [.ref 1]) (HH (sf (sf I 3 2 (1 : Int32)) 3 0 (2 : Int32)) (sl (sl J 3 3 num) 3 1 (0 : Int64)) R T) _
        refine Z_cQ rfl rfl rfl (Ze_deep (d := 2) (by omega) (c_stepQ (d := 0) (I := (sf (sf I 3 2 (1 : Int32)) 3 0 (2 : Int32))) (CTK_x hK rfl rfl))) (fun v h1 hq => ?_)
        obtain ⟨rfl, I1, rfl, K1, u1, f1⟩ := hq
        have uu : ∀ a, a ≠ 1 → a ≠ 3 → I1 a = I a := fun a a1 a3 => (u1 a a1).trans (by rw [sf_c a3, sf_c a3])
        show Zs _ _ (am_P 43).2 (40, [(0, .ref 3), (1, .ref 1), (2, .int x), (3, .long num)], []) (HH I1 (sl (sl J 3 3 num) 3 1 (0 : Int64)) R T) _
        refine Z_jump 4 rfl ?_
        refine Z_bn (fun c45 => ?_) (fun c45 => absurd c45 ((show ¬ I1 3 0 = 4 by rw [show I1 3 0 = 2 from congrFun (u1 3 (by decide)) 0]; decide)))
        refine Z_jump 4 rfl ?_
        refine Z_bd (fun c70 => absurd c70 ((show ¬ I1 3 0 = 3 by rw [show I1 3 0 = 2 from congrFun (u1 3 (by decide)) 0]; decide))) (fun c70 => ?_)
        refine Z_jump 4 rfl ?_
        show Zs _ _ (am_P 43).2 (77, [(0, .ref 3), (1, .ref 1), (2, .int x), (3, .long num)], [.int (0 : Int32), .ref 1, .ref 3, .ref 3]) (HH I1 (sl (sl J 3 3 num) 3 1 (0 : Int64)) R T) _
        have w := (c_ex (sc := sc) (tx := tx) (c := c) (num := num) 500).2.1 (nx tx c s) 0 (d + 519) I1 (sl (sl J 3 3 num) 3 1 0) R T 0 (by have := tS_c (tx := tx) (tE_c (tx := tx) hK.2.1).2; omega) K1 (f1.trans h2) rfl rfl (by omega) (by omega)
        rw [show I1 3 2 = 1 from congrFun (u1 3 (by decide)) 2] at w
        refine Z_cQ rfl rfl rfl w (fun v h1 hq => ?_)
        obtain ⟨I2, rfl, u2, C2, v, rfl, hq⟩ := hq
        have v0 : I2 3 0 = 2 := (u2.2 0 (by decide)).trans (congrFun (u1 3 (by decide)) 0)
        refine Z_jump 1 rfl ?_
        show Zs _ _ (am_P 43).2 (83, [(0, .ref 3), (1, .ref 1), (2, .int x), (3, .long num)], []) (HH I2 (sl (sl (sl J 3 3 num) 3 1 0) 3 1 v) R T) _
        show Zs _ _ (am_P 43).2 (83, [(0, .ref 3), (1, .ref 1), (2, .int x), (3, .long num)], []) (HH I2 (sl (sl (sl J 3 3 num) 3 1 0) 3 1 v) R T) _
        refine Z_ret rfl rfl rfl ?_
        refine ⟨rfl, I2, _, rfl, fun a a1 a3 => (u2.1 a a1 a3).trans (uu a a1 a3), fun a a3 => by rw [sl_c a3, sl_c a3, sl_c a3], C2, ?_⟩
        rcases hf : sx tx c num 500 1 (nx tx c s) 0 (0, 0, 0) 1 with p | ⟨s2, v2, f2⟩
        · rw [hf] at hq; exact hq
        · rw [hf] at hq; exact ⟨hq.2.1, hq.2.2.1, v0, hq.1, hq.2.2.2⟩
      · rw [if_neg hB]
        by_cases hC : wC tx s (tE tx c s)
        · rw [if_pos hC]
          refine Z_jump 3 rfl ?_
          show Zs _ _ (am_P 43).2 (5, [(0, .ref 3), (1, .ref 1), (2, .int x), (3, .long num)], []) (HH I (sl J 3 3 num) R T) _
          refine Z_jump 3 rfl ?_
          show Zs _ _ (am_P 43).2 (10, [(0, .ref 3), (1, .ref 1), (2, .int x), (3, .long num)], []) (HH I (sl (sl J 3 3 num) 3 1 (0 : Int64)) R T) _
          refine Z_jump 3 rfl ?_
          show Zs _ _ (am_P 43).2 (15, [(0, .ref 3), (1, .ref 1), (2, .int x), (3, .long num)], []) (HH (sf I 3 2 (1 : Int32)) (sl (sl J 3 3 num) 3 1 (0 : Int64)) R T) _
          refine Z_jump 2 rfl ?_
          show Zs _ _ (am_P 43).2 (17, [(0, .ref 3), (1, .ref 1), (2, .int x), (3, .long num)], [.ref 1, .ref 3]) (HH (sf I 3 2 (1 : Int32)) (sl (sl J 3 3 num) 3 1 (0 : Int64)) R T) _
          refine Z_c1 rfl rfl rfl (c_verbTold (I := (sf I 3 2 (1 : Int32))) (CTK_x hK rfl rfl)) ?_
          show Zs _ _ (am_P 43).2 (20, [(0, .ref 3), (1, .ref 1), (2, .int x), (3, .long num)], [.int (if wS tx s (tE tx c s) then 0 else if wA tx s (tE tx c s) then 1 else if wB tx s (tE tx c s) then 2 else if wC tx s (tE tx c s) then 3 else if wY tx s (tE tx c s) then 4 else -1), .ref 3]) (HH (sf I 3 2 (1 : Int32)) (sl (sl J 3 3 num) 3 1 (0 : Int64)) R T) _
          show Zs _ _ (am_P 43).2 (20, [(0, .ref 3), (1, .ref 1), (2, .int x), (3, .long num)], [.int (if wS tx s (tE tx c s) then 0 else if wA tx s (tE tx c s) then 1 else if wB tx s (tE tx c s) then 2 else if wC tx s (tE tx c s) then 3 else if wY tx s (tE tx c s) then 4 else -1), .ref 3]) (HH (sf I 3 2 (1 : Int32)) (sl (sl J 3 3 num) 3 1 (0 : Int64)) R T) _
          refine Z_eqI (y := (3 : Int32)) (by rw [if_neg hS, if_neg hA, if_neg hB, if_pos hC]) ?_
          show Zs _ _ (am_P 43).2 (20, [(0, .ref 3), (1, .ref 1), (2, .int x), (3, .long num)], [.int (3 : Int32), .ref 3]) (HH (sf I 3 2 (1 : Int32)) (sl (sl J 3 3 num) 3 1 (0 : Int64)) R T) _
          refine Z_jump 1 rfl ?_
          show Zs _ _ (am_P 43).2 (23, [(0, .ref 3), (1, .ref 1), (2, .int x), (3, .long num)], []) (HH (sf (sf I 3 2 (1 : Int32)) 3 0 (3 : Int32)) (sl (sl J 3 3 num) 3 1 (0 : Int64)) R T) _
          refine Z_jump 5 rfl ?_
          show Zs _ _ (am_P 43).2 (37, [(0, .ref 3), (1, .ref 1), (2, .int x), (3, .long num)], [.ref 1]) (HH (sf (sf I 3 2 (1 : Int32)) 3 0 (3 : Int32)) (sl (sl J 3 3 num) 3 1 (0 : Int64)) R T) _
          refine Z_cQ rfl rfl rfl (Ze_deep (d := 2) (by omega) (c_stepQ (d := 0) (I := (sf (sf I 3 2 (1 : Int32)) 3 0 (3 : Int32))) (CTK_x hK rfl rfl))) (fun v h1 hq => ?_)
          obtain ⟨rfl, I1, rfl, K1, u1, f1⟩ := hq
          have uu : ∀ a, a ≠ 1 → a ≠ 3 → I1 a = I a := fun a a1 a3 => (u1 a a1).trans (by rw [sf_c a3, sf_c a3])
          show Zs _ _ (am_P 43).2 (40, [(0, .ref 3), (1, .ref 1), (2, .int x), (3, .long num)], []) (HH I1 (sl (sl J 3 3 num) 3 1 (0 : Int64)) R T) _
          refine Z_jump 4 rfl ?_
          refine Z_bn (fun c45 => ?_) (fun c45 => absurd c45 ((show ¬ I1 3 0 = 4 by rw [show I1 3 0 = 3 from congrFun (u1 3 (by decide)) 0]; decide)))
          refine Z_jump 4 rfl ?_
          refine Z_bd (fun c70 => ?_) (fun c70 => absurd ((congrFun (u1 3 (by decide)) 0)) c70)
          show Zs _ _ (am_P 43).2 (83, [(0, .ref 3), (1, .ref 1), (2, .int x), (3, .long num)], []) (HH I1 (sl (sl J 3 3 num) 3 1 (0 : Int64)) R T) _
          refine Z_ret rfl rfl rfl ?_
          exact ⟨rfl, I1, _, rfl, uu, fun a a3 => by rw [sl_c a3, sl_c a3], K1.1, f1.trans h2, K1, congrFun (u1 3 (by decide)) 0, rfl, congrFun (u1 3 (by decide)) 2⟩
        · rw [if_neg hC]
          by_cases hY : wY tx s (tE tx c s)
          · rw [if_pos hY]
            refine Z_jump 3 rfl ?_
            show Zs _ _ (am_P 43).2 (5, [(0, .ref 3), (1, .ref 1), (2, .int x), (3, .long num)], []) (HH I (sl J 3 3 num) R T) _
            refine Z_jump 3 rfl ?_
            show Zs _ _ (am_P 43).2 (10, [(0, .ref 3), (1, .ref 1), (2, .int x), (3, .long num)], []) (HH I (sl (sl J 3 3 num) 3 1 (0 : Int64)) R T) _
            refine Z_jump 3 rfl ?_
            show Zs _ _ (am_P 43).2 (15, [(0, .ref 3), (1, .ref 1), (2, .int x), (3, .long num)], []) (HH (sf I 3 2 (1 : Int32)) (sl (sl J 3 3 num) 3 1 (0 : Int64)) R T) _
            refine Z_jump 2 rfl ?_
            show Zs _ _ (am_P 43).2 (17, [(0, .ref 3), (1, .ref 1), (2, .int x), (3, .long num)], [.ref 1, .ref 3]) (HH (sf I 3 2 (1 : Int32)) (sl (sl J 3 3 num) 3 1 (0 : Int64)) R T) _
            refine Z_c1 rfl rfl rfl (c_verbTold (I := (sf I 3 2 (1 : Int32))) (CTK_x hK rfl rfl)) ?_
            show Zs _ _ (am_P 43).2 (20, [(0, .ref 3), (1, .ref 1), (2, .int x), (3, .long num)], [.int (if wS tx s (tE tx c s) then 0 else if wA tx s (tE tx c s) then 1 else if wB tx s (tE tx c s) then 2 else if wC tx s (tE tx c s) then 3 else if wY tx s (tE tx c s) then 4 else -1), .ref 3]) (HH (sf I 3 2 (1 : Int32)) (sl (sl J 3 3 num) 3 1 (0 : Int64)) R T) _
            show Zs _ _ (am_P 43).2 (20, [(0, .ref 3), (1, .ref 1), (2, .int x), (3, .long num)], [.int (if wS tx s (tE tx c s) then 0 else if wA tx s (tE tx c s) then 1 else if wB tx s (tE tx c s) then 2 else if wC tx s (tE tx c s) then 3 else if wY tx s (tE tx c s) then 4 else -1), .ref 3]) (HH (sf I 3 2 (1 : Int32)) (sl (sl J 3 3 num) 3 1 (0 : Int64)) R T) _
            refine Z_eqI (y := (4 : Int32)) (by rw [if_neg hS, if_neg hA, if_neg hB, if_neg hC, if_pos hY]) ?_
            show Zs _ _ (am_P 43).2 (20, [(0, .ref 3), (1, .ref 1), (2, .int x), (3, .long num)], [.int (4 : Int32), .ref 3]) (HH (sf I 3 2 (1 : Int32)) (sl (sl J 3 3 num) 3 1 (0 : Int64)) R T) _
            refine Z_jump 1 rfl ?_
            show Zs _ _ (am_P 43).2 (23, [(0, .ref 3), (1, .ref 1), (2, .int x), (3, .long num)], []) (HH (sf (sf I 3 2 (1 : Int32)) 3 0 (4 : Int32)) (sl (sl J 3 3 num) 3 1 (0 : Int64)) R T) _
            refine Z_jump 5 rfl ?_
            show Zs _ _ (am_P 43).2 (37, [(0, .ref 3), (1, .ref 1), (2, .int x), (3, .long num)], [.ref 1]) (HH (sf (sf I 3 2 (1 : Int32)) 3 0 (4 : Int32)) (sl (sl J 3 3 num) 3 1 (0 : Int64)) R T) _
            refine Z_cQ rfl rfl rfl (Ze_deep (d := 2) (by omega) (c_stepQ (d := 0) (I := (sf (sf I 3 2 (1 : Int32)) 3 0 (4 : Int32))) (CTK_x hK rfl rfl))) (fun v h1 hq => ?_)
            obtain ⟨rfl, I1, rfl, K1, u1, f1⟩ := hq
            have uu : ∀ a, a ≠ 1 → a ≠ 3 → I1 a = I a := fun a a1 a3 => (u1 a a1).trans (by rw [sf_c a3, sf_c a3])
            show Zs _ _ (am_P 43).2 (40, [(0, .ref 3), (1, .ref 1), (2, .int x), (3, .long num)], []) (HH I1 (sl (sl J 3 3 num) 3 1 (0 : Int64)) R T) _
            refine Z_jump 4 rfl ?_
            refine Z_bn (fun c45 => absurd ((congrFun (u1 3 (by decide)) 0)) c45) (fun c45 => ?_)
            refine Z_jump 7 rfl ?_
            show Zs _ _ (am_P 43).2 (55, [(0, .ref 3), (1, .ref 1), (2, .int x), (3, .long num)], [.int (x - (1 : Int32)), .int (0 : Int32), .int (2 : Int32), .ref 1, .ref 3]) (HH I1 (sl (sl J 3 3 num) 3 1 (0 : Int64)) R T) _
            refine Z_cQ rfl rfl rfl (Ze_deep (d := 3) (by omega) (c_takeI (d := 0) (md := 2) K1 (f1.trans h2) rfl (by omega) (show (0 : Int32).toInt = 0 from rfl) (show (x - 1).toInt = (n : Int) - 1 by rw [hx]; exact nIm1 hn))) (fun v h1 hq => ?_)
            rcases hq with ⟨hT, rfl, I2, rfl, K2, u2, f2⟩ | ⟨hT, rfl, rfl⟩
            · rw [if_pos hT]
              refine Z_jump 2 rfl ?_
              show Zs _ _ (am_P 43).2 (62, [(0, .ref 3), (1, .ref 1), (2, .int x), (3, .long num)], []) (HH I2 (sl (sl (sl J 3 3 num) 3 1 0) 3 1 (Int32.toInt64 (nI (nv tx (nx tx c s) (tE tx c (nx tx c s)))))) R T) _
              refine Z_jump 1 rfl ?_
              show Zs _ _ (am_P 43).2 (83, [(0, .ref 3), (1, .ref 1), (2, .int x), (3, .long num)], []) (HH I2 (sl (sl (sl J 3 3 num) 3 1 0) 3 1 (Int32.toInt64 (nI (nv tx (nx tx c s) (tE tx c (nx tx c s)))))) R T) _
              refine Z_ret rfl rfl rfl ?_
              exact ⟨rfl, I2, _, rfl, fun a a1 a3 => (u2 a a1).trans (uu a a1 a3), fun a a3 => by rw [sl_c a3, sl_c a3, sl_c a3], K2.1, f2, K2, (congrFun (u2 3 (by decide)) 0).trans (congrFun (u1 3 (by decide)) 0), nI_l (Nat.lt_trans (nv_lt hT.1 hT.2.1 (by omega)) (by decide)), (congrFun (u2 3 (by decide)) 2).trans (congrFun (u1 3 (by decide)) 2)⟩
            · rw [if_neg hT]
              refine Z_jump 2 rfl ?_
              show Zs _ _ (am_P 43).2 (62, [(0, .ref 3), (1, .ref 1), (2, .int x), (3, .long num)], []) (HH (sf I1 1 2 (nI (nx tx c s))) (sl (sl (sl J 3 3 num) 3 1 0) 3 1 (0 : Int64)) R T) _
              refine Z_jump 1 rfl ?_
              show Zs _ _ (am_P 43).2 (83, [(0, .ref 3), (1, .ref 1), (2, .int x), (3, .long num)], []) (HH (sf I1 1 2 (nI (nx tx c s))) (sl (sl (sl J 3 3 num) 3 1 0) 3 1 (0 : Int64)) R T) _
              refine Z_ret rfl rfl rfl ?_
              exact ⟨rfl, _, _, rfl, fun a a1 a3 => (sf_c a1 ▸ uu a a1 a3 : _), fun a a3 => by rw [sl_c a3, sl_c a3, sl_c a3], CT_of K1.1 rfl rfl, K1.2.1, rfl⟩
          · rw [if_neg hY]
            refine Z_jump 3 rfl ?_
            show Zs _ _ (am_P 43).2 (5, [(0, .ref 3), (1, .ref 1), (2, .int x), (3, .long num)], []) (HH I (sl J 3 3 num) R T) _
            refine Z_jump 3 rfl ?_
            show Zs _ _ (am_P 43).2 (10, [(0, .ref 3), (1, .ref 1), (2, .int x), (3, .long num)], []) (HH I (sl (sl J 3 3 num) 3 1 (0 : Int64)) R T) _
            refine Z_jump 3 rfl ?_
            show Zs _ _ (am_P 43).2 (15, [(0, .ref 3), (1, .ref 1), (2, .int x), (3, .long num)], []) (HH (sf I 3 2 (1 : Int32)) (sl (sl J 3 3 num) 3 1 (0 : Int64)) R T) _
            refine Z_jump 2 rfl ?_
            show Zs _ _ (am_P 43).2 (17, [(0, .ref 3), (1, .ref 1), (2, .int x), (3, .long num)], [.ref 1, .ref 3]) (HH (sf I 3 2 (1 : Int32)) (sl (sl J 3 3 num) 3 1 (0 : Int64)) R T) _
            refine Z_c1 rfl rfl rfl (c_verbTold (I := (sf I 3 2 (1 : Int32))) (CTK_x hK rfl rfl)) ?_
            show Zs _ _ (am_P 43).2 (20, [(0, .ref 3), (1, .ref 1), (2, .int x), (3, .long num)], [.int (if wS tx s (tE tx c s) then 0 else if wA tx s (tE tx c s) then 1 else if wB tx s (tE tx c s) then 2 else if wC tx s (tE tx c s) then 3 else if wY tx s (tE tx c s) then 4 else -1), .ref 3]) (HH (sf I 3 2 (1 : Int32)) (sl (sl J 3 3 num) 3 1 (0 : Int64)) R T) _
            show Zs _ _ (am_P 43).2 (20, [(0, .ref 3), (1, .ref 1), (2, .int x), (3, .long num)], [.int (if wS tx s (tE tx c s) then 0 else if wA tx s (tE tx c s) then 1 else if wB tx s (tE tx c s) then 2 else if wC tx s (tE tx c s) then 3 else if wY tx s (tE tx c s) then 4 else -1), .ref 3]) (HH (sf I 3 2 (1 : Int32)) (sl (sl J 3 3 num) 3 1 (0 : Int64)) R T) _
            refine Z_eqI (y := (-1 : Int32)) (by rw [if_neg hS, if_neg hA, if_neg hB, if_neg hC, if_neg hY]) ?_
            show Zs _ _ (am_P 43).2 (20, [(0, .ref 3), (1, .ref 1), (2, .int x), (3, .long num)], [.int (-1 : Int32), .ref 3]) (HH (sf I 3 2 (1 : Int32)) (sl (sl J 3 3 num) 3 1 (0 : Int64)) R T) _
            refine Z_jump 1 rfl ?_
            show Zs _ _ (am_P 43).2 (23, [(0, .ref 3), (1, .ref 1), (2, .int x), (3, .long num)], []) (HH (sf (sf I 3 2 (1 : Int32)) 3 0 (-1 : Int32)) (sl (sl J 3 3 num) 3 1 (0 : Int64)) R T) _
            refine Z_jump 5 rfl ?_
            show Zs _ _ (am_P 43).2 (32, [(0, .ref 3), (1, .ref 1), (2, .int x), (3, .long num)], [.ref 1]) (HH (sf (sf I 3 2 (1 : Int32)) 3 0 (-1 : Int32)) (sl (sl J 3 3 num) 3 1 (0 : Int64)) R T) _
            refine Z_c0 rfl rfl rfl (c_failY (s := s) (I := (sf (sf I 3 2 (1 : Int32)) 3 0 (-1 : Int32))) hK.2.2.1 h2) ?_
            show Zs _ _ (am_P 43).2 (35, [(0, .ref 3), (1, .ref 1), (2, .int x), (3, .long num)], []) (HH (sf (sf (sf I 3 2 (1 : Int32)) 3 0 (-1 : Int32)) 1 2 (nI s)) (sl (sl J 3 3 num) 3 1 (0 : Int64)) R T) _
            show Zs _ _ (am_P 43).2 (35, [(0, .ref 3), (1, .ref 1), (2, .int x), (3, .long num)], []) (HH (sf (sf (sf I 3 2 (1 : Int32)) 3 0 (-1 : Int32)) 1 2 (nI s)) (sl (sl J 3 3 num) 3 1 (0 : Int64)) R T) _
            refine Z_ret rfl rfl rfl ?_
            exact ⟨rfl, _, _, rfl, fun a a1 a3 => by rw [sf_c a1, sf_c a3, sf_c a3], fun a a3 => by rw [sl_c a3, sl_c a3], CT_of hK.1 rfl rfl, hK.2.1, rfl⟩
/-- check(): the loop -/
theorem c_check_l {n : Nat} {x : Int32} (hx : x = nI n) (hn : n ≤ 6) : ∀ (k j s : Nat) (I : hI) (J : hJ) (y : Int32), j + (k + 1) = 12 → y = nI j → CTK tx c s I → I 1 2 = -1 → Zs sc (d + 520) (am_P 42).2 (9, [(0, .ref 3), (1, .ref 1), (2, .int x), (3, .int y), (4, .int 1)], []) (HH I J R T) (fun r h => ∃ I' J', h = HH I' J' R T ∧ (∀ a, a ≠ 1 → a ≠ 3 → I' a = I a) ∧ (∀ a, a ≠ 3 → J' a = J a) ∧ CT tx c I' ∧ r = some (.int (match sRead tx c n (k + 1) j s with
    | .inl p => nI p
    | .inr _ => -1)))
  | k, j, s, I, J, y, hj, hy, hK, h2 => by
    have hc := hK.1.2.1
    have hy1 : y + 1 = nI (j + 1) := by rw [hy]; exact nI_1 j
    refine Z_jump 5 rfl ?_
    refine Z_bd (fun c17 => absurd c17 ((show ¬ (12 : Int32) ≤ y by rw [hy]; exact nI_ge (b := 12) (by omega) (by omega)))) (fun c17 => ?_)
    refine Z_jump 4 rfl ?_
    show Zs _ _ (am_P 42).2 (24, [(0, .ref 3), (1, .ref 1), (2, .int x), (3, .int y), (4, .int (1 : Int32))], [.long (0 : Int64), .int x, .ref 1, .ref 3]) (HH I J R T) _
    refine Z_cQ rfl rfl rfl (c_readStatement (num := 0) hK h2 hx hn) (fun v h1 hq => ?_)
    obtain ⟨rfl, I1, J1, rfl, u1, w1, C1, hq⟩ := hq
    show Zs _ _ (am_P 42).2 (27, [(0, .ref 3), (1, .ref 1), (2, .int x), (3, .int y), (4, .int (1 : Int32))], []) (HH I1 J1 R T) _
    refine Z_jump 3 rfl ?_
    show Zs _ _ (am_P 42).2 (32, [(0, .ref 3), (1, .ref 1), (2, .int x), (3, .int (y + 1)), (4, .int (1 : Int32))], [.int (y + 1), .ref 1]) (HH I1 J1 R T) _
    rcases hf : sStmt tx c n 0 s with p | q
    · rw [hf] at hq
      have hs1 : ¬ I1 1 2 = -1 := by rw [hq.2]; exact nI_m1 hq.1 hc
      refine Z_c1 rfl rfl rfl (c_another_u (d := d + 516) hs1) ?_
      refine Z_jump 6 rfl ?_
      exact Z_rI rfl (am_nw0 _) ⟨I1, J1, rfl, u1, w1, C1, am_ii (by rw [sRead_l hf]; exact hq.2)⟩
    · rw [hf] at hq
      obtain ⟨g2, gK, -⟩ := hq
      refine Z_cQ rfl rfl rfl (Ze_deep (d := 4) (by omega) (c_another (d := 0) gK g2 hy1 (by omega))) (fun v h1 hq => ?_)
      rcases hq with ⟨ec, rfl, rfl⟩ | ⟨hlt, h59, h12, rfl, I2, rfl, K2, u2, f2⟩ | ⟨hlt, hno, rfl, rfl⟩
      · refine Z_jump 6 rfl ?_
        exact Z_rI rfl (am_nw0 _) ⟨I1, J1, rfl, u1, w1, C1, am_ii (by rw [sRead_r hf, if_pos ec]; exact g2)⟩
      · obtain ⟨k', rfl⟩ : ∃ k', k = k' + 1 := ⟨k - 1, by omega⟩
        refine Z_jump 2 rfl ?_
        refine Zs_mono (c_check_l hx hn k' (j + 1) _ I2 J1 (y + 1) (by omega) hy1 K2 f2) (fun r h' q => ?_)
        obtain ⟨I3, J3, rfl, u3, w3, C3, hr⟩ := q
        refine ⟨I3, J3, rfl, fun a a1 a3 => (u3 a a1 a3).trans ((u2 a a1).trans (u1 a a1 a3)), fun a a3 => (w3 a a3).trans (w1 a a3), C3, ?_⟩
        rw [hr, sRead_r hf, if_neg (by omega), if_pos ⟨h59, h12⟩]
      · refine Z_jump 6 rfl ?_
        exact Z_rI rfl (am_nw0 _) ⟨_, J1, rfl, fun a a1 a3 => by rw [sf_c a1]; exact u1 a a1 a3, w1, CT_of C1 rfl rfl, am_ii (by rw [sRead_r hf, if_neg (by omega), if_neg hno]; rfl)⟩
theorem c_check {n : Nat} {x : Int32} (hC : CT tx c I) (hx : x = nI n) (hn : n ≤ 6) : Ze sc (d + 521) 42 [.ref 3, .ref 1, .int x] (HH I J R T) (fun r h => ∃ I' J', h = HH I' J' R T ∧ (∀ a, a ≠ 1 → a ≠ 3 → I' a = I a) ∧ (∀ a, a ≠ 3 → J' a = J a) ∧ CT tx c I' ∧ r = some (.int (match sRead tx c n 12 0 (tS tx c 0) with
    | .inl p => nI p
    | .inr _ => -1))) := by
  refine Ze_of (Nat.le_of_ble_eq_true rfl) ?_
  refine Z_jump 1 rfl ?_
  show Zs _ _ (am_P 42).2 (1, [(0, .ref 3), (1, .ref 1), (2, .int x)], [.ref 1]) (HH I J R T) _
  refine Z_cQ rfl rfl rfl (Ze_deep (d := 3) (by omega) (c_beginQ (d := 0) hC)) (fun v h1 hq => ?_)
  obtain ⟨rfl, I1, rfl, K1, u1, f1⟩ := hq
  show Zs _ _ (am_P 42).2 (4, [(0, .ref 3), (1, .ref 1), (2, .int x)], []) (HH I1 J R T) _
  refine Z_jump 4 rfl ?_
  show Zs _ _ (am_P 42).2 (9, [(0, .ref 3), (1, .ref 1), (2, .int x), (3, .int (0 : Int32)), (4, .int (1 : Int32))], []) (HH I1 J R T) _
  refine Zs_mono (c_check_l hx hn 11 0 _ I1 J _ (by omega) rfl K1 f1) (fun r h' q => ?_)
  obtain ⟨I3, J3, rfl, u3, w3, C3, hr⟩ := q
  exact ⟨I3, J3, rfl, fun a a1 a3 => (u3 a a1 a3).trans (u1 a a1), w3, C3, hr⟩
end CS2

