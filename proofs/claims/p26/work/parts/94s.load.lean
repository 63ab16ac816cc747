/-! The class's Ways: load. -/
section WY2
variable {sc : Nat × (Nat → Int32)} {d : Nat} {J : hJ} {R : hR} {T : am_H} {Q : Option Value → am_H → Prop}
/-- the low beads of a rod, its high ones chosen -/
def lrl (a : Nat) (q : RD4) (i : Nat) (lo : Int32) (g : Nat) (hp : Int32) : Nat → Nat → hI → hI
  | 0, _, I => I
  | k + 1, l, I => lrl a q i lo g hp k (l + 1) (if 1048576 ≤ priceF I a q i 0 (nI l) lo then I else acF I (slotF (nI i) (nI l + nI g * nI (hwv q))) (nI g) (hp + priceF I a q i 0 (nI l) lo))
def lrs (a : Nat) (q : RD4) (i : Nat) (lo : Int32) (g : Nat) (I : hI) : hI :=
  if 1048576 ≤ priceF I a q i 1 (nI g) lo then I else lrl a q i lo g (priceF I a q i 1 (nI g) lo) (q.2.2.1 + 1) 0 I
def lrh (a : Nat) (q : RD4) (i : Nat) (lo : Int32) : Nat → Nat → hI → hI
  | 0, _, I => I
  | k + 1, g, I => lrh a q i lo k (g + 1) (lrs a q i lo g I)
def lrF (I : hI) (a : Nat) (q : RD4) (i : Nat) (lo : Int32) : hI := lrh a q i lo (q.2.2.2 + 1) 0 (sf (sf I 8 i (nI q.2.1)) 9 i (nI (hwv q)))
theorem c_lrl {q : RD4} {a i r g : Nat} {lo hp x : Int32} (ha : isSt a) (hi : i < 6) (hT : ∀ I : hI, (HH I J R T)[r]? = some (rodC q)) (hq : okR q) (hg : x = nI g) (hhp : ¬ 1048576 ≤ hp) : ∀ (k l : Nat) (I : hI) (y : Int32), l + k = q.2.2.1 + 1 → y = nI l → Zs sc (d + 3) (am_P 66).2 (117, [(0, .ref 4), (1, .int (nI i)), (2, .ref r), (3, .ref a), (4, .int lo), (5, .int x)], []) (HH (lrl a q i lo g hp k l I) J R T) Q → Zs sc (d + 3) (am_P 66).2 (52, [(0, .ref 4), (1, .int (nI i)), (2, .ref r), (3, .ref a), (4, .int lo), (5, .int x), (6, .int hp), (7, .int y)], []) (HH I J R T) Q
  | 0, l, I, y, hl, hy, H => by
    have h9 := hq.2.2.1.2
    refine Z_jump 2 rfl ?_
    show Zs _ _ (am_P 66).2 (55, [(0, .ref 4), (1, .int (nI i)), (2, .ref r), (3, .ref a), (4, .int lo), (5, .int x), (6, .int hp), (7, .int y)], [.ref r, .int y]) (HH I J R T) _
    refine Z_gfR rfl (hT _) hq.1 rfl ?_
    refine Z_jump 1 rfl ?_
    refine Z_bd (fun c58 => ?_) (fun c58 => absurd ((show nI q.2.2.1 < y by rw [hy]; exact nI_lt (by omega) (by omega))) c58)
    show Zs _ _ (am_P 66).2 (117, [(0, .ref 4), (1, .int (nI i)), (2, .ref r), (3, .ref a), (4, .int lo), (5, .int x), (6, .int hp), (7, .int y)], []) (HH I J R T) _
    exact Zs_wk (H) (lnD rfl) (lnD rfl) (by repeat (first | exact trivial | refine ⟨rfl, ?_⟩))
  | k + 1, l, I, y, hl, hy, H => by
    have h9 := hq.2.2.1.2
    have k58 : ¬ nI q.2.2.1 < y := by rw [hy, nI_ltI (by omega) (by omega)]; omega
    have ey : y + 1 = nI (l + 1) := by rw [hy]; exact nI_1 l
    unfold lrl at H
    by_cases hc : 1048576 ≤ priceF I a q i 0 (nI l) lo
    · rw [if_pos hc] at H
      refine Z_jump 2 rfl ?_
      show Zs _ _ (am_P 66).2 (55, [(0, .ref 4), (1, .int (nI i)), (2, .ref r), (3, .ref a), (4, .int lo), (5, .int x), (6, .int hp), (7, .int y)], [.ref r, .int y]) (HH I J R T) _
      refine Z_gfR rfl (hT _) hq.1 rfl ?_
      refine Z_jump 1 rfl ?_
      refine Z_bd (fun c58 => absurd c58 (k58)) (fun c58 => ?_)
      refine Z_jump 3 rfl ?_
      refine Z_bd (fun c65 => absurd c65 (hhp)) (fun c65 => ?_)
      refine Z_jump 6 rfl ?_
      show Zs _ _ (am_P 66).2 (76, [(0, .ref 4), (1, .int (nI i)), (2, .ref r), (3, .ref a), (4, .int lo), (5, .int x), (6, .int hp), (7, .int y)], [.int lo, .ref a, .int y, .int (0 : Int32), .ref r, .int (nI i)]) (HH I J R T) _
      refine Z_c1 rfl rfl rfl (c_price ha hi (hT _) hq.1) ?_
      show Zs _ _ (am_P 66).2 (79, [(0, .ref 4), (1, .int (nI i)), (2, .ref r), (3, .ref a), (4, .int lo), (5, .int x), (6, .int hp), (7, .int y)], [.int (priceF I a q i 0 y lo)]) (HH I J R T) _
      refine Z_jump 4 rfl ?_
      refine Z_bd (fun c85 => ?_) (fun c85 => absurd ((by rw [hy]; exact hc)) c85)
      refine Z_jump 2 rfl ?_
      show Zs _ _ (am_P 66).2 (52, [(0, .ref 4), (1, .int (nI i)), (2, .ref r), (3, .ref a), (4, .int lo), (5, .int x), (6, .int hp), (7, .int (y + 1)), (8, .int (priceF I a q i 0 y lo))], []) (HH I J R T) _
      exact Zs_wk (c_lrl ha hi hT hq hg hhp k (l + 1) I _ (by omega) ey H) (lnD rfl) (lnD rfl) (by repeat (first | exact trivial | refine ⟨rfl, ?_⟩))
    · rw [if_neg hc] at H
      subst hy
      subst hg
      refine Z_jump 2 rfl ?_
      show Zs _ _ (am_P 66).2 (55, [(0, .ref 4), (1, .int (nI i)), (2, .ref r), (3, .ref a), (4, .int lo), (5, .int (nI g)), (6, .int hp), (7, .int (nI l))], [.ref r, .int (nI l)]) (HH I J R T) _
      refine Z_gfR rfl (hT _) hq.1 rfl ?_
      refine Z_jump 1 rfl ?_
      refine Z_bd (fun c58 => absurd c58 (k58)) (fun c58 => ?_)
      refine Z_jump 3 rfl ?_
      refine Z_bd (fun c65 => absurd c65 (hhp)) (fun c65 => ?_)
      refine Z_jump 6 rfl ?_
      show Zs _ _ (am_P 66).2 (76, [(0, .ref 4), (1, .int (nI i)), (2, .ref r), (3, .ref a), (4, .int lo), (5, .int (nI g)), (6, .int hp), (7, .int (nI l))], [.int lo, .ref a, .int (nI l), .int (0 : Int32), .ref r, .int (nI i)]) (HH I J R T) _
      refine Z_c1 rfl rfl rfl (c_price ha hi (hT _) hq.1) ?_
      show Zs _ _ (am_P 66).2 (79, [(0, .ref 4), (1, .int (nI i)), (2, .ref r), (3, .ref a), (4, .int lo), (5, .int (nI g)), (6, .int hp), (7, .int (nI l))], [.int (priceF I a q i 0 (nI l) lo)]) (HH I J R T) _
      refine Z_jump 4 rfl ?_
      refine Z_bd (fun c85 => absurd c85 (hc)) (fun c85 => ?_)
      refine Z_jump 5 rfl ?_
      show Zs _ _ (am_P 66).2 (95, [(0, .ref 4), (1, .int (nI i)), (2, .ref r), (3, .ref a), (4, .int lo), (5, .int (nI g)), (6, .int hp), (7, .int (nI l)), (8, .int (priceF I a q i 0 (nI l) lo))], [.int (nI g), .int (nI l), .ref r, .int (nI i), .ref 4]) (HH I J R T) _
      refine Z_c1 rfl (am_do_inv (hT _) rfl (dis4 hq.1) (Nat.le_of_ble_eq_true rfl)) rfl (c_worthOf (hT _) hq.1) ?_
      show Zs _ _ (am_P 66).2 (98, [(0, .ref 4), (1, .int (nI i)), (2, .ref r), (3, .ref a), (4, .int lo), (5, .int (nI g)), (6, .int hp), (7, .int (nI l)), (8, .int (priceF I a q i 0 (nI l) lo))], [.int (nI l + nI g * nI (hwv q)), .int (nI i), .ref 4]) (HH I J R T) _
      show Zs _ _ (am_P 66).2 (98, [(0, .ref 4), (1, .int (nI i)), (2, .ref r), (3, .ref a), (4, .int lo), (5, .int (nI g)), (6, .int hp), (7, .int (nI l)), (8, .int (priceF I a q i 0 (nI l) lo))], [.int (nI l + nI g * nI (hwv q)), .int (nI i), .ref 4]) (HH I J R T) _
      refine Z_c1 rfl rfl rfl (c_slot) ?_
      show Zs _ _ (am_P 66).2 (101, [(0, .ref 4), (1, .int (nI i)), (2, .ref r), (3, .ref a), (4, .int lo), (5, .int (nI g)), (6, .int hp), (7, .int (nI l)), (8, .int (priceF I a q i 0 (nI l) lo))], [.int (slotF (nI i) (nI l + nI g * nI (hwv q))), .ref 4]) (HH I J R T) _
      refine Z_jump 4 rfl ?_
      show Zs _ _ (am_P 66).2 (108, [(0, .ref 4), (1, .int (nI i)), (2, .ref r), (3, .ref a), (4, .int lo), (5, .int (nI g)), (6, .int hp), (7, .int (nI l)), (8, .int (priceF I a q i 0 (nI l) lo))], [.int (hp + (priceF I a q i 0 (nI l) lo)), .int (nI g), .int (slotF (nI i) (nI l + nI g * nI (hwv q))), .ref 4]) (HH I J R T) _
      refine Z_c0 rfl rfl rfl (c_addChoice) ?_
      show Zs _ _ (am_P 66).2 (111, [(0, .ref 4), (1, .int (nI i)), (2, .ref r), (3, .ref a), (4, .int lo), (5, .int (nI g)), (6, .int hp), (7, .int (nI l)), (8, .int (priceF I a q i 0 (nI l) lo))], []) (HH (acF I (slotF (nI i) (nI l + nI g * nI (hwv q))) (nI g) (hp + (priceF I a q i 0 (nI l) lo))) J R T) _
      refine Z_jump 2 rfl ?_
      show Zs _ _ (am_P 66).2 (52, [(0, .ref 4), (1, .int (nI i)), (2, .ref r), (3, .ref a), (4, .int lo), (5, .int (nI g)), (6, .int hp), (7, .int ((nI l) + 1)), (8, .int (priceF I a q i 0 (nI l) lo))], []) (HH (acF I (slotF (nI i) (nI l + nI g * nI (hwv q))) (nI g) (hp + (priceF I a q i 0 (nI l) lo))) J R T) _
      exact Zs_wk (c_lrl ha hi hT hq rfl hhp k (l + 1) _ _ (by omega) ey H) (lnD rfl) (lnD rfl) (by repeat (first | exact trivial | refine ⟨rfl, ?_⟩))
theorem c_lrh {q : RD4} {a i r : Nat} {lo : Int32} (ha : isSt a) (hi : i < 6) (hT : ∀ I : hI, (HH I J R T)[r]? = some (rodC q)) (hq : okR q) : ∀ (k g : Nat) (I : hI) (x : Int32), g + k = q.2.2.2 + 1 → x = nI g → Q none (HH (lrh a q i lo k g I) J R T) → Zs sc (d + 3) (am_P 66).2 (27, [(0, .ref 4), (1, .int (nI i)), (2, .ref r), (3, .ref a), (4, .int lo), (5, .int x)], []) (HH I J R T) Q
  | 0, g, I, x, hg, hx, H => by
    have h3 := hq.2.2.2.1
    refine Z_jump 2 rfl ?_
    show Zs _ _ (am_P 66).2 (30, [(0, .ref 4), (1, .int (nI i)), (2, .ref r), (3, .ref a), (4, .int lo), (5, .int x)], [.ref r, .int x]) (HH I J R T) _
    refine Z_gfR rfl (hT _) hq.1 rfl ?_
    refine Z_jump 1 rfl ?_
    refine Z_bd (fun c33 => ?_) (fun c33 => absurd ((show nI q.2.2.2 < x by rw [hx]; exact nI_lt (by omega) (by omega))) c33)
    show Zs _ _ (am_P 66).2 (123, [(0, .ref 4), (1, .int (nI i)), (2, .ref r), (3, .ref a), (4, .int lo), (5, .int x)], []) (HH I J R T) _
    refine Z_ret rfl rfl rfl ?_
    exact H
  | k + 1, g, I, x, hg, hx, H => by
    have h3 := hq.2.2.2.1
    have k33 : ¬ nI q.2.2.2 < x := by rw [hx, nI_ltI (by omega) (by omega)]; omega
    have ex : x + 1 = nI (g + 1) := by rw [hx]; exact nI_1 g
    unfold lrh lrs at H
    by_cases hc : 1048576 ≤ priceF I a q i 1 (nI g) lo
    · rw [if_pos hc] at H
      refine Z_jump 2 rfl ?_
      show Zs _ _ (am_P 66).2 (30, [(0, .ref 4), (1, .int (nI i)), (2, .ref r), (3, .ref a), (4, .int lo), (5, .int x)], [.ref r, .int x]) (HH I J R T) _
      refine Z_gfR rfl (hT _) hq.1 rfl ?_
      refine Z_jump 1 rfl ?_
      refine Z_bd (fun c33 => absurd c33 (k33)) (fun c33 => ?_)
      refine Z_jump 6 rfl ?_
      show Zs _ _ (am_P 66).2 (44, [(0, .ref 4), (1, .int (nI i)), (2, .ref r), (3, .ref a), (4, .int lo), (5, .int x)], [.int lo, .ref a, .int x, .int (1 : Int32), .ref r, .int (nI i)]) (HH I J R T) _
      refine Z_c1 rfl rfl rfl (c_price ha hi (hT _) hq.1) ?_
      show Zs _ _ (am_P 66).2 (47, [(0, .ref 4), (1, .int (nI i)), (2, .ref r), (3, .ref a), (4, .int lo), (5, .int x)], [.int (priceF I a q i 1 x lo)]) (HH I J R T) _
      refine Z_jump 5 rfl ?_
      show Zs _ _ (am_P 66).2 (55, [(0, .ref 4), (1, .int (nI i)), (2, .ref r), (3, .ref a), (4, .int lo), (5, .int x), (6, .int (priceF I a q i 1 x lo)), (7, .int (0 : Int32))], [.ref r, .int (0 : Int32)]) (HH I J R T) _
      refine Z_gfR rfl (hT _) hq.1 rfl ?_
      refine Z_jump 1 rfl ?_
      refine Z_bd (fun c58 => absurd c58 ((nI_pos (by have := hq.2.2.1.2; omega)))) (fun c58 => ?_)
      refine Z_jump 3 rfl ?_
      refine Z_bd (fun c65 => ?_) (fun c65 => absurd ((by rw [hx]; exact hc)) c65)
      refine Z_jump 2 rfl ?_
      show Zs _ _ (am_P 66).2 (27, [(0, .ref 4), (1, .int (nI i)), (2, .ref r), (3, .ref a), (4, .int lo), (5, .int (x + 1)), (6, .int (priceF I a q i 1 x lo)), (7, .int (0 : Int32))], []) (HH I J R T) _
      exact Zs_wk (c_lrh ha hi hT hq k (g + 1) I _ (by omega) ex H) (lnD rfl) (lnD rfl) (by repeat (first | exact trivial | refine ⟨rfl, ?_⟩))
    · rw [if_neg hc] at H
      subst hx
      refine Z_jump 2 rfl ?_
      show Zs _ _ (am_P 66).2 (30, [(0, .ref 4), (1, .int (nI i)), (2, .ref r), (3, .ref a), (4, .int lo), (5, .int (nI g))], [.ref r, .int (nI g)]) (HH I J R T) _
      refine Z_gfR rfl (hT _) hq.1 rfl ?_
      refine Z_jump 1 rfl ?_
      refine Z_bd (fun c33 => absurd c33 (k33)) (fun c33 => ?_)
      refine Z_jump 6 rfl ?_
      show Zs _ _ (am_P 66).2 (44, [(0, .ref 4), (1, .int (nI i)), (2, .ref r), (3, .ref a), (4, .int lo), (5, .int (nI g))], [.int lo, .ref a, .int (nI g), .int (1 : Int32), .ref r, .int (nI i)]) (HH I J R T) _
      refine Z_c1 rfl rfl rfl (c_price ha hi (hT _) hq.1) ?_
      show Zs _ _ (am_P 66).2 (47, [(0, .ref 4), (1, .int (nI i)), (2, .ref r), (3, .ref a), (4, .int lo), (5, .int (nI g))], [.int (priceF I a q i 1 (nI g) lo)]) (HH I J R T) _
      refine Z_jump 3 rfl ?_
      show Zs _ _ (am_P 66).2 (52, [(0, .ref 4), (1, .int (nI i)), (2, .ref r), (3, .ref a), (4, .int lo), (5, .int (nI g)), (6, .int (priceF I a q i 1 (nI g) lo)), (7, .int (0 : Int32))], []) (HH I J R T) _
      refine c_lrl ha hi hT hq rfl hc (q.2.2.1 + 1) 0 I _ (by omega) rfl ?_
      refine Z_jump 2 rfl ?_
      show Zs _ _ (am_P 66).2 (27, [(0, .ref 4), (1, .int (nI i)), (2, .ref r), (3, .ref a), (4, .int lo), (5, .int ((nI g) + 1))], []) (HH (lrl a q i lo g (priceF I a q i 1 (nI g) lo) (q.2.2.1 + 1) 0 I) J R T) _
      exact c_lrh ha hi hT hq k (g + 1) _ _ (by omega) ex H
theorem c_hwA {q : RD4} {r : Nat} {I : hI} (hL : (HH I J R T)[r]? = some (rodC q)) (hq : q.1 ≤ 3) : ∃ M, am_dis [0, 2, 2, 13, 3, 17, 4, 2] (clsOf q.1) = some M ∧ am_E sc (d + 1) M [.ref r] (HH I J R T) (some (.int (nI (hwv q)))) (HH I J R T) := by
  obtain ⟨kd, b, l, g⟩ := q
  rcases kd_c hq with rfl | rfl | rfl | rfl
  · exact ⟨_, rfl, c_hw0 hL⟩
  · exact ⟨_, rfl, c_hw1 hL⟩
  · exact ⟨_, rfl, c_hw2 hL⟩
  · exact ⟨_, rfl, c_hw3n hL⟩
theorem c_loadRod {q : RD4} {a i r : Nat} {lo : Int32} {I : hI} (ha : isSt a) (hi : i < 6) (hT : ∀ I : hI, (HH I J R T)[r]? = some (rodC q)) (hq : okR q) : am_E sc (d + 4) 66 [.ref 4, .int (nI i), .ref r, .ref a, .int lo] (HH I J R T) none (HH (lrF I a q i lo) J R T) := by
  refine E_Z (Ze_of (Nat.le_of_ble_eq_true rfl) ?_)
  obtain ⟨Mw, hMw, hwE⟩ := c_hwA (sc := sc) (d := d + 2) (hT (sf I 8 i (nI q.2.1))) hq.1
  refine Z_jump 4 rfl ?_
  show Zs _ _ (am_P 66).2 (6, [(0, .ref 4), (1, .int (nI i)), (2, .ref r), (3, .ref a), (4, .int lo)], [.ref r, .int (nI i), .ref 8]) (HH I J R T) _
  refine Z_gfR rfl (hT _) hq.1 rfl ?_
  show Zs _ _ (am_P 66).2 (9, [(0, .ref 4), (1, .int (nI i)), (2, .ref r), (3, .ref a), (4, .int lo)], [.int (nI q.2.1), .int (nI i), .ref 8]) (HH I J R T) _
  refine Z_c0 rfl rfl rfl (k_putK (a := 8) (L := 6) (f := I 8) (i := i) rfl rfl hi (by decide)) ?_
  show Zs _ _ (am_P 66).2 (12, [(0, .ref 4), (1, .int (nI i)), (2, .ref r), (3, .ref a), (4, .int lo)], []) (HH (sf I 8 i (nI q.2.1)) J R T) _
  refine Z_jump 4 rfl ?_
  show Zs _ _ (am_P 66).2 (18, [(0, .ref 4), (1, .int (nI i)), (2, .ref r), (3, .ref a), (4, .int lo)], [.ref r, .int (nI i), .ref 9]) (HH (sf I 8 i (nI q.2.1)) J R T) _
  refine Z_c1 rfl (am_do_inv (hT _) rfl (hMw) (Nat.le_of_ble_eq_true rfl)) rfl (hwE) ?_
  show Zs _ _ (am_P 66).2 (21, [(0, .ref 4), (1, .int (nI i)), (2, .ref r), (3, .ref a), (4, .int lo)], [.int (nI (hwv q)), .int (nI i), .ref 9]) (HH (sf I 8 i (nI q.2.1)) J R T) _
  show Zs _ _ (am_P 66).2 (21, [(0, .ref 4), (1, .int (nI i)), (2, .ref r), (3, .ref a), (4, .int lo)], [.int (nI (hwv q)), .int (nI i), .ref 9]) (HH (sf I 8 i (nI q.2.1)) J R T) _
  refine Z_c0 rfl rfl rfl (k_putK (a := 9) (L := 6) (f := (sf I 8 i (nI q.2.1)) 9) (i := i) rfl rfl hi (by decide)) ?_
  show Zs _ _ (am_P 66).2 (24, [(0, .ref 4), (1, .int (nI i)), (2, .ref r), (3, .ref a), (4, .int lo)], []) (HH (sf (sf I 8 i (nI q.2.1)) 9 i (nI (hwv q))) J R T) _
  refine Z_jump 2 rfl ?_
  show Zs _ _ (am_P 66).2 (27, [(0, .ref 4), (1, .int (nI i)), (2, .ref r), (3, .ref a), (4, .int lo), (5, .int (0 : Int32))], []) (HH (sf (sf I 8 i (nI q.2.1)) 9 i (nI (hwv q))) J R T) _
  exact c_lrh ha hi hT hq (q.2.2.2 + 1) 0 _ _ (by omega) rfl ⟨rfl, rfl⟩
end WY2

