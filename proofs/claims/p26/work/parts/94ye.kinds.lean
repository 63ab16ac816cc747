/-! The class: fitsSeen, kinds; pushAllBack, doStatement. -/
section KDS
variable {sc : Nat × (Nat → Int32)} {d : Nat} {J : hJ} {R : hR} {T : am_H} {Q : Option Value → am_H → Prop} {I : hI}
def ftl (I : hI) (q : RD4) (x : Int32) : Nat → Nat → Int32
  | 0, _ => 1
  | k + 1, i => if I 70 i = x then (if clt q (I 71 i) (q.2.2.2 + 1) 0 (-1) = I 72 i then ftl I q x k (i + 1) else 0) else ftl I q x k (i + 1)
theorem c_ftl {q : RD4} {r m : Nat} {x : Int32} (hq : okR q) (hL : (HH I J R T)[r]? = some (rodC q)) (hm : I 0 15 = nI m) (hm6 : m ≤ 6) : ∀ (k i : Nat) (y : Int32), i + k = m → y = nI i → Q (some (.int (ftl I q x k i))) (HH I J R T) → Zs sc (d + 2) (am_P 140).2 (2, [(0, .ref 0), (1, .int x), (2, .ref r), (3, .int y)], []) (HH I J R T) Q
  | 0, i, y, hi, hy, H => by
    refine Z_jump 4 rfl ?_
    refine Z_bd (fun c7 => ?_) (fun c7 => absurd ((show I 0 15 ≤ y by rw [hm, hy]; exact nI_le (by omega) (by omega))) c7)
    refine Z_jump 1 rfl ?_
    show Zs _ _ (am_P 140).2 (54, [(0, .ref 0), (1, .int x), (2, .ref r), (3, .int y)], [.int (1 : Int32)]) (HH I J R T) _
    refine Z_rI rfl (by first | exact am_nw0 _ | exact am_nw01 | rfl | assumption) ?_
    exact H
  | k + 1, i, y, hi, hy, H => by
    unfold ftl at H
    refine Z_jump 4 rfl ?_
    refine Z_bd (fun c7 => absurd c7 ((show ¬ I 0 15 ≤ y by rw [hm, hy]; exact nI_ge (by omega) (by omega)))) (fun c7 => ?_)
    refine Z_jump 3 rfl ?_
    show Zs _ _ (am_P 140).2 (15, [(0, .ref 0), (1, .int x), (2, .ref r), (3, .int y)], [.int y, .ref 70]) (HH I J R T) _
    refine Z_c1 rfl rfl rfl (k_atK (a := 70) (L := 6) (f := I 70) (i := i) rfl hy (by omega) (by decide)) ?_
    show Zs _ _ (am_P 140).2 (18, [(0, .ref 0), (1, .int x), (2, .ref r), (3, .int y)], [.int (I 70 i)]) (HH I J R T) _
    refine Z_jump 2 rfl ?_
    refine Z_bn (fun (c19 : ¬ ((I 70 i) = x)) => ?_) (fun (c19 : (I 70 i) = x) => ?_)
    · refine Z_jump 2 rfl ?_
      show Zs _ _ (am_P 140).2 (2, [(0, .ref 0), (1, .int x), (2, .ref r), (3, .int (y + 1))], []) (HH I J R T) _
      rw [if_neg c19] at H
      exact c_ftl hq hL hm hm6 k (i + 1) _ (by omega) (by rw [hy]; exact nI_1 i) H
    · refine Z_jump 4 rfl ?_
      show Zs _ _ (am_P 140).2 (28, [(0, .ref 0), (1, .int x), (2, .ref r), (3, .int y)], [.int y, .ref 71, .ref r]) (HH I J R T) _
      refine Z_c1 rfl rfl rfl (k_atK (a := 71) (L := 6) (f := I 71) (i := i) rfl hy (by omega) (by decide)) ?_
      show Zs _ _ (am_P 140).2 (31, [(0, .ref 0), (1, .int x), (2, .ref r), (3, .int y)], [.int (I 71 i), .ref r]) (HH I J R T) _
      show Zs _ _ (am_P 140).2 (31, [(0, .ref 0), (1, .int x), (2, .ref r), (3, .int y)], [.int (I 71 i), .ref r]) (HH I J R T) _
      refine Z_c1 rfl (am_do_inv (hL) rfl (dis4 hq.1) (Nat.le_of_ble_eq_true rfl)) rfl (c_leastTimeFor hq hL) ?_
      show Zs _ _ (am_P 140).2 (34, [(0, .ref 0), (1, .int x), (2, .ref r), (3, .int y)], [.int (clt q (I 71 i) (q.2.2.2 + 1) 0 (-1))]) (HH I J R T) _
      refine Z_jump 3 rfl ?_
      show Zs _ _ (am_P 140).2 (39, [(0, .ref 0), (1, .int x), (2, .ref r), (3, .int y)], [.int y, .ref 72, .int (clt q (I 71 i) (q.2.2.2 + 1) 0 (-1))]) (HH I J R T) _
      refine Z_c1 rfl rfl rfl (k_atK (a := 72) (L := 6) (f := I 72) (i := i) rfl hy (by omega) (by decide)) ?_
      show Zs _ _ (am_P 140).2 (42, [(0, .ref 0), (1, .int x), (2, .ref r), (3, .int y)], [.int (I 72 i), .int (clt q (I 71 i) (q.2.2.2 + 1) 0 (-1))]) (HH I J R T) _
      refine Z_jump 1 rfl ?_
      refine Z_bd (fun (c42 : (clt q (I 71 i) (q.2.2.2 + 1) 0 (-1)) = (I 72 i)) => ?_) (fun (c42 : ¬ ((clt q (I 71 i) (q.2.2.2 + 1) 0 (-1)) = (I 72 i))) => ?_)
      · refine Z_jump 2 rfl ?_
        show Zs _ _ (am_P 140).2 (2, [(0, .ref 0), (1, .int x), (2, .ref r), (3, .int (y + 1))], []) (HH I J R T) _
        rw [if_pos c19, if_pos c42] at H
        exact c_ftl hq hL hm hm6 k (i + 1) _ (by omega) (by rw [hy]; exact nI_1 i) H
      · refine Z_jump 1 rfl ?_
        show Zs _ _ (am_P 140).2 (46, [(0, .ref 0), (1, .int x), (2, .ref r), (3, .int y)], [.int (0 : Int32)]) (HH I J R T) _
        refine Z_rI rfl (by first | exact am_nw0 _ | exact am_nw01 | rfl | assumption) ?_
        rw [if_pos c19, if_neg c42] at H
        exact H
theorem c_fitsSeen {q : RD4} {r m : Nat} {x : Int32} (hq : okR q) (hL : (HH I J R T)[r]? = some (rodC q)) (hm : I 0 15 = nI m) (hm6 : m ≤ 6) : am_E sc (d + 3) 140 [.ref 0, .int x, .ref r] (HH I J R T) (some (.int (ftl I q x m 0))) (HH I J R T) := by
  refine E_Z (Ze_of (Nat.le_of_ble_eq_true rfl) ?_)
  refine Z_jump 2 rfl ?_
  show Zs _ _ (am_P 140).2 (2, [(0, .ref 0), (1, .int x), (2, .ref r), (3, .int (0 : Int32))], []) (HH I J R T) _
  exact c_ftl hq hL hm hm6 m 0 _ (by omega) rfl ⟨rfl, rfl⟩
def kd1 (f b k : Int32) : Int32 := if f = 0 then b else b ||| k
def kdF (I : hI) (q : RD4) (x : Int32) (m : Nat) : Int32 := kd1 (ftl I (3, q.2.1, q.2.2.1, q.2.2.2) x m 0) (kd1 (ftl I (2, q.2.1, q.2.2.1, q.2.2.2) x m 0) (kd1 (ftl I (1, q.2.1, q.2.2.1, q.2.2.2) x m 0) (kd1 (ftl I (0, q.2.1, q.2.2.1, 0) x m 0) 0 1) 2) 4) 8
def kT1 (T : am_H) (q : RD4) : am_H := T ++ [rodC (0, q.2.1, q.2.2.1, 0)]
def kT2 (T : am_H) (q : RD4) : am_H := kT1 T q ++ [rodC (1, q.2.1, q.2.2.1, q.2.2.2)]
def kT3 (T : am_H) (q : RD4) : am_H := kT2 T q ++ [rodC (2, q.2.1, q.2.2.1, q.2.2.2)]
def kT4 (T : am_H) (q : RD4) : am_H := kT3 T q ++ [rodC (3, q.2.1, q.2.2.1, q.2.2.2)]
theorem HH_ap {T : am_H} {x : va_E} : (HH I J R (T ++ [x]))[99 + T.length]? = some x := HH_at _ (app_at T x)
theorem c_kinds {D : FD} {k m : Nat} (hD : DC 18 D I R T) (hk : k < D.1) (hm : I 0 15 = nI m) (hm6 : m ≤ 6) : am_E sc (d + 5) 115 [.ref 0, .int (nI k)] (HH I J R T) (some (.int (kdF I (D.2.1 k) (nI k) m))) (HH I J R (kT4 T (D.2.1 k))) := by
  refine E_Z (Ze_of (Nat.le_of_ble_eq_true rfl) ?_)
  obtain ⟨hq, r, hR, hT⟩ := hD.2.2.2 k hk
  have hT1 : (kT1 T (D.2.1 k))[r]? = some (rodC (D.2.1 k)) := by unfold kT1; rw [List.getElem?_append_left (List.getElem?_eq_some_iff.mp hT).1]; exact hT
  have hT2 : (kT2 T (D.2.1 k))[r]? = some (rodC (D.2.1 k)) := by unfold kT2; rw [List.getElem?_append_left (List.getElem?_eq_some_iff.mp hT1).1]; exact hT1
  have hT3 : (kT3 T (D.2.1 k))[r]? = some (rodC (D.2.1 k)) := by unfold kT3; rw [List.getElem?_append_left (List.getElem?_eq_some_iff.mp hT2).1]; exact hT2
  have hL : (HH I J R T)[99 + r]? = some (rodC (D.2.1 k)) := HH_at r hT
  have hL1 : (HH I J R (kT1 T (D.2.1 k)))[99 + r]? = some (rodC (D.2.1 k)) := HH_at r hT1
  have hL2 : (HH I J R (kT2 T (D.2.1 k)))[99 + r]? = some (rodC (D.2.1 k)) := HH_at r hT2
  have hL3 : (HH I J R (kT3 T (D.2.1 k)))[99 + r]? = some (rodC (D.2.1 k)) := HH_at r hT3
  have o0 : okR (0, (D.2.1 k).2.1, (D.2.1 k).2.2.1, 0) := ⟨Nat.zero_le 3, hq.2.1, hq.2.2.1, Nat.zero_le 3, fun _ => rfl⟩
  have o1 : ∀ j, j = 1 ∨ j = 2 ∨ j = 3 → okR (j, (D.2.1 k).2.1, (D.2.1 k).2.2.1, (D.2.1 k).2.2.2) := fun j hj => ⟨show j ≤ 3 by omega, hq.2.1, hq.2.2.1, hq.2.2.2.1, fun z => absurd (show j = 0 from z) (by omega)⟩
  unfold kdF
  have E3 : ∀ (b : Int32), Zs sc (d + 4) (am_P 115).2 (21, [(0, .ref 0), (1, .int (nI k)), (2, .ref (99 + r)), (3, .int b), (4, .int 4)], []) (HH I J R (kT4 T (D.2.1 k))) (fun r h => r = some (.int b) ∧ h = HH I J R (kT4 T (D.2.1 k))) := fun b => by
    refine Z_jump 4 rfl ?_
    show Zs _ _ (am_P 115).2 (66, [(0, .ref 0), (1, .int (nI k)), (2, .ref (99 + r)), (3, .int b), (4, .int (4 : Int32))], [.int b]) (HH I J R (kT4 T (D.2.1 k))) _
    refine Z_rI rfl (by first | exact am_nw0 _ | exact am_nw01 | rfl | assumption) ?_
    exact ⟨rfl, rfl⟩
  have F3 : ∀ (b : Int32), Zs sc (d + 4) (am_P 115).2 (21, [(0, .ref 0), (1, .int (nI k)), (2, .ref (99 + r)), (3, .int b), (4, .int 3)], []) (HH I J R (kT3 T (D.2.1 k))) (fun r h => r = some (.int (kd1 (ftl I (3, (D.2.1 k).2.1, (D.2.1 k).2.2.1, (D.2.1 k).2.2.2) (nI k) m 0) b 8)) ∧ h = HH I J R (kT4 T (D.2.1 k))) := fun b => by
    have X := E3 (kd1 (ftl I (3, (D.2.1 k).2.1, (D.2.1 k).2.2.1, (D.2.1 k).2.2.2) (nI k) m 0) b 8)
    unfold kd1 at X ⊢
    refine Z_jump 7 rfl ?_
    show Zs _ _ (am_P 115).2 (32, [(0, .ref 0), (1, .int (nI k)), (2, .ref (99 + r)), (3, .int b), (4, .int (3 : Int32))], [.ref (99 + r), .int (3 : Int32), .int (nI k), .ref 0]) (HH I J R (kT3 T (D.2.1 k))) _
    refine Z_gfR rfl hL3 hq.1 rfl ?_
    refine Z_jump 1 rfl ?_
    show Zs _ _ (am_P 115).2 (36, [(0, .ref 0), (1, .int (nI k)), (2, .ref (99 + r)), (3, .int b), (4, .int (3 : Int32))], [.ref (99 + r), .int (nI (D.2.1 k).2.1), .int (3 : Int32), .int (nI k), .ref 0]) (HH I J R (kT3 T (D.2.1 k))) _
    refine Z_gfR rfl hL3 hq.1 rfl ?_
    refine Z_jump 1 rfl ?_
    show Zs _ _ (am_P 115).2 (40, [(0, .ref 0), (1, .int (nI k)), (2, .ref (99 + r)), (3, .int b), (4, .int (3 : Int32))], [.ref (99 + r), .int (nI (D.2.1 k).2.2.1), .int (nI (D.2.1 k).2.1), .int (3 : Int32), .int (nI k), .ref 0]) (HH I J R (kT3 T (D.2.1 k))) _
    refine Z_gfR rfl hL3 hq.1 rfl ?_
    show Zs _ _ (am_P 115).2 (43, [(0, .ref 0), (1, .int (nI k)), (2, .ref (99 + r)), (3, .int b), (4, .int (3 : Int32))], [.int (nI (D.2.1 k).2.2.2), .int (nI (D.2.1 k).2.2.1), .int (nI (D.2.1 k).2.1), .int (3 : Int32), .int (nI k), .ref 0]) (HH I J R (kT3 T (D.2.1 k))) _
    refine Z_c1 rfl rfl rfl (c_make3) ?_
    show Zs _ _ (am_P 115).2 (46, [(0, .ref 0), (1, .int (nI k)), (2, .ref (99 + r)), (3, .int b), (4, .int (3 : Int32))], [.ref (99 + (kT3 T (D.2.1 k)).length), .int (nI k), .ref 0]) (HH I J R (kT4 T (D.2.1 k))) _
    show Zs _ _ (am_P 115).2 (46, [(0, .ref 0), (1, .int (nI k)), (2, .ref (99 + r)), (3, .int b), (4, .int (3 : Int32))], [.ref (99 + (kT3 T (D.2.1 k)).length), .int (nI k), .ref 0]) (HH I J R (kT4 T (D.2.1 k))) _
    refine Z_c1 rfl rfl rfl (c_fitsSeen (o1 3 (by omega)) HH_ap hm hm6) ?_
    show Zs _ _ (am_P 115).2 (49, [(0, .ref 0), (1, .int (nI k)), (2, .ref (99 + r)), (3, .int b), (4, .int (3 : Int32))], [.int (ftl I (3, (D.2.1 k).2.1, (D.2.1 k).2.2.1, (D.2.1 k).2.2.2) (nI k) m 0)]) (HH I J R (kT4 T (D.2.1 k))) _
    refine Z_jump 1 rfl ?_
    refine Z_bd (fun (c49 : (ftl I (3, (D.2.1 k).2.1, (D.2.1 k).2.2.1, (D.2.1 k).2.2.2) (nI k) m 0) = (0 : Int32)) => ?_) (fun (c49 : ¬ ((ftl I (3, (D.2.1 k).2.1, (D.2.1 k).2.2.1, (D.2.1 k).2.2.2) (nI k) m 0) = (0 : Int32))) => ?_)
    · refine Z_jump 2 rfl ?_
      show Zs _ _ (am_P 115).2 (21, [(0, .ref 0), (1, .int (nI k)), (2, .ref (99 + r)), (3, .int b), (4, .int (4 : Int32))], []) (HH I J R (kT4 T (D.2.1 k))) _
      rw [if_pos c49] at X ⊢
      exact X
    · refine Z_jump 8 rfl ?_
      show Zs _ _ (am_P 115).2 (21, [(0, .ref 0), (1, .int (nI k)), (2, .ref (99 + r)), (3, .int (b ||| (8 : Int32))), (4, .int (4 : Int32))], []) (HH I J R (kT4 T (D.2.1 k))) _
      rw [if_neg c49] at X ⊢
      exact X
  have F2 : ∀ (b : Int32), Zs sc (d + 4) (am_P 115).2 (21, [(0, .ref 0), (1, .int (nI k)), (2, .ref (99 + r)), (3, .int b), (4, .int 2)], []) (HH I J R (kT2 T (D.2.1 k))) (fun r h => r = some (.int (kd1 (ftl I (3, (D.2.1 k).2.1, (D.2.1 k).2.2.1, (D.2.1 k).2.2.2) (nI k) m 0) (kd1 (ftl I (2, (D.2.1 k).2.1, (D.2.1 k).2.2.1, (D.2.1 k).2.2.2) (nI k) m 0) b 4) 8)) ∧ h = HH I J R (kT4 T (D.2.1 k))) := fun b => by
    have X := F3 (kd1 (ftl I (2, (D.2.1 k).2.1, (D.2.1 k).2.2.1, (D.2.1 k).2.2.2) (nI k) m 0) b 4)
    unfold kd1 at X ⊢
    refine Z_jump 7 rfl ?_
    show Zs _ _ (am_P 115).2 (32, [(0, .ref 0), (1, .int (nI k)), (2, .ref (99 + r)), (3, .int b), (4, .int (2 : Int32))], [.ref (99 + r), .int (2 : Int32), .int (nI k), .ref 0]) (HH I J R (kT2 T (D.2.1 k))) _
    refine Z_gfR rfl hL2 hq.1 rfl ?_
    refine Z_jump 1 rfl ?_
    show Zs _ _ (am_P 115).2 (36, [(0, .ref 0), (1, .int (nI k)), (2, .ref (99 + r)), (3, .int b), (4, .int (2 : Int32))], [.ref (99 + r), .int (nI (D.2.1 k).2.1), .int (2 : Int32), .int (nI k), .ref 0]) (HH I J R (kT2 T (D.2.1 k))) _
    refine Z_gfR rfl hL2 hq.1 rfl ?_
    refine Z_jump 1 rfl ?_
    show Zs _ _ (am_P 115).2 (40, [(0, .ref 0), (1, .int (nI k)), (2, .ref (99 + r)), (3, .int b), (4, .int (2 : Int32))], [.ref (99 + r), .int (nI (D.2.1 k).2.2.1), .int (nI (D.2.1 k).2.1), .int (2 : Int32), .int (nI k), .ref 0]) (HH I J R (kT2 T (D.2.1 k))) _
    refine Z_gfR rfl hL2 hq.1 rfl ?_
    show Zs _ _ (am_P 115).2 (43, [(0, .ref 0), (1, .int (nI k)), (2, .ref (99 + r)), (3, .int b), (4, .int (2 : Int32))], [.int (nI (D.2.1 k).2.2.2), .int (nI (D.2.1 k).2.2.1), .int (nI (D.2.1 k).2.1), .int (2 : Int32), .int (nI k), .ref 0]) (HH I J R (kT2 T (D.2.1 k))) _
    refine Z_c1 rfl rfl rfl (c_make2) ?_
    show Zs _ _ (am_P 115).2 (46, [(0, .ref 0), (1, .int (nI k)), (2, .ref (99 + r)), (3, .int b), (4, .int (2 : Int32))], [.ref (99 + (kT2 T (D.2.1 k)).length), .int (nI k), .ref 0]) (HH I J R (kT3 T (D.2.1 k))) _
    show Zs _ _ (am_P 115).2 (46, [(0, .ref 0), (1, .int (nI k)), (2, .ref (99 + r)), (3, .int b), (4, .int (2 : Int32))], [.ref (99 + (kT2 T (D.2.1 k)).length), .int (nI k), .ref 0]) (HH I J R (kT3 T (D.2.1 k))) _
    refine Z_c1 rfl rfl rfl (c_fitsSeen (o1 2 (by omega)) HH_ap hm hm6) ?_
    show Zs _ _ (am_P 115).2 (49, [(0, .ref 0), (1, .int (nI k)), (2, .ref (99 + r)), (3, .int b), (4, .int (2 : Int32))], [.int (ftl I (2, (D.2.1 k).2.1, (D.2.1 k).2.2.1, (D.2.1 k).2.2.2) (nI k) m 0)]) (HH I J R (kT3 T (D.2.1 k))) _
    refine Z_jump 1 rfl ?_
    refine Z_bd (fun (c49 : (ftl I (2, (D.2.1 k).2.1, (D.2.1 k).2.2.1, (D.2.1 k).2.2.2) (nI k) m 0) = (0 : Int32)) => ?_) (fun (c49 : ¬ ((ftl I (2, (D.2.1 k).2.1, (D.2.1 k).2.2.1, (D.2.1 k).2.2.2) (nI k) m 0) = (0 : Int32))) => ?_)
    · refine Z_jump 2 rfl ?_
      show Zs _ _ (am_P 115).2 (21, [(0, .ref 0), (1, .int (nI k)), (2, .ref (99 + r)), (3, .int b), (4, .int (3 : Int32))], []) (HH I J R (kT3 T (D.2.1 k))) _
      rw [if_pos c49] at X ⊢
      exact X
    · refine Z_jump 8 rfl ?_
      show Zs _ _ (am_P 115).2 (21, [(0, .ref 0), (1, .int (nI k)), (2, .ref (99 + r)), (3, .int (b ||| (4 : Int32))), (4, .int (3 : Int32))], []) (HH I J R (kT3 T (D.2.1 k))) _
      rw [if_neg c49] at X ⊢
      exact X
  have F1 : ∀ (b : Int32), Zs sc (d + 4) (am_P 115).2 (21, [(0, .ref 0), (1, .int (nI k)), (2, .ref (99 + r)), (3, .int b), (4, .int 1)], []) (HH I J R (kT1 T (D.2.1 k))) (fun r h => r = some (.int (kd1 (ftl I (3, (D.2.1 k).2.1, (D.2.1 k).2.2.1, (D.2.1 k).2.2.2) (nI k) m 0) (kd1 (ftl I (2, (D.2.1 k).2.1, (D.2.1 k).2.2.1, (D.2.1 k).2.2.2) (nI k) m 0) (kd1 (ftl I (1, (D.2.1 k).2.1, (D.2.1 k).2.2.1, (D.2.1 k).2.2.2) (nI k) m 0) b 2) 4) 8)) ∧ h = HH I J R (kT4 T (D.2.1 k))) := fun b => by
    have X := F2 (kd1 (ftl I (1, (D.2.1 k).2.1, (D.2.1 k).2.2.1, (D.2.1 k).2.2.2) (nI k) m 0) b 2)
    unfold kd1 at X ⊢
    refine Z_jump 7 rfl ?_
    show Zs _ _ (am_P 115).2 (32, [(0, .ref 0), (1, .int (nI k)), (2, .ref (99 + r)), (3, .int b), (4, .int (1 : Int32))], [.ref (99 + r), .int (1 : Int32), .int (nI k), .ref 0]) (HH I J R (kT1 T (D.2.1 k))) _
    refine Z_gfR rfl hL1 hq.1 rfl ?_
    refine Z_jump 1 rfl ?_
    show Zs _ _ (am_P 115).2 (36, [(0, .ref 0), (1, .int (nI k)), (2, .ref (99 + r)), (3, .int b), (4, .int (1 : Int32))], [.ref (99 + r), .int (nI (D.2.1 k).2.1), .int (1 : Int32), .int (nI k), .ref 0]) (HH I J R (kT1 T (D.2.1 k))) _
    refine Z_gfR rfl hL1 hq.1 rfl ?_
    refine Z_jump 1 rfl ?_
    show Zs _ _ (am_P 115).2 (40, [(0, .ref 0), (1, .int (nI k)), (2, .ref (99 + r)), (3, .int b), (4, .int (1 : Int32))], [.ref (99 + r), .int (nI (D.2.1 k).2.2.1), .int (nI (D.2.1 k).2.1), .int (1 : Int32), .int (nI k), .ref 0]) (HH I J R (kT1 T (D.2.1 k))) _
    refine Z_gfR rfl hL1 hq.1 rfl ?_
    show Zs _ _ (am_P 115).2 (43, [(0, .ref 0), (1, .int (nI k)), (2, .ref (99 + r)), (3, .int b), (4, .int (1 : Int32))], [.int (nI (D.2.1 k).2.2.2), .int (nI (D.2.1 k).2.2.1), .int (nI (D.2.1 k).2.1), .int (1 : Int32), .int (nI k), .ref 0]) (HH I J R (kT1 T (D.2.1 k))) _
    refine Z_c1 rfl rfl rfl (c_make1) ?_
    show Zs _ _ (am_P 115).2 (46, [(0, .ref 0), (1, .int (nI k)), (2, .ref (99 + r)), (3, .int b), (4, .int (1 : Int32))], [.ref (99 + (kT1 T (D.2.1 k)).length), .int (nI k), .ref 0]) (HH I J R (kT2 T (D.2.1 k))) _
    show Zs _ _ (am_P 115).2 (46, [(0, .ref 0), (1, .int (nI k)), (2, .ref (99 + r)), (3, .int b), (4, .int (1 : Int32))], [.ref (99 + (kT1 T (D.2.1 k)).length), .int (nI k), .ref 0]) (HH I J R (kT2 T (D.2.1 k))) _
    refine Z_c1 rfl rfl rfl (c_fitsSeen (o1 1 (by omega)) HH_ap hm hm6) ?_
    show Zs _ _ (am_P 115).2 (49, [(0, .ref 0), (1, .int (nI k)), (2, .ref (99 + r)), (3, .int b), (4, .int (1 : Int32))], [.int (ftl I (1, (D.2.1 k).2.1, (D.2.1 k).2.2.1, (D.2.1 k).2.2.2) (nI k) m 0)]) (HH I J R (kT2 T (D.2.1 k))) _
    refine Z_jump 1 rfl ?_
    refine Z_bd (fun (c49 : (ftl I (1, (D.2.1 k).2.1, (D.2.1 k).2.2.1, (D.2.1 k).2.2.2) (nI k) m 0) = (0 : Int32)) => ?_) (fun (c49 : ¬ ((ftl I (1, (D.2.1 k).2.1, (D.2.1 k).2.2.1, (D.2.1 k).2.2.2) (nI k) m 0) = (0 : Int32))) => ?_)
    · refine Z_jump 2 rfl ?_
      show Zs _ _ (am_P 115).2 (21, [(0, .ref 0), (1, .int (nI k)), (2, .ref (99 + r)), (3, .int b), (4, .int (2 : Int32))], []) (HH I J R (kT2 T (D.2.1 k))) _
      rw [if_pos c49] at X ⊢
      exact X
    · refine Z_jump 8 rfl ?_
      show Zs _ _ (am_P 115).2 (21, [(0, .ref 0), (1, .int (nI k)), (2, .ref (99 + r)), (3, .int (b ||| (2 : Int32))), (4, .int (2 : Int32))], []) (HH I J R (kT2 T (D.2.1 k))) _
      rw [if_neg c49] at X ⊢
      exact X
  have F0 : ∀ (b : Int32), Zs sc (d + 4) (am_P 115).2 (21, [(0, .ref 0), (1, .int (nI k)), (2, .ref (99 + r)), (3, .int b), (4, .int 0)], []) (HH I J R T) (fun r h => r = some (.int (kd1 (ftl I (3, (D.2.1 k).2.1, (D.2.1 k).2.2.1, (D.2.1 k).2.2.2) (nI k) m 0) (kd1 (ftl I (2, (D.2.1 k).2.1, (D.2.1 k).2.2.1, (D.2.1 k).2.2.2) (nI k) m 0) (kd1 (ftl I (1, (D.2.1 k).2.1, (D.2.1 k).2.2.1, (D.2.1 k).2.2.2) (nI k) m 0) (kd1 (ftl I (0, (D.2.1 k).2.1, (D.2.1 k).2.2.1, 0) (nI k) m 0) b 1) 2) 4) 8)) ∧ h = HH I J R (kT4 T (D.2.1 k))) := fun b => by
    have X := F1 (kd1 (ftl I (0, (D.2.1 k).2.1, (D.2.1 k).2.2.1, 0) (nI k) m 0) b 1)
    unfold kd1 at X ⊢
    refine Z_jump 7 rfl ?_
    show Zs _ _ (am_P 115).2 (32, [(0, .ref 0), (1, .int (nI k)), (2, .ref (99 + r)), (3, .int b), (4, .int (0 : Int32))], [.ref (99 + r), .int (0 : Int32), .int (nI k), .ref 0]) (HH I J R T) _
    refine Z_gfR rfl hL hq.1 rfl ?_
    refine Z_jump 1 rfl ?_
    show Zs _ _ (am_P 115).2 (36, [(0, .ref 0), (1, .int (nI k)), (2, .ref (99 + r)), (3, .int b), (4, .int (0 : Int32))], [.ref (99 + r), .int (nI (D.2.1 k).2.1), .int (0 : Int32), .int (nI k), .ref 0]) (HH I J R T) _
    refine Z_gfR rfl hL hq.1 rfl ?_
    refine Z_jump 1 rfl ?_
    show Zs _ _ (am_P 115).2 (40, [(0, .ref 0), (1, .int (nI k)), (2, .ref (99 + r)), (3, .int b), (4, .int (0 : Int32))], [.ref (99 + r), .int (nI (D.2.1 k).2.2.1), .int (nI (D.2.1 k).2.1), .int (0 : Int32), .int (nI k), .ref 0]) (HH I J R T) _
    refine Z_gfR rfl hL hq.1 rfl ?_
    show Zs _ _ (am_P 115).2 (43, [(0, .ref 0), (1, .int (nI k)), (2, .ref (99 + r)), (3, .int b), (4, .int (0 : Int32))], [.int (nI (D.2.1 k).2.2.2), .int (nI (D.2.1 k).2.2.1), .int (nI (D.2.1 k).2.1), .int (0 : Int32), .int (nI k), .ref 0]) (HH I J R T) _
    refine Z_c1 rfl rfl rfl (c_make0) ?_
    show Zs _ _ (am_P 115).2 (46, [(0, .ref 0), (1, .int (nI k)), (2, .ref (99 + r)), (3, .int b), (4, .int (0 : Int32))], [.ref (99 + T.length), .int (nI k), .ref 0]) (HH I J R (kT1 T (D.2.1 k))) _
    show Zs _ _ (am_P 115).2 (46, [(0, .ref 0), (1, .int (nI k)), (2, .ref (99 + r)), (3, .int b), (4, .int (0 : Int32))], [.ref (99 + T.length), .int (nI k), .ref 0]) (HH I J R (kT1 T (D.2.1 k))) _
    refine Z_c1 rfl rfl rfl (c_fitsSeen o0 HH_ap hm hm6) ?_
    show Zs _ _ (am_P 115).2 (49, [(0, .ref 0), (1, .int (nI k)), (2, .ref (99 + r)), (3, .int b), (4, .int (0 : Int32))], [.int (ftl I (0, (D.2.1 k).2.1, (D.2.1 k).2.2.1, 0) (nI k) m 0)]) (HH I J R (kT1 T (D.2.1 k))) _
    refine Z_jump 1 rfl ?_
    refine Z_bd (fun (c49 : (ftl I (0, (D.2.1 k).2.1, (D.2.1 k).2.2.1, 0) (nI k) m 0) = (0 : Int32)) => ?_) (fun (c49 : ¬ ((ftl I (0, (D.2.1 k).2.1, (D.2.1 k).2.2.1, 0) (nI k) m 0) = (0 : Int32))) => ?_)
    · refine Z_jump 2 rfl ?_
      show Zs _ _ (am_P 115).2 (21, [(0, .ref 0), (1, .int (nI k)), (2, .ref (99 + r)), (3, .int b), (4, .int (1 : Int32))], []) (HH I J R (kT1 T (D.2.1 k))) _
      rw [if_pos c49] at X ⊢
      exact X
    · refine Z_jump 8 rfl ?_
      show Zs _ _ (am_P 115).2 (21, [(0, .ref 0), (1, .int (nI k)), (2, .ref (99 + r)), (3, .int (b ||| (1 : Int32))), (4, .int (1 : Int32))], []) (HH I J R (kT1 T (D.2.1 k))) _
      rw [if_neg c49] at X ⊢
      exact X
  refine Z_jump 3 rfl ?_
  show Zs _ _ (am_P 115).2 (5, [(0, .ref 0), (1, .int (nI k))], [.int (nI k), .ref 18]) (HH I J R T) _
  refine Z_c1 rfl rfl rfl (c_rodAt18 hD rfl hk hR) ?_
  show Zs _ _ (am_P 115).2 (8, [(0, .ref 0), (1, .int (nI k))], [.ref (99 + r)]) (HH I J R T) _
  refine Z_jump 7 rfl ?_
  show Zs _ _ (am_P 115).2 (21, [(0, .ref 0), (1, .int (nI k)), (2, .ref (99 + r)), (3, .int (0 : Int32)), (4, .int (0 : Int32))], []) (HH I J R T) _
  exact F0 0
end KDS

