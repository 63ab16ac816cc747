/-! The class: the number that is shown; rods that show too much; seen, stick. -/
def fq (r : Nat ⊕ Nat) : Int32 := match r with
  | .inl p => nI p
  | .inr _ => -1
section CL1
variable {sc : Nat × (Nat → Int32)} {d : Nat} {I : hI} {J : hJ} {R : hR} {T : am_H} {h : am_H} {Q : Option Value → am_H → Prop} {code : List am_I}
theorem dis4 {M kd : Nat} (h : kd ≤ 3) : am_dis [0, M, 2, M, 3, M, 4, M] (clsOf kd) = some M := by
  rcases kd_c h with rfl | rfl | rfl | rfl <;> rfl
theorem cls4 {kd : Nat} (h : kd ≤ 3) : [0, 2, 3, 4].contains (clsOf kd) = true := by
  rcases kd_c h with rfl | rfl | rfl | rfl <;> rfl
theorem Z_gfR {pc r k idx len : Nat} {q : RD4} {cv v : Value} {l : am_L} {st : List Value} (ha : am_at code pc = some (pc, .getfield idx, len, [k, 0, 2, 3, 4], cv)) (hL : h[r]? = some (rodC q)) (hq : q.1 ≤ 3) (hv : [Value.int (nI q.2.1), .int (nI q.2.2.1), .int (nI q.2.2.2)][k]? = some v) (kk : Zs sc d code (pc + 3, l, v :: st) h Q) : Zs sc d code (pc, l, .ref r :: st) h Q :=
  Z_gf ha hL (cls4 hq) hv kk
def cnl (I : hI) (D : FD) : Nat → Nat → Int64 → Int64 → Int64
  | 0, _, s, _ => s
  | k + 1, i, s, p => cnl I D k (i + 1) (s + p * (shw I 22 i (D.2.1 i)).toInt64) (p * (nI (D.2.1 i).2.1).toInt64)
theorem c_num_l {D : FD} (hD : DC 18 D I R T) : ∀ (k i : Nat) (x : Int32) (s p : Int64) (t : am_L), i + k = D.1 → x = nI i → (t = [] ∨ ∃ r, t = [(6, Value.ref r)]) → Zs sc (d + 3) (am_P 125).2 (7, (0, .ref 0) :: (1, .long s) :: (3, .long p) :: (5, .int x) :: t, []) (HH I J R T) (fun r h => r = some (.long (cnl I D k i s p)) ∧ h = HH I J R T)
  | 0, i, x, s, p, t, hi, hx, ht => by
    have h6 := hD.2.1
    rcases ht with rfl | ⟨r, rfl⟩
    · refine Z_jump 5 rfl ?_
      refine Z_bd (fun c16 => ?_) (fun c16 => absurd ((show I 18 1 ≤ x by rw [hD.1, hx]; exact nI_le (by omega) (by omega))) c16)
      refine Z_jump 1 rfl ?_
      show Zs _ _ (am_P 125).2 (68, [(0, .ref 0), (1, .long s), (3, .long p), (5, .int x)], [.long s]) (HH I J R T) _
      refine Z_ret rfl rfl rfl ?_
      exact ⟨rfl, rfl⟩
    · refine Z_jump 5 rfl ?_
      refine Z_bd (fun c16 => ?_) (fun c16 => absurd ((show I 18 1 ≤ x by rw [hD.1, hx]; exact nI_le (by omega) (by omega))) c16)
      refine Z_jump 1 rfl ?_
      show Zs _ _ (am_P 125).2 (68, [(0, .ref 0), (1, .long s), (3, .long p), (5, .int x), (6, .ref r)], [.long s]) (HH I J R T) _
      refine Z_ret rfl rfl rfl ?_
      exact ⟨rfl, rfl⟩
  | k + 1, i, x, s, p, t, hi, hx, ht => by
    have h6 := hD.2.1
    obtain ⟨hq, a, hR, hT⟩ := hD.2.2.2 i (by omega)
    have hL : (HH I J R T)[99 + a]? = some (rodC (D.2.1 i)) := HH_at a hT
    rcases ht with rfl | ⟨r, rfl⟩
    · refine Z_jump 5 rfl ?_
      refine Z_bd (fun c16 => absurd c16 ((show ¬ I 18 1 ≤ x by rw [hD.1, hx]; exact nI_ge (by omega) (by omega)))) (fun c16 => ?_)
      refine Z_jump 3 rfl ?_
      show Zs _ _ (am_P 125).2 (25, [(0, .ref 0), (1, .long s), (3, .long p), (5, .int x)], [.int x, .ref 18]) (HH I J R T) _
      refine Z_c1 rfl rfl rfl (c_rodAt18 hD hx (by omega) hR) ?_
      show Zs _ _ (am_P 125).2 (28, [(0, .ref 0), (1, .long s), (3, .long p), (5, .int x)], [.ref (99 + a)]) (HH I J R T) _
      refine Z_jump 9 rfl ?_
      show Zs _ _ (am_P 125).2 (45, [(0, .ref 0), (1, .long s), (3, .long p), (5, .int x), (6, .ref (99 + a))], [.ref (99 + a), .int x, .ref 22, .long p, .long s]) (HH I J R T) _
      refine Z_c1 rfl rfl rfl (c_shows (a := 22) (by decide) hx (by omega) hL hq.1) ?_
      show Zs _ _ (am_P 125).2 (48, [(0, .ref 0), (1, .long s), (3, .long p), (5, .int x), (6, .ref (99 + a))], [.int (shw I 22 i (D.2.1 i)), .long p, .long s]) (HH I J R T) _
      refine Z_jump 6 rfl ?_
      show Zs _ _ (am_P 125).2 (55, [(0, .ref 0), (1, .long (s + (p * (Int32.toInt64 (shw I 22 i (D.2.1 i)))))), (3, .long p), (5, .int x), (6, .ref (99 + a))], [.ref (99 + a), .long p]) (HH I J R T) _
      refine Z_gfR rfl hL hq.1 rfl ?_
      refine Z_jump 5 rfl ?_
      show Zs _ _ (am_P 125).2 (7, [(0, .ref 0), (1, .long (s + (p * (Int32.toInt64 (shw I 22 i (D.2.1 i)))))), (3, .long (p * (Int32.toInt64 (nI (D.2.1 i).2.1)))), (5, .int (x + 1)), (6, .ref (99 + a))], []) (HH I J R T) _
      exact c_num_l hD k (i + 1) _ _ _ _ (by omega) (by rw [hx]; exact nI_1 i) (Or.inr ⟨_, rfl⟩)
    · refine Z_jump 5 rfl ?_
      refine Z_bd (fun c16 => absurd c16 ((show ¬ I 18 1 ≤ x by rw [hD.1, hx]; exact nI_ge (by omega) (by omega)))) (fun c16 => ?_)
      refine Z_jump 3 rfl ?_
      show Zs _ _ (am_P 125).2 (25, [(0, .ref 0), (1, .long s), (3, .long p), (5, .int x), (6, .ref r)], [.int x, .ref 18]) (HH I J R T) _
      refine Z_c1 rfl rfl rfl (c_rodAt18 hD hx (by omega) hR) ?_
      show Zs _ _ (am_P 125).2 (28, [(0, .ref 0), (1, .long s), (3, .long p), (5, .int x), (6, .ref r)], [.ref (99 + a)]) (HH I J R T) _
      refine Z_jump 9 rfl ?_
      show Zs _ _ (am_P 125).2 (45, [(0, .ref 0), (1, .long s), (3, .long p), (5, .int x), (6, .ref (99 + a))], [.ref (99 + a), .int x, .ref 22, .long p, .long s]) (HH I J R T) _
      refine Z_c1 rfl rfl rfl (c_shows (a := 22) (by decide) hx (by omega) hL hq.1) ?_
      show Zs _ _ (am_P 125).2 (48, [(0, .ref 0), (1, .long s), (3, .long p), (5, .int x), (6, .ref (99 + a))], [.int (shw I 22 i (D.2.1 i)), .long p, .long s]) (HH I J R T) _
      refine Z_jump 6 rfl ?_
      show Zs _ _ (am_P 125).2 (55, [(0, .ref 0), (1, .long (s + (p * (Int32.toInt64 (shw I 22 i (D.2.1 i)))))), (3, .long p), (5, .int x), (6, .ref (99 + a))], [.ref (99 + a), .long p]) (HH I J R T) _
      refine Z_gfR rfl hL hq.1 rfl ?_
      refine Z_jump 5 rfl ?_
      show Zs _ _ (am_P 125).2 (7, [(0, .ref 0), (1, .long (s + (p * (Int32.toInt64 (shw I 22 i (D.2.1 i)))))), (3, .long (p * (Int32.toInt64 (nI (D.2.1 i).2.1)))), (5, .int (x + 1)), (6, .ref (99 + a))], []) (HH I J R T) _
      exact c_num_l hD k (i + 1) _ _ _ _ (by omega) (by rw [hx]; exact nI_1 i) (Or.inr ⟨_, rfl⟩)
theorem c_theNumber {D : FD} (hD : DC 18 D I R T) : am_E sc (d + 4) 125 [.ref 0] (HH I J R T) (some (.long (cnl I D D.1 0 0 1))) (HH I J R T) := by
  refine E_Z (Ze_of (Nat.le_of_ble_eq_true rfl) ?_)
  refine Z_jump 6 rfl ?_
  show Zs _ _ (am_P 125).2 (7, [(0, .ref 0), (1, .long (0 : Int64)), (3, .long (1 : Int64)), (5, .int (0 : Int32))], []) (HH I J R T) _
  exact c_num_l hD D.1 0 _ _ _ _ (by omega) rfl (Or.inl rfl)
theorem c_number {D : FD} (hD : DC 18 D I R T) : am_E sc (d + 5) 97 [.ref 0] (HH I J R T) (some (.long (cnl I D D.1 0 0 1))) (HH I J R T) := by
  refine E_Z (Ze_of (Nat.le_of_ble_eq_true rfl) ?_)
  refine Z_jump 1 rfl ?_
  show Zs _ _ (am_P 97).2 (1, [(0, .ref 0)], [.ref 0]) (HH I J R T) _
  refine Z_c1 rfl rfl rfl (c_theNumber hD) ?_
  show Zs _ _ (am_P 97).2 (4, [(0, .ref 0)], [.long (cnl I D D.1 0 0 1)]) (HH I J R T) _
  show Zs _ _ (am_P 97).2 (4, [(0, .ref 0)], [.long (cnl I D D.1 0 0 1)]) (HH I J R T) _
  refine Z_ret rfl rfl rfl ?_
  exact ⟨rfl, rfl⟩
/-- fault(1) -/
theorem c_faultS {tx : Nat → Nat} {c : Nat} {D : FD} (hC : CT tx c I) (hD : DC 18 D I R T) : Ze sc (d + 522) 93 [.ref 0, .int 1] (HH I J R T) (fun r h => ∃ I' J', h = HH I' J' R T ∧ (∀ a, a ≠ 1 → a ≠ 3 → I' a = I a) ∧ (∀ a, a ≠ 3 → J' a = J a) ∧ CT tx c I' ∧ r = some (.int (match sQ tx c D.1 12 0 (tS tx c 0) with
    | .inl p => nI p
    | .inr _ => -1))) := by
  refine Ze_of (Nat.le_of_ble_eq_true rfl) ?_
  refine Z_jump 12 rfl ?_
  show Zs _ _ (am_P 93).2 (37, [(0, .ref 0), (1, .int (1 : Int32))], [.int (I 18 1), .ref 1, .ref 3]) (HH I J R T) _
  refine Z_cQ rfl rfl rfl (c_check (n := D.1) hC hD.1 hD.2.1) (fun v h1 hq => ?_)
  obtain ⟨I1, J1, rfl, u1, w1, C1, rfl⟩ := hq
  rw [sRead_sQ]
  show Zs _ _ (am_P 93).2 (40, [(0, .ref 0), (1, .int (1 : Int32))], [.int (fq (sQ tx c D.1 12 0 (tS tx c 0)))]) (HH I1 J1 R T) _
  refine Z_jump 1 rfl ?_
  show Zs _ _ (am_P 93).2 (45, [(0, .ref 0), (1, .int (1 : Int32))], [.int (fq (sQ tx c D.1 12 0 (tS tx c 0)))]) (HH I1 J1 R T) _
  refine Z_rI rfl (by first | exact am_nw0 _ | exact am_nw01 | rfl | assumption) ?_
  exact ⟨I1, J1, rfl, u1, w1, C1, rfl⟩
end CL1

