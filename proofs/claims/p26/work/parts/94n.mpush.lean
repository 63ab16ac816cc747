/-! push, rod (reference): any state. -/
section ML3
variable {sc : Nat × (Nat → Int32)} {d : Nat} {I : hI} {J : hJ} {R : hR} {T : am_H} {Q : Option Value → am_H → Prop}
def bdM (I : hI) (p : Int32) (k : Nat) : Int32 := if p = 0 then I 76 k else I 77 k
def puM (I : hI) (p : Int32) (k : Nat) : Int32 := if p = 0 then I 78 k else I 78 (6 + k)
def pcM (I : hI) (p t : Int32) (k : Nat) : Int32 := (if t < puM I p k then puM I p k - t else t - puM I p k) * M_tk (I 74 k) p
def cap6 (x : Int32) : Int32 := if (1000000 : Int32) < x then 1000000 else x
theorem nI_6 (k : Nat) : (6 : Int32) + nI k = nI (6 + k) := nI_add 6 k
theorem nI_z (k : Nat) : (0 : Int32) + nI k = nI k := Int32.zero_add _
theorem m_push {n u m : Nat} {x p t : Int32} (hn : I 73 0 = nI n) (h6 : n ≤ 6) (hu : I 73 36 = nI u) (h8 : u < 8) (hm : I 73 35 = nI m) (hm8 : m ≤ 8) : Ze sc (d + 4) 202 [.ref 73, .int x, .int p, .int t] (HH I J R T) (fun r h =>
    (¬ (M_rod n x ∧ M_01 p) ∧ r = some (.int (-2)) ∧ h = HH I J R T) ∨ ∃ k, k < n ∧ x = nI k ∧ M_01 p ∧
    ((¬ (0 ≤ t.toInt ∧ t.toInt ≤ (bdM I p k).toInt) ∧ r = some (.int (-3)) ∧ h = HH I J R T) ∨ (0 ≤ t.toInt ∧ t.toInt ≤ (bdM I p k).toInt) ∧
    ((stuckM (I 78 12) x p ∧ r = some (.int (-4)) ∧ h = HH I J R T) ∨ ¬ stuckM (I 78 12) x p ∧ ∃ I1, RMm u m I I1 ∧ r = some (.int (pcM I1 p t k)) ∧ h = HH (sf (sf I1 78 (if p = 0 then k else 6 + k) t) 78 13 (cap6 (I1 78 13 + pcM I1 p t k))) J R T))) := by
  refine Ze_of (Nat.le_of_ble_eq_true rfl) ?_
  by_cases hr : M_rod n x ∧ M_01 p
  · obtain ⟨k, hk, hx⟩ := rod_n hr.1
    by_cases ht : 0 ≤ t.toInt ∧ t.toInt ≤ (bdM I p k).toInt
    · by_cases hs : stuckM (I 78 12) x p
      · refine Z_jump 3 rfl ?_
        show Zs _ _ (am_P 202).2 (3, [(0, .ref 73), (1, .int x), (2, .int p), (3, .int t)], [.int p, .int x, .ref 73]) (HH I J R T) _
        refine Z_c1 rfl rfl rfl (m_isPart hn h6) ?_
        show Zs _ _ (am_P 202).2 (6, [(0, .ref 73), (1, .int x), (2, .int p), (3, .int t)], [.int (if M_rod n x ∧ (0 ≤ p.toInt ∧ p.toInt ≤ 1) then 1 else 0)]) (HH I J R T) _
        refine Z_jump 1 rfl ?_
        refine Z_bn (fun c6 => ?_) (fun c6 => absurd c6 ((fun z => if10.mp z hr)))
        refine Z_jump 6 rfl ?_
        show Zs _ _ (am_P 202).2 (18, [(0, .ref 73), (1, .int x), (2, .int p), (3, .int t)], [.int p, .int x, .ref 73, .long (0 : Int64), .long (Int32.toInt64 t)]) (HH I J R T) _
        refine Z_c1 rfl rfl rfl (m_beads (p := p) hx (show k < 6 by omega)) ?_
        show Zs _ _ (am_P 202).2 (21, [(0, .ref 73), (1, .int x), (2, .int p), (3, .int t)], [.int (bdM I p k), .long (0 : Int64), .long (Int32.toInt64 t)]) (HH I J R T) _
        refine Z_jump 1 rfl ?_
        show Zs _ _ (am_P 202).2 (22, [(0, .ref 73), (1, .int x), (2, .int p), (3, .int t)], [.long (Int32.toInt64 (bdM I p k)), .long (0 : Int64), .long (Int32.toInt64 t)]) (HH I J R T) _
        refine Z_c1 rfl rfl rfl (m_inI (a := 0) (b := (bdM I p k).toInt) rfl (i64 _)) ?_
        show Zs _ _ (am_P 202).2 (25, [(0, .ref 73), (1, .int x), (2, .int p), (3, .int t)], [.int (if 0 ≤ t.toInt ∧ t.toInt ≤ (bdM I p k).toInt then 1 else 0)]) (HH I J R T) _
        refine Z_jump 1 rfl ?_
        refine Z_bn (fun c25 => ?_) (fun c25 => absurd c25 ((fun z => if10.mp z ht)))
        refine Z_jump 6 rfl ?_
        show Zs _ _ (am_P 202).2 (40, [(0, .ref 73), (1, .int x), (2, .int p), (3, .int t)], [.int p, .int x, .int (I 78 12)]) (HH I J R T) _
        refine Z_c1 rfl rfl rfl (m_isStuck) ?_
        show Zs _ _ (am_P 202).2 (43, [(0, .ref 73), (1, .int x), (2, .int p), (3, .int t)], [.int (if ((I 78 12) >>> ((2 * x + p) &&& 31)) &&& 1 = 1 then 1 else 0)]) (HH I J R T) _
        refine Z_jump 1 rfl ?_
        refine Z_bd (fun c43 => absurd c43 ((fun z => if10.mp z hs))) (fun c43 => ?_)
        refine Z_jump 1 rfl ?_
        show Zs _ _ (am_P 202).2 (48, [(0, .ref 73), (1, .int x), (2, .int p), (3, .int t)], [.int (-4 : Int32)]) (HH I J R T) _
        refine Z_rI rfl (by first | exact am_nw0 _ | exact am_nw01 | rfl | assumption) ?_
        exact Or.inr ⟨k, hk, hx, hr.2, Or.inr ⟨ht, Or.inl ⟨hs, rfl, rfl⟩⟩⟩
      · by_cases hp : p = 0
        · refine Z_jump 3 rfl ?_
          show Zs _ _ (am_P 202).2 (3, [(0, .ref 73), (1, .int x), (2, .int p), (3, .int t)], [.int p, .int x, .ref 73]) (HH I J R T) _
          refine Z_c1 rfl rfl rfl (m_isPart hn h6) ?_
          show Zs _ _ (am_P 202).2 (6, [(0, .ref 73), (1, .int x), (2, .int p), (3, .int t)], [.int (if M_rod n x ∧ (0 ≤ p.toInt ∧ p.toInt ≤ 1) then 1 else 0)]) (HH I J R T) _
          refine Z_jump 1 rfl ?_
          refine Z_bn (fun c6 => ?_) (fun c6 => absurd c6 ((fun z => if10.mp z hr)))
          refine Z_jump 6 rfl ?_
          show Zs _ _ (am_P 202).2 (18, [(0, .ref 73), (1, .int x), (2, .int p), (3, .int t)], [.int p, .int x, .ref 73, .long (0 : Int64), .long (Int32.toInt64 t)]) (HH I J R T) _
          refine Z_c1 rfl rfl rfl (m_beads (p := p) hx (show k < 6 by omega)) ?_
          show Zs _ _ (am_P 202).2 (21, [(0, .ref 73), (1, .int x), (2, .int p), (3, .int t)], [.int (bdM I p k), .long (0 : Int64), .long (Int32.toInt64 t)]) (HH I J R T) _
          refine Z_jump 1 rfl ?_
          show Zs _ _ (am_P 202).2 (22, [(0, .ref 73), (1, .int x), (2, .int p), (3, .int t)], [.long (Int32.toInt64 (bdM I p k)), .long (0 : Int64), .long (Int32.toInt64 t)]) (HH I J R T) _
          refine Z_c1 rfl rfl rfl (m_inI (a := 0) (b := (bdM I p k).toInt) rfl (i64 _)) ?_
          show Zs _ _ (am_P 202).2 (25, [(0, .ref 73), (1, .int x), (2, .int p), (3, .int t)], [.int (if 0 ≤ t.toInt ∧ t.toInt ≤ (bdM I p k).toInt then 1 else 0)]) (HH I J R T) _
          refine Z_jump 1 rfl ?_
          refine Z_bn (fun c25 => ?_) (fun c25 => absurd c25 ((fun z => if10.mp z ht)))
          refine Z_jump 6 rfl ?_
          show Zs _ _ (am_P 202).2 (40, [(0, .ref 73), (1, .int x), (2, .int p), (3, .int t)], [.int p, .int x, .int (I 78 12)]) (HH I J R T) _
          refine Z_c1 rfl rfl rfl (m_isStuck) ?_
          show Zs _ _ (am_P 202).2 (43, [(0, .ref 73), (1, .int x), (2, .int p), (3, .int t)], [.int (if ((I 78 12) >>> ((2 * x + p) &&& 31)) &&& 1 = 1 then 1 else 0)]) (HH I J R T) _
          refine Z_jump 1 rfl ?_
          refine Z_bd (fun c43 => ?_) (fun c43 => absurd (if10.mpr hs) c43)
          refine Z_jump 1 rfl ?_
          show Zs _ _ (am_P 202).2 (50, [(0, .ref 73), (1, .int x), (2, .int p), (3, .int t)], [.ref 73]) (HH I J R T) _
          refine Z_cQ rfl rfl rfl (Ze_deep (d := 1) (by omega) (m_remember (d := 0) hu h8 hm hm8)) (fun v h1 hq => ?_)
          obtain ⟨rfl, I1, rfl, hq⟩ := hq
          show Zs _ _ (am_P 202).2 (53, [(0, .ref 73), (1, .int x), (2, .int p), (3, .int t)], []) (HH I1 J R T) _
          refine Z_jump 5 rfl ?_
          show Zs _ _ (am_P 202).2 (60, [(0, .ref 73), (1, .int x), (2, .int p), (3, .int t)], [.int p, .int x, .ref 78, .int t]) (HH I1 J R T) _
          refine Z_c1 rfl rfl rfl (m_pushedOf (p := p) (Or.inl rfl) hx (show k < 6 by omega)) ?_
          show Zs _ _ (am_P 202).2 (63, [(0, .ref 73), (1, .int x), (2, .int p), (3, .int t)], [.int (puM I1 p k), .int t]) (HH I1 J R T) _
          show Zs _ _ (am_P 202).2 (63, [(0, .ref 73), (1, .int x), (2, .int p), (3, .int t)], [.int (puM I1 p k), .int t]) (HH I1 J R T) _
          refine Z_c1 rfl rfl rfl (m_apart) ?_
          show Zs _ _ (am_P 202).2 (66, [(0, .ref 73), (1, .int x), (2, .int p), (3, .int t)], [.int (if t < (puM I1 p k) then (puM I1 p k) - t else t - (puM I1 p k))]) (HH I1 J R T) _
          refine Z_jump 3 rfl ?_
          show Zs _ _ (am_P 202).2 (71, [(0, .ref 73), (1, .int x), (2, .int p), (3, .int t)], [.int x, .ref 74, .int (if t < (puM I1 p k) then (puM I1 p k) - t else t - (puM I1 p k))]) (HH I1 J R T) _
          refine Z_ialK (k) rfl rfl (hx) (by omega) (by decide) ?_
          show Zs _ _ (am_P 202).2 (72, [(0, .ref 73), (1, .int x), (2, .int p), (3, .int t)], [.int (I1 74 k), .int (if t < (puM I1 p k) then (puM I1 p k) - t else t - (puM I1 p k))]) (HH I1 J R T) _
          refine Z_jump 1 rfl ?_
          show Zs _ _ (am_P 202).2 (73, [(0, .ref 73), (1, .int x), (2, .int p), (3, .int t)], [.int p, .int (I1 74 k), .int (if t < (puM I1 p k) then (puM I1 p k) - t else t - (puM I1 p k))]) (HH I1 J R T) _
          refine Z_c1 rfl rfl rfl (m_takes) ?_
          show Zs _ _ (am_P 202).2 (76, [(0, .ref 73), (1, .int x), (2, .int p), (3, .int t)], [.int (M_tk (I1 74 k) p), .int (if t < (puM I1 p k) then (puM I1 p k) - t else t - (puM I1 p k))]) (HH I1 J R T) _
          refine Z_jump 6 rfl ?_
          refine Z_bn (fun c84 => absurd (hp) c84) (fun c84 => ?_)
          refine Z_jump 5 rfl ?_
          show Zs _ _ (am_P 202).2 (98, [(0, .ref 73), (1, .int x), (2, .int p), (3, .int t), (4, .int ((if t < (puM I1 p k) then (puM I1 p k) - t else t - (puM I1 p k)) * (M_tk (I1 74 k) p)))], [.int t, .int ((0 : Int32) + x), .ref 78]) (HH I1 J R T) _
          refine Z_iasK (k) rfl rfl ((by rw [hx]; exact nI_z k)) (by omega) (by decide) ?_
          show Zs _ _ (am_P 202).2 (99, [(0, .ref 73), (1, .int x), (2, .int p), (3, .int t), (4, .int ((if t < (puM I1 p k) then (puM I1 p k) - t else t - (puM I1 p k)) * (M_tk (I1 74 k) p)))], []) (HH (sf I1 78 k t) J R T) _
          refine Z_jump 7 rfl ?_
          show Zs _ _ (am_P 202).2 (112, [(0, .ref 73), (1, .int x), (2, .int p), (3, .int t), (4, .int ((if t < (puM I1 p k) then (puM I1 p k) - t else t - (puM I1 p k)) * (M_tk (I1 74 k) p)))], [.int ((sf I1 78 k t) 78 13), .int (13 : Int32), .ref 78]) (HH (sf I1 78 k t) J R T) _
          refine Z_eqI (y := (I1 78 13)) (sf_k (show 13 ≠ k by omega)) ?_
          show Zs _ _ (am_P 202).2 (112, [(0, .ref 73), (1, .int x), (2, .int p), (3, .int t), (4, .int ((if t < (puM I1 p k) then (puM I1 p k) - t else t - (puM I1 p k)) * (M_tk (I1 74 k) p)))], [.int (I1 78 13), .int (13 : Int32), .ref 78]) (HH (sf I1 78 k t) J R T) _
          refine Z_jump 2 rfl ?_
          show Zs _ _ (am_P 202).2 (115, [(0, .ref 73), (1, .int x), (2, .int p), (3, .int t), (4, .int ((if t < (puM I1 p k) then (puM I1 p k) - t else t - (puM I1 p k)) * (M_tk (I1 74 k) p)))], [.int ((I1 78 13) + ((if t < (puM I1 p k) then (puM I1 p k) - t else t - (puM I1 p k)) * (M_tk (I1 74 k) p))), .int (13 : Int32), .ref 78]) (HH (sf I1 78 k t) J R T) _
          refine Z_c1 rfl rfl rfl (m_counted) ?_
          show Zs _ _ (am_P 202).2 (118, [(0, .ref 73), (1, .int x), (2, .int p), (3, .int t), (4, .int ((if t < (puM I1 p k) then (puM I1 p k) - t else t - (puM I1 p k)) * (M_tk (I1 74 k) p)))], [.int (cap6 ((I1 78 13) + ((if t < (puM I1 p k) then (puM I1 p k) - t else t - (puM I1 p k)) * (M_tk (I1 74 k) p)))), .int (13 : Int32), .ref 78]) (HH (sf I1 78 k t) J R T) _
          refine Z_jump 1 rfl ?_
          show Zs _ _ (am_P 202).2 (119, [(0, .ref 73), (1, .int x), (2, .int p), (3, .int t), (4, .int ((if t < (puM I1 p k) then (puM I1 p k) - t else t - (puM I1 p k)) * (M_tk (I1 74 k) p)))], []) (HH (sf (sf I1 78 k t) 78 13 (cap6 ((I1 78 13) + ((if t < (puM I1 p k) then (puM I1 p k) - t else t - (puM I1 p k)) * (M_tk (I1 74 k) p))))) J R T) _
          refine Z_jump 1 rfl ?_
          show Zs _ _ (am_P 202).2 (121, [(0, .ref 73), (1, .int x), (2, .int p), (3, .int t), (4, .int ((if t < (puM I1 p k) then (puM I1 p k) - t else t - (puM I1 p k)) * (M_tk (I1 74 k) p)))], [.int ((if t < (puM I1 p k) then (puM I1 p k) - t else t - (puM I1 p k)) * (M_tk (I1 74 k) p))]) (HH (sf (sf I1 78 k t) 78 13 (cap6 ((I1 78 13) + ((if t < (puM I1 p k) then (puM I1 p k) - t else t - (puM I1 p k)) * (M_tk (I1 74 k) p))))) J R T) _
          refine Z_rI rfl (by first | exact am_nw0 _ | exact am_nw01 | rfl | assumption) ?_
          exact Or.inr ⟨k, hk, hx, hr.2, Or.inr ⟨ht, Or.inr ⟨hs, I1, hq, rfl, by rw [if_pos hp]; rfl⟩⟩⟩
        · refine Z_jump 3 rfl ?_
          show Zs _ _ (am_P 202).2 (3, [(0, .ref 73), (1, .int x), (2, .int p), (3, .int t)], [.int p, .int x, .ref 73]) (HH I J R T) _
          refine Z_c1 rfl rfl rfl (m_isPart hn h6) ?_
          show Zs _ _ (am_P 202).2 (6, [(0, .ref 73), (1, .int x), (2, .int p), (3, .int t)], [.int (if M_rod n x ∧ (0 ≤ p.toInt ∧ p.toInt ≤ 1) then 1 else 0)]) (HH I J R T) _
          refine Z_jump 1 rfl ?_
          refine Z_bn (fun c6 => ?_) (fun c6 => absurd c6 ((fun z => if10.mp z hr)))
          refine Z_jump 6 rfl ?_
          show Zs _ _ (am_P 202).2 (18, [(0, .ref 73), (1, .int x), (2, .int p), (3, .int t)], [.int p, .int x, .ref 73, .long (0 : Int64), .long (Int32.toInt64 t)]) (HH I J R T) _
          refine Z_c1 rfl rfl rfl (m_beads (p := p) hx (show k < 6 by omega)) ?_
          show Zs _ _ (am_P 202).2 (21, [(0, .ref 73), (1, .int x), (2, .int p), (3, .int t)], [.int (bdM I p k), .long (0 : Int64), .long (Int32.toInt64 t)]) (HH I J R T) _
          refine Z_jump 1 rfl ?_
          show Zs _ _ (am_P 202).2 (22, [(0, .ref 73), (1, .int x), (2, .int p), (3, .int t)], [.long (Int32.toInt64 (bdM I p k)), .long (0 : Int64), .long (Int32.toInt64 t)]) (HH I J R T) _
          refine Z_c1 rfl rfl rfl (m_inI (a := 0) (b := (bdM I p k).toInt) rfl (i64 _)) ?_
          show Zs _ _ (am_P 202).2 (25, [(0, .ref 73), (1, .int x), (2, .int p), (3, .int t)], [.int (if 0 ≤ t.toInt ∧ t.toInt ≤ (bdM I p k).toInt then 1 else 0)]) (HH I J R T) _
          refine Z_jump 1 rfl ?_
          refine Z_bn (fun c25 => ?_) (fun c25 => absurd c25 ((fun z => if10.mp z ht)))
          refine Z_jump 6 rfl ?_
          show Zs _ _ (am_P 202).2 (40, [(0, .ref 73), (1, .int x), (2, .int p), (3, .int t)], [.int p, .int x, .int (I 78 12)]) (HH I J R T) _
          refine Z_c1 rfl rfl rfl (m_isStuck) ?_
          show Zs _ _ (am_P 202).2 (43, [(0, .ref 73), (1, .int x), (2, .int p), (3, .int t)], [.int (if ((I 78 12) >>> ((2 * x + p) &&& 31)) &&& 1 = 1 then 1 else 0)]) (HH I J R T) _
          refine Z_jump 1 rfl ?_
          refine Z_bd (fun c43 => ?_) (fun c43 => absurd (if10.mpr hs) c43)
          refine Z_jump 1 rfl ?_
          show Zs _ _ (am_P 202).2 (50, [(0, .ref 73), (1, .int x), (2, .int p), (3, .int t)], [.ref 73]) (HH I J R T) _
          refine Z_cQ rfl rfl rfl (Ze_deep (d := 1) (by omega) (m_remember (d := 0) hu h8 hm hm8)) (fun v h1 hq => ?_)
          obtain ⟨rfl, I1, rfl, hq⟩ := hq
          show Zs _ _ (am_P 202).2 (53, [(0, .ref 73), (1, .int x), (2, .int p), (3, .int t)], []) (HH I1 J R T) _
          refine Z_jump 5 rfl ?_
          show Zs _ _ (am_P 202).2 (60, [(0, .ref 73), (1, .int x), (2, .int p), (3, .int t)], [.int p, .int x, .ref 78, .int t]) (HH I1 J R T) _
          refine Z_c1 rfl rfl rfl (m_pushedOf (p := p) (Or.inl rfl) hx (show k < 6 by omega)) ?_
          show Zs _ _ (am_P 202).2 (63, [(0, .ref 73), (1, .int x), (2, .int p), (3, .int t)], [.int (puM I1 p k), .int t]) (HH I1 J R T) _
          show Zs _ _ (am_P 202).2 (63, [(0, .ref 73), (1, .int x), (2, .int p), (3, .int t)], [.int (puM I1 p k), .int t]) (HH I1 J R T) _
          refine Z_c1 rfl rfl rfl (m_apart) ?_
          show Zs _ _ (am_P 202).2 (66, [(0, .ref 73), (1, .int x), (2, .int p), (3, .int t)], [.int (if t < (puM I1 p k) then (puM I1 p k) - t else t - (puM I1 p k))]) (HH I1 J R T) _
          refine Z_jump 3 rfl ?_
          show Zs _ _ (am_P 202).2 (71, [(0, .ref 73), (1, .int x), (2, .int p), (3, .int t)], [.int x, .ref 74, .int (if t < (puM I1 p k) then (puM I1 p k) - t else t - (puM I1 p k))]) (HH I1 J R T) _
          refine Z_ialK (k) rfl rfl (hx) (by omega) (by decide) ?_
          show Zs _ _ (am_P 202).2 (72, [(0, .ref 73), (1, .int x), (2, .int p), (3, .int t)], [.int (I1 74 k), .int (if t < (puM I1 p k) then (puM I1 p k) - t else t - (puM I1 p k))]) (HH I1 J R T) _
          refine Z_jump 1 rfl ?_
          show Zs _ _ (am_P 202).2 (73, [(0, .ref 73), (1, .int x), (2, .int p), (3, .int t)], [.int p, .int (I1 74 k), .int (if t < (puM I1 p k) then (puM I1 p k) - t else t - (puM I1 p k))]) (HH I1 J R T) _
          refine Z_c1 rfl rfl rfl (m_takes) ?_
          show Zs _ _ (am_P 202).2 (76, [(0, .ref 73), (1, .int x), (2, .int p), (3, .int t)], [.int (M_tk (I1 74 k) p), .int (if t < (puM I1 p k) then (puM I1 p k) - t else t - (puM I1 p k))]) (HH I1 J R T) _
          refine Z_jump 6 rfl ?_
          refine Z_bn (fun c84 => ?_) (fun c84 => absurd c84 (hp))
          refine Z_jump 4 rfl ?_
          show Zs _ _ (am_P 202).2 (98, [(0, .ref 73), (1, .int x), (2, .int p), (3, .int t), (4, .int ((if t < (puM I1 p k) then (puM I1 p k) - t else t - (puM I1 p k)) * (M_tk (I1 74 k) p)))], [.int t, .int ((6 : Int32) + x), .ref 78]) (HH I1 J R T) _
          refine Z_iasK (6 + k) rfl rfl ((by rw [hx]; exact nI_6 k)) (by omega) (by decide) ?_
          show Zs _ _ (am_P 202).2 (99, [(0, .ref 73), (1, .int x), (2, .int p), (3, .int t), (4, .int ((if t < (puM I1 p k) then (puM I1 p k) - t else t - (puM I1 p k)) * (M_tk (I1 74 k) p)))], []) (HH (sf I1 78 (6 + k) t) J R T) _
          refine Z_jump 7 rfl ?_
          show Zs _ _ (am_P 202).2 (112, [(0, .ref 73), (1, .int x), (2, .int p), (3, .int t), (4, .int ((if t < (puM I1 p k) then (puM I1 p k) - t else t - (puM I1 p k)) * (M_tk (I1 74 k) p)))], [.int ((sf I1 78 (6 + k) t) 78 13), .int (13 : Int32), .ref 78]) (HH (sf I1 78 (6 + k) t) J R T) _
          refine Z_eqI (y := (I1 78 13)) (sf_k (show 13 ≠ 6 + k by omega)) ?_
          show Zs _ _ (am_P 202).2 (112, [(0, .ref 73), (1, .int x), (2, .int p), (3, .int t), (4, .int ((if t < (puM I1 p k) then (puM I1 p k) - t else t - (puM I1 p k)) * (M_tk (I1 74 k) p)))], [.int (I1 78 13), .int (13 : Int32), .ref 78]) (HH (sf I1 78 (6 + k) t) J R T) _
          refine Z_jump 2 rfl ?_
          show Zs _ _ (am_P 202).2 (115, [(0, .ref 73), (1, .int x), (2, .int p), (3, .int t), (4, .int ((if t < (puM I1 p k) then (puM I1 p k) - t else t - (puM I1 p k)) * (M_tk (I1 74 k) p)))], [.int ((I1 78 13) + ((if t < (puM I1 p k) then (puM I1 p k) - t else t - (puM I1 p k)) * (M_tk (I1 74 k) p))), .int (13 : Int32), .ref 78]) (HH (sf I1 78 (6 + k) t) J R T) _
          refine Z_c1 rfl rfl rfl (m_counted) ?_
          show Zs _ _ (am_P 202).2 (118, [(0, .ref 73), (1, .int x), (2, .int p), (3, .int t), (4, .int ((if t < (puM I1 p k) then (puM I1 p k) - t else t - (puM I1 p k)) * (M_tk (I1 74 k) p)))], [.int (cap6 ((I1 78 13) + ((if t < (puM I1 p k) then (puM I1 p k) - t else t - (puM I1 p k)) * (M_tk (I1 74 k) p)))), .int (13 : Int32), .ref 78]) (HH (sf I1 78 (6 + k) t) J R T) _
          refine Z_jump 1 rfl ?_
          show Zs _ _ (am_P 202).2 (119, [(0, .ref 73), (1, .int x), (2, .int p), (3, .int t), (4, .int ((if t < (puM I1 p k) then (puM I1 p k) - t else t - (puM I1 p k)) * (M_tk (I1 74 k) p)))], []) (HH (sf (sf I1 78 (6 + k) t) 78 13 (cap6 ((I1 78 13) + ((if t < (puM I1 p k) then (puM I1 p k) - t else t - (puM I1 p k)) * (M_tk (I1 74 k) p))))) J R T) _
          refine Z_jump 1 rfl ?_
          show Zs _ _ (am_P 202).2 (121, [(0, .ref 73), (1, .int x), (2, .int p), (3, .int t), (4, .int ((if t < (puM I1 p k) then (puM I1 p k) - t else t - (puM I1 p k)) * (M_tk (I1 74 k) p)))], [.int ((if t < (puM I1 p k) then (puM I1 p k) - t else t - (puM I1 p k)) * (M_tk (I1 74 k) p))]) (HH (sf (sf I1 78 (6 + k) t) 78 13 (cap6 ((I1 78 13) + ((if t < (puM I1 p k) then (puM I1 p k) - t else t - (puM I1 p k)) * (M_tk (I1 74 k) p))))) J R T) _
          refine Z_rI rfl (by first | exact am_nw0 _ | exact am_nw01 | rfl | assumption) ?_
          exact Or.inr ⟨k, hk, hx, hr.2, Or.inr ⟨ht, Or.inr ⟨hs, I1, hq, rfl, by rw [if_neg hp]; rfl⟩⟩⟩
    · refine Z_jump 3 rfl ?_
      show Zs _ _ (am_P 202).2 (3, [(0, .ref 73), (1, .int x), (2, .int p), (3, .int t)], [.int p, .int x, .ref 73]) (HH I J R T) _
      refine Z_c1 rfl rfl rfl (m_isPart hn h6) ?_
      show Zs _ _ (am_P 202).2 (6, [(0, .ref 73), (1, .int x), (2, .int p), (3, .int t)], [.int (if M_rod n x ∧ (0 ≤ p.toInt ∧ p.toInt ≤ 1) then 1 else 0)]) (HH I J R T) _
      refine Z_jump 1 rfl ?_
      refine Z_bn (fun c6 => ?_) (fun c6 => absurd c6 ((fun z => if10.mp z hr)))
      refine Z_jump 6 rfl ?_
      show Zs _ _ (am_P 202).2 (18, [(0, .ref 73), (1, .int x), (2, .int p), (3, .int t)], [.int p, .int x, .ref 73, .long (0 : Int64), .long (Int32.toInt64 t)]) (HH I J R T) _
      refine Z_c1 rfl rfl rfl (m_beads (p := p) hx (show k < 6 by omega)) ?_
      show Zs _ _ (am_P 202).2 (21, [(0, .ref 73), (1, .int x), (2, .int p), (3, .int t)], [.int (bdM I p k), .long (0 : Int64), .long (Int32.toInt64 t)]) (HH I J R T) _
      refine Z_jump 1 rfl ?_
      show Zs _ _ (am_P 202).2 (22, [(0, .ref 73), (1, .int x), (2, .int p), (3, .int t)], [.long (Int32.toInt64 (bdM I p k)), .long (0 : Int64), .long (Int32.toInt64 t)]) (HH I J R T) _
      refine Z_c1 rfl rfl rfl (m_inI (a := 0) (b := (bdM I p k).toInt) rfl (i64 _)) ?_
      show Zs _ _ (am_P 202).2 (25, [(0, .ref 73), (1, .int x), (2, .int p), (3, .int t)], [.int (if 0 ≤ t.toInt ∧ t.toInt ≤ (bdM I p k).toInt then 1 else 0)]) (HH I J R T) _
      refine Z_jump 1 rfl ?_
      refine Z_bn (fun c25 => absurd (if10.mpr ht) c25) (fun c25 => ?_)
      refine Z_jump 1 rfl ?_
      show Zs _ _ (am_P 202).2 (30, [(0, .ref 73), (1, .int x), (2, .int p), (3, .int t)], [.int (-3 : Int32)]) (HH I J R T) _
      refine Z_rI rfl (by first | exact am_nw0 _ | exact am_nw01 | rfl | assumption) ?_
      exact Or.inr ⟨k, hk, hx, hr.2, Or.inl ⟨ht, rfl, rfl⟩⟩
  · refine Z_jump 3 rfl ?_
    show Zs _ _ (am_P 202).2 (3, [(0, .ref 73), (1, .int x), (2, .int p), (3, .int t)], [.int p, .int x, .ref 73]) (HH I J R T) _
    refine Z_c1 rfl rfl rfl (m_isPart hn h6) ?_
    show Zs _ _ (am_P 202).2 (6, [(0, .ref 73), (1, .int x), (2, .int p), (3, .int t)], [.int (if M_rod n x ∧ (0 ≤ p.toInt ∧ p.toInt ≤ 1) then 1 else 0)]) (HH I J R T) _
    refine Z_jump 1 rfl ?_
    refine Z_bn (fun c6 => absurd (if10.mpr hr) c6) (fun c6 => ?_)
    refine Z_jump 1 rfl ?_
    show Zs _ _ (am_P 202).2 (11, [(0, .ref 73), (1, .int x), (2, .int p), (3, .int t)], [.int (-2 : Int32)]) (HH I J R T) _
    refine Z_rI rfl (by first | exact am_nw0 _ | exact am_nw01 | rfl | assumption) ?_
    exact Or.inl ⟨hr, rfl, rfl⟩
def rodM (I : hI) (k : Nat) (x w : Int32) : Int32 := if w = 0 then I 74 k else if w = 1 then I 75 k else if w = 2 then I 76 k else if w = 3 then I 77 k else if w = 4 then I 78 k else if w = 5 then I 78 (6 + k) else if w = 6 then (if stuckM (I 78 12) x 0 then 1 else 0) else if w = 7 then (if stuckM (I 78 12) x 1 then 1 else 0) else if w = 8 then M_sh I 78 k else if w = 9 then I 76 k + I 77 k * M_wo I k else -3
theorem w_c {w : Int32} (h : ¬ (w.toInt < 0 ∨ 9 < w.toInt)) : w = 0 ∨ w = 1 ∨ w = 2 ∨ w = 3 ∨ w = 4 ∨ w = 5 ∨ w = 6 ∨ w = 7 ∨ w = 8 ∨ w = 9 := by
  obtain ⟨j, hj, e⟩ := nI_of (x := w) (by rw [fi_lt]; have z : (0 : Int32).toInt = 0 := rfl; omega)
  rw [e, nI_toInt hj] at h
  rcases (show j = 0 ∨ j = 1 ∨ j = 2 ∨ j = 3 ∨ j = 4 ∨ j = 5 ∨ j = 6 ∨ j = 7 ∨ j = 8 ∨ j = 9 by omega) with rfl | rfl | rfl | rfl | rfl | rfl | rfl | rfl | rfl | rfl <;> (subst e; decide)
theorem w_o {w : Int32} (h : w.toInt < 0 ∨ 9 < w.toInt) : w ≠ 0 ∧ w ≠ 1 ∧ w ≠ 2 ∧ w ≠ 3 ∧ w ≠ 4 ∧ w ≠ 5 ∧ w ≠ 6 ∧ w ≠ 7 ∧ w ≠ 8 ∧ w ≠ 9 := by
  refine ⟨?_, ?_, ?_, ?_, ?_, ?_, ?_, ?_, ?_, ?_⟩ <;> (intro z; subst z; revert h; decide)
theorem m_rod {n : Nat} {x w : Int32} (hn : I 73 0 = nI n) (h6 : n ≤ 6) : Ze sc (d + 4) 161 [.ref 73, .int x, .int w] (HH I J R T) (fun r h => h = HH I J R T ∧ ((¬ M_rod n x ∧ r = some (.int (-2))) ∨ ∃ k, k < n ∧ x = nI k ∧ r = some (.int (rodM I k x w)))) := by
  refine Ze_of (Nat.le_of_ble_eq_true rfl) ?_
  by_cases hr : M_rod n x
  · obtain ⟨k, hk, hx⟩ := rod_n hr
    by_cases hw : w.toInt < 0 ∨ 9 < w.toInt
    · have e : rodM I k x w = -3 := by
        obtain ⟨a0, a1, a2, a3, a4, a5, a6, a7, a8, a9⟩ := w_o hw
        unfold rodM
        rw [if_neg a0, if_neg a1, if_neg a2, if_neg a3, if_neg a4, if_neg a5, if_neg a6, if_neg a7, if_neg a8, if_neg a9]
      refine Z_jump 2 rfl ?_
      show Zs _ _ (am_P 161).2 (2, [(0, .ref 73), (1, .int x), (2, .int w)], [.int x, .ref 73]) (HH I J R T) _
      refine Z_c1 rfl rfl rfl (m_isRodN hn h6) ?_
      show Zs _ _ (am_P 161).2 (5, [(0, .ref 73), (1, .int x), (2, .int w)], [.int (if M_rod n x then 1 else 0)]) (HH I J R T) _
      refine Z_jump 1 rfl ?_
      refine Z_bn (fun c5 => ?_) (fun c5 => absurd c5 ((fun z => if10.mp z hr)))
      refine Z_jump 1 rfl ?_
      show Zs _ _ (am_P 161).2 (12, [(0, .ref 73), (1, .int x), (2, .int w)], [.int w]) (HH I J R T) _
      refine Z_tsO rfl (hw) ?_
      show Zs _ _ (am_P 161).2 (187, [(0, .ref 73), (1, .int x), (2, .int w)], []) (HH I J R T) _
      refine Z_jump 1 rfl ?_
      show Zs _ _ (am_P 161).2 (189, [(0, .ref 73), (1, .int x), (2, .int w)], [.int (-3 : Int32)]) (HH I J R T) _
      refine Z_rI rfl (by first | exact am_nw0 _ | exact am_nw01 | rfl | assumption) ?_
      exact ⟨rfl, Or.inr ⟨k, hk, hx, am_ii e.symm⟩⟩
    · rcases w_c hw with rfl | rfl | rfl | rfl | rfl | rfl | rfl | rfl | rfl | rfl
      · refine Z_jump 2 rfl ?_
        show Zs _ _ (am_P 161).2 (2, [(0, .ref 73), (1, .int x), (2, .int (0 : Int32))], [.int x, .ref 73]) (HH I J R T) _
        refine Z_c1 rfl rfl rfl (m_isRodN hn h6) ?_
        show Zs _ _ (am_P 161).2 (5, [(0, .ref 73), (1, .int x), (2, .int (0 : Int32))], [.int (if M_rod n x then 1 else 0)]) (HH I J R T) _
        refine Z_jump 1 rfl ?_
        refine Z_bn (fun c5 => ?_) (fun c5 => absurd c5 ((fun z => if10.mp z hr)))
        refine Z_jump 5 rfl ?_
        show Zs _ _ (am_P 161).2 (73, [(0, .ref 73), (1, .int x), (2, .int (0 : Int32))], [.int x, .ref 74]) (HH I J R T) _
        refine Z_ialK (k) rfl rfl (hx) (by omega) (by decide) ?_
        show Zs _ _ (am_P 161).2 (74, [(0, .ref 73), (1, .int x), (2, .int (0 : Int32))], [.int (I 74 k)]) (HH I J R T) _
        show Zs _ _ (am_P 161).2 (74, [(0, .ref 73), (1, .int x), (2, .int (0 : Int32))], [.int (I 74 k)]) (HH I J R T) _
        refine Z_rI rfl (by first | exact am_nw0 _ | exact am_nw01 | rfl | assumption) ?_
        exact ⟨rfl, Or.inr ⟨k, hk, hx, rfl⟩⟩
      · refine Z_jump 2 rfl ?_
        show Zs _ _ (am_P 161).2 (2, [(0, .ref 73), (1, .int x), (2, .int (1 : Int32))], [.int x, .ref 73]) (HH I J R T) _
        refine Z_c1 rfl rfl rfl (m_isRodN hn h6) ?_
        show Zs _ _ (am_P 161).2 (5, [(0, .ref 73), (1, .int x), (2, .int (1 : Int32))], [.int (if M_rod n x then 1 else 0)]) (HH I J R T) _
        refine Z_jump 1 rfl ?_
        refine Z_bn (fun c5 => ?_) (fun c5 => absurd c5 ((fun z => if10.mp z hr)))
        refine Z_jump 5 rfl ?_
        show Zs _ _ (am_P 161).2 (80, [(0, .ref 73), (1, .int x), (2, .int (1 : Int32))], [.int x, .ref 75]) (HH I J R T) _
        refine Z_ialK (k) rfl rfl (hx) (by omega) (by decide) ?_
        show Zs _ _ (am_P 161).2 (81, [(0, .ref 73), (1, .int x), (2, .int (1 : Int32))], [.int (I 75 k)]) (HH I J R T) _
        show Zs _ _ (am_P 161).2 (81, [(0, .ref 73), (1, .int x), (2, .int (1 : Int32))], [.int (I 75 k)]) (HH I J R T) _
        refine Z_rI rfl (by first | exact am_nw0 _ | exact am_nw01 | rfl | assumption) ?_
        exact ⟨rfl, Or.inr ⟨k, hk, hx, rfl⟩⟩
      · refine Z_jump 2 rfl ?_
        show Zs _ _ (am_P 161).2 (2, [(0, .ref 73), (1, .int x), (2, .int (2 : Int32))], [.int x, .ref 73]) (HH I J R T) _
        refine Z_c1 rfl rfl rfl (m_isRodN hn h6) ?_
        show Zs _ _ (am_P 161).2 (5, [(0, .ref 73), (1, .int x), (2, .int (2 : Int32))], [.int (if M_rod n x then 1 else 0)]) (HH I J R T) _
        refine Z_jump 1 rfl ?_
        refine Z_bn (fun c5 => ?_) (fun c5 => absurd c5 ((fun z => if10.mp z hr)))
        refine Z_jump 5 rfl ?_
        show Zs _ _ (am_P 161).2 (87, [(0, .ref 73), (1, .int x), (2, .int (2 : Int32))], [.int x, .ref 76]) (HH I J R T) _
        refine Z_ialK (k) rfl rfl (hx) (by omega) (by decide) ?_
        show Zs _ _ (am_P 161).2 (88, [(0, .ref 73), (1, .int x), (2, .int (2 : Int32))], [.int (I 76 k)]) (HH I J R T) _
        show Zs _ _ (am_P 161).2 (88, [(0, .ref 73), (1, .int x), (2, .int (2 : Int32))], [.int (I 76 k)]) (HH I J R T) _
        refine Z_rI rfl (by first | exact am_nw0 _ | exact am_nw01 | rfl | assumption) ?_
        exact ⟨rfl, Or.inr ⟨k, hk, hx, rfl⟩⟩
      · refine Z_jump 2 rfl ?_
        show Zs _ _ (am_P 161).2 (2, [(0, .ref 73), (1, .int x), (2, .int (3 : Int32))], [.int x, .ref 73]) (HH I J R T) _
        refine Z_c1 rfl rfl rfl (m_isRodN hn h6) ?_
        show Zs _ _ (am_P 161).2 (5, [(0, .ref 73), (1, .int x), (2, .int (3 : Int32))], [.int (if M_rod n x then 1 else 0)]) (HH I J R T) _
        refine Z_jump 1 rfl ?_
        refine Z_bn (fun c5 => ?_) (fun c5 => absurd c5 ((fun z => if10.mp z hr)))
        refine Z_jump 5 rfl ?_
        show Zs _ _ (am_P 161).2 (94, [(0, .ref 73), (1, .int x), (2, .int (3 : Int32))], [.int x, .ref 77]) (HH I J R T) _
        refine Z_ialK (k) rfl rfl (hx) (by omega) (by decide) ?_
        show Zs _ _ (am_P 161).2 (95, [(0, .ref 73), (1, .int x), (2, .int (3 : Int32))], [.int (I 77 k)]) (HH I J R T) _
        show Zs _ _ (am_P 161).2 (95, [(0, .ref 73), (1, .int x), (2, .int (3 : Int32))], [.int (I 77 k)]) (HH I J R T) _
        refine Z_rI rfl (by first | exact am_nw0 _ | exact am_nw01 | rfl | assumption) ?_
        exact ⟨rfl, Or.inr ⟨k, hk, hx, rfl⟩⟩
      · refine Z_jump 2 rfl ?_
        show Zs _ _ (am_P 161).2 (2, [(0, .ref 73), (1, .int x), (2, .int (4 : Int32))], [.int x, .ref 73]) (HH I J R T) _
        refine Z_c1 rfl rfl rfl (m_isRodN hn h6) ?_
        show Zs _ _ (am_P 161).2 (5, [(0, .ref 73), (1, .int x), (2, .int (4 : Int32))], [.int (if M_rod n x then 1 else 0)]) (HH I J R T) _
        refine Z_jump 1 rfl ?_
        refine Z_bn (fun c5 => ?_) (fun c5 => absurd c5 ((fun z => if10.mp z hr)))
        refine Z_jump 7 rfl ?_
        show Zs _ _ (am_P 161).2 (103, [(0, .ref 73), (1, .int x), (2, .int (4 : Int32))], [.int ((0 : Int32) + x), .ref 78]) (HH I J R T) _
        refine Z_ialK (k) rfl rfl ((by rw [hx]; exact nI_z k)) (by omega) (by decide) ?_
        show Zs _ _ (am_P 161).2 (104, [(0, .ref 73), (1, .int x), (2, .int (4 : Int32))], [.int (I 78 k)]) (HH I J R T) _
        show Zs _ _ (am_P 161).2 (104, [(0, .ref 73), (1, .int x), (2, .int (4 : Int32))], [.int (I 78 k)]) (HH I J R T) _
        refine Z_rI rfl (by first | exact am_nw0 _ | exact am_nw01 | rfl | assumption) ?_
        exact ⟨rfl, Or.inr ⟨k, hk, hx, rfl⟩⟩
      · refine Z_jump 2 rfl ?_
        show Zs _ _ (am_P 161).2 (2, [(0, .ref 73), (1, .int x), (2, .int (5 : Int32))], [.int x, .ref 73]) (HH I J R T) _
        refine Z_c1 rfl rfl rfl (m_isRodN hn h6) ?_
        show Zs _ _ (am_P 161).2 (5, [(0, .ref 73), (1, .int x), (2, .int (5 : Int32))], [.int (if M_rod n x then 1 else 0)]) (HH I J R T) _
        refine Z_jump 1 rfl ?_
        refine Z_bn (fun c5 => ?_) (fun c5 => absurd c5 ((fun z => if10.mp z hr)))
        refine Z_jump 7 rfl ?_
        show Zs _ _ (am_P 161).2 (113, [(0, .ref 73), (1, .int x), (2, .int (5 : Int32))], [.int ((6 : Int32) + x), .ref 78]) (HH I J R T) _
        refine Z_ialK (6 + k) rfl rfl ((by rw [hx]; exact nI_6 k)) (by omega) (by decide) ?_
        show Zs _ _ (am_P 161).2 (114, [(0, .ref 73), (1, .int x), (2, .int (5 : Int32))], [.int (I 78 (6 + k))]) (HH I J R T) _
        show Zs _ _ (am_P 161).2 (114, [(0, .ref 73), (1, .int x), (2, .int (5 : Int32))], [.int (I 78 (6 + k))]) (HH I J R T) _
        refine Z_rI rfl (by first | exact am_nw0 _ | exact am_nw01 | rfl | assumption) ?_
        exact ⟨rfl, Or.inr ⟨k, hk, hx, rfl⟩⟩
      · refine Z_jump 2 rfl ?_
        show Zs _ _ (am_P 161).2 (2, [(0, .ref 73), (1, .int x), (2, .int (6 : Int32))], [.int x, .ref 73]) (HH I J R T) _
        refine Z_c1 rfl rfl rfl (m_isRodN hn h6) ?_
        show Zs _ _ (am_P 161).2 (5, [(0, .ref 73), (1, .int x), (2, .int (6 : Int32))], [.int (if M_rod n x then 1 else 0)]) (HH I J R T) _
        refine Z_jump 1 rfl ?_
        refine Z_bn (fun c5 => ?_) (fun c5 => absurd c5 ((fun z => if10.mp z hr)))
        refine Z_jump 8 rfl ?_
        show Zs _ _ (am_P 161).2 (124, [(0, .ref 73), (1, .int x), (2, .int (6 : Int32))], [.int (0 : Int32), .int x, .int (I 78 12)]) (HH I J R T) _
        refine Z_c1 rfl rfl rfl (m_isStuck) ?_
        show Zs _ _ (am_P 161).2 (127, [(0, .ref 73), (1, .int x), (2, .int (6 : Int32))], [.int (if ((I 78 12) >>> ((2 * x + 0) &&& 31)) &&& 1 = 1 then 1 else 0)]) (HH I J R T) _
        refine Z_jump 1 rfl ?_
        refine Z_bd (fun (c127 : (if ((I 78 12) >>> ((2 * x + 0) &&& 31)) &&& 1 = 1 then 1 else 0) = (0 : Int32)) => ?_) (fun (c127 : ¬ ((if ((I 78 12) >>> ((2 * x + 0) &&& 31)) &&& 1 = 1 then 1 else 0) = (0 : Int32))) => ?_)
        · refine Z_jump 1 rfl ?_
          show Zs _ _ (am_P 161).2 (135, [(0, .ref 73), (1, .int x), (2, .int (6 : Int32))], [.int (0 : Int32)]) (HH I J R T) _
          refine Z_rI rfl (by first | exact am_nw0 _ | exact am_nw01 | rfl | assumption) ?_
          exact ⟨rfl, Or.inr ⟨k, hk, hx, am_ii (if_neg (if10.mp c127)).symm⟩⟩
        · refine Z_jump 2 rfl ?_
          show Zs _ _ (am_P 161).2 (135, [(0, .ref 73), (1, .int x), (2, .int (6 : Int32))], [.int (1 : Int32)]) (HH I J R T) _
          refine Z_rI rfl (by first | exact am_nw0 _ | exact am_nw01 | rfl | assumption) ?_
          exact ⟨rfl, Or.inr ⟨k, hk, hx, am_ii (if_pos (if10n c127)).symm⟩⟩
      · refine Z_jump 2 rfl ?_
        show Zs _ _ (am_P 161).2 (2, [(0, .ref 73), (1, .int x), (2, .int (7 : Int32))], [.int x, .ref 73]) (HH I J R T) _
        refine Z_c1 rfl rfl rfl (m_isRodN hn h6) ?_
        show Zs _ _ (am_P 161).2 (5, [(0, .ref 73), (1, .int x), (2, .int (7 : Int32))], [.int (if M_rod n x then 1 else 0)]) (HH I J R T) _
        refine Z_jump 1 rfl ?_
        refine Z_bn (fun c5 => ?_) (fun c5 => absurd c5 ((fun z => if10.mp z hr)))
        refine Z_jump 8 rfl ?_
        show Zs _ _ (am_P 161).2 (145, [(0, .ref 73), (1, .int x), (2, .int (7 : Int32))], [.int (1 : Int32), .int x, .int (I 78 12)]) (HH I J R T) _
        refine Z_c1 rfl rfl rfl (m_isStuck) ?_
        show Zs _ _ (am_P 161).2 (148, [(0, .ref 73), (1, .int x), (2, .int (7 : Int32))], [.int (if ((I 78 12) >>> ((2 * x + 1) &&& 31)) &&& 1 = 1 then 1 else 0)]) (HH I J R T) _
        refine Z_jump 1 rfl ?_
        refine Z_bd (fun (c148 : (if ((I 78 12) >>> ((2 * x + 1) &&& 31)) &&& 1 = 1 then 1 else 0) = (0 : Int32)) => ?_) (fun (c148 : ¬ ((if ((I 78 12) >>> ((2 * x + 1) &&& 31)) &&& 1 = 1 then 1 else 0) = (0 : Int32))) => ?_)
        · refine Z_jump 1 rfl ?_
          show Zs _ _ (am_P 161).2 (156, [(0, .ref 73), (1, .int x), (2, .int (7 : Int32))], [.int (0 : Int32)]) (HH I J R T) _
          refine Z_rI rfl (by first | exact am_nw0 _ | exact am_nw01 | rfl | assumption) ?_
          exact ⟨rfl, Or.inr ⟨k, hk, hx, am_ii (if_neg (if10.mp c148)).symm⟩⟩
        · refine Z_jump 2 rfl ?_
          show Zs _ _ (am_P 161).2 (156, [(0, .ref 73), (1, .int x), (2, .int (7 : Int32))], [.int (1 : Int32)]) (HH I J R T) _
          refine Z_rI rfl (by first | exact am_nw0 _ | exact am_nw01 | rfl | assumption) ?_
          exact ⟨rfl, Or.inr ⟨k, hk, hx, am_ii (if_pos (if10n c148)).symm⟩⟩
      · refine Z_jump 2 rfl ?_
        show Zs _ _ (am_P 161).2 (2, [(0, .ref 73), (1, .int x), (2, .int (8 : Int32))], [.int x, .ref 73]) (HH I J R T) _
        refine Z_c1 rfl rfl rfl (m_isRodN hn h6) ?_
        show Zs _ _ (am_P 161).2 (5, [(0, .ref 73), (1, .int x), (2, .int (8 : Int32))], [.int (if M_rod n x then 1 else 0)]) (HH I J R T) _
        refine Z_jump 1 rfl ?_
        refine Z_bn (fun c5 => ?_) (fun c5 => absurd c5 ((fun z => if10.mp z hr)))
        refine Z_jump 6 rfl ?_
        show Zs _ _ (am_P 161).2 (163, [(0, .ref 73), (1, .int x), (2, .int (8 : Int32))], [.int x, .ref 78, .ref 73]) (HH I J R T) _
        refine Z_c1 rfl rfl rfl (m_shows (Or.inl rfl) hx (show k < 6 by omega)) ?_
        show Zs _ _ (am_P 161).2 (166, [(0, .ref 73), (1, .int x), (2, .int (8 : Int32))], [.int (M_sh I 78 k)]) (HH I J R T) _
        show Zs _ _ (am_P 161).2 (166, [(0, .ref 73), (1, .int x), (2, .int (8 : Int32))], [.int (M_sh I 78 k)]) (HH I J R T) _
        refine Z_rI rfl (by first | exact am_nw0 _ | exact am_nw01 | rfl | assumption) ?_
        exact ⟨rfl, Or.inr ⟨k, hk, hx, rfl⟩⟩
      · refine Z_jump 2 rfl ?_
        show Zs _ _ (am_P 161).2 (2, [(0, .ref 73), (1, .int x), (2, .int (9 : Int32))], [.int x, .ref 73]) (HH I J R T) _
        refine Z_c1 rfl rfl rfl (m_isRodN hn h6) ?_
        show Zs _ _ (am_P 161).2 (5, [(0, .ref 73), (1, .int x), (2, .int (9 : Int32))], [.int (if M_rod n x then 1 else 0)]) (HH I J R T) _
        refine Z_jump 1 rfl ?_
        refine Z_bn (fun c5 => ?_) (fun c5 => absurd c5 ((fun z => if10.mp z hr)))
        refine Z_jump 5 rfl ?_
        show Zs _ _ (am_P 161).2 (172, [(0, .ref 73), (1, .int x), (2, .int (9 : Int32))], [.int x, .ref 76]) (HH I J R T) _
        refine Z_ialK (k) rfl rfl (hx) (by omega) (by decide) ?_
        show Zs _ _ (am_P 161).2 (173, [(0, .ref 73), (1, .int x), (2, .int (9 : Int32))], [.int (I 76 k)]) (HH I J R T) _
        refine Z_jump 3 rfl ?_
        show Zs _ _ (am_P 161).2 (178, [(0, .ref 73), (1, .int x), (2, .int (9 : Int32))], [.int x, .ref 77, .int (I 76 k)]) (HH I J R T) _
        refine Z_ialK (k) rfl rfl (hx) (by omega) (by decide) ?_
        show Zs _ _ (am_P 161).2 (179, [(0, .ref 73), (1, .int x), (2, .int (9 : Int32))], [.int (I 77 k), .int (I 76 k)]) (HH I J R T) _
        refine Z_jump 2 rfl ?_
        show Zs _ _ (am_P 161).2 (181, [(0, .ref 73), (1, .int x), (2, .int (9 : Int32))], [.int x, .ref 73, .int (I 77 k), .int (I 76 k)]) (HH I J R T) _
        refine Z_c1 rfl rfl rfl (m_worthK hx (show k < 6 by omega)) ?_
        show Zs _ _ (am_P 161).2 (184, [(0, .ref 73), (1, .int x), (2, .int (9 : Int32))], [.int (M_wo I k), .int (I 77 k), .int (I 76 k)]) (HH I J R T) _
        refine Z_jump 2 rfl ?_
        show Zs _ _ (am_P 161).2 (186, [(0, .ref 73), (1, .int x), (2, .int (9 : Int32))], [.int ((I 76 k) + ((I 77 k) * (M_wo I k)))]) (HH I J R T) _
        refine Z_rI rfl (by first | exact am_nw0 _ | exact am_nw01 | rfl | assumption) ?_
        exact ⟨rfl, Or.inr ⟨k, hk, hx, rfl⟩⟩
  · refine Z_jump 2 rfl ?_
    show Zs _ _ (am_P 161).2 (2, [(0, .ref 73), (1, .int x), (2, .int w)], [.int x, .ref 73]) (HH I J R T) _
    refine Z_c1 rfl rfl rfl (m_isRodN hn h6) ?_
    show Zs _ _ (am_P 161).2 (5, [(0, .ref 73), (1, .int x), (2, .int w)], [.int (if M_rod n x then 1 else 0)]) (HH I J R T) _
    refine Z_jump 1 rfl ?_
    refine Z_bn (fun c5 => absurd (if10.mpr hr) c5) (fun c5 => ?_)
    refine Z_jump 1 rfl ?_
    show Zs _ _ (am_P 161).2 (10, [(0, .ref 73), (1, .int x), (2, .int w)], [.int (-2 : Int32)]) (HH I J R T) _
    refine Z_rI rfl (by first | exact am_nw0 _ | exact am_nw01 | rfl | assumption) ?_
    exact ⟨rfl, Or.inl ⟨hr, rfl⟩⟩
end ML3

