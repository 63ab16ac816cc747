/-! push, rod (class): any state. -/
section CL4
variable {sc : Nat × (Nat → Int32)} {d : Nat} {I : hI} {J : hJ} {R : hR} {T : am_H} {Q : Option Value → am_H → Prop}
theorem c_place {a i : Nat} {x p v : Int32} (ha : isSt a) (hx : x = nI i) (hi : i < 6) : am_E sc (d + 2) 35 [.ref a, .int x, .int p, .int v] (HH I J R T) none (HH (sf I (if p = 1 then a + 2 else a + 1) i v) J R T) := by
  refine E_Z (Ze_of (Nat.le_of_ble_eq_true rfl) ?_)
  by_cases hp : p = 1
  · rw [if_pos hp]
    refine Z_jump 3 rfl ?_
    refine Z_bn (fun c2 => absurd (hp) c2) (fun c2 => ?_)
    refine Z_jump 1 rfl ?_
    show Zs _ _ (am_P 35).2 (6, [(0, .ref a), (1, .int x), (2, .int p), (3, .int v)], [.ref a]) (HH I J R T) _
    refine Z_gf rfl (st_0 ha) rfl rfl ?_
    refine Z_jump 3 rfl ?_
    show Zs _ _ (am_P 35).2 (18, [(0, .ref a), (1, .int x), (2, .int p), (3, .int v)], [.int v, .int x, .ref (a + 2)]) (HH I J R T) _
    refine Z_c0 rfl rfl rfl (k_put2 ha hx hi) ?_
    show Zs _ _ (am_P 35).2 (21, [(0, .ref a), (1, .int x), (2, .int p), (3, .int v)], []) (HH (sf I (a + 2) i v) J R T) _
    show Zs _ _ (am_P 35).2 (21, [(0, .ref a), (1, .int x), (2, .int p), (3, .int v)], []) (HH (sf I (a + 2) i v) J R T) _
    refine Z_ret rfl rfl rfl ?_
    exact ⟨rfl, rfl⟩
  · rw [if_neg hp]
    refine Z_jump 3 rfl ?_
    refine Z_bn (fun c2 => ?_) (fun c2 => absurd c2 (hp))
    refine Z_jump 1 rfl ?_
    show Zs _ _ (am_P 35).2 (13, [(0, .ref a), (1, .int x), (2, .int p), (3, .int v)], [.ref a]) (HH I J R T) _
    refine Z_gf rfl (st_0 ha) rfl rfl ?_
    refine Z_jump 2 rfl ?_
    show Zs _ _ (am_P 35).2 (18, [(0, .ref a), (1, .int x), (2, .int p), (3, .int v)], [.int v, .int x, .ref (a + 1)]) (HH I J R T) _
    refine Z_c0 rfl rfl rfl (k_put1 ha hx hi) ?_
    show Zs _ _ (am_P 35).2 (21, [(0, .ref a), (1, .int x), (2, .int p), (3, .int v)], []) (HH (sf I (a + 1) i v) J R T) _
    show Zs _ _ (am_P 35).2 (21, [(0, .ref a), (1, .int x), (2, .int p), (3, .int v)], []) (HH (sf I (a + 1) i v) J R T) _
    refine Z_ret rfl rfl rfl ?_
    exact ⟨rfl, rfl⟩
def bdC (q : RD4) (p : Int32) : Int32 := if p = 1 then nI q.2.2.2 else nI q.2.2.1
def puC (I : hI) (p : Int32) (k : Nat) : Int32 := if p = 1 then I 24 k else I 23 k
def tmC (q : RD4) (p : Int32) : Int32 := if p = 1 then nI (htv q) else nI (ltv q)
def pcC (I : hI) (q : RD4) (p t : Int32) (k : Nat) : Int32 := (if 0 ≤ t - puC I p k then t - puC I p k else 0 - (t - puC I p k)) * tmC q p
abbrev stuckC (s x p : Int32) : Prop := ¬ s &&& (1 <<< ((2 * x + p) &&& 31)) = 0
theorem c_push {D : FD} {m : Nat} {x p t : Int32} (hD : DC 18 D I R T) (hp : I 0 9 = nI m) (hm : m ≤ 8) (hP : PR R) : Ze sc (d + 4) 99 [.ref 0, .int x, .int p, .int t] (HH I J R T) (fun r h =>
    (¬ (M_rod D.1 x ∧ bit01 p) ∧ r = some (.int (-2)) ∧ h = HH I J R T) ∨ ∃ k, k < D.1 ∧ x = nI k ∧ bit01 p ∧
    ((¬ (¬ t < 0 ∧ t ≤ bdC (D.2.1 k) p) ∧ r = some (.int (-3)) ∧ h = HH I J R T) ∨ (¬ t < 0 ∧ t ≤ bdC (D.2.1 k) p) ∧
    ((stuckC (I 22 2) x p ∧ r = some (.int (-4)) ∧ h = HH I J R T) ∨ ¬ stuckC (I 22 2) x p ∧ ∃ I1 R1, RMq m I J R T none (HH I1 J R1 T) ∧ I1 23 = I 23 ∧ I1 24 = I 24 ∧ I1 22 3 = I 22 3 ∧ r = some (.int (pcC I1 (D.2.1 k) p t k)) ∧ h = HH (sf (sf I1 (if p = 1 then 24 else 23) k t) 22 3 (cap6 (I1 22 3 + pcC I1 (D.2.1 k) p t k))) J R1 T))) := by
  refine Ze_of (Nat.le_of_ble_eq_true rfl) ?_
  by_cases hr : M_rod D.1 x
  · obtain ⟨k, hk, hx⟩ := rod_n hr
    obtain ⟨hq, a, hR, hT⟩ := hD.2.2.2 k hk
    have h6 := hD.2.1
    have hL : (HH I J R T)[99 + a]? = some (rodC (D.2.1 k)) := HH_at a hT
    by_cases hb : bit01 p
    · by_cases h0 : t < 0
      · refine Z_jump 3 rfl ?_
        show Zs _ _ (am_P 99).2 (5, [(0, .ref 0), (1, .int x), (2, .int p), (3, .int t)], [.int x, .ref 18]) (HH I J R T) _
        refine Z_c1 rfl rfl rfl (c_rodAt18 hD hx hk hR) ?_
        show Zs _ _ (am_P 99).2 (8, [(0, .ref 0), (1, .int x), (2, .int p), (3, .int t)], [.ref (99 + a)]) (HH I J R T) _
        refine Z_jump 4 rfl ?_
        show Zs _ _ (am_P 99).2 (16, [(0, .ref 0), (1, .int x), (2, .int p), (3, .int t), (4, .ref (99 + a))], [.int p]) (HH I J R T) _
        refine Z_c1 rfl rfl rfl (c_isPart) ?_
        show Zs _ _ (am_P 99).2 (19, [(0, .ref 0), (1, .int x), (2, .int p), (3, .int t), (4, .ref (99 + a))], [.int (if p = 0 ∨ p = 1 then 1 else 0)]) (HH I J R T) _
        refine Z_jump 1 rfl ?_
        refine Z_bn (fun c19 => ?_) (fun c19 => absurd c19 ((fun z => if10.mp z hb)))
        refine Z_jump 2 rfl ?_
        refine Z_bd (fun c26 => ?_) (fun c26 => absurd (h0) c26)
        refine Z_jump 1 rfl ?_
        show Zs _ _ (am_P 99).2 (41, [(0, .ref 0), (1, .int x), (2, .int p), (3, .int t), (4, .ref (99 + a))], [.int (-3 : Int32)]) (HH I J R T) _
        refine Z_rI rfl (by first | exact am_nw0 _ | exact am_nw01 | rfl | assumption) ?_
        exact Or.inr ⟨k, hk, hx, hb, Or.inl ⟨fun z => z.1 h0, rfl, rfl⟩⟩
      · by_cases h1 : t ≤ bdC (D.2.1 k) p
        · by_cases hs : stuckC (I 22 2) x p
          · refine Z_jump 3 rfl ?_
            show Zs _ _ (am_P 99).2 (5, [(0, .ref 0), (1, .int x), (2, .int p), (3, .int t)], [.int x, .ref 18]) (HH I J R T) _
            refine Z_c1 rfl rfl rfl (c_rodAt18 hD hx hk hR) ?_
            show Zs _ _ (am_P 99).2 (8, [(0, .ref 0), (1, .int x), (2, .int p), (3, .int t)], [.ref (99 + a)]) (HH I J R T) _
            refine Z_jump 4 rfl ?_
            show Zs _ _ (am_P 99).2 (16, [(0, .ref 0), (1, .int x), (2, .int p), (3, .int t), (4, .ref (99 + a))], [.int p]) (HH I J R T) _
            refine Z_c1 rfl rfl rfl (c_isPart) ?_
            show Zs _ _ (am_P 99).2 (19, [(0, .ref 0), (1, .int x), (2, .int p), (3, .int t), (4, .ref (99 + a))], [.int (if p = 0 ∨ p = 1 then 1 else 0)]) (HH I J R T) _
            refine Z_jump 1 rfl ?_
            refine Z_bn (fun c19 => ?_) (fun c19 => absurd c19 ((fun z => if10.mp z hb)))
            refine Z_jump 2 rfl ?_
            refine Z_bd (fun c26 => absurd c26 (h0)) (fun c26 => ?_)
            refine Z_jump 3 rfl ?_
            show Zs _ _ (am_P 99).2 (33, [(0, .ref 0), (1, .int x), (2, .int p), (3, .int t), (4, .ref (99 + a))], [.int p, .ref (99 + a), .int t]) (HH I J R T) _
            refine Z_c1 rfl (am_do_inv (hL) rfl (dis4 hq.1) (Nat.le_of_ble_eq_true rfl)) rfl (c_beadsOf hL hq.1) ?_
            show Zs _ _ (am_P 99).2 (36, [(0, .ref 0), (1, .int x), (2, .int p), (3, .int t), (4, .ref (99 + a))], [.int (bdC (D.2.1 k) p), .int t]) (HH I J R T) _
            refine Z_jump 1 rfl ?_
            refine Z_bd (fun c36 => ?_) (fun c36 => absurd (h1) c36)
            refine Z_jump 4 rfl ?_
            show Zs _ _ (am_P 99).2 (48, [(0, .ref 0), (1, .int x), (2, .int p), (3, .int t), (4, .ref (99 + a))], [.int p, .int x, .ref 22]) (HH I J R T) _
            refine Z_c1 rfl rfl rfl (c_isStuck (a := 22) (by decide)) ?_
            show Zs _ _ (am_P 99).2 (51, [(0, .ref 0), (1, .int x), (2, .int p), (3, .int t), (4, .ref (99 + a))], [.int (if I 22 2 &&& (1 <<< ((2 * x + p) &&& 31)) = 0 then 0 else 1)]) (HH I J R T) _
            refine Z_jump 1 rfl ?_
            refine Z_bd (fun c51 => absurd c51 ((fun z => by rw [if_neg hs] at z; exact absurd z (by decide)))) (fun c51 => ?_)
            refine Z_jump 1 rfl ?_
            show Zs _ _ (am_P 99).2 (56, [(0, .ref 0), (1, .int x), (2, .int p), (3, .int t), (4, .ref (99 + a))], [.int (-4 : Int32)]) (HH I J R T) _
            refine Z_rI rfl (by first | exact am_nw0 _ | exact am_nw01 | rfl | assumption) ?_
            exact Or.inr ⟨k, hk, hx, hb, Or.inr ⟨⟨h0, h1⟩, Or.inl ⟨hs, rfl, rfl⟩⟩⟩
          · refine Z_jump 3 rfl ?_
            show Zs _ _ (am_P 99).2 (5, [(0, .ref 0), (1, .int x), (2, .int p), (3, .int t)], [.int x, .ref 18]) (HH I J R T) _
            refine Z_c1 rfl rfl rfl (c_rodAt18 hD hx hk hR) ?_
            show Zs _ _ (am_P 99).2 (8, [(0, .ref 0), (1, .int x), (2, .int p), (3, .int t)], [.ref (99 + a)]) (HH I J R T) _
            refine Z_jump 4 rfl ?_
            show Zs _ _ (am_P 99).2 (16, [(0, .ref 0), (1, .int x), (2, .int p), (3, .int t), (4, .ref (99 + a))], [.int p]) (HH I J R T) _
            refine Z_c1 rfl rfl rfl (c_isPart) ?_
            show Zs _ _ (am_P 99).2 (19, [(0, .ref 0), (1, .int x), (2, .int p), (3, .int t), (4, .ref (99 + a))], [.int (if p = 0 ∨ p = 1 then 1 else 0)]) (HH I J R T) _
            refine Z_jump 1 rfl ?_
            refine Z_bn (fun c19 => ?_) (fun c19 => absurd c19 ((fun z => if10.mp z hb)))
            refine Z_jump 2 rfl ?_
            refine Z_bd (fun c26 => absurd c26 (h0)) (fun c26 => ?_)
            refine Z_jump 3 rfl ?_
            show Zs _ _ (am_P 99).2 (33, [(0, .ref 0), (1, .int x), (2, .int p), (3, .int t), (4, .ref (99 + a))], [.int p, .ref (99 + a), .int t]) (HH I J R T) _
            refine Z_c1 rfl (am_do_inv (hL) rfl (dis4 hq.1) (Nat.le_of_ble_eq_true rfl)) rfl (c_beadsOf hL hq.1) ?_
            show Zs _ _ (am_P 99).2 (36, [(0, .ref 0), (1, .int x), (2, .int p), (3, .int t), (4, .ref (99 + a))], [.int (bdC (D.2.1 k) p), .int t]) (HH I J R T) _
            refine Z_jump 1 rfl ?_
            refine Z_bd (fun c36 => ?_) (fun c36 => absurd (h1) c36)
            refine Z_jump 4 rfl ?_
            show Zs _ _ (am_P 99).2 (48, [(0, .ref 0), (1, .int x), (2, .int p), (3, .int t), (4, .ref (99 + a))], [.int p, .int x, .ref 22]) (HH I J R T) _
            refine Z_c1 rfl rfl rfl (c_isStuck (a := 22) (by decide)) ?_
            show Zs _ _ (am_P 99).2 (51, [(0, .ref 0), (1, .int x), (2, .int p), (3, .int t), (4, .ref (99 + a))], [.int (if I 22 2 &&& (1 <<< ((2 * x + p) &&& 31)) = 0 then 0 else 1)]) (HH I J R T) _
            refine Z_jump 1 rfl ?_
            refine Z_bd (fun c51 => ?_) (fun c51 => absurd ((if_pos (Classical.not_not.mp hs))) c51)
            refine Z_jump 1 rfl ?_
            show Zs _ _ (am_P 99).2 (58, [(0, .ref 0), (1, .int x), (2, .int p), (3, .int t), (4, .ref (99 + a))], [.ref 0]) (HH I J R T) _
            refine Z_cQ rfl rfl rfl (c_remember (d := d) hp hm hP) (fun v h1 hq => ?_)
            have hq0 := hq
            obtain ⟨rfl, I1, R1, a1, rfl, g1, g2, g3, g4, g5, g6, g7⟩ := hq
            have b1 := (past_st g6).2.2.1
            have e23 : I1 23 = I 23 := g7.1 23 (by omega) (by omega) (by omega) (by omega)
            have e24 : I1 24 = I 24 := g7.1 24 (by omega) (by omega) (by omega) (by omega)
            have e22 : I1 22 = I 22 := g7.1 22 (by omega) (by omega) (by omega) (by omega)
            have hL1 : (HH I1 J R1 T)[99 + a]? = some (rodC (D.2.1 k)) := HH_at a hT
            show Zs _ _ (am_P 99).2 (61, [(0, .ref 0), (1, .int x), (2, .int p), (3, .int t), (4, .ref (99 + a))], []) (HH I1 J R1 T) _
            refine Z_jump 5 rfl ?_
            show Zs _ _ (am_P 99).2 (68, [(0, .ref 0), (1, .int x), (2, .int p), (3, .int t), (4, .ref (99 + a))], [.int p, .int x, .ref 22, .int t]) (HH I1 J R1 T) _
            refine Z_c1 rfl rfl rfl (c_beads (a := 22) (by decide) hx (show k < 6 by omega)) ?_
            show Zs _ _ (am_P 99).2 (71, [(0, .ref 0), (1, .int x), (2, .int p), (3, .int t), (4, .ref (99 + a))], [.int (puC I1 p k), .int t]) (HH I1 J R1 T) _
            refine Z_jump 4 rfl ?_
            show Zs _ _ (am_P 99).2 (78, [(0, .ref 0), (1, .int x), (2, .int p), (3, .int t), (4, .ref (99 + a))], [.int p, .ref (99 + a), .int (if 0 ≤ (t - (puC I1 p k)) then (t - (puC I1 p k)) else 0 - (t - (puC I1 p k)))]) (HH I1 J R1 T) _
            refine Z_c1 rfl (am_do_inv (hL1) rfl (dis4 hq.1) (Nat.le_of_ble_eq_true rfl)) rfl (c_timeOf hL1 hq.1) ?_
            show Zs _ _ (am_P 99).2 (81, [(0, .ref 0), (1, .int x), (2, .int p), (3, .int t), (4, .ref (99 + a))], [.int (tmC (D.2.1 k) p), .int (if 0 ≤ (t - (puC I1 p k)) then (t - (puC I1 p k)) else 0 - (t - (puC I1 p k)))]) (HH I1 J R1 T) _
            refine Z_jump 7 rfl ?_
            show Zs _ _ (am_P 99).2 (91, [(0, .ref 0), (1, .int x), (2, .int p), (3, .int t), (4, .ref (99 + a)), (5, .int ((if 0 ≤ (t - (puC I1 p k)) then (t - (puC I1 p k)) else 0 - (t - (puC I1 p k))) * (tmC (D.2.1 k) p)))], [.int t, .int p, .int x, .ref 22]) (HH I1 J R1 T) _
            refine Z_c0 rfl rfl rfl (c_place (a := 22) (by decide) hx (show k < 6 by omega)) ?_
            show Zs _ _ (am_P 99).2 (94, [(0, .ref 0), (1, .int x), (2, .int p), (3, .int t), (4, .ref (99 + a)), (5, .int ((if 0 ≤ (t - (puC I1 p k)) then (t - (puC I1 p k)) else 0 - (t - (puC I1 p k))) * (tmC (D.2.1 k) p)))], []) (HH (sf I1 (if p = 1 then 24 else 23) k t) J R1 T) _
            refine Z_jump 3 rfl ?_
            show Zs _ _ (am_P 99).2 (100, [(0, .ref 0), (1, .int x), (2, .int p), (3, .int t), (4, .ref (99 + a)), (5, .int ((if 0 ≤ (t - (puC I1 p k)) then (t - (puC I1 p k)) else 0 - (t - (puC I1 p k))) * (tmC (D.2.1 k) p)))], [.int ((if 0 ≤ (t - (puC I1 p k)) then (t - (puC I1 p k)) else 0 - (t - (puC I1 p k))) * (tmC (D.2.1 k) p)), .ref 22]) (HH (sf I1 (if p = 1 then 24 else 23) k t) J R1 T) _
            refine Z_c0 rfl rfl rfl (c_spend (a := 22) (by decide)) ?_
            show Zs _ _ (am_P 99).2 (103, [(0, .ref 0), (1, .int x), (2, .int p), (3, .int t), (4, .ref (99 + a)), (5, .int ((if 0 ≤ (t - (puC I1 p k)) then (t - (puC I1 p k)) else 0 - (t - (puC I1 p k))) * (tmC (D.2.1 k) p)))], []) (HH (sf (sf I1 (if p = 1 then 24 else 23) k t) 22 3 (cap6 ((sf I1 (if p = 1 then 24 else 23) k t) 22 3 + pcC I1 (D.2.1 k) p t k))) J R1 T) _
            refine Z_jump 1 rfl ?_
            show Zs _ _ (am_P 99).2 (105, [(0, .ref 0), (1, .int x), (2, .int p), (3, .int t), (4, .ref (99 + a)), (5, .int ((if 0 ≤ (t - (puC I1 p k)) then (t - (puC I1 p k)) else 0 - (t - (puC I1 p k))) * (tmC (D.2.1 k) p)))], [.int ((if 0 ≤ (t - (puC I1 p k)) then (t - (puC I1 p k)) else 0 - (t - (puC I1 p k))) * (tmC (D.2.1 k) p))]) (HH (sf (sf I1 (if p = 1 then 24 else 23) k t) 22 3 (cap6 ((sf I1 (if p = 1 then 24 else 23) k t) 22 3 + pcC I1 (D.2.1 k) p t k))) J R1 T) _
            refine Z_rI rfl (by first | exact am_nw0 _ | exact am_nw01 | rfl | assumption) ?_
            have e3 : (sf I1 (if p = 1 then 24 else 23) k t) 22 3 = I1 22 3 := congrFun (sf_c (by split <;> decide)) 3
            exact Or.inr ⟨k, hk, hx, hb, Or.inr ⟨⟨h0, h1⟩, Or.inr ⟨hs, I1, R1, hq0, e23, e24, congrFun e22 3, rfl, by rw [e3]⟩⟩⟩
        · refine Z_jump 3 rfl ?_
          show Zs _ _ (am_P 99).2 (5, [(0, .ref 0), (1, .int x), (2, .int p), (3, .int t)], [.int x, .ref 18]) (HH I J R T) _
          refine Z_c1 rfl rfl rfl (c_rodAt18 hD hx hk hR) ?_
          show Zs _ _ (am_P 99).2 (8, [(0, .ref 0), (1, .int x), (2, .int p), (3, .int t)], [.ref (99 + a)]) (HH I J R T) _
          refine Z_jump 4 rfl ?_
          show Zs _ _ (am_P 99).2 (16, [(0, .ref 0), (1, .int x), (2, .int p), (3, .int t), (4, .ref (99 + a))], [.int p]) (HH I J R T) _
          refine Z_c1 rfl rfl rfl (c_isPart) ?_
          show Zs _ _ (am_P 99).2 (19, [(0, .ref 0), (1, .int x), (2, .int p), (3, .int t), (4, .ref (99 + a))], [.int (if p = 0 ∨ p = 1 then 1 else 0)]) (HH I J R T) _
          refine Z_jump 1 rfl ?_
          refine Z_bn (fun c19 => ?_) (fun c19 => absurd c19 ((fun z => if10.mp z hb)))
          refine Z_jump 2 rfl ?_
          refine Z_bd (fun c26 => absurd c26 (h0)) (fun c26 => ?_)
          refine Z_jump 3 rfl ?_
          show Zs _ _ (am_P 99).2 (33, [(0, .ref 0), (1, .int x), (2, .int p), (3, .int t), (4, .ref (99 + a))], [.int p, .ref (99 + a), .int t]) (HH I J R T) _
          refine Z_c1 rfl (am_do_inv (hL) rfl (dis4 hq.1) (Nat.le_of_ble_eq_true rfl)) rfl (c_beadsOf hL hq.1) ?_
          show Zs _ _ (am_P 99).2 (36, [(0, .ref 0), (1, .int x), (2, .int p), (3, .int t), (4, .ref (99 + a))], [.int (bdC (D.2.1 k) p), .int t]) (HH I J R T) _
          refine Z_jump 1 rfl ?_
          refine Z_bd (fun c36 => absurd c36 (h1)) (fun c36 => ?_)
          refine Z_jump 1 rfl ?_
          show Zs _ _ (am_P 99).2 (41, [(0, .ref 0), (1, .int x), (2, .int p), (3, .int t), (4, .ref (99 + a))], [.int (-3 : Int32)]) (HH I J R T) _
          refine Z_rI rfl (by first | exact am_nw0 _ | exact am_nw01 | rfl | assumption) ?_
          exact Or.inr ⟨k, hk, hx, hb, Or.inl ⟨fun z => h1 z.2, rfl, rfl⟩⟩
    · refine Z_jump 3 rfl ?_
      show Zs _ _ (am_P 99).2 (5, [(0, .ref 0), (1, .int x), (2, .int p), (3, .int t)], [.int x, .ref 18]) (HH I J R T) _
      refine Z_c1 rfl rfl rfl (c_rodAt18 hD hx hk hR) ?_
      show Zs _ _ (am_P 99).2 (8, [(0, .ref 0), (1, .int x), (2, .int p), (3, .int t)], [.ref (99 + a)]) (HH I J R T) _
      refine Z_jump 4 rfl ?_
      show Zs _ _ (am_P 99).2 (16, [(0, .ref 0), (1, .int x), (2, .int p), (3, .int t), (4, .ref (99 + a))], [.int p]) (HH I J R T) _
      refine Z_c1 rfl rfl rfl (c_isPart) ?_
      show Zs _ _ (am_P 99).2 (19, [(0, .ref 0), (1, .int x), (2, .int p), (3, .int t), (4, .ref (99 + a))], [.int (if p = 0 ∨ p = 1 then 1 else 0)]) (HH I J R T) _
      refine Z_jump 1 rfl ?_
      refine Z_bn (fun c19 => absurd (if10.mpr hb) c19) (fun c19 => ?_)
      refine Z_jump 1 rfl ?_
      show Zs _ _ (am_P 99).2 (24, [(0, .ref 0), (1, .int x), (2, .int p), (3, .int t), (4, .ref (99 + a))], [.int (-2 : Int32)]) (HH I J R T) _
      refine Z_rI rfl (by first | exact am_nw0 _ | exact am_nw01 | rfl | assumption) ?_
      exact Or.inl ⟨fun z => hb z.2, rfl, rfl⟩
  · refine Z_jump 3 rfl ?_
    show Zs _ _ (am_P 99).2 (5, [(0, .ref 0), (1, .int x), (2, .int p), (3, .int t)], [.int x, .ref 18]) (HH I J R T) _
    refine Z_c1 rfl rfl rfl (c_rodAt18n hD hr) ?_
    show Zs _ _ (am_P 99).2 (8, [(0, .ref 0), (1, .int x), (2, .int p), (3, .int t)], [.null]) (HH I J R T) _
    refine Z_jump 4 rfl ?_
    show Zs _ _ (am_P 99).2 (24, [(0, .ref 0), (1, .int x), (2, .int p), (3, .int t), (4, .null)], [.int (-2 : Int32)]) (HH I J R T) _
    refine Z_rI rfl (by first | exact am_nw0 _ | exact am_nw01 | rfl | assumption) ?_
    exact Or.inl ⟨fun z => hr z.1, rfl, rfl⟩
def rodC9 (I : hI) (q : RD4) (k : Nat) (x w : Int32) : Int32 := if w = 0 then nI q.1 else if w = 1 then nI q.2.1 else if w = 2 then nI q.2.2.1 else if w = 3 then nI q.2.2.2 else if w = 4 then I 23 k else if w = 5 then I 24 k else if w = 6 then (if stuckC (I 22 2) x 0 then 1 else 0) else if w = 7 then (if stuckC (I 22 2) x 1 then 1 else 0) else if w = 8 then shw I 22 k q else if w = 9 then nI q.2.2.1 + nI q.2.2.2 * nI (hwv q) else -3
theorem c_rod {D : FD} {x w : Int32} (hD : DC 18 D I R T) : Ze sc (d + 4) 96 [.ref 0, .int x, .int w] (HH I J R T) (fun r h => h = HH I J R T ∧ ((¬ M_rod D.1 x ∧ r = some (.int (-2))) ∨ ∃ k, k < D.1 ∧ x = nI k ∧ r = some (.int (rodC9 I (D.2.1 k) k x w)))) := by
  refine Ze_of (Nat.le_of_ble_eq_true rfl) ?_
  by_cases hr : M_rod D.1 x
  · obtain ⟨k, hk, hx⟩ := rod_n hr
    obtain ⟨hq, a, hR, hT⟩ := hD.2.2.2 k hk
    have h6 := hD.2.1
    have hL : (HH I J R T)[99 + a]? = some (rodC (D.2.1 k)) := HH_at a hT
    by_cases hw : w.toInt < 0 ∨ 9 < w.toInt
    · have e : rodC9 I (D.2.1 k) k x w = -3 := by
        obtain ⟨a0, a1, a2, a3, a4, a5, a6, a7, a8, a9⟩ := w_o hw
        unfold rodC9
        rw [if_neg a0, if_neg a1, if_neg a2, if_neg a3, if_neg a4, if_neg a5, if_neg a6, if_neg a7, if_neg a8, if_neg a9]
      refine Z_jump 3 rfl ?_
      show Zs _ _ (am_P 96).2 (5, [(0, .ref 0), (1, .int x), (2, .int w)], [.int x, .ref 18]) (HH I J R T) _
      refine Z_c1 rfl rfl rfl (c_rodAt18 hD hx hk hR) ?_
      show Zs _ _ (am_P 96).2 (8, [(0, .ref 0), (1, .int x), (2, .int w)], [.ref (99 + a)]) (HH I J R T) _
      refine Z_jump 4 rfl ?_
      show Zs _ _ (am_P 96).2 (17, [(0, .ref 0), (1, .int x), (2, .int w), (3, .ref (99 + a))], [.int w]) (HH I J R T) _
      refine Z_tsO rfl (hw) ?_
      show Zs _ _ (am_P 96).2 (171, [(0, .ref 0), (1, .int x), (2, .int w), (3, .ref (99 + a))], []) (HH I J R T) _
      refine Z_jump 1 rfl ?_
      show Zs _ _ (am_P 96).2 (173, [(0, .ref 0), (1, .int x), (2, .int w), (3, .ref (99 + a))], [.int (-3 : Int32)]) (HH I J R T) _
      refine Z_rI rfl (by first | exact am_nw0 _ | exact am_nw01 | rfl | assumption) ?_
      exact ⟨rfl, Or.inr ⟨k, hk, hx, am_ii e.symm⟩⟩
    · rcases w_c hw with rfl | rfl | rfl | rfl | rfl | rfl | rfl | rfl | rfl | rfl
      · have hqk := hq.1
        generalize eq : D.2.1 k = q at hL hqk
        obtain ⟨kd, b, l, g⟩ := q
        rcases kd_c hqk with rfl | rfl | rfl | rfl
        · refine Z_jump 3 rfl ?_
          show Zs _ _ (am_P 96).2 (5, [(0, .ref 0), (1, .int x), (2, .int (0 : Int32))], [.int x, .ref 18]) (HH I J R T) _
          refine Z_c1 rfl rfl rfl (c_rodAt18 hD hx hk hR) ?_
          show Zs _ _ (am_P 96).2 (8, [(0, .ref 0), (1, .int x), (2, .int (0 : Int32))], [.ref (99 + a)]) (HH I J R T) _
          refine Z_jump 6 rfl ?_
          show Zs _ _ (am_P 96).2 (73, [(0, .ref 0), (1, .int x), (2, .int (0 : Int32)), (3, .ref (99 + a))], [.ref (99 + a)]) (HH I J R T) _
          refine Z_c1 rfl (am_do_inv (hL) rfl (rfl) (Nat.le_of_ble_eq_true rfl)) rfl (c_kn0 hL) ?_
          show Zs _ _ (am_P 96).2 (76, [(0, .ref 0), (1, .int x), (2, .int (0 : Int32)), (3, .ref (99 + a))], [.int (0 : Int32)]) (HH I J R T) _
          show Zs _ _ (am_P 96).2 (76, [(0, .ref 0), (1, .int x), (2, .int (0 : Int32)), (3, .ref (99 + a))], [.int (0 : Int32)]) (HH I J R T) _
          refine Z_rI rfl (by first | exact am_nw0 _ | exact am_nw01 | rfl | assumption) ?_
          exact ⟨rfl, Or.inr ⟨k, hk, hx, by rw [eq]; rfl⟩⟩
        · refine Z_jump 3 rfl ?_
          show Zs _ _ (am_P 96).2 (5, [(0, .ref 0), (1, .int x), (2, .int (0 : Int32))], [.int x, .ref 18]) (HH I J R T) _
          refine Z_c1 rfl rfl rfl (c_rodAt18 hD hx hk hR) ?_
          show Zs _ _ (am_P 96).2 (8, [(0, .ref 0), (1, .int x), (2, .int (0 : Int32))], [.ref (99 + a)]) (HH I J R T) _
          refine Z_jump 6 rfl ?_
          show Zs _ _ (am_P 96).2 (73, [(0, .ref 0), (1, .int x), (2, .int (0 : Int32)), (3, .ref (99 + a))], [.ref (99 + a)]) (HH I J R T) _
          refine Z_c1 rfl (am_do_inv (hL) rfl (rfl) (Nat.le_of_ble_eq_true rfl)) rfl (c_kn1 hL) ?_
          show Zs _ _ (am_P 96).2 (76, [(0, .ref 0), (1, .int x), (2, .int (0 : Int32)), (3, .ref (99 + a))], [.int (1 : Int32)]) (HH I J R T) _
          show Zs _ _ (am_P 96).2 (76, [(0, .ref 0), (1, .int x), (2, .int (0 : Int32)), (3, .ref (99 + a))], [.int (1 : Int32)]) (HH I J R T) _
          refine Z_rI rfl (by first | exact am_nw0 _ | exact am_nw01 | rfl | assumption) ?_
          exact ⟨rfl, Or.inr ⟨k, hk, hx, by rw [eq]; rfl⟩⟩
        · refine Z_jump 3 rfl ?_
          show Zs _ _ (am_P 96).2 (5, [(0, .ref 0), (1, .int x), (2, .int (0 : Int32))], [.int x, .ref 18]) (HH I J R T) _
          refine Z_c1 rfl rfl rfl (c_rodAt18 hD hx hk hR) ?_
          show Zs _ _ (am_P 96).2 (8, [(0, .ref 0), (1, .int x), (2, .int (0 : Int32))], [.ref (99 + a)]) (HH I J R T) _
          refine Z_jump 6 rfl ?_
          show Zs _ _ (am_P 96).2 (73, [(0, .ref 0), (1, .int x), (2, .int (0 : Int32)), (3, .ref (99 + a))], [.ref (99 + a)]) (HH I J R T) _
          refine Z_c1 rfl (am_do_inv (hL) rfl (rfl) (Nat.le_of_ble_eq_true rfl)) rfl (c_kn2 hL) ?_
          show Zs _ _ (am_P 96).2 (76, [(0, .ref 0), (1, .int x), (2, .int (0 : Int32)), (3, .ref (99 + a))], [.int (2 : Int32)]) (HH I J R T) _
          show Zs _ _ (am_P 96).2 (76, [(0, .ref 0), (1, .int x), (2, .int (0 : Int32)), (3, .ref (99 + a))], [.int (2 : Int32)]) (HH I J R T) _
          refine Z_rI rfl (by first | exact am_nw0 _ | exact am_nw01 | rfl | assumption) ?_
          exact ⟨rfl, Or.inr ⟨k, hk, hx, by rw [eq]; rfl⟩⟩
        · refine Z_jump 3 rfl ?_
          show Zs _ _ (am_P 96).2 (5, [(0, .ref 0), (1, .int x), (2, .int (0 : Int32))], [.int x, .ref 18]) (HH I J R T) _
          refine Z_c1 rfl rfl rfl (c_rodAt18 hD hx hk hR) ?_
          show Zs _ _ (am_P 96).2 (8, [(0, .ref 0), (1, .int x), (2, .int (0 : Int32))], [.ref (99 + a)]) (HH I J R T) _
          refine Z_jump 6 rfl ?_
          show Zs _ _ (am_P 96).2 (73, [(0, .ref 0), (1, .int x), (2, .int (0 : Int32)), (3, .ref (99 + a))], [.ref (99 + a)]) (HH I J R T) _
          refine Z_c1 rfl (am_do_inv (hL) rfl (rfl) (Nat.le_of_ble_eq_true rfl)) rfl (c_kn3 hL) ?_
          show Zs _ _ (am_P 96).2 (76, [(0, .ref 0), (1, .int x), (2, .int (0 : Int32)), (3, .ref (99 + a))], [.int (3 : Int32)]) (HH I J R T) _
          show Zs _ _ (am_P 96).2 (76, [(0, .ref 0), (1, .int x), (2, .int (0 : Int32)), (3, .ref (99 + a))], [.int (3 : Int32)]) (HH I J R T) _
          refine Z_rI rfl (by first | exact am_nw0 _ | exact am_nw01 | rfl | assumption) ?_
          exact ⟨rfl, Or.inr ⟨k, hk, hx, by rw [eq]; rfl⟩⟩
      · refine Z_jump 3 rfl ?_
        show Zs _ _ (am_P 96).2 (5, [(0, .ref 0), (1, .int x), (2, .int (1 : Int32))], [.int x, .ref 18]) (HH I J R T) _
        refine Z_c1 rfl rfl rfl (c_rodAt18 hD hx hk hR) ?_
        show Zs _ _ (am_P 96).2 (8, [(0, .ref 0), (1, .int x), (2, .int (1 : Int32))], [.ref (99 + a)]) (HH I J R T) _
        refine Z_jump 6 rfl ?_
        show Zs _ _ (am_P 96).2 (78, [(0, .ref 0), (1, .int x), (2, .int (1 : Int32)), (3, .ref (99 + a))], [.ref (99 + a)]) (HH I J R T) _
        refine Z_gfR rfl hL hq.1 rfl ?_
        show Zs _ _ (am_P 96).2 (81, [(0, .ref 0), (1, .int x), (2, .int (1 : Int32)), (3, .ref (99 + a))], [.int (nI (D.2.1 k).2.1)]) (HH I J R T) _
        refine Z_rI rfl (by first | exact am_nw0 _ | exact am_nw01 | rfl | assumption) ?_
        exact ⟨rfl, Or.inr ⟨k, hk, hx, rfl⟩⟩
      · refine Z_jump 3 rfl ?_
        show Zs _ _ (am_P 96).2 (5, [(0, .ref 0), (1, .int x), (2, .int (2 : Int32))], [.int x, .ref 18]) (HH I J R T) _
        refine Z_c1 rfl rfl rfl (c_rodAt18 hD hx hk hR) ?_
        show Zs _ _ (am_P 96).2 (8, [(0, .ref 0), (1, .int x), (2, .int (2 : Int32))], [.ref (99 + a)]) (HH I J R T) _
        refine Z_jump 6 rfl ?_
        show Zs _ _ (am_P 96).2 (83, [(0, .ref 0), (1, .int x), (2, .int (2 : Int32)), (3, .ref (99 + a))], [.ref (99 + a)]) (HH I J R T) _
        refine Z_gfR rfl hL hq.1 rfl ?_
        show Zs _ _ (am_P 96).2 (86, [(0, .ref 0), (1, .int x), (2, .int (2 : Int32)), (3, .ref (99 + a))], [.int (nI (D.2.1 k).2.2.1)]) (HH I J R T) _
        refine Z_rI rfl (by first | exact am_nw0 _ | exact am_nw01 | rfl | assumption) ?_
        exact ⟨rfl, Or.inr ⟨k, hk, hx, rfl⟩⟩
      · refine Z_jump 3 rfl ?_
        show Zs _ _ (am_P 96).2 (5, [(0, .ref 0), (1, .int x), (2, .int (3 : Int32))], [.int x, .ref 18]) (HH I J R T) _
        refine Z_c1 rfl rfl rfl (c_rodAt18 hD hx hk hR) ?_
        show Zs _ _ (am_P 96).2 (8, [(0, .ref 0), (1, .int x), (2, .int (3 : Int32))], [.ref (99 + a)]) (HH I J R T) _
        refine Z_jump 6 rfl ?_
        show Zs _ _ (am_P 96).2 (88, [(0, .ref 0), (1, .int x), (2, .int (3 : Int32)), (3, .ref (99 + a))], [.ref (99 + a)]) (HH I J R T) _
        refine Z_gfR rfl hL hq.1 rfl ?_
        show Zs _ _ (am_P 96).2 (91, [(0, .ref 0), (1, .int x), (2, .int (3 : Int32)), (3, .ref (99 + a))], [.int (nI (D.2.1 k).2.2.2)]) (HH I J R T) _
        refine Z_rI rfl (by first | exact am_nw0 _ | exact am_nw01 | rfl | assumption) ?_
        exact ⟨rfl, Or.inr ⟨k, hk, hx, rfl⟩⟩
      · refine Z_jump 3 rfl ?_
        show Zs _ _ (am_P 96).2 (5, [(0, .ref 0), (1, .int x), (2, .int (4 : Int32))], [.int x, .ref 18]) (HH I J R T) _
        refine Z_c1 rfl rfl rfl (c_rodAt18 hD hx hk hR) ?_
        show Zs _ _ (am_P 96).2 (8, [(0, .ref 0), (1, .int x), (2, .int (4 : Int32))], [.ref (99 + a)]) (HH I J R T) _
        refine Z_jump 9 rfl ?_
        show Zs _ _ (am_P 96).2 (98, [(0, .ref 0), (1, .int x), (2, .int (4 : Int32)), (3, .ref (99 + a))], [.int (0 : Int32), .int x, .ref 22]) (HH I J R T) _
        refine Z_c1 rfl rfl rfl (c_beads (a := 22) (p := 0) (by decide) hx (show k < 6 by omega)) ?_
        show Zs _ _ (am_P 96).2 (101, [(0, .ref 0), (1, .int x), (2, .int (4 : Int32)), (3, .ref (99 + a))], [.int (I 23 k)]) (HH I J R T) _
        show Zs _ _ (am_P 96).2 (101, [(0, .ref 0), (1, .int x), (2, .int (4 : Int32)), (3, .ref (99 + a))], [.int (I 23 k)]) (HH I J R T) _
        refine Z_rI rfl (by first | exact am_nw0 _ | exact am_nw01 | rfl | assumption) ?_
        exact ⟨rfl, Or.inr ⟨k, hk, hx, rfl⟩⟩
      · refine Z_jump 3 rfl ?_
        show Zs _ _ (am_P 96).2 (5, [(0, .ref 0), (1, .int x), (2, .int (5 : Int32))], [.int x, .ref 18]) (HH I J R T) _
        refine Z_c1 rfl rfl rfl (c_rodAt18 hD hx hk hR) ?_
        show Zs _ _ (am_P 96).2 (8, [(0, .ref 0), (1, .int x), (2, .int (5 : Int32))], [.ref (99 + a)]) (HH I J R T) _
        refine Z_jump 9 rfl ?_
        show Zs _ _ (am_P 96).2 (108, [(0, .ref 0), (1, .int x), (2, .int (5 : Int32)), (3, .ref (99 + a))], [.int (1 : Int32), .int x, .ref 22]) (HH I J R T) _
        refine Z_c1 rfl rfl rfl (c_beads (a := 22) (p := 1) (by decide) hx (show k < 6 by omega)) ?_
        show Zs _ _ (am_P 96).2 (111, [(0, .ref 0), (1, .int x), (2, .int (5 : Int32)), (3, .ref (99 + a))], [.int (I 24 k)]) (HH I J R T) _
        show Zs _ _ (am_P 96).2 (111, [(0, .ref 0), (1, .int x), (2, .int (5 : Int32)), (3, .ref (99 + a))], [.int (I 24 k)]) (HH I J R T) _
        refine Z_rI rfl (by first | exact am_nw0 _ | exact am_nw01 | rfl | assumption) ?_
        exact ⟨rfl, Or.inr ⟨k, hk, hx, rfl⟩⟩
      · refine Z_jump 3 rfl ?_
        show Zs _ _ (am_P 96).2 (5, [(0, .ref 0), (1, .int x), (2, .int (6 : Int32))], [.int x, .ref 18]) (HH I J R T) _
        refine Z_c1 rfl rfl rfl (c_rodAt18 hD hx hk hR) ?_
        show Zs _ _ (am_P 96).2 (8, [(0, .ref 0), (1, .int x), (2, .int (6 : Int32))], [.ref (99 + a)]) (HH I J R T) _
        refine Z_jump 9 rfl ?_
        show Zs _ _ (am_P 96).2 (118, [(0, .ref 0), (1, .int x), (2, .int (6 : Int32)), (3, .ref (99 + a))], [.int (0 : Int32), .int x, .ref 22]) (HH I J R T) _
        refine Z_c1 rfl rfl rfl (c_isStuck (a := 22) (by decide)) ?_
        show Zs _ _ (am_P 96).2 (121, [(0, .ref 0), (1, .int x), (2, .int (6 : Int32)), (3, .ref (99 + a))], [.int (if I 22 2 &&& (1 <<< ((2 * x + 0) &&& 31)) = 0 then 0 else 1)]) (HH I J R T) _
        refine Z_jump 1 rfl ?_
        refine Z_bd (fun (c121 : (if I 22 2 &&& (1 <<< ((2 * x + 0) &&& 31)) = 0 then 0 else 1) = (0 : Int32)) => ?_) (fun (c121 : ¬ ((if I 22 2 &&& (1 <<< ((2 * x + 0) &&& 31)) = 0 then 0 else 1) = (0 : Int32))) => ?_)
        · refine Z_jump 1 rfl ?_
          show Zs _ _ (am_P 96).2 (129, [(0, .ref 0), (1, .int x), (2, .int (6 : Int32)), (3, .ref (99 + a))], [.int (0 : Int32)]) (HH I J R T) _
          refine Z_rI rfl (by first | exact am_nw0 _ | exact am_nw01 | rfl | assumption) ?_
          have e : ¬ stuckC (I 22 2) x 0 := fun z => absurd ((if_neg z).symm.trans c121) (by decide)
          exact ⟨rfl, Or.inr ⟨k, hk, hx, am_ii (if_neg e).symm⟩⟩
        · refine Z_jump 2 rfl ?_
          show Zs _ _ (am_P 96).2 (129, [(0, .ref 0), (1, .int x), (2, .int (6 : Int32)), (3, .ref (99 + a))], [.int (1 : Int32)]) (HH I J R T) _
          refine Z_rI rfl (by first | exact am_nw0 _ | exact am_nw01 | rfl | assumption) ?_
          have e : stuckC (I 22 2) x 0 := fun z => c121 (if_pos z)
          exact ⟨rfl, Or.inr ⟨k, hk, hx, am_ii (if_pos e).symm⟩⟩
      · refine Z_jump 3 rfl ?_
        show Zs _ _ (am_P 96).2 (5, [(0, .ref 0), (1, .int x), (2, .int (7 : Int32))], [.int x, .ref 18]) (HH I J R T) _
        refine Z_c1 rfl rfl rfl (c_rodAt18 hD hx hk hR) ?_
        show Zs _ _ (am_P 96).2 (8, [(0, .ref 0), (1, .int x), (2, .int (7 : Int32))], [.ref (99 + a)]) (HH I J R T) _
        refine Z_jump 9 rfl ?_
        show Zs _ _ (am_P 96).2 (136, [(0, .ref 0), (1, .int x), (2, .int (7 : Int32)), (3, .ref (99 + a))], [.int (1 : Int32), .int x, .ref 22]) (HH I J R T) _
        refine Z_c1 rfl rfl rfl (c_isStuck (a := 22) (by decide)) ?_
        show Zs _ _ (am_P 96).2 (139, [(0, .ref 0), (1, .int x), (2, .int (7 : Int32)), (3, .ref (99 + a))], [.int (if I 22 2 &&& (1 <<< ((2 * x + 1) &&& 31)) = 0 then 0 else 1)]) (HH I J R T) _
        refine Z_jump 1 rfl ?_
        refine Z_bd (fun (c139 : (if I 22 2 &&& (1 <<< ((2 * x + 1) &&& 31)) = 0 then 0 else 1) = (0 : Int32)) => ?_) (fun (c139 : ¬ ((if I 22 2 &&& (1 <<< ((2 * x + 1) &&& 31)) = 0 then 0 else 1) = (0 : Int32))) => ?_)
        · refine Z_jump 1 rfl ?_
          show Zs _ _ (am_P 96).2 (147, [(0, .ref 0), (1, .int x), (2, .int (7 : Int32)), (3, .ref (99 + a))], [.int (0 : Int32)]) (HH I J R T) _
          refine Z_rI rfl (by first | exact am_nw0 _ | exact am_nw01 | rfl | assumption) ?_
          have e : ¬ stuckC (I 22 2) x 1 := fun z => absurd ((if_neg z).symm.trans c139) (by decide)
          exact ⟨rfl, Or.inr ⟨k, hk, hx, am_ii (if_neg e).symm⟩⟩
        · refine Z_jump 2 rfl ?_
          show Zs _ _ (am_P 96).2 (147, [(0, .ref 0), (1, .int x), (2, .int (7 : Int32)), (3, .ref (99 + a))], [.int (1 : Int32)]) (HH I J R T) _
          refine Z_rI rfl (by first | exact am_nw0 _ | exact am_nw01 | rfl | assumption) ?_
          have e : stuckC (I 22 2) x 1 := fun z => c139 (if_pos z)
          exact ⟨rfl, Or.inr ⟨k, hk, hx, am_ii (if_pos e).symm⟩⟩
      · refine Z_jump 3 rfl ?_
        show Zs _ _ (am_P 96).2 (5, [(0, .ref 0), (1, .int x), (2, .int (8 : Int32))], [.int x, .ref 18]) (HH I J R T) _
        refine Z_c1 rfl rfl rfl (c_rodAt18 hD hx hk hR) ?_
        show Zs _ _ (am_P 96).2 (8, [(0, .ref 0), (1, .int x), (2, .int (8 : Int32))], [.ref (99 + a)]) (HH I J R T) _
        refine Z_jump 9 rfl ?_
        show Zs _ _ (am_P 96).2 (154, [(0, .ref 0), (1, .int x), (2, .int (8 : Int32)), (3, .ref (99 + a))], [.ref (99 + a), .int x, .ref 22]) (HH I J R T) _
        refine Z_c1 rfl rfl rfl (c_shows (a := 22) (by decide) hx (show k < 6 by omega) hL hq.1) ?_
        show Zs _ _ (am_P 96).2 (157, [(0, .ref 0), (1, .int x), (2, .int (8 : Int32)), (3, .ref (99 + a))], [.int (shw I 22 k (D.2.1 k))]) (HH I J R T) _
        show Zs _ _ (am_P 96).2 (157, [(0, .ref 0), (1, .int x), (2, .int (8 : Int32)), (3, .ref (99 + a))], [.int (shw I 22 k (D.2.1 k))]) (HH I J R T) _
        refine Z_rI rfl (by first | exact am_nw0 _ | exact am_nw01 | rfl | assumption) ?_
        exact ⟨rfl, Or.inr ⟨k, hk, hx, rfl⟩⟩
      · refine Z_jump 3 rfl ?_
        show Zs _ _ (am_P 96).2 (5, [(0, .ref 0), (1, .int x), (2, .int (9 : Int32))], [.int x, .ref 18]) (HH I J R T) _
        refine Z_c1 rfl rfl rfl (c_rodAt18 hD hx hk hR) ?_
        show Zs _ _ (am_P 96).2 (8, [(0, .ref 0), (1, .int x), (2, .int (9 : Int32))], [.ref (99 + a)]) (HH I J R T) _
        refine Z_jump 7 rfl ?_
        show Zs _ _ (am_P 96).2 (160, [(0, .ref 0), (1, .int x), (2, .int (9 : Int32)), (3, .ref (99 + a))], [.ref (99 + a), .ref (99 + a)]) (HH I J R T) _
        refine Z_gfR rfl hL hq.1 rfl ?_
        refine Z_jump 1 rfl ?_
        show Zs _ _ (am_P 96).2 (164, [(0, .ref 0), (1, .int x), (2, .int (9 : Int32)), (3, .ref (99 + a))], [.ref (99 + a), .int (nI (D.2.1 k).2.2.1), .ref (99 + a)]) (HH I J R T) _
        refine Z_gfR rfl hL hq.1 rfl ?_
        show Zs _ _ (am_P 96).2 (167, [(0, .ref 0), (1, .int x), (2, .int (9 : Int32)), (3, .ref (99 + a))], [.int (nI (D.2.1 k).2.2.2), .int (nI (D.2.1 k).2.2.1), .ref (99 + a)]) (HH I J R T) _
        refine Z_c1 rfl (am_do_inv (hL) rfl (dis4 hq.1) (Nat.le_of_ble_eq_true rfl)) rfl (c_worthOf hL hq.1) ?_
        show Zs _ _ (am_P 96).2 (170, [(0, .ref 0), (1, .int x), (2, .int (9 : Int32)), (3, .ref (99 + a))], [.int ((nI (D.2.1 k).2.2.1) + (nI (D.2.1 k).2.2.2) * nI (hwv (D.2.1 k)))]) (HH I J R T) _
        show Zs _ _ (am_P 96).2 (170, [(0, .ref 0), (1, .int x), (2, .int (9 : Int32)), (3, .ref (99 + a))], [.int ((nI (D.2.1 k).2.2.1) + (nI (D.2.1 k).2.2.2) * nI (hwv (D.2.1 k)))]) (HH I J R T) _
        refine Z_rI rfl (by first | exact am_nw0 _ | exact am_nw01 | rfl | assumption) ?_
        exact ⟨rfl, Or.inr ⟨k, hk, hx, rfl⟩⟩
  · refine Z_jump 3 rfl ?_
    show Zs _ _ (am_P 96).2 (5, [(0, .ref 0), (1, .int x), (2, .int w)], [.int x, .ref 18]) (HH I J R T) _
    refine Z_c1 rfl rfl rfl (c_rodAt18n hD hr) ?_
    show Zs _ _ (am_P 96).2 (8, [(0, .ref 0), (1, .int x), (2, .int w)], [.null]) (HH I J R T) _
    refine Z_jump 4 rfl ?_
    show Zs _ _ (am_P 96).2 (15, [(0, .ref 0), (1, .int x), (2, .int w), (3, .null)], [.int (-2 : Int32)]) (HH I J R T) _
    refine Z_rI rfl (by first | exact am_nw0 _ | exact am_nw01 | rfl | assumption) ?_
    exact ⟨rfl, Or.inl ⟨hr, rfl⟩⟩
end CL4

