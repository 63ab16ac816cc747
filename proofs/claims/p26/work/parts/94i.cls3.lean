/-! The class: seen, stick, push, undo, keep, back: any state. -/
section CL3
variable {sc : Nat × (Nat → Int32)} {d : Nat} {I : hI} {J : hJ} {R : hR} {T : am_H} {Q : Option Value → am_H → Prop}
/-- a rod that is there, by the number that was given -/
theorem rod_n {n : Nat} {x : Int32} (h : M_rod n x) : ∃ k, k < n ∧ x = nI k := by
  obtain ⟨j, hj, e⟩ := nI_of (x := x) (by rw [fi_lt]; have := h.1; have z : (0 : Int32).toInt = 0 := rfl; omega)
  refine ⟨j, ?_, e⟩
  have := h.2
  rw [e, nI_toInt hj] at this
  omega
abbrev seenOk (v t : Int32) : Prop := (0 ≤ v.toInt ∧ v.toInt ≤ 40) ∧ (0 ≤ t.toInt ∧ t.toInt ≤ 99)
theorem c_seen {D : FD} {m : Nat} {x v t : Int32} (hD : DC 18 D I R T) (hm : I 0 15 = nI m) (hm6 : m ≤ 6) : am_E sc (d + 2) 113 [.ref 0, .int x, .int v, .int t] (HH I J R T) (some (.int (if ¬ M_rod D.1 x then -2 else if ¬ seenOk v t then -3 else if m = 6 then -5 else nI (m + 1)))) (HH (if M_rod D.1 x ∧ seenOk v t ∧ m ≠ 6 then sf (sf (sf (sf I 70 m x) 71 m v) 72 m t) 0 15 (nI (m + 1)) else I) J R T) := by
  refine E_Z (Ze_of (Nat.le_of_ble_eq_true rfl) ?_)
  have z0 : (0 : Int32).toInt = 0 := rfl
  have z40 : (40 : Int32).toInt = 40 := rfl
  have z99 : (99 : Int32).toInt = 99 := rfl
  by_cases hr : M_rod D.1 x
  · rw [if_neg (fun z => z hr)]
    obtain ⟨k, hk, hx⟩ := rod_n hr
    obtain ⟨hq, a, hR, hT⟩ := hD.2.2.2 k hk
    have e43 : I 0 15 < 6 ↔ m < 6 := by rw [hm]; exact nI_ltI (b := 6) (by omega) (by omega)
    have e1 : I 0 15 + 1 = nI (m + 1) := by rw [hm]; exact nI_1 m
    by_cases hs : seenOk v t
    · rw [if_neg (fun z => z hs)]
      by_cases h6 : m = 6
      · rw [if_pos h6, if_neg (fun z => z.2.2 h6)]
        refine Z_jump 3 rfl ?_
        show Zs _ _ (am_P 113).2 (5, [(0, .ref 0), (1, .int x), (2, .int v), (3, .int t)], [.int x, .ref 18]) (HH I J R T) _
        refine Z_c1 rfl rfl rfl (c_rodAt18 hD hx hk hR) ?_
        show Zs _ _ (am_P 113).2 (8, [(0, .ref 0), (1, .int x), (2, .int v), (3, .int t)], [.ref (99 + a)]) (HH I J R T) _
        refine Z_jump 3 rfl ?_
        refine Z_bd (fun c15 => absurd c15 ((show ¬ v < 0 by rw [fi_lt]; omega))) (fun c15 => ?_)
        refine Z_jump 3 rfl ?_
        refine Z_bd (fun c21 => absurd c21 ((show ¬ (40 : Int32) < v by rw [fi_lt]; omega))) (fun c21 => ?_)
        refine Z_jump 2 rfl ?_
        refine Z_bd (fun c25 => absurd c25 ((show ¬ t < 0 by rw [fi_lt]; omega))) (fun c25 => ?_)
        refine Z_jump 3 rfl ?_
        refine Z_bd (fun c31 => ?_) (fun c31 => absurd ((show t ≤ 99 by rw [fi_le]; omega)) c31)
        refine Z_jump 4 rfl ?_
        refine Z_bd (fun c43 => absurd c43 ((fun z => absurd (e43.mp z) (by omega)))) (fun c43 => ?_)
        refine Z_jump 1 rfl ?_
        show Zs _ _ (am_P 113).2 (48, [(0, .ref 0), (1, .int x), (2, .int v), (3, .int t)], [.int (-5 : Int32)]) (HH I J R T) _
        refine Z_rI rfl (by first | exact am_nw0 _ | exact am_nw01 | rfl | assumption) ?_
        exact ⟨rfl, rfl⟩
      · rw [if_neg h6, if_pos ⟨hr, hs, h6⟩]
        refine Z_jump 3 rfl ?_
        show Zs _ _ (am_P 113).2 (5, [(0, .ref 0), (1, .int x), (2, .int v), (3, .int t)], [.int x, .ref 18]) (HH I J R T) _
        refine Z_c1 rfl rfl rfl (c_rodAt18 hD hx hk hR) ?_
        show Zs _ _ (am_P 113).2 (8, [(0, .ref 0), (1, .int x), (2, .int v), (3, .int t)], [.ref (99 + a)]) (HH I J R T) _
        refine Z_jump 3 rfl ?_
        refine Z_bd (fun c15 => absurd c15 ((show ¬ v < 0 by rw [fi_lt]; omega))) (fun c15 => ?_)
        refine Z_jump 3 rfl ?_
        refine Z_bd (fun c21 => absurd c21 ((show ¬ (40 : Int32) < v by rw [fi_lt]; omega))) (fun c21 => ?_)
        refine Z_jump 2 rfl ?_
        refine Z_bd (fun c25 => absurd c25 ((show ¬ t < 0 by rw [fi_lt]; omega))) (fun c25 => ?_)
        refine Z_jump 3 rfl ?_
        refine Z_bd (fun c31 => ?_) (fun c31 => absurd ((show t ≤ 99 by rw [fi_le]; omega)) c31)
        refine Z_jump 4 rfl ?_
        refine Z_bd (fun c43 => ?_) (fun c43 => absurd ((e43.mpr (by omega))) c43)
        refine Z_jump 5 rfl ?_
        show Zs _ _ (am_P 113).2 (58, [(0, .ref 0), (1, .int x), (2, .int v), (3, .int t)], [.int x, .int (I 0 15), .ref 70]) (HH I J R T) _
        refine Z_c0 rfl rfl rfl (k_putK (a := 70) (L := 6) (f := I 70) (i := m) rfl hm (by omega) (by decide)) ?_
        show Zs _ _ (am_P 113).2 (61, [(0, .ref 0), (1, .int x), (2, .int v), (3, .int t)], []) (HH (sf I 70 m x) J R T) _
        refine Z_jump 5 rfl ?_
        show Zs _ _ (am_P 113).2 (70, [(0, .ref 0), (1, .int x), (2, .int v), (3, .int t)], [.int v, .int ((sf I 70 m x) 0 15), .ref 71]) (HH (sf I 70 m x) J R T) _
        refine Z_c0 rfl rfl rfl (k_putK (a := 71) (L := 6) (f := (sf I 70 m x) 71) (i := m) rfl hm (by omega) (by decide)) ?_
        show Zs _ _ (am_P 113).2 (73, [(0, .ref 0), (1, .int x), (2, .int v), (3, .int t)], []) (HH (sf (sf I 70 m x) 71 m v) J R T) _
        refine Z_jump 5 rfl ?_
        show Zs _ _ (am_P 113).2 (82, [(0, .ref 0), (1, .int x), (2, .int v), (3, .int t)], [.int t, .int ((sf (sf I 70 m x) 71 m v) 0 15), .ref 72]) (HH (sf (sf I 70 m x) 71 m v) J R T) _
        refine Z_c0 rfl rfl rfl (k_putK (a := 72) (L := 6) (f := (sf (sf I 70 m x) 71 m v) 72) (i := m) rfl hm (by omega) (by decide)) ?_
        show Zs _ _ (am_P 113).2 (85, [(0, .ref 0), (1, .int x), (2, .int v), (3, .int t)], []) (HH (sf (sf (sf I 70 m x) 71 m v) 72 m t) J R T) _
        refine Z_jump 5 rfl ?_
        show Zs _ _ (am_P 113).2 (92, [(0, .ref 0), (1, .int x), (2, .int v), (3, .int t)], [.int (((sf (sf (sf I 70 m x) 71 m v) 72 m t) 0 15) + (1 : Int32)), .ref 0]) (HH (sf (sf (sf I 70 m x) 71 m v) 72 m t) J R T) _
        refine Z_eqI (y := (nI (m + 1))) (e1) ?_
        show Zs _ _ (am_P 113).2 (92, [(0, .ref 0), (1, .int x), (2, .int v), (3, .int t)], [.int (nI (m + 1)), .ref 0]) (HH (sf (sf (sf I 70 m x) 71 m v) 72 m t) J R T) _
        refine Z_jump 1 rfl ?_
        show Zs _ _ (am_P 113).2 (95, [(0, .ref 0), (1, .int x), (2, .int v), (3, .int t)], []) (HH (sf (sf (sf (sf I 70 m x) 71 m v) 72 m t) 0 15 (nI (m + 1))) J R T) _
        refine Z_jump 2 rfl ?_
        show Zs _ _ (am_P 113).2 (99, [(0, .ref 0), (1, .int x), (2, .int v), (3, .int t)], [.int (nI (m + 1))]) (HH (sf (sf (sf (sf I 70 m x) 71 m v) 72 m t) 0 15 (nI (m + 1))) J R T) _
        refine Z_rI rfl (by first | exact am_nw0 _ | exact am_nw01 | rfl | assumption) ?_
        exact ⟨rfl, rfl⟩
    · rw [if_pos hs, if_neg (fun z => hs z.2.1)]
      refine Z_jump 3 rfl ?_
      show Zs _ _ (am_P 113).2 (5, [(0, .ref 0), (1, .int x), (2, .int v), (3, .int t)], [.int x, .ref 18]) (HH I J R T) _
      refine Z_c1 rfl rfl rfl (c_rodAt18 hD hx hk hR) ?_
      show Zs _ _ (am_P 113).2 (8, [(0, .ref 0), (1, .int x), (2, .int v), (3, .int t)], [.ref (99 + a)]) (HH I J R T) _
      refine Z_jump 3 rfl ?_
      refine Z_bd (fun (c15 : v < (0 : Int32)) => ?_) (fun (c15 : ¬ (v < (0 : Int32))) => ?_)
      · refine Z_jump 1 rfl ?_
        show Zs _ _ (am_P 113).2 (36, [(0, .ref 0), (1, .int x), (2, .int v), (3, .int t)], [.int (-3 : Int32)]) (HH I J R T) _
        refine Z_rI rfl (by first | exact am_nw0 _ | exact am_nw01 | rfl | assumption) ?_
        exact ⟨rfl, rfl⟩
      · refine Z_jump 3 rfl ?_
        refine Z_bd (fun (c21 : (40 : Int32) < v) => ?_) (fun (c21 : ¬ ((40 : Int32) < v)) => ?_)
        · refine Z_jump 1 rfl ?_
          show Zs _ _ (am_P 113).2 (36, [(0, .ref 0), (1, .int x), (2, .int v), (3, .int t)], [.int (-3 : Int32)]) (HH I J R T) _
          refine Z_rI rfl (by first | exact am_nw0 _ | exact am_nw01 | rfl | assumption) ?_
          exact ⟨rfl, rfl⟩
        · refine Z_jump 2 rfl ?_
          refine Z_bd (fun (c25 : t < (0 : Int32)) => ?_) (fun (c25 : ¬ (t < (0 : Int32))) => ?_)
          · refine Z_jump 1 rfl ?_
            show Zs _ _ (am_P 113).2 (36, [(0, .ref 0), (1, .int x), (2, .int v), (3, .int t)], [.int (-3 : Int32)]) (HH I J R T) _
            refine Z_rI rfl (by first | exact am_nw0 _ | exact am_nw01 | rfl | assumption) ?_
            exact ⟨rfl, rfl⟩
          · refine Z_jump 3 rfl ?_
            refine Z_bd (fun c31 => absurd c31 ((show ¬ t ≤ 99 from fun z => by rw [fi_lt] at c15 c21 c25; rw [fi_le] at z; exact hs ⟨⟨by omega, by omega⟩, by omega, by omega⟩))) (fun c31 => ?_)
            refine Z_jump 1 rfl ?_
            show Zs _ _ (am_P 113).2 (36, [(0, .ref 0), (1, .int x), (2, .int v), (3, .int t)], [.int (-3 : Int32)]) (HH I J R T) _
            refine Z_rI rfl (by first | exact am_nw0 _ | exact am_nw01 | rfl | assumption) ?_
            exact ⟨rfl, rfl⟩
  · rw [if_pos hr, if_neg (fun z => hr z.1)]
    refine Z_jump 3 rfl ?_
    show Zs _ _ (am_P 113).2 (5, [(0, .ref 0), (1, .int x), (2, .int v), (3, .int t)], [.int x, .ref 18]) (HH I J R T) _
    refine Z_c1 rfl rfl rfl (c_rodAt18n hD hr) ?_
    show Zs _ _ (am_P 113).2 (8, [(0, .ref 0), (1, .int x), (2, .int v), (3, .int t)], [.null]) (HH I J R T) _
    refine Z_jump 2 rfl ?_
    show Zs _ _ (am_P 113).2 (13, [(0, .ref 0), (1, .int x), (2, .int v), (3, .int t)], [.int (-2 : Int32)]) (HH I J R T) _
    refine Z_rI rfl (by first | exact am_nw0 _ | exact am_nw01 | rfl | assumption) ?_
    exact ⟨rfl, rfl⟩
abbrev bit01 (p : Int32) : Prop := p = 0 ∨ p = 1
def bitOf (x p : Int32) : Int32 := 1 <<< ((2 * x + p) &&& 31)
/-- stick -/
theorem c_stick {D : FD} {m : Nat} {x p : Int32} (hD : DC 18 D I R T) (hp : I 0 9 = nI m) (hm : m ≤ 8) (hP : PR R) : Ze sc (d + 4) 100 [.ref 0, .int x, .int p] (HH I J R T) (fun r h =>
    (¬ (M_rod D.1 x ∧ bit01 p) ∧ r = some (.int (-2)) ∧ h = HH I J R T) ∨
    ((M_rod D.1 x ∧ bit01 p) ∧ r = some (.int (if (I 22 2 ^^^ bitOf x p) &&& bitOf x p = 0 then 0 else 1)) ∧ ∃ I1 R1, RMq m I J R T none (HH I1 J R1 T) ∧ I1 22 2 = I 22 2 ∧ h = HH (sf I1 22 2 (I 22 2 ^^^ bitOf x p)) J R1 T)) := by
  refine Ze_of (Nat.le_of_ble_eq_true rfl) ?_
  by_cases hr : M_rod D.1 x
  · obtain ⟨k, hk, hx⟩ := rod_n hr
    obtain ⟨hq, a, hR, hT⟩ := hD.2.2.2 k hk
    by_cases hb : bit01 p
    · refine Z_jump 3 rfl ?_
      show Zs _ _ (am_P 100).2 (5, [(0, .ref 0), (1, .int x), (2, .int p)], [.int x, .ref 18]) (HH I J R T) _
      refine Z_c1 rfl rfl rfl (c_rodAt18 hD hx hk hR) ?_
      show Zs _ _ (am_P 100).2 (8, [(0, .ref 0), (1, .int x), (2, .int p)], [.ref (99 + a)]) (HH I J R T) _
      refine Z_jump 2 rfl ?_
      show Zs _ _ (am_P 100).2 (12, [(0, .ref 0), (1, .int x), (2, .int p)], [.int p]) (HH I J R T) _
      refine Z_c1 rfl rfl rfl (c_isPart) ?_
      show Zs _ _ (am_P 100).2 (15, [(0, .ref 0), (1, .int x), (2, .int p)], [.int (if p = 0 ∨ p = 1 then 1 else 0)]) (HH I J R T) _
      refine Z_jump 1 rfl ?_
      refine Z_bn (fun c15 => ?_) (fun c15 => absurd c15 ((fun z => if10.mp z hb)))
      refine Z_jump 1 rfl ?_
      show Zs _ _ (am_P 100).2 (22, [(0, .ref 0), (1, .int x), (2, .int p)], [.ref 0]) (HH I J R T) _
      refine Z_cQ rfl rfl rfl (c_remember (d := d) hp hm hP) (fun v h1 hq => ?_)
      have hq0 := hq
      obtain ⟨rfl, I1, R1, a1, rfl, h1, h2, h3, h4, h5, h6, h7⟩ := hq
      have e22 : I1 22 2 = I 22 2 := congrFun (h7.1 22 (by omega) (by have := (past_st h6).2.2.1; omega) (by have := (past_st h6).2.2.1; omega) (by have := (past_st h6).2.2.1; omega)) 2
      show Zs _ _ (am_P 100).2 (25, [(0, .ref 0), (1, .int x), (2, .int p)], []) (HH I1 J R1 T) _
      refine Z_jump 4 rfl ?_
      show Zs _ _ (am_P 100).2 (33, [(0, .ref 0), (1, .int x), (2, .int p)], [.int (I1 22 2), .ref 22]) (HH I1 J R1 T) _
      refine Z_eqI (y := (I 22 2)) (e22) ?_
      show Zs _ _ (am_P 100).2 (33, [(0, .ref 0), (1, .int x), (2, .int p)], [.int (I 22 2), .ref 22]) (HH I1 J R1 T) _
      refine Z_jump 2 rfl ?_
      show Zs _ _ (am_P 100).2 (35, [(0, .ref 0), (1, .int x), (2, .int p)], [.int p, .int x, .int (I 22 2), .ref 22]) (HH I1 J R1 T) _
      refine Z_c1 rfl rfl rfl (c_partBit) ?_
      show Zs _ _ (am_P 100).2 (38, [(0, .ref 0), (1, .int x), (2, .int p)], [.int (bitOf x p), .int (I 22 2), .ref 22]) (HH I1 J R1 T) _
      refine Z_jump 2 rfl ?_
      show Zs _ _ (am_P 100).2 (42, [(0, .ref 0), (1, .int x), (2, .int p)], []) (HH (sf I1 22 2 ((I 22 2) ^^^ (bitOf x p))) J R1 T) _
      refine Z_jump 4 rfl ?_
      show Zs _ _ (am_P 100).2 (48, [(0, .ref 0), (1, .int x), (2, .int p)], [.int p, .int x, .ref 22]) (HH (sf I1 22 2 ((I 22 2) ^^^ (bitOf x p))) J R1 T) _
      refine Z_c1 rfl rfl rfl (c_isStuck (a := 22) (by decide)) ?_
      show Zs _ _ (am_P 100).2 (51, [(0, .ref 0), (1, .int x), (2, .int p)], [.int (if (I 22 2 ^^^ bitOf x p) &&& bitOf x p = 0 then 0 else 1)]) (HH (sf I1 22 2 ((I 22 2) ^^^ (bitOf x p))) J R1 T) _
      refine Z_jump 1 rfl ?_
      refine Z_bd (fun (c51 : (if (I 22 2 ^^^ bitOf x p) &&& bitOf x p = 0 then 0 else 1) = (0 : Int32)) => ?_) (fun (c51 : ¬ ((if (I 22 2 ^^^ bitOf x p) &&& bitOf x p = 0 then 0 else 1) = (0 : Int32))) => ?_)
      · refine Z_jump 1 rfl ?_
        show Zs _ _ (am_P 100).2 (59, [(0, .ref 0), (1, .int x), (2, .int p)], [.int (0 : Int32)]) (HH (sf I1 22 2 ((I 22 2) ^^^ (bitOf x p))) J R1 T) _
        refine Z_rI rfl (by first | exact am_nw0 _ | exact am_nw01 | rfl | assumption) ?_
        have e : (if (I 22 2 ^^^ bitOf x p) &&& bitOf x p = 0 then (0 : Int32) else 1) = 0 := c51
        exact Or.inr ⟨⟨hr, hb⟩, am_ii e.symm, I1, R1, hq0, e22, rfl⟩
      · refine Z_jump 2 rfl ?_
        show Zs _ _ (am_P 100).2 (59, [(0, .ref 0), (1, .int x), (2, .int p)], [.int (1 : Int32)]) (HH (sf I1 22 2 ((I 22 2) ^^^ (bitOf x p))) J R1 T) _
        refine Z_rI rfl (by first | exact am_nw0 _ | exact am_nw01 | rfl | assumption) ?_
        have e : (if (I 22 2 ^^^ bitOf x p) &&& bitOf x p = 0 then (0 : Int32) else 1) = 1 := by by_cases z : (I 22 2 ^^^ bitOf x p) &&& bitOf x p = 0; rw [if_pos z] at c51; exact absurd rfl c51; exact if_neg z
        exact Or.inr ⟨⟨hr, hb⟩, am_ii e.symm, I1, R1, hq0, e22, rfl⟩
    · refine Z_jump 3 rfl ?_
      show Zs _ _ (am_P 100).2 (5, [(0, .ref 0), (1, .int x), (2, .int p)], [.int x, .ref 18]) (HH I J R T) _
      refine Z_c1 rfl rfl rfl (c_rodAt18 hD hx hk hR) ?_
      show Zs _ _ (am_P 100).2 (8, [(0, .ref 0), (1, .int x), (2, .int p)], [.ref (99 + a)]) (HH I J R T) _
      refine Z_jump 2 rfl ?_
      show Zs _ _ (am_P 100).2 (12, [(0, .ref 0), (1, .int x), (2, .int p)], [.int p]) (HH I J R T) _
      refine Z_c1 rfl rfl rfl (c_isPart) ?_
      show Zs _ _ (am_P 100).2 (15, [(0, .ref 0), (1, .int x), (2, .int p)], [.int (if p = 0 ∨ p = 1 then 1 else 0)]) (HH I J R T) _
      refine Z_jump 1 rfl ?_
      refine Z_bn (fun c15 => absurd (if10.mpr hb) c15) (fun c15 => ?_)
      refine Z_jump 1 rfl ?_
      show Zs _ _ (am_P 100).2 (20, [(0, .ref 0), (1, .int x), (2, .int p)], [.int (-2 : Int32)]) (HH I J R T) _
      refine Z_rI rfl (by first | exact am_nw0 _ | exact am_nw01 | rfl | assumption) ?_
      exact Or.inl ⟨fun z => hb z.2, rfl, rfl⟩
  · refine Z_jump 3 rfl ?_
    show Zs _ _ (am_P 100).2 (5, [(0, .ref 0), (1, .int x), (2, .int p)], [.int x, .ref 18]) (HH I J R T) _
    refine Z_c1 rfl rfl rfl (c_rodAt18n hD hr) ?_
    show Zs _ _ (am_P 100).2 (8, [(0, .ref 0), (1, .int x), (2, .int p)], [.null]) (HH I J R T) _
    refine Z_jump 2 rfl ?_
    show Zs _ _ (am_P 100).2 (20, [(0, .ref 0), (1, .int x), (2, .int p)], [.int (-2 : Int32)]) (HH I J R T) _
    refine Z_rI rfl (by first | exact am_nw0 _ | exact am_nw01 | rfl | assumption) ?_
    exact Or.inl ⟨fun z => hr z.1, rfl, rfl⟩
/-- undo -/
theorem c_undo {m : Nat} (hp : I 0 9 = nI m) (hm : m ≤ 8) (hP : PR R) : Ze sc (d + 3) 103 [.ref 0] (HH I J R T) (fun r h => (m = 0 ∧ r = some (.int (-4)) ∧ h = HH I J R T) ∨ (0 < m ∧ r = some (.int (nI (m - 1))) ∧ ∃ a I1, R 38 (m - 1) = some a ∧ isPast a ∧ h = HH I1 J R T ∧ CP 22 a (sf I 0 9 (nI (m - 1))) I1)) := by
  refine Ze_of (Nat.le_of_ble_eq_true rfl) ?_
  by_cases h0 : m = 0
  · subst h0
    refine Z_jump 2 rfl ?_
    show Zs _ _ (am_P 103).2 (4, [(0, .ref 0)], [.int (I 0 9)]) (HH I J R T) _
    refine Z_eqI (y := (0 : Int32)) (hp) ?_
    show Zs _ _ (am_P 103).2 (4, [(0, .ref 0)], [.int (0 : Int32)]) (HH I J R T) _
    refine Z_jump 2 rfl ?_
    show Zs _ _ (am_P 103).2 (9, [(0, .ref 0)], [.int (-4 : Int32)]) (HH I J R T) _
    refine Z_rI rfl (by first | exact am_nw0 _ | exact am_nw01 | rfl | assumption) ?_
    exact Or.inl ⟨rfl, rfl, rfl⟩
  · obtain ⟨m', rfl⟩ : ∃ m', m = m' + 1 := ⟨m - 1, by omega⟩
    obtain ⟨a, hR, ha⟩ := hP.1 m' (by omega)
    have hst := past_st ha
    have e1 : I 0 9 - 1 = nI m' := by rw [hp]; exact nI_pred m'
    refine Z_jump 3 rfl ?_
    refine Z_bd (fun c4 => ?_) (fun c4 => absurd ((show (0 : Int32) < I 0 9 by rw [hp]; exact nI_lt (a := 0) (by omega) (by omega))) c4)
    refine Z_jump 5 rfl ?_
    show Zs _ _ (am_P 103).2 (17, [(0, .ref 0)], [.int ((I 0 9) - (1 : Int32)), .ref 0]) (HH I J R T) _
    refine Z_eqI (y := (nI m')) (e1) ?_
    show Zs _ _ (am_P 103).2 (17, [(0, .ref 0)], [.int (nI m'), .ref 0]) (HH I J R T) _
    refine Z_jump 1 rfl ?_
    show Zs _ _ (am_P 103).2 (20, [(0, .ref 0)], []) (HH (sf I 0 9 (nI m')) J R T) _
    refine Z_jump 6 rfl ?_
    show Zs _ _ (am_P 103).2 (32, [(0, .ref 0)], [.int (nI m'), .ref 38, .ref 22]) (HH (sf I 0 9 (nI m')) J R T) _
    refine Z_c1 rfl rfl rfl (c_stAt38 (I := (sf I 0 9 (nI m'))) hR rfl (by omega)) ?_
    show Zs _ _ (am_P 103).2 (35, [(0, .ref 0)], [.ref a, .ref 22]) (HH (sf I 0 9 (nI m')) J R T) _
    show Zs _ _ (am_P 103).2 (35, [(0, .ref 0)], [.ref a, .ref 22]) (HH (sf I 0 9 (nI m')) J R T) _
    refine Z_cQ rfl rfl rfl (Ze_deep (d := 2) (by omega) (c_copy (d := 0) (a := 22) (b := a) (by decide) hst.1 (Ne.symm hst.2.1))) (fun v h1 hq => ?_)
    obtain ⟨rfl, I1, rfl, hC⟩ := hq
    show Zs _ _ (am_P 103).2 (38, [(0, .ref 0)], []) (HH I1 J R T) _
    refine Z_jump 2 rfl ?_
    show Zs _ _ (am_P 103).2 (42, [(0, .ref 0)], [.int (I1 0 9)]) (HH I1 J R T) _
    refine Z_rI rfl (by first | exact am_nw0 _ | exact am_nw01 | rfl | assumption) ?_
    refine Or.inr ⟨by omega, am_ii ?_, a, I1, hR, ha, rfl, hC⟩
    exact (congrFun (hC.1 0 (by decide) (by decide) (by decide)) 9).trans (sf_s _ _ _ _)
/-- keep, back -/
theorem c_keep {k : Int32} (hR0 : R 63 0 = some 64) (hR1 : R 63 1 = some 67) : Ze sc (d + 4) 104 [.ref 0, .int k] (HH I J R T) (fun r h => (¬ M_01 k ∧ r = some (.int (-2)) ∧ h = HH I J R T) ∨ ∃ c a, (c = 0 ∧ a = 64 ∨ c = 1 ∧ a = 67) ∧ k = nI c ∧ r = some (.int (C_ap I 22 0 0 6)) ∧ ∃ I1, h = HH (sf I1 0 11 (I 0 11 ||| (1 <<< (k &&& 31)))) J R T ∧ CP a 22 I I1) := by
  refine Ze_of (Nat.le_of_ble_eq_true rfl) ?_
  by_cases hb : M_01 k
  · rcases bit_c hb with rfl | rfl
    · refine Z_jump 3 rfl ?_
      show Zs _ _ (am_P 104).2 (5, [(0, .ref 0), (1, .int (0 : Int32))], [.int (0 : Int32), .ref 63]) (HH I J R T) _
      refine Z_c1 rfl rfl rfl (c_stAt63 (K := 0) hR0 rfl (by omega)) ?_
      show Zs _ _ (am_P 104).2 (8, [(0, .ref 0), (1, .int (0 : Int32))], [.ref 64]) (HH I J R T) _
      refine Z_jump 6 rfl ?_
      show Zs _ _ (am_P 104).2 (21, [(0, .ref 0), (1, .int (0 : Int32)), (2, .ref 64)], [.ref 22, .ref 64]) (HH I J R T) _
      refine Z_cQ rfl rfl rfl (Ze_deep (d := 2) (by omega) (c_copy (d := 0) (a := 64) (b := 22) (by decide) (by decide) (by decide))) (fun v h1 hq => ?_)
      obtain ⟨rfl, I1, rfl, hC⟩ := hq
      have e11 : I1 0 11 = I 0 11 := congrFun (hC.1 0 (by decide) (by decide) (by decide)) 11
      have ea : C_ap I1 22 0 0 6 = C_ap I 22 0 0 6 := by simp only [C_ap]; rw [hC.1 23 (by decide) (by decide) (by decide), hC.1 24 (by decide) (by decide) (by decide)]
      show Zs _ _ (am_P 104).2 (24, [(0, .ref 0), (1, .int (0 : Int32)), (2, .ref 64)], []) (HH I1 J R T) _
      refine Z_jump 3 rfl ?_
      show Zs _ _ (am_P 104).2 (29, [(0, .ref 0), (1, .int (0 : Int32)), (2, .ref 64)], [.int (I1 0 11), .ref 0]) (HH I1 J R T) _
      refine Z_eqI (y := (I 0 11)) (e11) ?_
      show Zs _ _ (am_P 104).2 (29, [(0, .ref 0), (1, .int (0 : Int32)), (2, .ref 64)], [.int (I 0 11), .ref 0]) (HH I1 J R T) _
      refine Z_jump 5 rfl ?_
      show Zs _ _ (am_P 104).2 (36, [(0, .ref 0), (1, .int (0 : Int32)), (2, .ref 64)], []) (HH (sf I1 0 11 ((I 0 11) ||| (1 : Int32))) J R T) _
      refine Z_jump 2 rfl ?_
      show Zs _ _ (am_P 104).2 (40, [(0, .ref 0), (1, .int (0 : Int32)), (2, .ref 64)], [.ref 22]) (HH (sf I1 0 11 ((I 0 11) ||| (1 : Int32))) J R T) _
      refine Z_c1 rfl rfl rfl (c_beadsInAll (a := 22) (by decide)) ?_
      show Zs _ _ (am_P 104).2 (43, [(0, .ref 0), (1, .int (0 : Int32)), (2, .ref 64)], [.int (C_ap (sf I1 0 11 ((I 0 11) ||| (1 : Int32))) 22 0 0 6)]) (HH (sf I1 0 11 ((I 0 11) ||| (1 : Int32))) J R T) _
      show Zs _ _ (am_P 104).2 (43, [(0, .ref 0), (1, .int (0 : Int32)), (2, .ref 64)], [.int (C_ap (sf I1 0 11 ((I 0 11) ||| (1 : Int32))) 22 0 0 6)]) (HH (sf I1 0 11 ((I 0 11) ||| (1 : Int32))) J R T) _
      refine Z_rI rfl (by first | exact am_nw0 _ | exact am_nw01 | rfl | assumption) ?_
      exact Or.inr ⟨0, 64, Or.inl ⟨rfl, rfl⟩, rfl, am_ii ea, I1, rfl, hC⟩
    · refine Z_jump 3 rfl ?_
      show Zs _ _ (am_P 104).2 (5, [(0, .ref 0), (1, .int (1 : Int32))], [.int (1 : Int32), .ref 63]) (HH I J R T) _
      refine Z_c1 rfl rfl rfl (c_stAt63 (K := 1) hR1 rfl (by omega)) ?_
      show Zs _ _ (am_P 104).2 (8, [(0, .ref 0), (1, .int (1 : Int32))], [.ref 67]) (HH I J R T) _
      refine Z_jump 6 rfl ?_
      show Zs _ _ (am_P 104).2 (21, [(0, .ref 0), (1, .int (1 : Int32)), (2, .ref 67)], [.ref 22, .ref 67]) (HH I J R T) _
      refine Z_cQ rfl rfl rfl (Ze_deep (d := 2) (by omega) (c_copy (d := 0) (a := 67) (b := 22) (by decide) (by decide) (by decide))) (fun v h1 hq => ?_)
      obtain ⟨rfl, I1, rfl, hC⟩ := hq
      have e11 : I1 0 11 = I 0 11 := congrFun (hC.1 0 (by decide) (by decide) (by decide)) 11
      have ea : C_ap I1 22 0 0 6 = C_ap I 22 0 0 6 := by simp only [C_ap]; rw [hC.1 23 (by decide) (by decide) (by decide), hC.1 24 (by decide) (by decide) (by decide)]
      show Zs _ _ (am_P 104).2 (24, [(0, .ref 0), (1, .int (1 : Int32)), (2, .ref 67)], []) (HH I1 J R T) _
      refine Z_jump 3 rfl ?_
      show Zs _ _ (am_P 104).2 (29, [(0, .ref 0), (1, .int (1 : Int32)), (2, .ref 67)], [.int (I1 0 11), .ref 0]) (HH I1 J R T) _
      refine Z_eqI (y := (I 0 11)) (e11) ?_
      show Zs _ _ (am_P 104).2 (29, [(0, .ref 0), (1, .int (1 : Int32)), (2, .ref 67)], [.int (I 0 11), .ref 0]) (HH I1 J R T) _
      refine Z_jump 5 rfl ?_
      show Zs _ _ (am_P 104).2 (36, [(0, .ref 0), (1, .int (1 : Int32)), (2, .ref 67)], []) (HH (sf I1 0 11 ((I 0 11) ||| (2 : Int32))) J R T) _
      refine Z_jump 2 rfl ?_
      show Zs _ _ (am_P 104).2 (40, [(0, .ref 0), (1, .int (1 : Int32)), (2, .ref 67)], [.ref 22]) (HH (sf I1 0 11 ((I 0 11) ||| (2 : Int32))) J R T) _
      refine Z_c1 rfl rfl rfl (c_beadsInAll (a := 22) (by decide)) ?_
      show Zs _ _ (am_P 104).2 (43, [(0, .ref 0), (1, .int (1 : Int32)), (2, .ref 67)], [.int (C_ap (sf I1 0 11 ((I 0 11) ||| (2 : Int32))) 22 0 0 6)]) (HH (sf I1 0 11 ((I 0 11) ||| (2 : Int32))) J R T) _
      show Zs _ _ (am_P 104).2 (43, [(0, .ref 0), (1, .int (1 : Int32)), (2, .ref 67)], [.int (C_ap (sf I1 0 11 ((I 0 11) ||| (2 : Int32))) 22 0 0 6)]) (HH (sf I1 0 11 ((I 0 11) ||| (2 : Int32))) J R T) _
      refine Z_rI rfl (by first | exact am_nw0 _ | exact am_nw01 | rfl | assumption) ?_
      exact Or.inr ⟨1, 67, Or.inr ⟨rfl, rfl⟩, rfl, am_ii ea, I1, rfl, hC⟩
  · refine Z_jump 3 rfl ?_
    show Zs _ _ (am_P 104).2 (5, [(0, .ref 0), (1, .int k)], [.int k, .ref 63]) (HH I J R T) _
    refine Z_c1 rfl rfl rfl (c_stAt63_no hb) ?_
    show Zs _ _ (am_P 104).2 (8, [(0, .ref 0), (1, .int k)], [.null]) (HH I J R T) _
    refine Z_jump 4 rfl ?_
    show Zs _ _ (am_P 104).2 (15, [(0, .ref 0), (1, .int k), (2, .null)], [.int (-2 : Int32)]) (HH I J R T) _
    refine Z_rI rfl (by first | exact am_nw0 _ | exact am_nw01 | rfl | assumption) ?_
    exact Or.inl ⟨hb, rfl, rfl⟩
end CL3

