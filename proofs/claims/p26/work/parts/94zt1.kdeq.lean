/-! kinds: both sides answer alike. -/
section KEQ
/-- what was seen took no more than 99 -/
def SO (m : Nat) (sn : Nat → Nat → Int32) : Prop := ∀ k, k < m → 0 ≤ (sn 2 k).toInt ∧ (sn 2 k).toInt ≤ 99
theorem SO_0 (sn : Nat → Nat → Int32) : SO 0 sn := fun k hk => absurd hk (Nat.not_lt_zero k)
theorem SO_fr {tx : Nat → Nat} {c m : Nat} {D : FD} {sn : Nat → Nat → Int32} (h : SO m sn) : SO (frM tx c D m) sn := by
  unfold frM
  split
  · exact h
  · exact SO_0 sn
theorem SO_s {m : Nat} {D : FD} {sn : Nat → Nat → Int32} {x v t : Int32} (hs : snP D m x v t) (h : SO m sn) : SO (m + 1) (snA sn m x v t) := fun k hk => by
  unfold snA
  by_cases e : k = m
  · rw [if_pos e, if_neg (by decide), if_neg (by decide)]
    exact hs.2.1.2
  · rw [if_neg e]
    exact h k (by omega)
theorem ltv_b (q : RD4) : 1 ≤ ltv q ∧ ltv q ≤ 2 := by unfold ltv; split <;> omega
theorem htv_b (q : RD4) : 1 ≤ htv q ∧ htv q ≤ 3 := by unfold htv; split; omega; split <;> omega
theorem ltt_b {q : RD4} {v : Int32} {i : Nat} (hi : i ≤ 3) (h1 : 0 ≤ (ltl q v i).toInt) (h2 : (ltl q v i).toInt ≤ 9) : 0 ≤ (ltt q v i).toInt ∧ (ltt q v i).toInt ≤ 27 := by
  obtain ⟨j, hj, e⟩ := nI_of (x := ltl q v i) (by rw [fi_lt]; have z0 : (0 : Int32).toInt = 0 := rfl; omega)
  rw [e, nI_toInt hj] at h2
  have a := ltv_b q
  have b := htv_b q
  unfold ltt
  rw [e, show nI j * nI (ltv q) = nI (j * ltv q) from (Int32.ofNat_mul _ _).symm, show nI i * nI (htv q) = nI (i * htv q) from (Int32.ofNat_mul _ _).symm, nI_add]
  have m1 : j * ltv q ≤ 9 * 2 := Nat.mul_le_mul (by omega) a.2
  have m2 : i * htv q ≤ 3 * 3 := Nat.mul_le_mul hi b.2
  rw [nI_toInt (by omega)]
  omega
def Rl (s s' : Int32) : Prop := (s = -1 ∧ s' = 1000000000) ∨ (s = s' ∧ 0 ≤ s.toInt ∧ s.toInt ≤ 27)
theorem clt_mls {q : RD4} {v : Int32} (hq : okR q) : ∀ (k i : Nat) (s s' : Int32), i + k ≤ 4 → Rl s s' → Rl (clt q v k i s) (mls q v k i s')
  | 0, i, s, s', hi, h => h
  | k + 1, i, s, s', hi, h => by
    have h9 := hq.2.2.1.2
    have z0 : (0 : Int32).toInt = 0 := rfl
    have z9 : (1000000000 : Int32).toInt = 1000000000 := rfl
    have zm : (-1 : Int32).toInt = -1 := rfl
    unfold clt mls
    refine clt_mls hq k (i + 1) _ _ (by omega) ?_
    by_cases c1 : ltl q v i < 0
    · rw [if_pos c1]
      rw [fi_lt] at c1
      rw [if_neg (by omega)]
      have hle : s' ≤ 1000000000 := by
        rw [fi_le]
        rcases h with ⟨_, rfl⟩ | ⟨rfl, _, _⟩ <;> omega
      rw [if_pos hle]
      exact h
    · rw [if_neg c1]
      by_cases c2 : nI q.2.2.1 < ltl q v i
      · rw [if_pos c2]
        rw [fi_lt, nI_toInt (by omega)] at c2
        rw [if_neg (by omega)]
        have hle : s' ≤ 1000000000 := by
          rw [fi_le]
          rcases h with ⟨_, rfl⟩ | ⟨rfl, _, _⟩ <;> omega
        rw [if_pos hle]
        exact h
      · rw [if_neg c2]
        rw [fi_lt] at c1
        rw [fi_lt, nI_toInt (by omega)] at c2
        rw [if_pos (show 0 ≤ (ltl q v i).toInt ∧ (ltl q v i).toInt ≤ (q.2.2.1 : Int) by omega)]
        have hb := ltt_b (q := q) (v := v) (i := i) (by omega) (by omega) (by omega)
        rcases h with ⟨rfl, rfl⟩ | ⟨rfl, h1, h2⟩
        · rw [if_pos rfl, if_neg (by rw [fi_le]; omega)]
          exact Or.inr ⟨rfl, hb.1, hb.2⟩
        · rw [if_neg (fun z => by rw [z] at h1; omega)]
          by_cases c3 : s ≤ ltt q v i
          · rw [if_pos c3]; exact Or.inr ⟨rfl, h1, h2⟩
          · rw [if_neg c3]; exact Or.inr ⟨rfl, hb.1, hb.2⟩
theorem lt_eq {q : RD4} {v t : Int32} (hq : okR q) (ht : 0 ≤ t.toInt ∧ t.toInt ≤ 99) : clt q v (q.2.2.2 + 1) 0 (-1) = t ↔ mls q v (q.2.2.2 + 1) 0 1000000000 = t := by
  have h3 := hq.2.2.2.1
  have z9 : (1000000000 : Int32).toInt = 1000000000 := rfl
  have zm : (-1 : Int32).toInt = -1 := rfl
  rcases clt_mls (v := v) hq (q.2.2.2 + 1) 0 (-1) 1000000000 (by omega) (Or.inl ⟨rfl, rfl⟩) with ⟨e1, e2⟩ | ⟨e, _, _⟩
  · rw [e1, e2]
    exact ⟨fun z => by rw [← z] at ht; omega, fun z => by rw [← z] at ht; omega⟩
  · rw [e]
theorem ftM_0 {I : hI} {q : RD4} {x : Int32} : ∀ (k i : Nat), ftM I q x k i 0 = 0
  | 0, i => rfl
  | k + 1, i => by unfold ftM; rw [if_pos rfl]; exact ftM_0 k (i + 1)
theorem ft_eq {I I' : hI} {q : RD4} {x : Int32} {m : Nat} {sn : Nat → Nat → Int32} (hq : okR q) (h1 : ∀ k, k < m → I 70 k = sn 0 k ∧ I 71 k = sn 1 k ∧ I 72 k = sn 2 k) (h2 : ∀ k, k < m → I' 96 k = sn 0 k ∧ I' 97 k = sn 1 k ∧ I' 98 k = sn 2 k) (hs : SO m sn) : ∀ (k i : Nat), i + k = m → ftl I q x k i = ftM I' q x k i 1
  | 0, i, hi => rfl
  | k + 1, i, hi => by
    have a := h1 i (by omega)
    have b := h2 i (by omega)
    have ih := ft_eq (x := x) hq h1 h2 hs k (i + 1) (by omega)
    unfold ftl ftM
    rw [a.1, a.2.1, a.2.2, b.1, b.2.1, b.2.2, if_neg (show ¬ (1 : Int32) = 0 by decide)]
    have hl := lt_eq (v := sn 1 i) hq (hs i (by omega))
    by_cases c1 : sn 0 i = x
    · rw [if_pos c1, if_pos c1]
      by_cases c2 : clt q (sn 1 i) (q.2.2.2 + 1) 0 (-1) = sn 2 i
      · rw [if_pos c2, if_pos (hl.mp c2)]; exact ih
      · rw [if_neg c2, if_neg (fun z => c2 (hl.mpr z)), ftM_0]
    · rw [if_neg c1, if_neg c1]; exact ih
theorem kd_eq {I I' : hI} {q : RD4} {x : Int32} {m : Nat} {sn : Nat → Nat → Int32} (hq : okR q) (h1 : ∀ k, k < m → I 70 k = sn 0 k ∧ I 71 k = sn 1 k ∧ I 72 k = sn 2 k) (h2 : ∀ k, k < m → I' 96 k = sn 0 k ∧ I' 97 k = sn 1 k ∧ I' 98 k = sn 2 k) (hs : SO m sn) : kdF I q x m = kdM I' q x m := by
  have o0 : okR (0, q.2.1, q.2.2.1, 0) := ⟨Nat.zero_le 3, hq.2.1, hq.2.2.1, Nat.zero_le 3, fun _ => rfl⟩
  have o1 : ∀ j, j = 1 ∨ j = 2 ∨ j = 3 → okR (j, q.2.1, q.2.2.1, q.2.2.2) := fun j hj => ⟨show j ≤ 3 by omega, hq.2.1, hq.2.2.1, hq.2.2.2.1, fun z => absurd (show j = 0 from z) (by omega)⟩
  have e1 : ∀ f b k : Int32, kd1 f b k = kd1M f b k := fun f b k => by
    unfold kd1 kd1M
    split
    · rw [Int32.or_zero]
    · rfl
  unfold kdF kdM
  rw [e1, e1, e1, e1, ft_eq o0 h1 h2 hs m 0 (by omega), ft_eq (o1 1 (by omega)) h1 h2 hs m 0 (by omega), ft_eq (o1 2 (by omega)) h1 h2 hs m 0 (by omega), ft_eq (o1 3 (by omega)) h1 h2 hs m 0 (by omega)]
theorem kd12 {tx : Nat → Nat} {c m : Nat} {D : FD} {sn : Nat → Nat → Int32} {I I1 : hI} {R : hR} {T : am_H} {a x1 x2 : Int32} (hC : CI tx c D m sn I R T) (hM : MI tx c D m sn I1) (hS : SO m sn) (h1 : (¬ M_rod D.1 a ∧ x1 = -2) ∨ ∃ k, k < D.1 ∧ a = nI k ∧ x1 = kdF I (D.2.1 k) a m) (h2 : (¬ M_rod D.1 a ∧ x2 = -2) ∨ ∃ k, k < D.1 ∧ a = nI k ∧ x2 = kdM I1 (D.2.1 k) a m) : x1 = x2 := by
  have h6 := hC.2.1.2.1
  have rod : ∀ k, k < D.1 → a = nI k → M_rod D.1 a := fun k hk e => by
    rw [e]
    refine ⟨?_, ?_⟩ <;> (rw [nI_toInt (by omega)]; omega)
  rcases h1 with ⟨r1, e1⟩ | ⟨k, hk, ek, e1⟩
  · rcases h2 with ⟨r2, e2⟩ | ⟨k2, hk2, ek2, e2⟩
    · rw [e1, e2]
    · exact absurd (rod k2 hk2 ek2) r1
  · rcases h2 with ⟨r2, e2⟩ | ⟨k2, hk2, ek2, e2⟩
    · exact absurd (rod k hk ek) r2
    · have : k = k2 := (nI_eq (by omega) (by omega)).mp (ek.symm.trans ek2)
      subst this
      rw [e1, e2]
      exact kd_eq (DC_ok hC.2.1 k hk) hC.2.2.1.2.2 hM.2.2.1.2.2 hS
end KEQ

