/-! Sums: what an expression tells; the class's steps. -/
/-- the start of the token behind the one at s -/
abbrev nx (tx : Nat → Nat) (c s : Nat) : Nat := tS tx c (tE tx c s)
theorem nx_lt {tx : Nat → Nat} {c s : Nat} (h : s < c) : s < nx tx c s ∧ nx tx c s ≤ c := by
  have h1 := tE_lt (tx := tx) h
  have h2 := tS_le tx c (tE tx c s)
  have h3 := tS_c (tx := tx) h1.2
  exact ⟨show s < tS tx c (tE tx c s) by omega, h3⟩
def BB : Int64 := 1000000000000
def absL (x : Int64) : Int64 := if 0 < x then x else -x
def bd (v : Int64) (fl : Int32) : Int64 × Int32 := if BB < v ∨ v < -BB then (0, 0) else (v, fl)
def mu (a b : Int64) (fl : Int32) : Int64 × Int32 := if b ≠ 0 ∧ BB / absL b < absL a then (0, 0) else (a * b, fl)
def dv (a b : Int64) (fl : Int32) : Int64 × Int32 := if b = 0 then (0, 0) else (a / b, fl)
def sm (less : Int32) (sum prod : Int64) : Int64 := if less = 0 then sum + prod else sum - prod
abbrev SR : Type := Nat ⊕ (Nat × Int64 × Int32)
/-- mode 0: a part; 1: an expression; 2: what follows a part (sum, less, product) -/
def sx (tx : Nat → Nat) (c : Nat) (num : Int64) : Nat → Nat → Nat → Nat → (Int64 × Int32 × Int64) → Int32 → SR
  | 0, _, _, _, _, _ => .inl 0
  | k + 1, 0, s, dd, _, fl => if s < c ∧ tx s = 35 then .inr (nx tx c s, num, fl)
    else if s < c ∧ tx s = 40 then (if 6 ≤ dd then .inl s else (match sx tx c num k 1 (nx tx c s) (dd + 1) (0, 0, 0) fl with
      | .inl p => .inl p
      | .inr (s2, v, f2) => if s2 < c ∧ tx s2 = 41 then .inr (nx tx c s2, v, f2) else .inl s2))
    else if TN tx c s 7 0 1000000000 then .inr (nx tx c s, lN (nv tx s (tE tx c s)), fl) else .inl s
  | k + 1, 1, s, dd, _, fl => match sx tx c num k 0 s dd (0, 0, 0) fl with
      | .inl p => .inl p
      | .inr (s2, v, f2) => sx tx c num k 2 s2 dd (0, 0, v) f2
  | k + 1, _ + 2, s, dd, a, fl => if s < c ∧ tx s = 42 then (match sx tx c num k 0 (nx tx c s) dd (0, 0, 0) fl with
      | .inl p => .inl p
      | .inr (s2, v, f2) => sx tx c num k 2 s2 dd (a.1, a.2.1, (mu a.2.2 v f2).1) (mu a.2.2 v f2).2)
    else if s < c ∧ tx s = 47 then (match sx tx c num k 0 (nx tx c s) dd (0, 0, 0) fl with
      | .inl p => .inl p
      | .inr (s2, v, f2) => sx tx c num k 2 s2 dd (a.1, a.2.1, (dv a.2.2 v f2).1) (dv a.2.2 v f2).2)
    else if s < c ∧ (tx s = 43 ∨ tx s = 45) then (match sx tx c num k 0 (nx tx c s) dd (0, 0, 0) (bd (sm a.2.1 a.1 a.2.2) fl).2 with
      | .inl p => .inl p
      | .inr (s2, v, f2) => sx tx c num k 2 s2 dd ((bd (sm a.2.1 a.1 a.2.2) fl).1, (if tx s = 45 then 1 else 0), v) f2)
    else .inr (s, (bd (sm a.2.1 a.1 a.2.2) fl).1, (bd (sm a.2.1 a.1 a.2.2) fl).2)
/-- it goes on, and stays within the text -/
theorem sx_adv {tx : Nat → Nat} {c : Nat} {num : Int64} : ∀ (k m s dd : Nat) (a : Int64 × Int32 × Int64) (fl : Int32), s ≤ c → (∀ p, sx tx c num k m s dd a fl = .inl p → p ≤ c) ∧ (∀ q, sx tx c num k m s dd a fl = .inr q → q.1 ≤ c ∧ s ≤ q.1 ∧ (m < 2 → s < q.1))
  | 0, m, s, dd, a, fl, hs => ⟨fun p hp => by cases hp; exact Nat.zero_le _, fun q hq => by cases hq⟩
  | k + 1, 0, s, dd, a, fl, hs => by
    have ih := sx_adv (tx := tx) (c := c) (num := num) k 1 (nx tx c s) (dd + 1) (0, 0, 0) fl
    unfold sx
    split
    · rename_i h
      have := nx_lt (tx := tx) h.1
      exact ⟨fun p hp => (by cases hp), fun q hq => by cases hq; exact ⟨this.2, by omega, fun _ => this.1⟩⟩
    · split
      · rename_i h
        have hn := nx_lt (tx := tx) h.1
        have ih := ih hn.2
        split
        · exact ⟨fun p hp => by cases hp; exact hs, fun q hq => by cases hq⟩
        · split
          · rename_i p0 hp0
            exact ⟨fun p hp => by cases hp; exact ih.1 _ hp0, fun q hq => by cases hq⟩
          · rename_i s2 v f2 h0
            have h1 := ih.2 _ h0
            split
            · rename_i h2
              have h3 := nx_lt (tx := tx) h2.1
              exact ⟨fun p hp => (by cases hp), fun q hq => by cases hq; exact ⟨h3.2, by have := h1.2.1; dsimp only at this ⊢; omega, fun _ => by have := h1.2.1; dsimp only at this ⊢; omega⟩⟩
            · exact ⟨fun p hp => by cases hp; exact h1.1, fun q hq => by cases hq⟩
      · split
        · rename_i h
          have := nx_lt (tx := tx) h.1.1
          exact ⟨fun p hp => (by cases hp), fun q hq => by cases hq; exact ⟨this.2, by omega, fun _ => this.1⟩⟩
        · exact ⟨fun p hp => by cases hp; exact hs, fun q hq => by cases hq⟩
  | k + 1, 1, s, dd, a, fl, hs => by
    have ih := sx_adv (tx := tx) (c := c) (num := num) k 0 s dd (0, 0, 0) fl hs
    unfold sx
    split
    · rename_i p0 hp0
      exact ⟨fun p hp => by cases hp; exact ih.1 _ hp0, fun q hq => by cases hq⟩
    · rename_i s2 v f2 h0
      have h1 := ih.2 _ h0
      have ih2 := sx_adv (tx := tx) (c := c) (num := num) k 2 s2 dd (0, 0, v) f2 h1.1
      refine ⟨ih2.1, fun q hq => ?_⟩
      have h2 := ih2.2 q hq
      have h3 := h1.2.2 (by omega)
      dsimp only at h3
      exact ⟨h2.1, by have := h2.2.1; omega, fun _ => by have := h2.2.1; omega⟩
  | k + 1, m + 2, s, dd, a, fl, hs => by
    have key : ∀ (f1 : Int32), s < c → ∀ (g : Nat → Int64 → Int32 → (Int64 × Int32 × Int64) × Int32), (∀ p, (match sx tx c num k 0 (nx tx c s) dd (0, 0, 0) f1 with
      | .inl p => .inl p
      | .inr (s2, v, f2) => sx tx c num k 2 s2 dd (g s2 v f2).1 (g s2 v f2).2 : SR) = .inl p → p ≤ c) ∧ (∀ q, (match sx tx c num k 0 (nx tx c s) dd (0, 0, 0) f1 with
      | .inl p => .inl p
      | .inr (s2, v, f2) => sx tx c num k 2 s2 dd (g s2 v f2).1 (g s2 v f2).2 : SR) = .inr q → q.1 ≤ c ∧ s ≤ q.1 ∧ (m + 2 < 2 → s < q.1)) := by
      intro f1 hsc g
      have hn := nx_lt (tx := tx) hsc
      have ih := sx_adv (tx := tx) (c := c) (num := num) k 0 (nx tx c s) dd (0, 0, 0) f1 hn.2
      split
      · rename_i p0 hp0
        exact ⟨fun p hp => by cases hp; exact ih.1 _ hp0, fun q hq => by cases hq⟩
      · rename_i s2 v f2 h0
        have h1 := ih.2 _ h0
        have ih2 := sx_adv (tx := tx) (c := c) (num := num) k 2 s2 dd (g s2 v f2).1 (g s2 v f2).2 h1.1
        refine ⟨ih2.1, fun q hq => ?_⟩
        have h2 := ih2.2 q hq
        have h3 := h1.2.2 (by omega)
        dsimp only at h3
        exact ⟨h2.1, by have := h2.2.1; omega, fun z => absurd z (by omega)⟩
    unfold sx
    split
    · rename_i h
      exact key fl h.1 (fun _ v f2 => ((a.1, a.2.1, (mu a.2.2 v f2).1), (mu a.2.2 v f2).2))
    · split
      · rename_i h
        exact key fl h.1 (fun _ v f2 => ((a.1, a.2.1, (dv a.2.2 v f2).1), (dv a.2.2 v f2).2))
      · split
        · rename_i h
          exact key _ h.1 (fun _ v f2 => (((bd (sm a.2.1 a.1 a.2.2) fl).1, (if tx s = 45 then 1 else 0), v), f2))
        · exact ⟨fun p hp => (by cases hp), fun q hq => by cases hq; exact ⟨hs, Nat.le_refl _, fun z => absurd z (by omega)⟩⟩
/-- what an expression leaves as it was -/
def UX (I I' : hI) : Prop := (∀ a, a ≠ 1 → a ≠ 3 → I' a = I a) ∧ (∀ k, k ≠ 2 → I' 3 k = I 3 k)
theorem UX_0 (I : hI) : UX I I := ⟨fun _ _ _ => rfl, fun _ _ => rfl⟩
theorem UX_t {I I1 I2 : hI} (h : UX I I1) (g : UX I1 I2) : UX I I2 := ⟨fun a a1 a3 => (g.1 a a1 a3).trans (h.1 a a1 a3), fun k hk => (g.2 k hk).trans (h.2 k hk)⟩
theorem UX_o {I I1 : hI} (h : CTo I I1) : UX I I1 := ⟨fun a a1 _ => h a a1, fun k _ => congrFun (h 3 (by decide)) k⟩
theorem UX_1 {I : hI} {k : Nat} {v : Int32} : UX I (sf I 1 k v) := ⟨fun a a1 _ => sf_c a1, fun j _ => congrFun (sf_c (show 3 ≠ 1 by decide)) j⟩
theorem UX_3 {I : hI} {v : Int32} : UX I (sf I 3 2 v) := ⟨fun a _ a3 => sf_c a3, fun j hj => sf_k hj⟩
/-- only the flag may have changed -/
def U32 (f : Int32) (I I' : hI) : Prop := (∀ a, a ≠ 3 → I' a = I a) ∧ (∀ k, k ≠ 2 → I' 3 k = I 3 k) ∧ I' 3 2 = f
theorem U32_X {f : Int32} {I I' : hI} (h : U32 f I I') : UX I I' := ⟨fun a _ a3 => h.1 a a3, h.2.1⟩
section SUM
variable {sc : Nat × (Nat → Int32)} {d : Nat} {I : hI} {J : hJ} {R : hR} {T : am_H} {Q : Option Value → am_H → Prop} {tx : Nat → Nat} {c : Nat}
theorem CTK_3 {f : Int32} {s : Nat} {I I' : hI} (h : CTK tx c s I) (u : U32 f I I') : CTK tx c s I' := by
  have e1 := u.1 1 (by decide)
  exact ⟨CT_of h.1 (congrFun e1 1) (u.1 2 (by decide)), h.2.1, (congrFun e1 3).trans h.2.2.1, (congrFun e1 4).trans h.2.2.2.1, (congrFun e1 5).trans h.2.2.2.2⟩
theorem c_bounded {v : Int64} : Ze sc (d + 1) 47 [.ref 3, .long v] (HH I J R T) (fun r h => r = some (.long (bd v (I 3 2)).1) ∧ ∃ I', h = HH I' J R T ∧ U32 (bd v (I 3 2)).2 I I') := by
  refine Ze_of (Nat.le_of_ble_eq_true rfl) ?_
  refine Z_jump 4 rfl ?_
  refine Z_bd (fun (c5 : (0 : Int32) < (lg_cmp v (1000000000000 : Int64))) => ?_) (fun (c5 : ¬ ((0 : Int32) < (lg_cmp v (1000000000000 : Int64)))) => ?_)
  · rw [lc_gt] at c5
    refine Z_jump 3 rfl ?_
    show Zs _ _ (am_P 47).2 (21, [(0, .ref 3), (1, .long v)], []) (HH (sf I 3 2 (0 : Int32)) J R T) _
    refine Z_jump 1 rfl ?_
    show Zs _ _ (am_P 47).2 (22, [(0, .ref 3), (1, .long v)], [.long (0 : Int64)]) (HH (sf I 3 2 (0 : Int32)) J R T) _
    refine Z_ret rfl rfl rfl ?_
    have e : bd v (I 3 2) = (0, 0) := if_pos (Or.inl c5)
    rw [e]
    exact ⟨rfl, _, rfl, fun a ha => sf_c ha, fun k hk => sf_k hk, rfl⟩
  · rw [lc_gt] at c5
    refine Z_jump 4 rfl ?_
    refine Z_bd (fun (c13 : (0 : Int32) ≤ (lg_cmp v (-1000000000000 : Int64))) => ?_) (fun (c13 : ¬ ((0 : Int32) ≤ (lg_cmp v (-1000000000000 : Int64)))) => ?_)
    · rw [lc_ge] at c13
      refine Z_jump 1 rfl ?_
      show Zs _ _ (am_P 47).2 (24, [(0, .ref 3), (1, .long v)], [.long v]) (HH I J R T) _
      refine Z_ret rfl rfl rfl ?_
      have e : bd v (I 3 2) = (v, I 3 2) := if_neg (fun z => z.elim c5 (fun y => by rw [fi_leL] at c13; rw [fi_ltL] at y; have z1 : (-BB).toInt = (-1000000000000 : Int64).toInt := rfl; omega))
      rw [e]
      exact ⟨rfl, I, rfl, fun _ _ => rfl, fun _ _ => rfl, rfl⟩
    · rw [lc_ge] at c13
      refine Z_jump 3 rfl ?_
      show Zs _ _ (am_P 47).2 (21, [(0, .ref 3), (1, .long v)], []) (HH (sf I 3 2 (0 : Int32)) J R T) _
      refine Z_jump 1 rfl ?_
      show Zs _ _ (am_P 47).2 (22, [(0, .ref 3), (1, .long v)], [.long (0 : Int64)]) (HH (sf I 3 2 (0 : Int32)) J R T) _
      refine Z_ret rfl rfl rfl ?_
      have e : bd v (I 3 2) = (0, 0) := if_pos (Or.inr (by rw [fi_ltL]; rw [fi_leL] at c13; have z1 : (-BB).toInt = (-1000000000000 : Int64).toInt := rfl; omega))
      rw [e]
      exact ⟨rfl, _, rfl, fun a ha => sf_c ha, fun k hk => sf_k hk, rfl⟩
theorem absL_0 {b : Int64} (h : ¬ b = 0) : ¬ absL b = 0 := by
  unfold absL
  by_cases h1 : 0 < b
  · rw [if_pos h1]; exact h
  · rw [if_neg h1]; exact fun z => h (by rw [← Int64.neg_neg (a := b), z]; rfl)
theorem c_multiplied {a b : Int64} : Ze sc (d + 1) 48 [.ref 3, .long a, .long b] (HH I J R T) (fun r h => r = some (.long (mu a b (I 3 2)).1) ∧ ∃ I', h = HH I' J R T ∧ U32 (mu a b (I 3 2)).2 I I') := by
  refine Ze_of (Nat.le_of_ble_eq_true rfl) ?_
  refine Z_jump 4 rfl ?_
  refine Z_bd (fun (c3 : (lg_cmp b (0 : Int64)) = (0 : Int32)) => ?_) (fun (c3 : ¬ ((lg_cmp b (0 : Int64)) = (0 : Int32))) => ?_)
  · rw [lc_eq] at c3
    refine Z_jump 3 rfl ?_
    show Zs _ _ (am_P 48).2 (32, [(0, .ref 3), (1, .long a), (3, .long b)], [.long (a * b)]) (HH I J R T) _
    refine Z_ret rfl rfl rfl ?_
    have e : mu a b (I 3 2) = (a * b, I 3 2) := if_neg (fun z => z.1 c3)
    rw [e]
    exact ⟨rfl, I, rfl, fun _ _ => rfl, fun _ _ => rfl, rfl⟩
  · rw [lc_eq] at c3
    refine Z_jump 5 rfl ?_
    show Zs _ _ (am_P 48).2 (17, [(0, .ref 3), (1, .long a), (3, .long b)], [.long (if 0 < b then b else -b), .long (1000000000000 : Int64), .long (if 0 < a then a else -a)]) (HH I J R T) _
    refine Z_ldiv rfl (by exact absL_0 c3) ?_
    refine Z_jump 2 rfl ?_
    refine Z_bd (fun (c19 : (lg_cmp (if 0 < a then a else -a) ((1000000000000 : Int64) / (if 0 < b then b else -b))) ≤ (0 : Int32)) => ?_) (fun (c19 : ¬ ((lg_cmp (if 0 < a then a else -a) ((1000000000000 : Int64) / (if 0 < b then b else -b))) ≤ (0 : Int32))) => ?_)
    · rw [lc_le] at c19
      refine Z_jump 3 rfl ?_
      show Zs _ _ (am_P 48).2 (32, [(0, .ref 3), (1, .long a), (3, .long b)], [.long (a * b)]) (HH I J R T) _
      refine Z_ret rfl rfl rfl ?_
      have e : mu a b (I 3 2) = (a * b, I 3 2) := if_neg (fun z => by have h2 := z.2; rw [fi_ltL] at h2; rw [fi_leL] at c19; exact absurd h2 (Int.not_lt.mpr c19))
      rw [e]
      exact ⟨rfl, I, rfl, fun _ _ => rfl, fun _ _ => rfl, rfl⟩
    · rw [lc_le] at c19
      refine Z_jump 3 rfl ?_
      show Zs _ _ (am_P 48).2 (27, [(0, .ref 3), (1, .long a), (3, .long b)], []) (HH (sf I 3 2 (0 : Int32)) J R T) _
      refine Z_jump 1 rfl ?_
      show Zs _ _ (am_P 48).2 (28, [(0, .ref 3), (1, .long a), (3, .long b)], [.long (0 : Int64)]) (HH (sf I 3 2 (0 : Int32)) J R T) _
      refine Z_ret rfl rfl rfl ?_
      have e : mu a b (I 3 2) = (0, 0) := if_pos ⟨c3, by rw [fi_ltL]; rw [fi_leL] at c19; exact Int.not_le.mp c19⟩
      rw [e]
      exact ⟨rfl, _, rfl, fun a ha => sf_c ha, fun k hk => sf_k hk, rfl⟩
theorem c_divided {a b : Int64} : Ze sc (d + 1) 49 [.ref 3, .long a, .long b] (HH I J R T) (fun r h => r = some (.long (dv a b (I 3 2)).1) ∧ ∃ I', h = HH I' J R T ∧ U32 (dv a b (I 3 2)).2 I I') := by
  refine Ze_of (Nat.le_of_ble_eq_true rfl) ?_
  refine Z_jump 4 rfl ?_
  refine Z_bn (fun (c3 : ¬ ((lg_cmp b (0 : Int64)) = (0 : Int32))) => ?_) (fun (c3 : (lg_cmp b (0 : Int64)) = (0 : Int32)) => ?_)
  · rw [lc_eq] at c3
    refine Z_jump 2 rfl ?_
    show Zs _ _ (am_P 49).2 (15, [(0, .ref 3), (1, .long a), (3, .long b)], [.long b, .long a]) (HH I J R T) _
    refine Z_ldiv rfl (by exact c3) ?_
    show Zs _ _ (am_P 49).2 (16, [(0, .ref 3), (1, .long a), (3, .long b)], [.long (a / b)]) (HH I J R T) _
    refine Z_ret rfl rfl rfl ?_
    have e : dv a b (I 3 2) = (a / b, I 3 2) := if_neg c3
    rw [e]
    exact ⟨rfl, I, rfl, fun _ _ => rfl, fun _ _ => rfl, rfl⟩
  · rw [lc_eq] at c3
    refine Z_jump 3 rfl ?_
    show Zs _ _ (am_P 49).2 (11, [(0, .ref 3), (1, .long a), (3, .long b)], []) (HH (sf I 3 2 (0 : Int32)) J R T) _
    refine Z_jump 1 rfl ?_
    show Zs _ _ (am_P 49).2 (12, [(0, .ref 3), (1, .long a), (3, .long b)], [.long (0 : Int64)]) (HH (sf I 3 2 (0 : Int32)) J R T) _
    refine Z_ret rfl rfl rfl ?_
    have e : dv a b (I 3 2) = (0, 0) := if_pos c3
    rw [e]
    exact ⟨rfl, _, rfl, fun a ha => sf_c ha, fun k hk => sf_k hk, rfl⟩
end SUM

