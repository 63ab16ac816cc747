/-! Sums: the reference's small steps. -/
def msz (v : Int64) : Int64 := if v < 0 then -v else v
def mbo (v : Int64) (t : Int32) : Int64 × Int32 := if t = 1 ∨ (BB < v ∨ v < -BB) then (0, 1) else (v, 0)
def mpr (a b : Int64) (t : Int32) : Int64 × Int32 := if a ≠ 0 ∧ BB / msz a < msz b then (0, 1) else (a * b, t)
def mpt (dg t sg : Int32) (tm v : Int64) : Int64 × Int32 := if dg = 0 ∨ t = 1 then (v, t) else if sg = 42 then mbo (mpr tm v t).1 (mpr tm v t).2 else if sg = 47 then (if v = 0 then (0, 1) else (tm / v, 0)) else (v, t)
def mcl (dg t sg : Int32) (sum tm : Int64) : Int64 × Int32 := if dg = 0 ∨ t = 1 then (sum, t) else mbo (if sg = 43 then sum + tm else sum - tm) t
theorem mbo_t (v : Int64) (t : Int32) : (mbo v t).2 = 0 ∨ (mbo v t).2 = 1 := by
  unfold mbo; split
  · exact Or.inr rfl
  · exact Or.inl rfl
theorem mpr_t {a b : Int64} {t : Int32} (h : t = 0 ∨ t = 1) : (mpr a b t).2 = 0 ∨ (mpr a b t).2 = 1 := by
  unfold mpr; split
  · exact Or.inr rfl
  · exact h
theorem mpt_t {dg t sg : Int32} {tm v : Int64} (h : t = 0 ∨ t = 1) : (mpt dg t sg tm v).2 = 0 ∨ (mpt dg t sg tm v).2 = 1 := by
  unfold mpt; split
  · exact h
  · split
    · exact mbo_t _ _
    · split
      · split
        · exact Or.inr rfl
        · exact Or.inl rfl
      · exact h
theorem mcl_t {dg t sg : Int32} {sum tm : Int64} (h : t = 0 ∨ t = 1) : (mcl dg t sg sum tm).2 = 0 ∨ (mcl dg t sg sum tm).2 = 1 := by
  unfold mcl; split
  · exact h
  · exact mbo_t _ _
/-- only the trouble may have changed -/
def U28 (t : Int32) (I I' : hI) : Prop := (∀ a, a ≠ 73 → I' a = I a) ∧ (∀ k, k ≠ 28 → I' 73 k = I 73 k) ∧ I' 73 28 = t
theorem U28_0 {I : hI} : U28 (I 73 28) I I := ⟨fun _ _ => rfl, fun _ _ => rfl, rfl⟩
theorem U28_s {I : hI} {t : Int32} : U28 t (I) (sf I 73 28 t) := ⟨fun a ha => sf_c ha, fun k hk => sf_k hk, sf_s _ _ _ _⟩
section MOP
variable {sc : Nat × (Nat → Int32)} {d : Nat} {I : hI} {J : hJ} {R : hR} {T : am_H} {Q : Option Value → am_H → Prop}
theorem m_size {v : Int64} : am_E sc (d + 1) 189 [.long v] (HH I J R T) (some (.long (msz v))) (HH I J R T) := by
  refine E_Z (Ze_of (Nat.le_of_ble_eq_true rfl) ?_)
  refine Z_jump 4 rfl ?_
  refine Z_bd (fun (c3 : (0 : Int32) ≤ (lg_cmp v (0 : Int64))) => ?_) (fun (c3 : ¬ ((0 : Int32) ≤ (lg_cmp v (0 : Int64)))) => ?_)
  · rw [lc_ge] at c3
    refine Z_jump 1 rfl ?_
    show Zs _ _ (am_P 189).2 (12, [(0, .long v)], [.long v]) (HH I J R T) _
    refine Z_ret rfl rfl rfl ?_
    exact ⟨am_ll (if_neg (by rw [fi_ltL]; rw [fi_leL] at c3; exact Int.not_lt.mpr c3)).symm, rfl⟩
  · rw [lc_ge] at c3
    refine Z_jump 3 rfl ?_
    show Zs _ _ (am_P 189).2 (12, [(0, .long v)], [.long (-v)]) (HH I J R T) _
    refine Z_ret rfl rfl rfl ?_
    exact ⟨am_ll (if_pos (by rw [fi_ltL]; rw [fi_leL] at c3; exact Int.not_le.mp c3)).symm, rfl⟩
theorem msz_0 {b : Int64} (h : ¬ b = 0) : ¬ msz b = 0 := by
  unfold msz
  by_cases h1 : b < 0
  · rw [if_pos h1]; exact fun z => h (by rw [← Int64.neg_neg (a := b), z]; rfl)
  · rw [if_neg h1]; exact h
theorem m_product {a b : Int64} : Ze sc (d + 2) 190 [.ref 73, .long a, .long b] (HH I J R T) (fun r h => r = some (.long (mpr a b (I 73 28)).1) ∧ ∃ I', h = HH I' J R T ∧ U28 (mpr a b (I 73 28)).2 I I') := by
  refine Ze_of (Nat.le_of_ble_eq_true rfl) ?_
  refine Z_jump 4 rfl ?_
  refine Z_bd (fun (c3 : (lg_cmp a (0 : Int64)) = (0 : Int32)) => ?_) (fun (c3 : ¬ ((lg_cmp a (0 : Int64)) = (0 : Int32))) => ?_)
  · rw [lc_eq] at c3
    refine Z_jump 3 rfl ?_
    show Zs _ _ (am_P 190).2 (32, [(0, .ref 73), (1, .long a), (3, .long b)], [.long (a * b)]) (HH I J R T) _
    refine Z_ret rfl rfl rfl ?_
    have e : mpr a b (I 73 28) = (a * b, I 73 28) := if_neg (fun z => z.1 c3)
    rw [e]
    exact ⟨rfl, I, rfl, U28_0⟩
  · rw [lc_eq] at c3
    refine Z_jump 1 rfl ?_
    show Zs _ _ (am_P 190).2 (7, [(0, .ref 73), (1, .long a), (3, .long b)], [.long b]) (HH I J R T) _
    refine Z_c1 rfl rfl rfl (m_size) ?_
    show Zs _ _ (am_P 190).2 (10, [(0, .ref 73), (1, .long a), (3, .long b)], [.long (msz b)]) (HH I J R T) _
    refine Z_jump 2 rfl ?_
    show Zs _ _ (am_P 190).2 (14, [(0, .ref 73), (1, .long a), (3, .long b)], [.long a, .long (1000000000000 : Int64), .long (msz b)]) (HH I J R T) _
    refine Z_c1 rfl rfl rfl (m_size) ?_
    show Zs _ _ (am_P 190).2 (17, [(0, .ref 73), (1, .long a), (3, .long b)], [.long (msz a), .long (1000000000000 : Int64), .long (msz b)]) (HH I J R T) _
    show Zs _ _ (am_P 190).2 (17, [(0, .ref 73), (1, .long a), (3, .long b)], [.long (msz a), .long (1000000000000 : Int64), .long (msz b)]) (HH I J R T) _
    refine Z_ldiv rfl (by exact msz_0 c3) ?_
    refine Z_jump 2 rfl ?_
    refine Z_bd (fun (c19 : (lg_cmp (msz b) ((1000000000000 : Int64) / (msz a))) ≤ (0 : Int32)) => ?_) (fun (c19 : ¬ ((lg_cmp (msz b) ((1000000000000 : Int64) / (msz a))) ≤ (0 : Int32))) => ?_)
    · rw [lc_le] at c19
      refine Z_jump 3 rfl ?_
      show Zs _ _ (am_P 190).2 (32, [(0, .ref 73), (1, .long a), (3, .long b)], [.long (a * b)]) (HH I J R T) _
      refine Z_ret rfl rfl rfl ?_
      have e : mpr a b (I 73 28) = (a * b, I 73 28) := if_neg (fun z => by have h2 := z.2; rw [fi_ltL] at h2; rw [fi_leL] at c19; exact absurd h2 (Int.not_lt.mpr c19))
      rw [e]
      exact ⟨rfl, I, rfl, U28_0⟩
    · rw [lc_le] at c19
      refine Z_jump 3 rfl ?_
      show Zs _ _ (am_P 190).2 (27, [(0, .ref 73), (1, .long a), (3, .long b)], []) (HH (sf I 73 28 (1 : Int32)) J R T) _
      refine Z_jump 1 rfl ?_
      show Zs _ _ (am_P 190).2 (28, [(0, .ref 73), (1, .long a), (3, .long b)], [.long (0 : Int64)]) (HH (sf I 73 28 (1 : Int32)) J R T) _
      refine Z_ret rfl rfl rfl ?_
      have e : mpr a b (I 73 28) = (0, 1) := if_pos ⟨c3, by rw [fi_ltL]; rw [fi_leL] at c19; exact Int.not_le.mp c19⟩
      rw [e]
      exact ⟨rfl, _, rfl, U28_s⟩
theorem in_B {v : Int64} : ((-1000000000000 : Int64) ≤ v ∧ v ≤ (1000000000000 : Int64)) ↔ ¬ (BB < v ∨ v < -BB) := by
  have z1 : (-BB).toInt = -1000000000000 := rfl
  have z2 : BB.toInt = 1000000000000 := rfl
  have z3 : (-1000000000000 : Int64).toInt = -1000000000000 := rfl
  have z4 : (1000000000000 : Int64).toInt = 1000000000000 := rfl
  rw [fi_leL, fi_leL, fi_ltL, fi_ltL]
  omega
theorem m_bounded {v : Int64} (ht : I 73 28 = 0 ∨ I 73 28 = 1) : Ze sc (d + 2) 188 [.ref 73, .long v] (HH I J R T) (fun r h => r = some (.long (mbo v (I 73 28)).1) ∧ ∃ I', h = HH I' J R T ∧ U28 (mbo v (I 73 28)).2 I I') := by
  refine Ze_of (Nat.le_of_ble_eq_true rfl) ?_
  rcases ht with h0 | h0
  · rw [h0]
    refine Z_jump 3 rfl ?_
    show Zs _ _ (am_P 188).2 (5, [(0, .ref 73), (1, .long v)], [.int (I 73 28), .ref 73]) (HH I J R T) _
    refine Z_eqI (y := (0 : Int32)) (h0) ?_
    show Zs _ _ (am_P 188).2 (5, [(0, .ref 73), (1, .long v)], [.int (0 : Int32), .ref 73]) (HH I J R T) _
    refine Z_jump 3 rfl ?_
    show Zs _ _ (am_P 188).2 (12, [(0, .ref 73), (1, .long v)], [.long (1000000000000 : Int64), .long (-1000000000000 : Int64), .long v, .int (0 : Int32), .ref 73]) (HH I J R T) _
    refine Z_c1 rfl rfl rfl (k_in) ?_
    show Zs _ _ (am_P 188).2 (15, [(0, .ref 73), (1, .long v)], [.int (if (-1000000000000 : Int64) ≤ v ∧ v ≤ (1000000000000 : Int64) then 1 else 0), .int (0 : Int32), .ref 73]) (HH I J R T) _
    refine Z_jump 1 rfl ?_
    refine Z_bn (fun (c15 : ¬ ((if (-1000000000000 : Int64) ≤ v ∧ v ≤ (1000000000000 : Int64) then 1 else 0) = (0 : Int32))) => ?_) (fun (c15 : (if (-1000000000000 : Int64) ≤ v ∧ v ≤ (1000000000000 : Int64) then 1 else 0) = (0 : Int32)) => ?_)
    · refine Z_jump 3 rfl ?_
      show Zs _ _ (am_P 188).2 (27, [(0, .ref 73), (1, .long v)], []) (HH (sf I 73 28 (0 : Int32)) J R T) _
      refine Z_jump 4 rfl ?_
      show Zs _ _ (am_P 188).2 (39, [(0, .ref 73), (1, .long v)], [.long v]) (HH (sf I 73 28 (0 : Int32)) J R T) _
      refine Z_ret rfl rfl rfl ?_
      have e : mbo v 0 = (v, 0) := if_neg (fun z => z.elim (by decide) (fun y => in_B.mp (if10n c15) y))
      rw [e]
      exact ⟨rfl, _, rfl, U28_s⟩
    · refine Z_jump 4 rfl ?_
      show Zs _ _ (am_P 188).2 (27, [(0, .ref 73), (1, .long v)], []) (HH (sf I 73 28 (1 : Int32)) J R T) _
      refine Z_jump 5 rfl ?_
      show Zs _ _ (am_P 188).2 (39, [(0, .ref 73), (1, .long v)], [.long (0 : Int64)]) (HH (sf I 73 28 (1 : Int32)) J R T) _
      refine Z_ret rfl rfl rfl ?_
      have e : mbo v 0 = (0, 1) := if_pos (Or.inr (Classical.not_not.mp (fun y => if10.mp c15 (in_B.mpr y))))
      rw [e]
      exact ⟨rfl, _, rfl, U28_s⟩
  · rw [h0]
    have e : mbo v 1 = (0, 1) := if_pos (Or.inl rfl)
    rw [e]
    refine Z_jump 3 rfl ?_
    show Zs _ _ (am_P 188).2 (5, [(0, .ref 73), (1, .long v)], [.int (I 73 28), .ref 73]) (HH I J R T) _
    refine Z_eqI (y := (1 : Int32)) (h0) ?_
    show Zs _ _ (am_P 188).2 (5, [(0, .ref 73), (1, .long v)], [.int (1 : Int32), .ref 73]) (HH I J R T) _
    refine Z_jump 3 rfl ?_
    show Zs _ _ (am_P 188).2 (12, [(0, .ref 73), (1, .long v)], [.long (1000000000000 : Int64), .long (-1000000000000 : Int64), .long v, .int (1 : Int32), .ref 73]) (HH I J R T) _
    refine Z_c1 rfl rfl rfl (k_in) ?_
    show Zs _ _ (am_P 188).2 (15, [(0, .ref 73), (1, .long v)], [.int (if (-1000000000000 : Int64) ≤ v ∧ v ≤ (1000000000000 : Int64) then 1 else 0), .int (1 : Int32), .ref 73]) (HH I J R T) _
    refine Z_jump 1 rfl ?_
    refine Z_bn (fun (c15 : ¬ ((if (-1000000000000 : Int64) ≤ v ∧ v ≤ (1000000000000 : Int64) then 1 else 0) = (0 : Int32))) => ?_) (fun (c15 : (if (-1000000000000 : Int64) ≤ v ∧ v ≤ (1000000000000 : Int64) then 1 else 0) = (0 : Int32)) => ?_)
    · refine Z_jump 3 rfl ?_
      show Zs _ _ (am_P 188).2 (27, [(0, .ref 73), (1, .long v)], []) (HH (sf I 73 28 (1 : Int32)) J R T) _
      refine Z_jump 5 rfl ?_
      show Zs _ _ (am_P 188).2 (39, [(0, .ref 73), (1, .long v)], [.long (0 : Int64)]) (HH (sf I 73 28 (1 : Int32)) J R T) _
      refine Z_ret rfl rfl rfl ?_
      exact ⟨rfl, _, rfl, U28_s⟩
    · refine Z_jump 4 rfl ?_
      show Zs _ _ (am_P 188).2 (27, [(0, .ref 73), (1, .long v)], []) (HH (sf I 73 28 (1 : Int32)) J R T) _
      refine Z_jump 5 rfl ?_
      show Zs _ _ (am_P 188).2 (39, [(0, .ref 73), (1, .long v)], [.long (0 : Int64)]) (HH (sf I 73 28 (1 : Int32)) J R T) _
      refine Z_ret rfl rfl rfl ?_
      exact ⟨rfl, _, rfl, U28_s⟩
theorem m_opens {e : Nat} (he : I 73 29 + 1 = nI e) (h7 : e ≤ 7) : am_E sc (d + 1) 191 [.ref 73] (HH I J R T) none (HH (sf (sf (sf I 73 29 (nI e)) 91 e 43) 92 e 0) (sl J 89 e 0) R T) := by
  refine E_Z (Ze_of (Nat.le_of_ble_eq_true rfl) ?_)
  refine Z_jump 5 rfl ?_
  show Zs _ _ (am_P 191).2 (7, [(0, .ref 73)], [.int ((I 73 29) + (1 : Int32)), .ref 73]) (HH I J R T) _
  refine Z_eqI (y := (nI e)) (he) ?_
  show Zs _ _ (am_P 191).2 (7, [(0, .ref 73)], [.int (nI e), .ref 73]) (HH I J R T) _
  refine Z_jump 1 rfl ?_
  show Zs _ _ (am_P 191).2 (10, [(0, .ref 73)], []) (HH (sf I 73 29 (nI e)) J R T) _
  refine Z_jump 5 rfl ?_
  show Zs _ _ (am_P 191).2 (19, [(0, .ref 73)], [.long (0 : Int64), .int (nI e), .ref 89]) (HH (sf I 73 29 (nI e)) J R T) _
  refine Z_lasK (e) rfl rfl (rfl) (by omega) (by decide) ?_
  show Zs _ _ (am_P 191).2 (20, [(0, .ref 73)], []) (HH (sf I 73 29 (nI e)) (sl J 89 e (0 : Int64)) R T) _
  refine Z_jump 5 rfl ?_
  show Zs _ _ (am_P 191).2 (30, [(0, .ref 73)], [.int (43 : Int32), .int (nI e), .ref 91]) (HH (sf I 73 29 (nI e)) (sl J 89 e (0 : Int64)) R T) _
  refine Z_iasK (e) rfl rfl (rfl) (by omega) (by decide) ?_
  show Zs _ _ (am_P 191).2 (31, [(0, .ref 73)], []) (HH (sf (sf I 73 29 (nI e)) 91 e (43 : Int32)) (sl J 89 e (0 : Int64)) R T) _
  refine Z_jump 5 rfl ?_
  show Zs _ _ (am_P 191).2 (40, [(0, .ref 73)], [.int (0 : Int32), .int (nI e), .ref 92]) (HH (sf (sf I 73 29 (nI e)) 91 e (43 : Int32)) (sl J 89 e (0 : Int64)) R T) _
  refine Z_iasK (e) rfl rfl (rfl) (by omega) (by decide) ?_
  show Zs _ _ (am_P 191).2 (41, [(0, .ref 73)], []) (HH (sf (sf (sf I 73 29 (nI e)) 91 e (43 : Int32)) 92 e (0 : Int32)) (sl J 89 e (0 : Int64)) R T) _
  show Zs _ _ (am_P 191).2 (41, [(0, .ref 73)], []) (HH (sf (sf (sf I 73 29 (nI e)) 91 e (43 : Int32)) 92 e (0 : Int32)) (sl J 89 e (0 : Int64)) R T) _
  refine Z_ret rfl rfl rfl ?_
  exact ⟨rfl, rfl⟩
/-- part(v) at depth e -/
theorem m_partQ {e : Nat} {v : Int64} (he : I 73 29 = nI e) (h7 : e ≤ 7) (ht : I 73 28 = 0 ∨ I 73 28 = 1) : Ze sc (d + 3) 192 [.ref 73, .long v] (HH I J R T) (fun r h => r = none ∧ ∃ I', h = HH I' (sl J 90 e (mpt (I 73 27) (I 73 28) (I 92 e) (J 90 e) v).1) R T ∧ U28 (mpt (I 73 27) (I 73 28) (I 92 e) (J 90 e) v).2 I I') := by
  refine Ze_of (Nat.le_of_ble_eq_true rfl) ?_
  by_cases hd : I 73 27 = 0
  · have em : mpt (I 73 27) (I 73 28) (I 92 e) (J 90 e) v = (v, I 73 28) := if_pos (Or.inl hd)
    rw [em]
    refine Z_jump 5 rfl ?_
    refine Z_bd (fun c6 => ?_) (fun c6 => absurd (hd) c6)
    refine Z_jump 3 rfl ?_
    refine Z_bd (fun c53 => ?_) (fun c53 => absurd (hd) c53)
    refine Z_jump 5 rfl ?_
    show Zs _ _ (am_P 192).2 (124, [(0, .ref 73), (1, .long v), (3, .long v)], [.long v, .int (I 73 29), .ref 90]) (HH I J R T) _
    refine Z_lasK (e) rfl rfl (he) (by omega) (by decide) ?_
    show Zs _ _ (am_P 192).2 (125, [(0, .ref 73), (1, .long v), (3, .long v)], []) (HH I (sl J 90 e v) R T) _
    show Zs _ _ (am_P 192).2 (125, [(0, .ref 73), (1, .long v), (3, .long v)], []) (HH I (sl J 90 e v) R T) _
    refine Z_ret rfl rfl rfl ?_
    exact ⟨rfl, I, rfl, U28_0⟩
  · rcases ht with h0 | h0
    · have hn : ¬ (I 73 27 = 0 ∨ I 73 28 = 1) := fun z => z.elim hd (fun y => by rw [h0] at y; exact absurd y (by decide))
      by_cases h42 : I 92 e = 42
      · have em : mpt (I 73 27) (I 73 28) (I 92 e) (J 90 e) v = mbo (mpr (J 90 e) v (I 73 28)).1 (mpr (J 90 e) v (I 73 28)).2 := by unfold mpt; rw [if_neg hn, if_pos h42]
        rw [em]
        refine Z_jump 5 rfl ?_
        refine Z_bd (fun c6 => absurd c6 (hd)) (fun c6 => ?_)
        refine Z_jump 3 rfl ?_
        refine Z_bn (fun c13 => absurd (h0) c13) (fun c13 => ?_)
        refine Z_jump 4 rfl ?_
        show Zs _ _ (am_P 192).2 (24, [(0, .ref 73), (1, .long v), (3, .long v)], [.int (I 73 29), .ref 92]) (HH I J R T) _
        refine Z_ialK (e) rfl rfl (he) (by omega) (by decide) ?_
        show Zs _ _ (am_P 192).2 (25, [(0, .ref 73), (1, .long v), (3, .long v)], [.int (I 92 e)]) (HH I J R T) _
        refine Z_jump 2 rfl ?_
        refine Z_bn (fun c27 => absurd (h42) c27) (fun c27 => ?_)
        refine Z_jump 6 rfl ?_
        show Zs _ _ (am_P 192).2 (40, [(0, .ref 73), (1, .long v), (3, .long v)], [.int (I 73 29), .ref 90, .ref 73, .ref 73]) (HH I J R T) _
        refine Z_lalK (e) rfl rfl (he) (by omega) (by decide) ?_
        show Zs _ _ (am_P 192).2 (41, [(0, .ref 73), (1, .long v), (3, .long v)], [.long (J 90 e), .ref 73, .ref 73]) (HH I J R T) _
        refine Z_jump 1 rfl ?_
        show Zs _ _ (am_P 192).2 (42, [(0, .ref 73), (1, .long v), (3, .long v)], [.long v, .long (J 90 e), .ref 73, .ref 73]) (HH I J R T) _
        refine Z_cQ rfl rfl rfl (m_product) (fun v h1 hq => ?_)
        obtain ⟨rfl, I1, rfl, u1⟩ := hq
        have ht1 : I1 73 28 = 0 ∨ I1 73 28 = 1 := by rw [u1.2.2]; exact mpr_t (Or.inl h0)
        show Zs _ _ (am_P 192).2 (45, [(0, .ref 73), (1, .long v), (3, .long v)], [.long ((mpr (J 90 e) v (I 73 28)).1), .ref 73]) (HH I1 J R T) _
        show Zs _ _ (am_P 192).2 (45, [(0, .ref 73), (1, .long v), (3, .long v)], [.long ((mpr (J 90 e) v (I 73 28)).1), .ref 73]) (HH I1 J R T) _
        refine Z_cQ rfl rfl rfl (m_bounded ht1) (fun v h1 hq => ?_)
        rw [u1.2.2] at hq
        obtain ⟨rfl, I2, rfl, u2⟩ := hq
        have he2 : I2 73 29 = nI e := (u2.2.1 29 (by decide)).trans ((u1.2.1 29 (by decide)).trans he)
        have hs2 : I2 92 e = 42 := (congrFun ((u2.1 92 (by decide)).trans (u1.1 92 (by decide))) e).trans h42
        show Zs _ _ (am_P 192).2 (48, [(0, .ref 73), (1, .long v), (3, .long v)], [.long ((mbo (mpr (J 90 e) v (I 73 28)).1 (mpr (J 90 e) v (I 73 28)).2).1)]) (HH I2 J R T) _
        refine Z_jump 4 rfl ?_
        refine Z_bd (fun (c53 : (I2 73 27) = (0 : Int32)) => ?_) (fun (c53 : ¬ ((I2 73 27) = (0 : Int32))) => ?_)
        · refine Z_jump 5 rfl ?_
          show Zs _ _ (am_P 192).2 (124, [(0, .ref 73), (1, .long v), (3, .long ((mbo (mpr (J 90 e) v (I 73 28)).1 (mpr (J 90 e) v (I 73 28)).2).1))], [.long ((mbo (mpr (J 90 e) v (I 73 28)).1 (mpr (J 90 e) v (I 73 28)).2).1), .int (I2 73 29), .ref 90]) (HH I2 J R T) _
          refine Z_lasK (e) rfl rfl (he2) (by omega) (by decide) ?_
          show Zs _ _ (am_P 192).2 (125, [(0, .ref 73), (1, .long v), (3, .long ((mbo (mpr (J 90 e) v (I 73 28)).1 (mpr (J 90 e) v (I 73 28)).2).1))], []) (HH I2 (sl J 90 e ((mbo (mpr (J 90 e) v (I 73 28)).1 (mpr (J 90 e) v (I 73 28)).2).1)) R T) _
          show Zs _ _ (am_P 192).2 (125, [(0, .ref 73), (1, .long v), (3, .long ((mbo (mpr (J 90 e) v (I 73 28)).1 (mpr (J 90 e) v (I 73 28)).2).1))], []) (HH I2 (sl J 90 e ((mbo (mpr (J 90 e) v (I 73 28)).1 (mpr (J 90 e) v (I 73 28)).2).1)) R T) _
          refine Z_ret rfl rfl rfl ?_
          exact ⟨rfl, I2, rfl, fun a ha => (u2.1 a ha).trans (u1.1 a ha), fun k hk => (u2.2.1 k hk).trans (u1.2.1 k hk), u2.2.2⟩
        · refine Z_jump 3 rfl ?_
          refine Z_bn (fun (c60 : ¬ ((I2 73 28) = (0 : Int32))) => ?_) (fun (c60 : (I2 73 28) = (0 : Int32)) => ?_)
          · refine Z_jump 5 rfl ?_
            show Zs _ _ (am_P 192).2 (124, [(0, .ref 73), (1, .long v), (3, .long ((mbo (mpr (J 90 e) v (I 73 28)).1 (mpr (J 90 e) v (I 73 28)).2).1))], [.long ((mbo (mpr (J 90 e) v (I 73 28)).1 (mpr (J 90 e) v (I 73 28)).2).1), .int (I2 73 29), .ref 90]) (HH I2 J R T) _
            refine Z_lasK (e) rfl rfl (he2) (by omega) (by decide) ?_
            show Zs _ _ (am_P 192).2 (125, [(0, .ref 73), (1, .long v), (3, .long ((mbo (mpr (J 90 e) v (I 73 28)).1 (mpr (J 90 e) v (I 73 28)).2).1))], []) (HH I2 (sl J 90 e ((mbo (mpr (J 90 e) v (I 73 28)).1 (mpr (J 90 e) v (I 73 28)).2).1)) R T) _
            show Zs _ _ (am_P 192).2 (125, [(0, .ref 73), (1, .long v), (3, .long ((mbo (mpr (J 90 e) v (I 73 28)).1 (mpr (J 90 e) v (I 73 28)).2).1))], []) (HH I2 (sl J 90 e ((mbo (mpr (J 90 e) v (I 73 28)).1 (mpr (J 90 e) v (I 73 28)).2).1)) R T) _
            refine Z_ret rfl rfl rfl ?_
            exact ⟨rfl, I2, rfl, fun a ha => (u2.1 a ha).trans (u1.1 a ha), fun k hk => (u2.2.1 k hk).trans (u1.2.1 k hk), u2.2.2⟩
          · refine Z_jump 4 rfl ?_
            show Zs _ _ (am_P 192).2 (71, [(0, .ref 73), (1, .long v), (3, .long ((mbo (mpr (J 90 e) v (I 73 28)).1 (mpr (J 90 e) v (I 73 28)).2).1))], [.int (I2 73 29), .ref 92]) (HH I2 J R T) _
            refine Z_ialK (e) rfl rfl (he2) (by omega) (by decide) ?_
            show Zs _ _ (am_P 192).2 (72, [(0, .ref 73), (1, .long v), (3, .long ((mbo (mpr (J 90 e) v (I 73 28)).1 (mpr (J 90 e) v (I 73 28)).2).1))], [.int (I2 92 e)]) (HH I2 J R T) _
            refine Z_jump 2 rfl ?_
            refine Z_bn (fun c74 => ?_) (fun c74 => absurd c74 ((show ¬ I2 92 e = 47 by rw [hs2]; decide)))
            refine Z_jump 5 rfl ?_
            show Zs _ _ (am_P 192).2 (124, [(0, .ref 73), (1, .long v), (3, .long ((mbo (mpr (J 90 e) v (I 73 28)).1 (mpr (J 90 e) v (I 73 28)).2).1))], [.long ((mbo (mpr (J 90 e) v (I 73 28)).1 (mpr (J 90 e) v (I 73 28)).2).1), .int (I2 73 29), .ref 90]) (HH I2 J R T) _
            refine Z_lasK (e) rfl rfl (he2) (by omega) (by decide) ?_
            show Zs _ _ (am_P 192).2 (125, [(0, .ref 73), (1, .long v), (3, .long ((mbo (mpr (J 90 e) v (I 73 28)).1 (mpr (J 90 e) v (I 73 28)).2).1))], []) (HH I2 (sl J 90 e ((mbo (mpr (J 90 e) v (I 73 28)).1 (mpr (J 90 e) v (I 73 28)).2).1)) R T) _
            show Zs _ _ (am_P 192).2 (125, [(0, .ref 73), (1, .long v), (3, .long ((mbo (mpr (J 90 e) v (I 73 28)).1 (mpr (J 90 e) v (I 73 28)).2).1))], []) (HH I2 (sl J 90 e ((mbo (mpr (J 90 e) v (I 73 28)).1 (mpr (J 90 e) v (I 73 28)).2).1)) R T) _
            refine Z_ret rfl rfl rfl ?_
            exact ⟨rfl, I2, rfl, fun a ha => (u2.1 a ha).trans (u1.1 a ha), fun k hk => (u2.2.1 k hk).trans (u1.2.1 k hk), u2.2.2⟩
      · by_cases h47 : I 92 e = 47
        · have em : mpt (I 73 27) (I 73 28) (I 92 e) (J 90 e) v = (if v = 0 then (0, 1) else (J 90 e / v, 0)) := by unfold mpt; rw [if_neg hn, if_neg h42, if_pos h47]
          rw [em]
          refine Z_jump 5 rfl ?_
          refine Z_bd (fun c6 => absurd c6 (hd)) (fun c6 => ?_)
          refine Z_jump 3 rfl ?_
          refine Z_bn (fun c13 => absurd (h0) c13) (fun c13 => ?_)
          refine Z_jump 4 rfl ?_
          show Zs _ _ (am_P 192).2 (24, [(0, .ref 73), (1, .long v), (3, .long v)], [.int (I 73 29), .ref 92]) (HH I J R T) _
          refine Z_ialK (e) rfl rfl (he) (by omega) (by decide) ?_
          show Zs _ _ (am_P 192).2 (25, [(0, .ref 73), (1, .long v), (3, .long v)], [.int (I 92 e)]) (HH I J R T) _
          refine Z_jump 2 rfl ?_
          refine Z_bn (fun c27 => ?_) (fun c27 => absurd c27 (h42))
          refine Z_jump 3 rfl ?_
          refine Z_bd (fun c53 => absurd c53 (hd)) (fun c53 => ?_)
          refine Z_jump 3 rfl ?_
          refine Z_bn (fun c60 => absurd (h0) c60) (fun c60 => ?_)
          refine Z_jump 4 rfl ?_
          show Zs _ _ (am_P 192).2 (71, [(0, .ref 73), (1, .long v), (3, .long v)], [.int (I 73 29), .ref 92]) (HH I J R T) _
          refine Z_ialK (e) rfl rfl (he) (by omega) (by decide) ?_
          show Zs _ _ (am_P 192).2 (72, [(0, .ref 73), (1, .long v), (3, .long v)], [.int (I 92 e)]) (HH I J R T) _
          refine Z_jump 2 rfl ?_
          refine Z_bn (fun c74 => absurd (h47) c74) (fun c74 => ?_)
          refine Z_jump 5 rfl ?_
          refine Z_bn (fun (c81 : ¬ ((lg_cmp v (0 : Int64)) = (0 : Int32))) => ?_) (fun (c81 : (lg_cmp v (0 : Int64)) = (0 : Int32)) => ?_)
          · rw [lc_eq] at c81
            refine Z_jump 2 rfl ?_
            show Zs _ _ (am_P 192).2 (92, [(0, .ref 73), (1, .long v), (3, .long v)], []) (HH (sf I 73 28 (0 : Int32)) J R T) _
            refine Z_jump 7 rfl ?_
            show Zs _ _ (am_P 192).2 (111, [(0, .ref 73), (1, .long v), (3, .long v)], [.int (I 73 29), .ref 90]) (HH (sf I 73 28 (0 : Int32)) J R T) _
            refine Z_lalK (e) rfl rfl (he) (by omega) (by decide) ?_
            show Zs _ _ (am_P 192).2 (112, [(0, .ref 73), (1, .long v), (3, .long v)], [.long (J 90 e)]) (HH (sf I 73 28 (0 : Int32)) J R T) _
            refine Z_jump 1 rfl ?_
            show Zs _ _ (am_P 192).2 (113, [(0, .ref 73), (1, .long v), (3, .long v)], [.long v, .long (J 90 e)]) (HH (sf I 73 28 (0 : Int32)) J R T) _
            refine Z_ldiv rfl (by exact c81) ?_
            refine Z_jump 6 rfl ?_
            show Zs _ _ (am_P 192).2 (124, [(0, .ref 73), (1, .long v), (3, .long ((J 90 e) / v))], [.long ((J 90 e) / v), .int (I 73 29), .ref 90]) (HH (sf I 73 28 (0 : Int32)) J R T) _
            refine Z_lasK (e) rfl rfl (he) (by omega) (by decide) ?_
            show Zs _ _ (am_P 192).2 (125, [(0, .ref 73), (1, .long v), (3, .long ((J 90 e) / v))], []) (HH (sf I 73 28 (0 : Int32)) (sl J 90 e ((J 90 e) / v)) R T) _
            show Zs _ _ (am_P 192).2 (125, [(0, .ref 73), (1, .long v), (3, .long ((J 90 e) / v))], []) (HH (sf I 73 28 (0 : Int32)) (sl J 90 e ((J 90 e) / v)) R T) _
            refine Z_ret rfl rfl rfl ?_
            rw [if_neg c81]
            exact ⟨rfl, _, rfl, U28_s⟩
          · rw [lc_eq] at c81
            refine Z_jump 3 rfl ?_
            show Zs _ _ (am_P 192).2 (92, [(0, .ref 73), (1, .long v), (3, .long v)], []) (HH (sf I 73 28 (1 : Int32)) J R T) _
            refine Z_jump 11 rfl ?_
            show Zs _ _ (am_P 192).2 (124, [(0, .ref 73), (1, .long v), (3, .long (0 : Int64))], [.long (0 : Int64), .int (I 73 29), .ref 90]) (HH (sf I 73 28 (1 : Int32)) J R T) _
            refine Z_lasK (e) rfl rfl (he) (by omega) (by decide) ?_
            show Zs _ _ (am_P 192).2 (125, [(0, .ref 73), (1, .long v), (3, .long (0 : Int64))], []) (HH (sf I 73 28 (1 : Int32)) (sl J 90 e (0 : Int64)) R T) _
            show Zs _ _ (am_P 192).2 (125, [(0, .ref 73), (1, .long v), (3, .long (0 : Int64))], []) (HH (sf I 73 28 (1 : Int32)) (sl J 90 e (0 : Int64)) R T) _
            refine Z_ret rfl rfl rfl ?_
            rw [if_pos c81]
            exact ⟨rfl, _, rfl, U28_s⟩
        · have em : mpt (I 73 27) (I 73 28) (I 92 e) (J 90 e) v = (v, I 73 28) := by unfold mpt; rw [if_neg hn, if_neg h42, if_neg h47]
          rw [em]
          refine Z_jump 5 rfl ?_
          refine Z_bd (fun c6 => absurd c6 (hd)) (fun c6 => ?_)
          refine Z_jump 3 rfl ?_
          refine Z_bn (fun c13 => absurd (h0) c13) (fun c13 => ?_)
          refine Z_jump 4 rfl ?_
          show Zs _ _ (am_P 192).2 (24, [(0, .ref 73), (1, .long v), (3, .long v)], [.int (I 73 29), .ref 92]) (HH I J R T) _
          refine Z_ialK (e) rfl rfl (he) (by omega) (by decide) ?_
          show Zs _ _ (am_P 192).2 (25, [(0, .ref 73), (1, .long v), (3, .long v)], [.int (I 92 e)]) (HH I J R T) _
          refine Z_jump 2 rfl ?_
          refine Z_bn (fun c27 => ?_) (fun c27 => absurd c27 (h42))
          refine Z_jump 3 rfl ?_
          refine Z_bd (fun c53 => absurd c53 (hd)) (fun c53 => ?_)
          refine Z_jump 3 rfl ?_
          refine Z_bn (fun c60 => absurd (h0) c60) (fun c60 => ?_)
          refine Z_jump 4 rfl ?_
          show Zs _ _ (am_P 192).2 (71, [(0, .ref 73), (1, .long v), (3, .long v)], [.int (I 73 29), .ref 92]) (HH I J R T) _
          refine Z_ialK (e) rfl rfl (he) (by omega) (by decide) ?_
          show Zs _ _ (am_P 192).2 (72, [(0, .ref 73), (1, .long v), (3, .long v)], [.int (I 92 e)]) (HH I J R T) _
          refine Z_jump 2 rfl ?_
          refine Z_bn (fun c74 => ?_) (fun c74 => absurd c74 (h47))
          refine Z_jump 5 rfl ?_
          show Zs _ _ (am_P 192).2 (124, [(0, .ref 73), (1, .long v), (3, .long v)], [.long v, .int (I 73 29), .ref 90]) (HH I J R T) _
          refine Z_lasK (e) rfl rfl (he) (by omega) (by decide) ?_
          show Zs _ _ (am_P 192).2 (125, [(0, .ref 73), (1, .long v), (3, .long v)], []) (HH I (sl J 90 e v) R T) _
          show Zs _ _ (am_P 192).2 (125, [(0, .ref 73), (1, .long v), (3, .long v)], []) (HH I (sl J 90 e v) R T) _
          refine Z_ret rfl rfl rfl ?_
          exact ⟨rfl, I, rfl, U28_0⟩
    · have em : mpt (I 73 27) (I 73 28) (I 92 e) (J 90 e) v = (v, I 73 28) := if_pos (Or.inr h0)
      have h1 : ¬ I 73 28 = 0 := by rw [h0]; decide
      rw [em]
      refine Z_jump 5 rfl ?_
      refine Z_bd (fun c6 => absurd c6 (hd)) (fun c6 => ?_)
      refine Z_jump 3 rfl ?_
      refine Z_bn (fun c13 => ?_) (fun c13 => absurd c13 (h1))
      refine Z_jump 3 rfl ?_
      refine Z_bd (fun c53 => absurd c53 (hd)) (fun c53 => ?_)
      refine Z_jump 3 rfl ?_
      refine Z_bn (fun c60 => ?_) (fun c60 => absurd c60 (h1))
      refine Z_jump 5 rfl ?_
      show Zs _ _ (am_P 192).2 (124, [(0, .ref 73), (1, .long v), (3, .long v)], [.long v, .int (I 73 29), .ref 90]) (HH I J R T) _
      refine Z_lasK (e) rfl rfl (he) (by omega) (by decide) ?_
      show Zs _ _ (am_P 192).2 (125, [(0, .ref 73), (1, .long v), (3, .long v)], []) (HH I (sl J 90 e v) R T) _
      show Zs _ _ (am_P 192).2 (125, [(0, .ref 73), (1, .long v), (3, .long v)], []) (HH I (sl J 90 e v) R T) _
      refine Z_ret rfl rfl rfl ?_
      exact ⟨rfl, I, rfl, U28_0⟩
/-- closesTerm() at depth e -/
theorem m_closesTerm {e : Nat} (he : I 73 29 = nI e) (h7 : e ≤ 7) (ht : I 73 28 = 0 ∨ I 73 28 = 1) : Ze sc (d + 3) 193 [.ref 73] (HH I J R T) (fun r h => r = none ∧ ∃ I' J', h = HH I' J' R T ∧ (∀ a, a ≠ 89 → J' a = J a) ∧ (∀ k, k ≠ e → J' 89 k = J 89 k) ∧ J' 89 e = (mcl (I 73 27) (I 73 28) (I 91 e) (J 89 e) (J 90 e)).1 ∧ U28 (mcl (I 73 27) (I 73 28) (I 91 e) (J 89 e) (J 90 e)).2 I I') := by
  refine Ze_of (Nat.le_of_ble_eq_true rfl) ?_
  by_cases hd : I 73 27 = 0
  · have em : mcl (I 73 27) (I 73 28) (I 91 e) (J 89 e) (J 90 e) = (J 89 e, I 73 28) := if_pos (Or.inl hd)
    rw [em]
    refine Z_jump 3 rfl ?_
    refine Z_bd (fun c4 => ?_) (fun c4 => absurd (hd) c4)
    show Zs _ _ (am_P 193).2 (82, [(0, .ref 73)], []) (HH I J R T) _
    refine Z_ret rfl rfl rfl ?_
    exact ⟨rfl, I, J, rfl, fun _ _ => rfl, fun _ _ => rfl, rfl, U28_0⟩
  · rcases ht with h0 | h0
    · have hn : ¬ (I 73 27 = 0 ∨ I 73 28 = 1) := fun z => z.elim hd (fun y => by rw [h0] at y; exact absurd y (by decide))
      have em : mcl (I 73 27) (I 73 28) (I 91 e) (J 89 e) (J 90 e) = mbo (if I 91 e = 43 then J 89 e + J 90 e else J 89 e - J 90 e) (I 73 28) := by unfold mcl; rw [if_neg hn]
      rw [em]
      refine Z_jump 3 rfl ?_
      refine Z_bd (fun c4 => absurd c4 (hd)) (fun c4 => ?_)
      refine Z_jump 3 rfl ?_
      refine Z_bn (fun c11 => absurd (h0) c11) (fun c11 => ?_)
      refine Z_jump 9 rfl ?_
      show Zs _ _ (am_P 193).2 (31, [(0, .ref 73)], [.int (I 73 29), .ref 91, .ref 73, .int (I 73 29), .ref 89]) (HH I J R T) _
      refine Z_ialK (e) rfl rfl (he) (by omega) (by decide) ?_
      show Zs _ _ (am_P 193).2 (32, [(0, .ref 73)], [.int (I 91 e), .ref 73, .int (I 73 29), .ref 89]) (HH I J R T) _
      refine Z_jump 2 rfl ?_
      refine Z_bn (fun (c34 : ¬ ((I 91 e) = (43 : Int32))) => ?_) (fun (c34 : (I 91 e) = (43 : Int32)) => ?_)
      · refine Z_jump 4 rfl ?_
        show Zs _ _ (am_P 193).2 (67, [(0, .ref 73)], [.int (I 73 29), .ref 89, .ref 73, .int (I 73 29), .ref 89]) (HH I J R T) _
        refine Z_lalK (e) rfl rfl (he) (by omega) (by decide) ?_
        show Zs _ _ (am_P 193).2 (68, [(0, .ref 73)], [.long (J 89 e), .ref 73, .int (I 73 29), .ref 89]) (HH I J R T) _
        refine Z_jump 4 rfl ?_
        show Zs _ _ (am_P 193).2 (76, [(0, .ref 73)], [.int (I 73 29), .ref 90, .long (J 89 e), .ref 73, .int (I 73 29), .ref 89]) (HH I J R T) _
        refine Z_lalK (e) rfl rfl (he) (by omega) (by decide) ?_
        show Zs _ _ (am_P 193).2 (77, [(0, .ref 73)], [.long (J 90 e), .long (J 89 e), .ref 73, .int (I 73 29), .ref 89]) (HH I J R T) _
        refine Z_jump 1 rfl ?_
        show Zs _ _ (am_P 193).2 (78, [(0, .ref 73)], [.long ((J 89 e) - (J 90 e)), .ref 73, .int (I 73 29), .ref 89]) (HH I J R T) _
        refine Z_cQ rfl rfl rfl (m_bounded (Or.inl h0)) (fun v h1 hq => ?_)
        obtain ⟨rfl, I2, rfl, u2⟩ := hq
        show Zs _ _ (am_P 193).2 (81, [(0, .ref 73)], [.long ((mbo ((J 89 e) - (J 90 e)) (I 73 28)).1), .int (I 73 29), .ref 89]) (HH I2 J R T) _
        show Zs _ _ (am_P 193).2 (81, [(0, .ref 73)], [.long ((mbo ((J 89 e) - (J 90 e)) (I 73 28)).1), .int (I 73 29), .ref 89]) (HH I2 J R T) _
        refine Z_lasK (e) rfl rfl (he) (by omega) (by decide) ?_
        show Zs _ _ (am_P 193).2 (82, [(0, .ref 73)], []) (HH I2 (sl J 89 e ((mbo ((J 89 e) - (J 90 e)) (I 73 28)).1)) R T) _
        show Zs _ _ (am_P 193).2 (82, [(0, .ref 73)], []) (HH I2 (sl J 89 e ((mbo ((J 89 e) - (J 90 e)) (I 73 28)).1)) R T) _
        refine Z_ret rfl rfl rfl ?_
        rw [if_neg c34]
        exact ⟨rfl, I2, _, rfl, fun a ha => sl_c ha, fun k hk => sl_k hk, sl_s _ _ _ _, u2⟩
      · refine Z_jump 4 rfl ?_
        show Zs _ _ (am_P 193).2 (45, [(0, .ref 73)], [.int (I 73 29), .ref 89, .ref 73, .int (I 73 29), .ref 89]) (HH I J R T) _
        refine Z_lalK (e) rfl rfl (he) (by omega) (by decide) ?_
        show Zs _ _ (am_P 193).2 (46, [(0, .ref 73)], [.long (J 89 e), .ref 73, .int (I 73 29), .ref 89]) (HH I J R T) _
        refine Z_jump 4 rfl ?_
        show Zs _ _ (am_P 193).2 (54, [(0, .ref 73)], [.int (I 73 29), .ref 90, .long (J 89 e), .ref 73, .int (I 73 29), .ref 89]) (HH I J R T) _
        refine Z_lalK (e) rfl rfl (he) (by omega) (by decide) ?_
        show Zs _ _ (am_P 193).2 (55, [(0, .ref 73)], [.long (J 90 e), .long (J 89 e), .ref 73, .int (I 73 29), .ref 89]) (HH I J R T) _
        refine Z_jump 2 rfl ?_
        show Zs _ _ (am_P 193).2 (78, [(0, .ref 73)], [.long ((J 89 e) + (J 90 e)), .ref 73, .int (I 73 29), .ref 89]) (HH I J R T) _
        refine Z_cQ rfl rfl rfl (m_bounded (Or.inl h0)) (fun v h1 hq => ?_)
        obtain ⟨rfl, I2, rfl, u2⟩ := hq
        show Zs _ _ (am_P 193).2 (81, [(0, .ref 73)], [.long ((mbo ((J 89 e) + (J 90 e)) (I 73 28)).1), .int (I 73 29), .ref 89]) (HH I2 J R T) _
        show Zs _ _ (am_P 193).2 (81, [(0, .ref 73)], [.long ((mbo ((J 89 e) + (J 90 e)) (I 73 28)).1), .int (I 73 29), .ref 89]) (HH I2 J R T) _
        refine Z_lasK (e) rfl rfl (he) (by omega) (by decide) ?_
        show Zs _ _ (am_P 193).2 (82, [(0, .ref 73)], []) (HH I2 (sl J 89 e ((mbo ((J 89 e) + (J 90 e)) (I 73 28)).1)) R T) _
        show Zs _ _ (am_P 193).2 (82, [(0, .ref 73)], []) (HH I2 (sl J 89 e ((mbo ((J 89 e) + (J 90 e)) (I 73 28)).1)) R T) _
        refine Z_ret rfl rfl rfl ?_
        rw [if_pos c34]
        exact ⟨rfl, I2, _, rfl, fun a ha => sl_c ha, fun k hk => sl_k hk, sl_s _ _ _ _, u2⟩
    · have em : mcl (I 73 27) (I 73 28) (I 91 e) (J 89 e) (J 90 e) = (J 89 e, I 73 28) := if_pos (Or.inr h0)
      have h1 : ¬ I 73 28 = 0 := by rw [h0]; decide
      rw [em]
      refine Z_jump 3 rfl ?_
      refine Z_bd (fun c4 => absurd c4 (hd)) (fun c4 => ?_)
      refine Z_jump 3 rfl ?_
      refine Z_bn (fun c11 => ?_) (fun c11 => absurd c11 (h1))
      show Zs _ _ (am_P 193).2 (82, [(0, .ref 73)], []) (HH I J R T) _
      refine Z_ret rfl rfl rfl ?_
      exact ⟨rfl, I, J, rfl, fun _ _ => rfl, fun _ _ => rfl, rfl, U28_0⟩
end MOP

