/-! The class: slips (that it ends), fitsSeen, kinds. -/
section SLP
variable {sc : Nat × (Nat → Int32)} {d : Nat} {J : hJ} {R : hR} {T : am_H} {Q : Option Value → am_H → Prop} {I : hI}
def LQ (I : hI) (J : hJ) (R : hR) (T : am_H) (r : Option Value) (h : am_H) : Prop := ∃ v : Int64, r = some (.long v) ∧ h = HH I J R T
theorem c_pow_l {b : Int64} {e : Int32} : ∀ (k : Nat) (x : Int32) (p : Int64), e.toInt - x.toInt ≤ k → Zs sc d (am_P 142).2 (5, [(0, .long b), (2, .int e), (3, .long p), (5, .int x)], []) (HH I J R T) (LQ I J R T)
  | 0, x, p, hk => by
    refine Z_jump 3 rfl ?_
    refine Z_bd (fun c8 => ?_) (fun c8 => absurd ((show e ≤ x by rw [fi_le]; omega)) c8)
    refine Z_jump 1 rfl ?_
    show Zs _ _ (am_P 142).2 (22, [(0, .long b), (2, .int e), (3, .long p), (5, .int x)], [.long p]) (HH I J R T) _
    refine Z_ret rfl rfl rfl ?_
    exact ⟨_, rfl, rfl⟩
  | k + 1, x, p, hk => by
    have z1 : (1 : Int32).toInt = 1 := rfl
    have hh := ti_hi e
    have hx := ti_lo x
    refine Z_jump 3 rfl ?_
    refine Z_bd (fun (c8 : e ≤ x) => ?_) (fun (c8 : ¬ (e ≤ x)) => ?_)
    · refine Z_jump 1 rfl ?_
      show Zs _ _ (am_P 142).2 (22, [(0, .long b), (2, .int e), (3, .long p), (5, .int x)], [.long p]) (HH I J R T) _
      refine Z_ret rfl rfl rfl ?_
      exact ⟨_, rfl, rfl⟩
    · refine Z_jump 6 rfl ?_
      show Zs _ _ (am_P 142).2 (5, [(0, .long b), (2, .int e), (3, .long (p * b)), (5, .int (x + 1))], []) (HH I J R T) _
      rw [fi_le] at c8
      exact c_pow_l k _ _ (by rw [ti_add (by omega) (by omega)]; omega)
theorem c_power {b : Int64} {e : Int32} : Ze sc (d + 1) 142 [.long b, .int e] (HH I J R T) (LQ I J R T) := by
  refine Ze_of (Nat.le_of_ble_eq_true rfl) ?_
  refine Z_jump 4 rfl ?_
  show Zs _ _ (am_P 142).2 (5, [(0, .long b), (2, .int e), (3, .long (1 : Int64)), (5, .int (0 : Int32))], []) (HH I J R T) _
  exact c_pow_l (e.toInt - 0).toNat _ _ (by have z0 : (0 : Int32).toInt = 0 := rfl; omega)
theorem c_cts_l {n s q : Int32} : ∀ (k : Nat) (x : Int32) (p : Int64), s.toInt - x.toInt ≤ k → 0 ≤ x.toInt → Zs sc (d + 1) (am_P 141).2 (5, [(0, .int n), (1, .int s), (2, .int q), (3, .long p), (5, .int x)], []) (HH I J R T) (LQ I J R T)
  | 0, x, p, hk, hx => by
    refine Z_jump 3 rfl ?_
    refine Z_bd (fun c8 => ?_) (fun c8 => absurd ((show s ≤ x by rw [fi_le]; omega)) c8)
    refine Z_jump 6 rfl ?_
    show Zs _ _ (am_P 141).2 (38, [(0, .int n), (1, .int s), (2, .int q), (3, .long p), (5, .int x)], [.int s, .long (Int32.toInt64 ((10 : Int32) - q)), .long p]) (HH I J R T) _
    refine Z_cQ rfl rfl rfl (c_power) (fun v h1 hq => ?_)
    obtain ⟨y1, rfl, rfl⟩ := hq
    show Zs _ _ (am_P 141).2 (41, [(0, .int n), (1, .int s), (2, .int q), (3, .long p), (5, .int x)], [.long y1, .long p]) (HH I J R T) _
    refine Z_jump 6 rfl ?_
    show Zs _ _ (am_P 141).2 (47, [(0, .int n), (1, .int s), (2, .int q), (3, .long p), (5, .int x)], [.int (n - s), .long (Int32.toInt64 q), .long (p * y1)]) (HH I J R T) _
    refine Z_cQ rfl rfl rfl (c_power) (fun v h1 hq => ?_)
    obtain ⟨y2, rfl, rfl⟩ := hq
    show Zs _ _ (am_P 141).2 (50, [(0, .int n), (1, .int s), (2, .int q), (3, .long p), (5, .int x)], [.long y2, .long (p * y1)]) (HH I J R T) _
    refine Z_jump 1 rfl ?_
    show Zs _ _ (am_P 141).2 (51, [(0, .int n), (1, .int s), (2, .int q), (3, .long p), (5, .int x)], [.long ((p * y1) * y2)]) (HH I J R T) _
    refine Z_ret rfl rfl rfl ?_
    exact ⟨_, rfl, rfl⟩
  | k + 1, x, p, hk, hx => by
    have z1 : (1 : Int32).toInt = 1 := rfl
    have hh := ti_hi s
    refine Z_jump 3 rfl ?_
    refine Z_bd (fun (c8 : s ≤ x) => ?_) (fun (c8 : ¬ (s ≤ x)) => ?_)
    · refine Z_jump 6 rfl ?_
      show Zs _ _ (am_P 141).2 (38, [(0, .int n), (1, .int s), (2, .int q), (3, .long p), (5, .int x)], [.int s, .long (Int32.toInt64 ((10 : Int32) - q)), .long p]) (HH I J R T) _
      refine Z_cQ rfl rfl rfl (c_power) (fun v h1 hq => ?_)
      obtain ⟨y1, rfl, rfl⟩ := hq
      show Zs _ _ (am_P 141).2 (41, [(0, .int n), (1, .int s), (2, .int q), (3, .long p), (5, .int x)], [.long y1, .long p]) (HH I J R T) _
      refine Z_jump 6 rfl ?_
      show Zs _ _ (am_P 141).2 (47, [(0, .int n), (1, .int s), (2, .int q), (3, .long p), (5, .int x)], [.int (n - s), .long (Int32.toInt64 q), .long (p * y1)]) (HH I J R T) _
      refine Z_cQ rfl rfl rfl (c_power) (fun v h1 hq => ?_)
      obtain ⟨y2, rfl, rfl⟩ := hq
      show Zs _ _ (am_P 141).2 (50, [(0, .int n), (1, .int s), (2, .int q), (3, .long p), (5, .int x)], [.long y2, .long (p * y1)]) (HH I J R T) _
      refine Z_jump 1 rfl ?_
      show Zs _ _ (am_P 141).2 (51, [(0, .int n), (1, .int s), (2, .int q), (3, .long p), (5, .int x)], [.long ((p * y1) * y2)]) (HH I J R T) _
      refine Z_ret rfl rfl rfl ?_
      exact ⟨_, rfl, rfl⟩
    · refine Z_jump 10 rfl ?_
      show Zs _ _ (am_P 141).2 (23, [(0, .int n), (1, .int s), (2, .int q), (3, .long p), (5, .int x)], [.long (Int32.toInt64 (x + (1 : Int32))), .long (p * (Int32.toInt64 (n - x)))]) (HH I J R T) _
      refine Z_ldiv rfl (by exact (fun z => by rw [fi_le] at c8; rw [fi_eqL, i64, ti_add (by omega) (by omega)] at z; have z0 : (0 : Int64).toInt = 0 := rfl; omega)) ?_
      refine Z_jump 3 rfl ?_
      show Zs _ _ (am_P 141).2 (5, [(0, .int n), (1, .int s), (2, .int q), (3, .long ((p * (Int32.toInt64 (n - x))) / (Int32.toInt64 (x + (1 : Int32))))), (5, .int (x + 1))], []) (HH I J R T) _
      rw [fi_le] at c8
      exact c_cts_l k _ _ (by rw [ti_add (by omega) (by omega)]; omega) (by rw [ti_add (by omega) (by omega)]; omega)
theorem c_chances {n s q : Int32} : Ze sc (d + 2) 141 [.int n, .int s, .int q] (HH I J R T) (LQ I J R T) := by
  refine Ze_of (Nat.le_of_ble_eq_true rfl) ?_
  refine Z_jump 4 rfl ?_
  show Zs _ _ (am_P 141).2 (5, [(0, .int n), (1, .int s), (2, .int q), (3, .long (1 : Int64)), (5, .int (0 : Int32))], []) (HH I J R T) _
  exact c_cts_l (s.toInt - 0).toNat _ _ (by have z0 : (0 : Int32).toInt = 0 := rfl; omega) (by decide)
theorem c_gcd_l {a b : Int64} : ∀ (k i : Nat) (x : Int32) (g l : Int64), i + k = 200 → x = nI i → Zs sc d (am_P 143).2 (9, [(0, .long a), (2, .long b), (4, .long g), (6, .long l), (8, .int x)], []) (HH I J R T) (LQ I J R T)
  | 0, i, x, g, l, hi, hx => by
    refine Z_jump 3 rfl ?_
    refine Z_bd (fun c14 => ?_) (fun c14 => absurd ((show (200 : Int32) ≤ x by rw [hx]; exact nI_le (a := 200) (by omega) (by omega))) c14)
    refine Z_jump 1 rfl ?_
    show Zs _ _ (am_P 143).2 (47, [(0, .long a), (2, .long b), (4, .long g), (6, .long l), (8, .int x)], [.long g]) (HH I J R T) _
    refine Z_ret rfl rfl rfl ?_
    exact ⟨_, rfl, rfl⟩
  | k + 1, i, x, g, l, hi, hx => by
    refine Z_jump 3 rfl ?_
    refine Z_bd (fun c14 => absurd c14 ((show ¬ (200 : Int32) ≤ x by rw [hx]; exact nI_ge (b := 200) (by omega) (by omega)))) (fun c14 => ?_)
    refine Z_jump 4 rfl ?_
    refine Z_bd (fun (c21 : (lg_cmp l (0 : Int64)) = (0 : Int32)) => ?_) (fun (c21 : ¬ ((lg_cmp l (0 : Int64)) = (0 : Int32))) => ?_)
    · rw [lc_eq] at c21
      refine Z_jump 1 rfl ?_
      show Zs _ _ (am_P 143).2 (47, [(0, .long a), (2, .long b), (4, .long g), (6, .long l), (8, .int x)], [.long g]) (HH I J R T) _
      refine Z_ret rfl rfl rfl ?_
      exact ⟨_, rfl, rfl⟩
    · rw [lc_eq] at c21
      refine Z_jump 2 rfl ?_
      show Zs _ _ (am_P 143).2 (28, [(0, .long a), (2, .long b), (4, .long g), (6, .long l), (8, .int x)], [.long l, .long g]) (HH I J R T) _
      refine Z_lrem rfl (by exact c21) ?_
      refine Z_jump 7 rfl ?_
      show Zs _ _ (am_P 143).2 (9, [(0, .long a), (2, .long b), (4, .long l), (6, .long (g - g / l * l)), (8, .int (x + 1)), (9, .long (g - g / l * l))], []) (HH I J R T) _
      exact Zs_wk (c_gcd_l k (i + 1) (x + 1) l (g - g / l * l) (by omega) (by rw [hx]; exact nI_1 i)) (lnD rfl) (lnD rfl) (by repeat (first | exact trivial | refine ⟨rfl, ?_⟩))
theorem c_gcd {a b : Int64} : Ze sc (d + 1) 143 [.long a, .long b] (HH I J R T) (LQ I J R T) := by
  refine Ze_of (Nat.le_of_ble_eq_true rfl) ?_
  refine Z_jump 6 rfl ?_
  show Zs _ _ (am_P 143).2 (9, [(0, .long a), (2, .long b), (4, .long a), (6, .long b), (8, .int (0 : Int32))], []) (HH I J R T) _
  exact c_gcd_l 200 0 _ _ _ (by omega) rfl
theorem c_slips {D : FD} {x q v p : Int32} (hD : DC 18 D I R T) (hb : ∀ k, k < 6 → (I 23 k).toInt < 2147483647 ∧ (I 24 k).toInt < 2147483647) : Ze sc (d + 4) 116 [.ref 0, .int x, .int q, .int v, .int p] (HH I J R T) (LQ I J R T) := by
  refine Ze_of (Nat.le_of_ble_eq_true rfl) ?_
  by_cases hr : M_rod D.1 x
  · obtain ⟨k, hk, hx⟩ := rod_n hr
    obtain ⟨hq, r, hR, hT⟩ := hD.2.2.2 k hk
    have hL : (HH I J R T)[99 + r]? = some (rodC (D.2.1 k)) := HH_at r hT
    have h6 := hD.2.1
    have hbk := hb k (by omega)
    have z1 : (1 : Int32).toInt = 1 := rfl
    have Z : ∀ (ab : Int64), Zs sc (d + 3) (am_P 116).2 (143, [(0, .ref 0), (1, .int x), (2, .int q), (3, .int v), (4, .int p), (5, .ref (99 + r)), (6, .int (I 23 k)), (7, .int (I 24 k)), (8, .long ab)], []) (HH I J R T) (LQ I J R T) := fun ab => by
      refine Z_jump 4 rfl ?_
      show Zs _ _ (am_P 116).2 (151, [(0, .ref 0), (1, .int x), (2, .int q), (3, .int v), (4, .int p), (5, .ref (99 + r)), (6, .int (I 23 k)), (7, .int (I 24 k)), (8, .long ab)], [.int ((I 23 k) + (I 24 k)), .long (10 : Int64)]) (HH I J R T) _
      refine Z_cQ rfl rfl rfl (c_power) (fun v h1 hq => ?_)
      obtain ⟨y1, rfl, rfl⟩ := hq
      show Zs _ _ (am_P 116).2 (154, [(0, .ref 0), (1, .int x), (2, .int q), (3, .int v), (4, .int p), (5, .ref (99 + r)), (6, .int (I 23 k)), (7, .int (I 24 k)), (8, .long ab)], [.long y1]) (HH I J R T) _
      refine Z_jump 3 rfl ?_
      show Zs _ _ (am_P 116).2 (160, [(0, .ref 0), (1, .int x), (2, .int q), (3, .int v), (4, .int p), (5, .ref (99 + r)), (6, .int (I 23 k)), (7, .int (I 24 k)), (8, .long ab), (10, .long y1)], [.long y1, .long ab]) (HH I J R T) _
      refine Z_cQ rfl rfl rfl (c_gcd) (fun v h1 hq => ?_)
      obtain ⟨y2, rfl, rfl⟩ := hq
      show Zs _ _ (am_P 116).2 (163, [(0, .ref 0), (1, .int x), (2, .int q), (3, .int v), (4, .int p), (5, .ref (99 + r)), (6, .int (I 23 k)), (7, .int (I 24 k)), (8, .long ab), (10, .long y1)], [.long y2]) (HH I J R T) _
      refine Z_jump 5 rfl ?_
      refine Z_bn (fun (c169 : ¬ ((lg_cmp y2 (0 : Int64)) = (0 : Int32))) => ?_) (fun (c169 : (lg_cmp y2 (0 : Int64)) = (0 : Int32)) => ?_)
      · rw [lc_eq] at c169
        refine Z_jump 2 rfl ?_
        refine Z_bn (fun (c176 : ¬ (p = (0 : Int32))) => ?_) (fun (c176 : p = (0 : Int32)) => ?_)
        · refine Z_jump 2 rfl ?_
          show Zs _ _ (am_P 116).2 (191, [(0, .ref 0), (1, .int x), (2, .int q), (3, .int v), (4, .int p), (5, .ref (99 + r)), (6, .int (I 23 k)), (7, .int (I 24 k)), (8, .long ab), (10, .long y1), (12, .long y2)], [.long y2, .long y1]) (HH I J R T) _
          refine Z_ldiv rfl (by exact c169) ?_
          show Zs _ _ (am_P 116).2 (192, [(0, .ref 0), (1, .int x), (2, .int q), (3, .int v), (4, .int p), (5, .ref (99 + r)), (6, .int (I 23 k)), (7, .int (I 24 k)), (8, .long ab), (10, .long y1), (12, .long y2)], [.long (y1 / y2)]) (HH I J R T) _
          refine Z_ret rfl rfl rfl ?_
          exact ⟨_, rfl, rfl⟩
        · refine Z_jump 2 rfl ?_
          show Zs _ _ (am_P 116).2 (183, [(0, .ref 0), (1, .int x), (2, .int q), (3, .int v), (4, .int p), (5, .ref (99 + r)), (6, .int (I 23 k)), (7, .int (I 24 k)), (8, .long ab), (10, .long y1), (12, .long y2)], [.long y2, .long ab]) (HH I J R T) _
          refine Z_ldiv rfl (by exact c169) ?_
          refine Z_jump 1 rfl ?_
          show Zs _ _ (am_P 116).2 (192, [(0, .ref 0), (1, .int x), (2, .int q), (3, .int v), (4, .int p), (5, .ref (99 + r)), (6, .int (I 23 k)), (7, .int (I 24 k)), (8, .long ab), (10, .long y1), (12, .long y2)], [.long (ab / y2)]) (HH I J R T) _
          refine Z_ret rfl rfl rfl ?_
          exact ⟨_, rfl, rfl⟩
      · rw [lc_eq] at c169
        refine Z_jump 1 rfl ?_
        show Zs _ _ (am_P 116).2 (173, [(0, .ref 0), (1, .int x), (2, .int q), (3, .int v), (4, .int p), (5, .ref (99 + r)), (6, .int (I 23 k)), (7, .int (I 24 k)), (8, .long ab), (10, .long y1), (12, .long y2)], [.long (0 : Int64)]) (HH I J R T) _
        refine Z_ret rfl rfl rfl ?_
        exact ⟨_, rfl, rfl⟩
    have Y : ∀ (n : Nat) (y w : Int32) (ab : Int64), (I 23 k).toInt + 1 - w.toInt ≤ n → (∀ ab : Int64, Zs sc (d + 3) (am_P 116).2 (137, [(0, .ref 0), (1, .int x), (2, .int q), (3, .int v), (4, .int p), (5, .ref (99 + r)), (6, .int (I 23 k)), (7, .int (I 24 k)), (8, .long ab), (10, .int y)], []) (HH I J R T) (LQ I J R T)) → Zs sc (d + 3) (am_P 116).2 (89, [(0, .ref 0), (1, .int x), (2, .int q), (3, .int v), (4, .int p), (5, .ref (99 + r)), (6, .int (I 23 k)), (7, .int (I 24 k)), (8, .long ab), (10, .int y), (11, .int w)], []) (HH I J R T) (LQ I J R T) := by
      intro n
      induction n with
      | zero =>
        intro y w ab hw H
        refine Z_jump 3 rfl ?_
        refine Z_bd (fun c93 => ?_) (fun c93 => absurd ((show I 23 k < w by rw [fi_lt]; omega)) c93)
        show Zs _ _ (am_P 116).2 (137, [(0, .ref 0), (1, .int x), (2, .int q), (3, .int v), (4, .int p), (5, .ref (99 + r)), (6, .int (I 23 k)), (7, .int (I 24 k)), (8, .long ab), (10, .int y), (11, .int w)], []) (HH I J R T) _
        exact Zs_wk (H ab) (lnD rfl) (lnD rfl) (by repeat (first | exact trivial | refine ⟨rfl, ?_⟩))
      | succ n ih =>
        intro y w ab hw H
        have hlo := ti_lo w
        refine Z_jump 3 rfl ?_
        refine Z_bd (fun (c93 : (I 23 k) < w) => ?_) (fun (c93 : ¬ ((I 23 k) < w)) => ?_)
        · show Zs _ _ (am_P 116).2 (137, [(0, .ref 0), (1, .int x), (2, .int q), (3, .int v), (4, .int p), (5, .ref (99 + r)), (6, .int (I 23 k)), (7, .int (I 24 k)), (8, .long ab), (10, .int y), (11, .int w)], []) (HH I J R T) _
          exact Zs_wk (H ab) (lnD rfl) (lnD rfl) (by repeat (first | exact trivial | refine ⟨rfl, ?_⟩))
        · refine Z_jump 3 rfl ?_
          show Zs _ _ (am_P 116).2 (102, [(0, .ref 0), (1, .int x), (2, .int q), (3, .int v), (4, .int p), (5, .ref (99 + r)), (6, .int (I 23 k)), (7, .int (I 24 k)), (8, .long ab), (10, .int y), (11, .int w)], [.int y, .int w, .ref (99 + r)]) (HH I J R T) _
          refine Z_c1 rfl (am_do_inv (hL) rfl (dis4 hq.1) (Nat.le_of_ble_eq_true rfl)) rfl (c_worthOf hL hq.1) ?_
          show Zs _ _ (am_P 116).2 (105, [(0, .ref 0), (1, .int x), (2, .int q), (3, .int v), (4, .int p), (5, .ref (99 + r)), (6, .int (I 23 k)), (7, .int (I 24 k)), (8, .long ab), (10, .int y), (11, .int w)], [.int (w + y * nI (hwv (D.2.1 k)))]) (HH I J R T) _
          refine Z_jump 2 rfl ?_
          refine Z_bd (fun (c106 : (w + y * nI (hwv (D.2.1 k))) < v) => ?_) (fun (c106 : ¬ ((w + y * nI (hwv (D.2.1 k))) < v)) => ?_)
          · refine Z_jump 2 rfl ?_
            show Zs _ _ (am_P 116).2 (89, [(0, .ref 0), (1, .int x), (2, .int q), (3, .int v), (4, .int p), (5, .ref (99 + r)), (6, .int (I 23 k)), (7, .int (I 24 k)), (8, .long ab), (10, .int y), (11, .int (w + 1))], []) (HH I J R T) _
            rw [fi_lt] at c93
            exact ih _ _ _ (by rw [ti_add (by omega) (by omega)]; omega) H
          · refine Z_jump 4 rfl ?_
            show Zs _ _ (am_P 116).2 (116, [(0, .ref 0), (1, .int x), (2, .int q), (3, .int v), (4, .int p), (5, .ref (99 + r)), (6, .int (I 23 k)), (7, .int (I 24 k)), (8, .long ab), (10, .int y), (11, .int w)], [.int q, .int w, .int (I 23 k), .long ab]) (HH I J R T) _
            refine Z_cQ rfl rfl rfl (c_chances) (fun v h1 hq => ?_)
            obtain ⟨y1, rfl, rfl⟩ := hq
            show Zs _ _ (am_P 116).2 (119, [(0, .ref 0), (1, .int x), (2, .int q), (3, .int v), (4, .int p), (5, .ref (99 + r)), (6, .int (I 23 k)), (7, .int (I 24 k)), (8, .long ab), (10, .int y), (11, .int w)], [.long y1, .long ab]) (HH I J R T) _
            refine Z_jump 3 rfl ?_
            show Zs _ _ (am_P 116).2 (124, [(0, .ref 0), (1, .int x), (2, .int q), (3, .int v), (4, .int p), (5, .ref (99 + r)), (6, .int (I 23 k)), (7, .int (I 24 k)), (8, .long ab), (10, .int y), (11, .int w)], [.int q, .int y, .int (I 24 k), .long y1, .long ab]) (HH I J R T) _
            refine Z_cQ rfl rfl rfl (c_chances) (fun v h1 hq => ?_)
            obtain ⟨y2, rfl, rfl⟩ := hq
            show Zs _ _ (am_P 116).2 (127, [(0, .ref 0), (1, .int x), (2, .int q), (3, .int v), (4, .int p), (5, .ref (99 + r)), (6, .int (I 23 k)), (7, .int (I 24 k)), (8, .long ab), (10, .int y), (11, .int w)], [.long y2, .long y1, .long ab]) (HH I J R T) _
            refine Z_jump 5 rfl ?_
            show Zs _ _ (am_P 116).2 (89, [(0, .ref 0), (1, .int x), (2, .int q), (3, .int v), (4, .int p), (5, .ref (99 + r)), (6, .int (I 23 k)), (7, .int (I 24 k)), (8, .long (ab + (y1 * y2))), (10, .int y), (11, .int (w + 1))], []) (HH I J R T) _
            rw [fi_lt] at c93
            exact ih _ _ _ (by rw [ti_add (by omega) (by omega)]; omega) H
    have X : ∀ (n : Nat) (y : Int32) (ab : Int64), (I 24 k).toInt + 1 - y.toInt ≤ n → Zs sc (d + 3) (am_P 116).2 (79, [(0, .ref 0), (1, .int x), (2, .int q), (3, .int v), (4, .int p), (5, .ref (99 + r)), (6, .int (I 23 k)), (7, .int (I 24 k)), (8, .long ab), (10, .int y)], []) (HH I J R T) (LQ I J R T) := by
      intro n
      induction n with
      | zero =>
        intro y ab hw
        refine Z_jump 3 rfl ?_
        refine Z_bd (fun c83 => ?_) (fun c83 => absurd ((show I 24 k < y by rw [fi_lt]; omega)) c83)
        show Zs _ _ (am_P 116).2 (143, [(0, .ref 0), (1, .int x), (2, .int q), (3, .int v), (4, .int p), (5, .ref (99 + r)), (6, .int (I 23 k)), (7, .int (I 24 k)), (8, .long ab), (10, .int y)], []) (HH I J R T) _
        exact Zs_wk (Z ab) (lnD rfl) (lnD rfl) (by repeat (first | exact trivial | refine ⟨rfl, ?_⟩))
      | succ n ih =>
        intro y ab hw
        have hlo := ti_lo y
        have W : ¬ (I 24 k).toInt < y.toInt → ∀ ab : Int64, Zs sc (d + 3) (am_P 116).2 (137, [(0, .ref 0), (1, .int x), (2, .int q), (3, .int v), (4, .int p), (5, .ref (99 + r)), (6, .int (I 23 k)), (7, .int (I 24 k)), (8, .long ab), (10, .int y)], []) (HH I J R T) (LQ I J R T) := fun hc ab => by
          refine Z_jump 2 rfl ?_
          show Zs _ _ (am_P 116).2 (79, [(0, .ref 0), (1, .int x), (2, .int q), (3, .int v), (4, .int p), (5, .ref (99 + r)), (6, .int (I 23 k)), (7, .int (I 24 k)), (8, .long ab), (10, .int (y + 1))], []) (HH I J R T) _
          exact ih _ _ (by rw [ti_add (by omega) (by omega)]; omega)
        refine Z_jump 3 rfl ?_
        refine Z_bd (fun (c83 : (I 24 k) < y) => ?_) (fun (c83 : ¬ ((I 24 k) < y)) => ?_)
        · show Zs _ _ (am_P 116).2 (143, [(0, .ref 0), (1, .int x), (2, .int q), (3, .int v), (4, .int p), (5, .ref (99 + r)), (6, .int (I 23 k)), (7, .int (I 24 k)), (8, .long ab), (10, .int y)], []) (HH I J R T) _
          exact Zs_wk (Z ab) (lnD rfl) (lnD rfl) (by repeat (first | exact trivial | refine ⟨rfl, ?_⟩))
        · refine Z_jump 2 rfl ?_
          show Zs _ _ (am_P 116).2 (89, [(0, .ref 0), (1, .int x), (2, .int q), (3, .int v), (4, .int p), (5, .ref (99 + r)), (6, .int (I 23 k)), (7, .int (I 24 k)), (8, .long ab), (10, .int y), (11, .int (0 : Int32))], []) (HH I J R T) _
          rw [fi_lt] at c83
          exact Y ((I 23 k).toInt + 1 - 0).toNat y _ _ (by have z0 : (0 : Int32).toInt = 0 := rfl; omega) (W c83)
    refine Z_jump 3 rfl ?_
    show Zs _ _ (am_P 116).2 (5, [(0, .ref 0), (1, .int x), (2, .int q), (3, .int v), (4, .int p)], [.int x, .ref 18]) (HH I J R T) _
    refine Z_c1 rfl rfl rfl (c_rodAt18 hD hx hk hR) ?_
    show Zs _ _ (am_P 116).2 (8, [(0, .ref 0), (1, .int x), (2, .int q), (3, .int v), (4, .int p)], [.ref (99 + r)]) (HH I J R T) _
    refine Z_jump 4 rfl ?_
    show Zs _ _ (am_P 116).2 (17, [(0, .ref 0), (1, .int x), (2, .int q), (3, .int v), (4, .int p), (5, .ref (99 + r))], [.int p]) (HH I J R T) _
    by_cases b17 : (p = 0 ∨ p = 1)
    · refine Z_c1 rfl rfl rfl (E_pos (c_isPart) b17) ?_
      show Zs _ _ (am_P 116).2 (20, [(0, .ref 0), (1, .int x), (2, .int q), (3, .int v), (4, .int p), (5, .ref (99 + r))], [.int (1 : Int32)]) (HH I J R T) _
      refine Z_jump 3 rfl ?_
      refine Z_bd (fun (c28 : q < (0 : Int32)) => ?_) (fun (c28 : ¬ (q < (0 : Int32))) => ?_)
      · refine Z_jump 1 rfl ?_
        show Zs _ _ (am_P 116).2 (50, [(0, .ref 0), (1, .int x), (2, .int q), (3, .int v), (4, .int p), (5, .ref (99 + r))], [.long (-3 : Int64)]) (HH I J R T) _
        refine Z_ret rfl rfl rfl ?_
        exact ⟨_, rfl, rfl⟩
      · refine Z_jump 3 rfl ?_
        refine Z_bd (fun (c34 : (10 : Int32) < q) => ?_) (fun (c34 : ¬ ((10 : Int32) < q)) => ?_)
        · refine Z_jump 1 rfl ?_
          show Zs _ _ (am_P 116).2 (50, [(0, .ref 0), (1, .int x), (2, .int q), (3, .int v), (4, .int p), (5, .ref (99 + r))], [.long (-3 : Int64)]) (HH I J R T) _
          refine Z_ret rfl rfl rfl ?_
          exact ⟨_, rfl, rfl⟩
        · refine Z_jump 2 rfl ?_
          refine Z_bd (fun (c38 : v < (0 : Int32)) => ?_) (fun (c38 : ¬ (v < (0 : Int32))) => ?_)
          · refine Z_jump 1 rfl ?_
            show Zs _ _ (am_P 116).2 (50, [(0, .ref 0), (1, .int x), (2, .int q), (3, .int v), (4, .int p), (5, .ref (99 + r))], [.long (-3 : Int64)]) (HH I J R T) _
            refine Z_ret rfl rfl rfl ?_
            exact ⟨_, rfl, rfl⟩
          · refine Z_jump 3 rfl ?_
            refine Z_bd (fun (c44 : v ≤ (60 : Int32)) => ?_) (fun (c44 : ¬ (v ≤ (60 : Int32))) => ?_)
            · refine Z_jump 4 rfl ?_
              show Zs _ _ (am_P 116).2 (57, [(0, .ref 0), (1, .int x), (2, .int q), (3, .int v), (4, .int p), (5, .ref (99 + r))], [.int (0 : Int32), .int x, .ref 22]) (HH I J R T) _
              refine Z_c1 rfl rfl rfl (c_beads (a := 22) (p := 0) (by decide) hx (by omega)) ?_
              show Zs _ _ (am_P 116).2 (60, [(0, .ref 0), (1, .int x), (2, .int q), (3, .int v), (4, .int p), (5, .ref (99 + r))], [.int (I 23 k)]) (HH I J R T) _
              refine Z_jump 5 rfl ?_
              show Zs _ _ (am_P 116).2 (68, [(0, .ref 0), (1, .int x), (2, .int q), (3, .int v), (4, .int p), (5, .ref (99 + r)), (6, .int (I 23 k))], [.int (1 : Int32), .int x, .ref 22]) (HH I J R T) _
              refine Z_c1 rfl rfl rfl (c_beads (a := 22) (p := 1) (by decide) hx (by omega)) ?_
              show Zs _ _ (am_P 116).2 (71, [(0, .ref 0), (1, .int x), (2, .int q), (3, .int v), (4, .int p), (5, .ref (99 + r)), (6, .int (I 23 k))], [.int (I 24 k)]) (HH I J R T) _
              refine Z_jump 5 rfl ?_
              show Zs _ _ (am_P 116).2 (79, [(0, .ref 0), (1, .int x), (2, .int q), (3, .int v), (4, .int p), (5, .ref (99 + r)), (6, .int (I 23 k)), (7, .int (I 24 k)), (8, .long (0 : Int64)), (10, .int (0 : Int32))], []) (HH I J R T) _
              exact X ((I 24 k).toInt + 1 - 0).toNat _ _ (by have z0 : (0 : Int32).toInt = 0 := rfl; omega)
            · refine Z_jump 1 rfl ?_
              show Zs _ _ (am_P 116).2 (50, [(0, .ref 0), (1, .int x), (2, .int q), (3, .int v), (4, .int p), (5, .ref (99 + r))], [.long (-3 : Int64)]) (HH I J R T) _
              refine Z_ret rfl rfl rfl ?_
              exact ⟨_, rfl, rfl⟩
    · refine Z_c1 rfl rfl rfl (E_neg (c_isPart) b17) ?_
      show Zs _ _ (am_P 116).2 (20, [(0, .ref 0), (1, .int x), (2, .int q), (3, .int v), (4, .int p), (5, .ref (99 + r))], [.int (0 : Int32)]) (HH I J R T) _
      refine Z_jump 2 rfl ?_
      show Zs _ _ (am_P 116).2 (26, [(0, .ref 0), (1, .int x), (2, .int q), (3, .int v), (4, .int p), (5, .ref (99 + r))], [.long (-2 : Int64)]) (HH I J R T) _
      refine Z_ret rfl rfl rfl ?_
      exact ⟨_, rfl, rfl⟩
  · refine Z_jump 3 rfl ?_
    show Zs _ _ (am_P 116).2 (5, [(0, .ref 0), (1, .int x), (2, .int q), (3, .int v), (4, .int p)], [.int x, .ref 18]) (HH I J R T) _
    refine Z_c1 rfl rfl rfl (c_rodAt18n hD hr) ?_
    show Zs _ _ (am_P 116).2 (8, [(0, .ref 0), (1, .int x), (2, .int q), (3, .int v), (4, .int p)], [.null]) (HH I J R T) _
    refine Z_jump 4 rfl ?_
    show Zs _ _ (am_P 116).2 (26, [(0, .ref 0), (1, .int x), (2, .int q), (3, .int v), (4, .int p), (5, .null)], [.long (-2 : Int64)]) (HH I J R T) _
    refine Z_ret rfl rfl rfl ?_
    exact ⟨_, rfl, rfl⟩
end SLP

