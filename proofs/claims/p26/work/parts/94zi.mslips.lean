/-! The reference: slips (that it ends). -/
section ML9
variable {sc : Nat × (Nat → Int32)} {d : Nat} {J : hJ} {R : hR} {T : am_H} {Q : Option Value → am_H → Prop} {I : hI}
theorem tl_rem {x y : Int64} (h : ¬ y = 0) : (x - x / y * y).toInt = x.toInt.tmod y.toInt := by
  have hy : y.toInt ≠ 0 := fun z => h (by rw [fi_eqL]; exact z)
  rw [Int64.toInt_sub, Int64.toInt_mul, Int64.toInt_div, Int.bmod_mul_bmod, Int.sub_bmod_bmod]
  have e : x.toInt - x.toInt.tdiv y.toInt * y.toInt = x.toInt.tmod y.toInt := by
    have := Int.tmod_add_tdiv_mul x.toInt y.toInt
    omega
  rw [e]
  have hn := Int.natAbs_tmod x.toInt y.toInt
  have hl : x.toInt.natAbs % y.toInt.natAbs < y.toInt.natAbs := Nat.mod_lt _ (by omega)
  have h1 := tl_lo y
  have h2 := tl_hi y
  exact bm64 (by omega) (by omega)
theorem rem_lt {x y : Int64} (h : ¬ y = 0) : (x - x / y * y).toInt.natAbs < y.toInt.natAbs := by
  have hy : y.toInt ≠ 0 := fun z => h (by rw [fi_eqL]; exact z)
  rw [tl_rem h, Int.natAbs_tmod]
  exact Nat.mod_lt _ (by omega)
theorem ten_pos : ∀ n : Nat, (1 : Int) ≤ 10 ^ n
  | 0 => by decide
  | n + 1 => by rw [Int.pow_succ]; have := ten_pos n; omega
def LN (I : hI) (J : hJ) (R : hR) (T : am_H) (r : Option Value) (h : am_H) : Prop := ∃ v : Int64, ¬ v = 0 ∧ r = some (.long v) ∧ h = HH I J R T
theorem m_gcd_l {a b : Int64} : ∀ (k : Nat) (x y : Int64), y.toInt.natAbs ≤ k → (¬ x = 0 ∨ ¬ y = 0) → Zs sc d (am_P 225).2 (6, [(0, .long a), (2, .long b), (4, .long x), (6, .long y)], []) (HH I J R T) (LN I J R T)
  | 0, x, y, hk, hn => by
    have e : y = 0 := by rw [fi_eqL]; have z0 : (0 : Int64).toInt = 0 := rfl; omega
    have hx : ¬ x = 0 := hn.resolve_right (fun z => z e)
    refine Z_jump 4 rfl ?_
    refine Z_bd (fun (c10 : (lg_cmp y (0 : Int64)) = (0 : Int32)) => ?_) (fun (c10 : ¬ ((lg_cmp y (0 : Int64)) = (0 : Int32))) => ?_)
    · rw [lc_eq] at c10
      refine Z_jump 1 rfl ?_
      show Zs _ _ (am_P 225).2 (33, [(0, .long a), (2, .long b), (4, .long x), (6, .long y)], [.long x]) (HH I J R T) _
      refine Z_ret rfl rfl rfl ?_
      exact ⟨_, hx, rfl, rfl⟩
    · rw [lc_eq] at c10
      refine Z_jump 2 rfl ?_
      show Zs _ _ (am_P 225).2 (17, [(0, .long a), (2, .long b), (4, .long x), (6, .long y)], [.long y, .long x]) (HH I J R T) _
      refine Z_lrem rfl (by exact absurd e c10) ?_
      refine Z_jump 6 rfl ?_
      show Zs _ _ (am_P 225).2 (6, [(0, .long a), (2, .long b), (4, .long y), (6, .long (x - x / y * y)), (8, .long (x - x / y * y))], []) (HH I J R T) _
      exact absurd e c10
  | k + 1, x, y, hk, hn => by
    refine Z_jump 4 rfl ?_
    refine Z_bd (fun (c10 : (lg_cmp y (0 : Int64)) = (0 : Int32)) => ?_) (fun (c10 : ¬ ((lg_cmp y (0 : Int64)) = (0 : Int32))) => ?_)
    · rw [lc_eq] at c10
      refine Z_jump 1 rfl ?_
      show Zs _ _ (am_P 225).2 (33, [(0, .long a), (2, .long b), (4, .long x), (6, .long y)], [.long x]) (HH I J R T) _
      refine Z_ret rfl rfl rfl ?_
      exact ⟨_, hn.resolve_right (fun z => z c10), rfl, rfl⟩
    · rw [lc_eq] at c10
      refine Z_jump 2 rfl ?_
      show Zs _ _ (am_P 225).2 (17, [(0, .long a), (2, .long b), (4, .long x), (6, .long y)], [.long y, .long x]) (HH I J R T) _
      refine Z_lrem rfl (by exact c10) ?_
      refine Z_jump 6 rfl ?_
      show Zs _ _ (am_P 225).2 (6, [(0, .long a), (2, .long b), (4, .long y), (6, .long (x - x / y * y)), (8, .long (x - x / y * y))], []) (HH I J R T) _
      exact Zs_wk (m_gcd_l k y (x - x / y * y) (by have := rem_lt (x := x) c10; omega) (Or.inl c10)) (lnD rfl) (lnD rfl) (by repeat (first | exact trivial | refine ⟨rfl, ?_⟩))
theorem m_common {a b : Int64} (hb : ¬ b = 0) : Ze sc (d + 1) 225 [.long a, .long b] (HH I J R T) (LN I J R T) := by
  refine Ze_of (Nat.le_of_ble_eq_true rfl) ?_
  refine Z_jump 4 rfl ?_
  show Zs _ _ (am_P 225).2 (6, [(0, .long a), (2, .long b), (4, .long a), (6, .long b)], []) (HH I J R T) _
  exact m_gcd_l b.toInt.natAbs _ _ (Nat.le_refl _) (Or.inr hb)
theorem m_po2 {n s q : Int32} : ∀ (k : Nat) (x : Int32) (p : Int64), n.toInt - x.toInt ≤ k → 0 ≤ x.toInt → Zs sc d (am_P 226).2 (34, [(0, .int n), (1, .int s), (2, .int q), (3, .long p), (5, .int x)], []) (HH I J R T) (LQ I J R T)
  | 0, x, p, hk, hx => by
    refine Z_jump 3 rfl ?_
    refine Z_bd (fun c37 => ?_) (fun c37 => absurd ((show n ≤ x by rw [fi_le]; omega)) c37)
    refine Z_jump 1 rfl ?_
    show Zs _ _ (am_P 226).2 (66, [(0, .int n), (1, .int s), (2, .int q), (3, .long p), (5, .int x)], [.long p]) (HH I J R T) _
    refine Z_ret rfl rfl rfl ?_
    exact ⟨_, rfl, rfl⟩
  | k + 1, x, p, hk, hx => by
    have z1 : (1 : Int32).toInt = 1 := rfl
    have hh := ti_hi n
    refine Z_jump 3 rfl ?_
    refine Z_bd (fun (c37 : n ≤ x) => ?_) (fun (c37 : ¬ (n ≤ x)) => ?_)
    · refine Z_jump 1 rfl ?_
      show Zs _ _ (am_P 226).2 (66, [(0, .int n), (1, .int s), (2, .int q), (3, .long p), (5, .int x)], [.long p]) (HH I J R T) _
      refine Z_ret rfl rfl rfl ?_
      exact ⟨_, rfl, rfl⟩
    · refine Z_jump 4 rfl ?_
      refine Z_bd (fun (c44 : s ≤ x) => ?_) (fun (c44 : ¬ (s ≤ x)) => ?_)
      · refine Z_jump 6 rfl ?_
        show Zs _ _ (am_P 226).2 (34, [(0, .int n), (1, .int s), (2, .int q), (3, .long (p * (Int32.toInt64 q))), (5, .int (x + 1))], []) (HH I J R T) _
        rw [fi_le] at c37
        exact m_po2 k _ _ (by rw [ti_add (by omega) (by omega)]; omega) (by rw [ti_add (by omega) (by omega)]; omega)
      · refine Z_jump 9 rfl ?_
        show Zs _ _ (am_P 226).2 (34, [(0, .int n), (1, .int s), (2, .int q), (3, .long (p * (Int32.toInt64 ((10 : Int32) - q)))), (5, .int (x + 1))], []) (HH I J R T) _
        rw [fi_le] at c37
        exact m_po2 k _ _ (by rw [ti_add (by omega) (by omega)]; omega) (by rw [ti_add (by omega) (by omega)]; omega)
theorem m_po1 {n s q : Int32} : ∀ (k : Nat) (x : Int32) (p : Int64), s.toInt - x.toInt ≤ k → 0 ≤ x.toInt → Zs sc d (am_P 226).2 (5, [(0, .int n), (1, .int s), (2, .int q), (3, .long p), (5, .int x)], []) (HH I J R T) (LQ I J R T)
  | 0, x, p, hk, hx => by
    refine Z_jump 3 rfl ?_
    refine Z_bd (fun c8 => ?_) (fun c8 => absurd ((show s ≤ x by rw [fi_le]; omega)) c8)
    refine Z_jump 2 rfl ?_
    show Zs _ _ (am_P 226).2 (34, [(0, .int n), (1, .int s), (2, .int q), (3, .long p), (5, .int (0 : Int32))], []) (HH I J R T) _
    exact m_po2 (n.toInt - 0).toNat _ _ (by have z0 : (0 : Int32).toInt = 0 := rfl; omega) (by decide)
  | k + 1, x, p, hk, hx => by
    have z1 : (1 : Int32).toInt = 1 := rfl
    have hh := ti_hi s
    refine Z_jump 3 rfl ?_
    refine Z_bd (fun (c8 : s ≤ x) => ?_) (fun (c8 : ¬ (s ≤ x)) => ?_)
    · refine Z_jump 2 rfl ?_
      show Zs _ _ (am_P 226).2 (34, [(0, .int n), (1, .int s), (2, .int q), (3, .long p), (5, .int (0 : Int32))], []) (HH I J R T) _
      exact m_po2 (n.toInt - 0).toNat _ _ (by have z0 : (0 : Int32).toInt = 0 := rfl; omega) (by decide)
    · refine Z_jump 10 rfl ?_
      show Zs _ _ (am_P 226).2 (23, [(0, .int n), (1, .int s), (2, .int q), (3, .long p), (5, .int x)], [.long (Int32.toInt64 (x + (1 : Int32))), .long (p * (Int32.toInt64 (n - x)))]) (HH I J R T) _
      refine Z_ldiv rfl (by exact (fun z => by rw [fi_le] at c8; rw [fi_eqL, i64, ti_add (by omega) (by omega)] at z; have z0 : (0 : Int64).toInt = 0 := rfl; omega)) ?_
      refine Z_jump 3 rfl ?_
      show Zs _ _ (am_P 226).2 (5, [(0, .int n), (1, .int s), (2, .int q), (3, .long ((p * (Int32.toInt64 (n - x))) / (Int32.toInt64 (x + (1 : Int32))))), (5, .int (x + 1))], []) (HH I J R T) _
      rw [fi_le] at c8
      exact m_po1 k _ _ (by rw [ti_add (by omega) (by omega)]; omega) (by rw [ti_add (by omega) (by omega)]; omega)
theorem m_partsOf {n s q : Int32} : Ze sc (d + 1) 226 [.int n, .int s, .int q] (HH I J R T) (LQ I J R T) := by
  refine Ze_of (Nat.le_of_ble_eq_true rfl) ?_
  refine Z_jump 4 rfl ?_
  show Zs _ _ (am_P 226).2 (5, [(0, .int n), (1, .int s), (2, .int q), (3, .long (1 : Int64)), (5, .int (0 : Int32))], []) (HH I J R T) _
  exact m_po1 (s.toInt - 0).toNat _ _ (by have z0 : (0 : Int32).toInt = 0 := rfl; omega) (by decide)
theorem m_slips {D : FD} {x q v p : Int32} (hD : DMf D I) (hb : ∀ k, k < 6 → (I 78 k).toInt ≤ 9 ∧ (I 78 (6 + k)).toInt ≤ 9 ∧ -9 ≤ (I 78 k).toInt ∧ -9 ≤ (I 78 (6 + k)).toInt) : Ze sc (d + 4) 227 [.ref 73, .int x, .int q, .int v, .int p] (HH I J R T) (LQ I J R T) := by
  refine Ze_of (Nat.le_of_ble_eq_true rfl) ?_
  by_cases hr : M_rod D.1 x
  · obtain ⟨k, hk, hx⟩ := rod_n hr
    have h6 := hD.2.1
    have hbk := hb k (by omega)
    have z1 : (1 : Int32).toInt = 1 := rfl
    have z0 : (0 : Int32).toInt = 0 := rfl
    subst hx
    have Z : ∀ (ab wh : Int64), ¬ wh = 0 → Zs sc (d + 3) (am_P 227).2 (196, [(0, .ref 73), (1, .int (nI k)), (2, .int q), (3, .int v), (4, .int p), (5, .long ab), (7, .long wh)], []) (HH I J R T) (LQ I J R T) := fun ab wh hw => by
      refine Z_jump 2 rfl ?_
      show Zs _ _ (am_P 227).2 (200, [(0, .ref 73), (1, .int (nI k)), (2, .int q), (3, .int v), (4, .int p), (5, .long ab), (7, .long wh)], [.long wh, .long ab]) (HH I J R T) _
      refine Z_cQ rfl rfl rfl (m_common hw) (fun v h1 hq => ?_)
      obtain ⟨y1, hy1, rfl, rfl⟩ := hq
      show Zs _ _ (am_P 227).2 (203, [(0, .ref 73), (1, .int (nI k)), (2, .int q), (3, .int v), (4, .int p), (5, .long ab), (7, .long wh)], [.long y1]) (HH I J R T) _
      refine Z_jump 3 rfl ?_
      refine Z_bn (fun (c207 : ¬ (p = (0 : Int32))) => ?_) (fun (c207 : p = (0 : Int32)) => ?_)
      · refine Z_jump 2 rfl ?_
        show Zs _ _ (am_P 227).2 (222, [(0, .ref 73), (1, .int (nI k)), (2, .int q), (3, .int v), (4, .int p), (5, .long ab), (7, .long wh), (9, .long y1)], [.long y1, .long wh]) (HH I J R T) _
        refine Z_ldiv rfl (by exact hy1) ?_
        show Zs _ _ (am_P 227).2 (223, [(0, .ref 73), (1, .int (nI k)), (2, .int q), (3, .int v), (4, .int p), (5, .long ab), (7, .long wh), (9, .long y1)], [.long (wh / y1)]) (HH I J R T) _
        refine Z_ret rfl rfl rfl ?_
        exact ⟨_, rfl, rfl⟩
      · refine Z_jump 2 rfl ?_
        show Zs _ _ (am_P 227).2 (214, [(0, .ref 73), (1, .int (nI k)), (2, .int q), (3, .int v), (4, .int p), (5, .long ab), (7, .long wh), (9, .long y1)], [.long y1, .long ab]) (HH I J R T) _
        refine Z_ldiv rfl (by exact hy1) ?_
        refine Z_jump 1 rfl ?_
        show Zs _ _ (am_P 227).2 (223, [(0, .ref 73), (1, .int (nI k)), (2, .int q), (3, .int v), (4, .int p), (5, .long ab), (7, .long wh), (9, .long y1)], [.long (ab / y1)]) (HH I J R T) _
        refine Z_ret rfl rfl rfl ?_
        exact ⟨_, rfl, rfl⟩
    have Y : ∀ (n : Nat) (y w : Int32) (ab wh : Int64), (I 78 (6 + k)).toInt + 1 - w.toInt ≤ n → (∀ ab : Int64, Zs sc (d + 3) (am_P 227).2 (190, [(0, .ref 73), (1, .int (nI k)), (2, .int q), (3, .int v), (4, .int p), (5, .long ab), (7, .long wh), (9, .int y)], []) (HH I J R T) (LQ I J R T)) → Zs sc (d + 3) (am_P 227).2 (116, [(0, .ref 73), (1, .int (nI k)), (2, .int q), (3, .int v), (4, .int p), (5, .long ab), (7, .long wh), (9, .int y), (10, .int w)], []) (HH I J R T) (LQ I J R T) := by
      intro n
      induction n with
      | zero =>
        intro y w ab wh hw H
        refine Z_jump 6 rfl ?_
        show Zs _ _ (am_P 227).2 (126, [(0, .ref 73), (1, .int (nI k)), (2, .int q), (3, .int v), (4, .int p), (5, .long ab), (7, .long wh), (9, .int y), (10, .int w)], [.int ((6 : Int32) + (nI k)), .ref 78, .int w]) (HH I J R T) _
        refine Z_ialK (6 + k) rfl rfl (nI_6 k) (by omega) (by decide) ?_
        show Zs _ _ (am_P 227).2 (127, [(0, .ref 73), (1, .int (nI k)), (2, .int q), (3, .int v), (4, .int p), (5, .long ab), (7, .long wh), (9, .int y), (10, .int w)], [.int (I 78 (6 + k)), .int w]) (HH I J R T) _
        refine Z_jump 1 rfl ?_
        refine Z_bd (fun c127 => ?_) (fun c127 => absurd ((show I 78 (6 + k) < w by rw [fi_lt]; omega)) c127)
        show Zs _ _ (am_P 227).2 (190, [(0, .ref 73), (1, .int (nI k)), (2, .int q), (3, .int v), (4, .int p), (5, .long ab), (7, .long wh), (9, .int y), (10, .int w)], []) (HH I J R T) _
        exact Zs_wk (H ab) (lnD rfl) (lnD rfl) (by repeat (first | exact trivial | refine ⟨rfl, ?_⟩))
      | succ n ih =>
        intro y w ab wh hw H
        have hlo := ti_lo w
        refine Z_jump 6 rfl ?_
        show Zs _ _ (am_P 227).2 (126, [(0, .ref 73), (1, .int (nI k)), (2, .int q), (3, .int v), (4, .int p), (5, .long ab), (7, .long wh), (9, .int y), (10, .int w)], [.int ((6 : Int32) + (nI k)), .ref 78, .int w]) (HH I J R T) _
        refine Z_ialK (6 + k) rfl rfl (nI_6 k) (by omega) (by decide) ?_
        show Zs _ _ (am_P 227).2 (127, [(0, .ref 73), (1, .int (nI k)), (2, .int q), (3, .int v), (4, .int p), (5, .long ab), (7, .long wh), (9, .int y), (10, .int w)], [.int (I 78 (6 + k)), .int w]) (HH I J R T) _
        refine Z_jump 1 rfl ?_
        refine Z_bd (fun (c127 : (I 78 (6 + k)) < w) => ?_) (fun (c127 : ¬ ((I 78 (6 + k)) < w)) => ?_)
        · show Zs _ _ (am_P 227).2 (190, [(0, .ref 73), (1, .int (nI k)), (2, .int q), (3, .int v), (4, .int p), (5, .long ab), (7, .long wh), (9, .int y), (10, .int w)], []) (HH I J R T) _
          exact Zs_wk (H ab) (lnD rfl) (lnD rfl) (by repeat (first | exact trivial | refine ⟨rfl, ?_⟩))
        · refine Z_jump 5 rfl ?_
          show Zs _ _ (am_P 227).2 (138, [(0, .ref 73), (1, .int (nI k)), (2, .int q), (3, .int v), (4, .int p), (5, .long ab), (7, .long wh), (9, .int y), (10, .int w)], [.int (nI k), .ref 73, .int w, .int y, .long ab]) (HH I J R T) _
          refine Z_c1 rfl rfl rfl (m_worthD hD rfl hk) ?_
          show Zs _ _ (am_P 227).2 (141, [(0, .ref 73), (1, .int (nI k)), (2, .int q), (3, .int v), (4, .int p), (5, .long ab), (7, .long wh), (9, .int y), (10, .int w)], [.int (nI (hwv (D.2.1 k))), .int w, .int y, .long ab]) (HH I J R T) _
          refine Z_jump 4 rfl ?_
          refine Z_bd (fun (c144 : v ≤ (y + (w * (nI (hwv (D.2.1 k)))))) => ?_) (fun (c144 : ¬ (v ≤ (y + (w * (nI (hwv (D.2.1 k))))))) => ?_)
          · refine Z_jump 5 rfl ?_
            show Zs _ _ (am_P 227).2 (158, [(0, .ref 73), (1, .int (nI k)), (2, .int q), (3, .int v), (4, .int p), (5, .long ab), (7, .long wh), (9, .int y), (10, .int w)], [.int ((0 : Int32) + (nI k)), .ref 78, .long ab]) (HH I J R T) _
            refine Z_ialK (k) rfl rfl (nI_z k) (by omega) (by decide) ?_
            show Zs _ _ (am_P 227).2 (159, [(0, .ref 73), (1, .int (nI k)), (2, .int q), (3, .int v), (4, .int p), (5, .long ab), (7, .long wh), (9, .int y), (10, .int w)], [.int (I 78 k), .long ab]) (HH I J R T) _
            refine Z_jump 2 rfl ?_
            show Zs _ _ (am_P 227).2 (162, [(0, .ref 73), (1, .int (nI k)), (2, .int q), (3, .int v), (4, .int p), (5, .long ab), (7, .long wh), (9, .int y), (10, .int w)], [.int q, .int y, .int (I 78 k), .long ab]) (HH I J R T) _
            refine Z_cQ rfl rfl rfl (m_partsOf) (fun v h1 hq => ?_)
            obtain ⟨y1, rfl, rfl⟩ := hq
            show Zs _ _ (am_P 227).2 (165, [(0, .ref 73), (1, .int (nI k)), (2, .int q), (3, .int v), (4, .int p), (5, .long ab), (7, .long wh), (9, .int y), (10, .int w)], [.long y1, .long ab]) (HH I J R T) _
            refine Z_jump 5 rfl ?_
            show Zs _ _ (am_P 227).2 (173, [(0, .ref 73), (1, .int (nI k)), (2, .int q), (3, .int v), (4, .int p), (5, .long ab), (7, .long wh), (9, .int y), (10, .int w)], [.int ((6 : Int32) + (nI k)), .ref 78, .long y1, .long ab]) (HH I J R T) _
            refine Z_ialK (6 + k) rfl rfl (nI_6 k) (by omega) (by decide) ?_
            show Zs _ _ (am_P 227).2 (174, [(0, .ref 73), (1, .int (nI k)), (2, .int q), (3, .int v), (4, .int p), (5, .long ab), (7, .long wh), (9, .int y), (10, .int w)], [.int (I 78 (6 + k)), .long y1, .long ab]) (HH I J R T) _
            refine Z_jump 2 rfl ?_
            show Zs _ _ (am_P 227).2 (177, [(0, .ref 73), (1, .int (nI k)), (2, .int q), (3, .int v), (4, .int p), (5, .long ab), (7, .long wh), (9, .int y), (10, .int w)], [.int q, .int w, .int (I 78 (6 + k)), .long y1, .long ab]) (HH I J R T) _
            refine Z_cQ rfl rfl rfl (m_partsOf) (fun v h1 hq => ?_)
            obtain ⟨y2, rfl, rfl⟩ := hq
            show Zs _ _ (am_P 227).2 (180, [(0, .ref 73), (1, .int (nI k)), (2, .int q), (3, .int v), (4, .int p), (5, .long ab), (7, .long wh), (9, .int y), (10, .int w)], [.long y2, .long y1, .long ab]) (HH I J R T) _
            refine Z_jump 5 rfl ?_
            show Zs _ _ (am_P 227).2 (116, [(0, .ref 73), (1, .int (nI k)), (2, .int q), (3, .int v), (4, .int p), (5, .long (ab + (y1 * y2))), (7, .long wh), (9, .int y), (10, .int (w + 1))], []) (HH I J R T) _
            rw [fi_lt] at c127
            exact ih _ _ _ _ (by rw [ti_add (by omega) (by omega)]; omega) H
          · refine Z_jump 6 rfl ?_
            show Zs _ _ (am_P 227).2 (116, [(0, .ref 73), (1, .int (nI k)), (2, .int q), (3, .int v), (4, .int p), (5, .long (ab + (0 : Int64))), (7, .long wh), (9, .int y), (10, .int (w + 1))], []) (HH I J R T) _
            rw [fi_lt] at c127
            exact ih _ _ _ _ (by rw [ti_add (by omega) (by omega)]; omega) H
    have X : ∀ (n : Nat) (y : Int32) (ab wh : Int64), ¬ wh = 0 → (I 78 k).toInt + 1 - y.toInt ≤ n → Zs sc (d + 3) (am_P 227).2 (100, [(0, .ref 73), (1, .int (nI k)), (2, .int q), (3, .int v), (4, .int p), (5, .long ab), (7, .long wh), (9, .int y)], []) (HH I J R T) (LQ I J R T) := by
      intro n
      induction n with
      | zero =>
        intro y ab wh hw0 hw
        refine Z_jump 6 rfl ?_
        show Zs _ _ (am_P 227).2 (109, [(0, .ref 73), (1, .int (nI k)), (2, .int q), (3, .int v), (4, .int p), (5, .long ab), (7, .long wh), (9, .int y)], [.int ((0 : Int32) + (nI k)), .ref 78, .int y]) (HH I J R T) _
        refine Z_ialK (k) rfl rfl (nI_z k) (by omega) (by decide) ?_
        show Zs _ _ (am_P 227).2 (110, [(0, .ref 73), (1, .int (nI k)), (2, .int q), (3, .int v), (4, .int p), (5, .long ab), (7, .long wh), (9, .int y)], [.int (I 78 k), .int y]) (HH I J R T) _
        refine Z_jump 1 rfl ?_
        refine Z_bd (fun c110 => ?_) (fun c110 => absurd ((show I 78 k < y by rw [fi_lt]; omega)) c110)
        show Zs _ _ (am_P 227).2 (196, [(0, .ref 73), (1, .int (nI k)), (2, .int q), (3, .int v), (4, .int p), (5, .long ab), (7, .long wh), (9, .int y)], []) (HH I J R T) _
        exact Zs_wk (Z ab wh hw0) (lnD rfl) (lnD rfl) (by repeat (first | exact trivial | refine ⟨rfl, ?_⟩))
      | succ n ih =>
        intro y ab wh hw0 hw
        have hlo := ti_lo y
        have W : ¬ (I 78 k).toInt < y.toInt → ∀ ab : Int64, Zs sc (d + 3) (am_P 227).2 (190, [(0, .ref 73), (1, .int (nI k)), (2, .int q), (3, .int v), (4, .int p), (5, .long ab), (7, .long wh), (9, .int y)], []) (HH I J R T) (LQ I J R T) := fun hc ab => by
          refine Z_jump 2 rfl ?_
          show Zs _ _ (am_P 227).2 (100, [(0, .ref 73), (1, .int (nI k)), (2, .int q), (3, .int v), (4, .int p), (5, .long ab), (7, .long wh), (9, .int (y + 1))], []) (HH I J R T) _
          exact ih _ _ _ hw0 (by rw [ti_add (by omega) (by omega)]; omega)
        refine Z_jump 6 rfl ?_
        show Zs _ _ (am_P 227).2 (109, [(0, .ref 73), (1, .int (nI k)), (2, .int q), (3, .int v), (4, .int p), (5, .long ab), (7, .long wh), (9, .int y)], [.int ((0 : Int32) + (nI k)), .ref 78, .int y]) (HH I J R T) _
        refine Z_ialK (k) rfl rfl (nI_z k) (by omega) (by decide) ?_
        show Zs _ _ (am_P 227).2 (110, [(0, .ref 73), (1, .int (nI k)), (2, .int q), (3, .int v), (4, .int p), (5, .long ab), (7, .long wh), (9, .int y)], [.int (I 78 k), .int y]) (HH I J R T) _
        refine Z_jump 1 rfl ?_
        refine Z_bd (fun (c110 : (I 78 k) < y) => ?_) (fun (c110 : ¬ ((I 78 k) < y)) => ?_)
        · show Zs _ _ (am_P 227).2 (196, [(0, .ref 73), (1, .int (nI k)), (2, .int q), (3, .int v), (4, .int p), (5, .long ab), (7, .long wh), (9, .int y)], []) (HH I J R T) _
          exact Zs_wk (Z ab wh hw0) (lnD rfl) (lnD rfl) (by repeat (first | exact trivial | refine ⟨rfl, ?_⟩))
        · refine Z_jump 2 rfl ?_
          show Zs _ _ (am_P 227).2 (116, [(0, .ref 73), (1, .int (nI k)), (2, .int q), (3, .int v), (4, .int p), (5, .long ab), (7, .long wh), (9, .int y), (10, .int (0 : Int32))], []) (HH I J R T) _
          rw [fi_lt] at c110
          exact Y ((I 78 (6 + k)).toInt + 1 - 0).toNat y _ _ _ (by omega) (W c110)
    have V : ∀ (n j : Nat) (y : Int32) (wh : Int64), y = nI j → (I 78 k).toInt + (I 78 (6 + k)).toInt - y.toInt ≤ n → j + n ≤ 18 → (0 < wh.toInt ∧ wh.toInt * 10 ^ n ≤ 10 ^ 18) → Zs sc (d + 3) (am_P 227).2 (60, [(0, .ref 73), (1, .int (nI k)), (2, .int q), (3, .int v), (4, .int p), (5, .long 0), (7, .long wh), (9, .int y)], []) (HH I J R T) (LQ I J R T) := by
      have es : (I 78 k + I 78 (6 + k)).toInt = (I 78 k).toInt + (I 78 (6 + k)).toInt := ti_add (by omega) (by omega)
      have E9 : ∀ (y : Int32) (wh : Int64), 0 < wh.toInt → Zs sc (d + 3) (am_P 227).2 (97, [(0, .ref 73), (1, .int (nI k)), (2, .int q), (3, .int v), (4, .int p), (5, .long 0), (7, .long wh)], []) (HH I J R T) (LQ I J R T) := fun y wh hw => by
        refine Z_jump 2 rfl ?_
        show Zs _ _ (am_P 227).2 (100, [(0, .ref 73), (1, .int (nI k)), (2, .int q), (3, .int v), (4, .int p), (5, .long (0 : Int64)), (7, .long wh), (9, .int (0 : Int32))], []) (HH I J R T) _
        exact X ((I 78 k).toInt + 1 - 0).toNat _ _ _ (fun z => by rw [z] at hw; exact absurd hw (by decide)) (by omega)
      intro n
      induction n with
      | zero =>
        intro j y wh hy hn hj hw
        refine Z_jump 6 rfl ?_
        show Zs _ _ (am_P 227).2 (69, [(0, .ref 73), (1, .int (nI k)), (2, .int q), (3, .int v), (4, .int p), (5, .long (0 : Int64)), (7, .long wh), (9, .int y)], [.int ((0 : Int32) + (nI k)), .ref 78, .int y]) (HH I J R T) _
        refine Z_ialK (k) rfl rfl (nI_z k) (by omega) (by decide) ?_
        show Zs _ _ (am_P 227).2 (70, [(0, .ref 73), (1, .int (nI k)), (2, .int q), (3, .int v), (4, .int p), (5, .long (0 : Int64)), (7, .long wh), (9, .int y)], [.int (I 78 k), .int y]) (HH I J R T) _
        refine Z_jump 5 rfl ?_
        show Zs _ _ (am_P 227).2 (78, [(0, .ref 73), (1, .int (nI k)), (2, .int q), (3, .int v), (4, .int p), (5, .long (0 : Int64)), (7, .long wh), (9, .int y)], [.int ((6 : Int32) + (nI k)), .ref 78, .int (I 78 k), .int y]) (HH I J R T) _
        refine Z_ialK (6 + k) rfl rfl (nI_6 k) (by omega) (by decide) ?_
        show Zs _ _ (am_P 227).2 (79, [(0, .ref 73), (1, .int (nI k)), (2, .int q), (3, .int v), (4, .int p), (5, .long (0 : Int64)), (7, .long wh), (9, .int y)], [.int (I 78 (6 + k)), .int (I 78 k), .int y]) (HH I J R T) _
        refine Z_jump 2 rfl ?_
        refine Z_bd (fun c80 => ?_) (fun c80 => absurd ((show I 78 k + I 78 (6 + k) ≤ y by rw [fi_le, es]; omega)) c80)
        show Zs _ _ (am_P 227).2 (97, [(0, .ref 73), (1, .int (nI k)), (2, .int q), (3, .int v), (4, .int p), (5, .long (0 : Int64)), (7, .long wh), (9, .int y)], []) (HH I J R T) _
        exact Zs_wk (E9 y wh hw.1) (lnD rfl) (lnD rfl) (by repeat (first | exact trivial | refine ⟨rfl, ?_⟩))
      | succ n ih =>
        intro j y wh hy hn hj hw
        have ey : y + 1 = nI (j + 1) := by rw [hy]; exact nI_1 j
        have e10 : (10 : Int64).toInt = 10 := rfl
        have hw2 : wh.toInt * 10 ^ (n + 1) = wh.toInt * 10 * 10 ^ n := by rw [Int.pow_succ, Int.mul_comm (10 ^ n) 10, Int.mul_assoc]
        have hp : (1 : Int) ≤ 10 ^ n := ten_pos n
        have hle : wh.toInt * 10 ≤ 10 ^ 18 := by
          have h1 : wh.toInt * 10 * 1 ≤ wh.toInt * 10 * 10 ^ n := Int.mul_le_mul_of_nonneg_left hp (by omega)
          omega
        have hm : (wh * 10).toInt = wh.toInt * 10 := by rw [tl_mul, e10] <;> (rw [e10]; omega)
        refine Z_jump 6 rfl ?_
        show Zs _ _ (am_P 227).2 (69, [(0, .ref 73), (1, .int (nI k)), (2, .int q), (3, .int v), (4, .int p), (5, .long (0 : Int64)), (7, .long wh), (9, .int y)], [.int ((0 : Int32) + (nI k)), .ref 78, .int y]) (HH I J R T) _
        refine Z_ialK (k) rfl rfl (nI_z k) (by omega) (by decide) ?_
        show Zs _ _ (am_P 227).2 (70, [(0, .ref 73), (1, .int (nI k)), (2, .int q), (3, .int v), (4, .int p), (5, .long (0 : Int64)), (7, .long wh), (9, .int y)], [.int (I 78 k), .int y]) (HH I J R T) _
        refine Z_jump 5 rfl ?_
        show Zs _ _ (am_P 227).2 (78, [(0, .ref 73), (1, .int (nI k)), (2, .int q), (3, .int v), (4, .int p), (5, .long (0 : Int64)), (7, .long wh), (9, .int y)], [.int ((6 : Int32) + (nI k)), .ref 78, .int (I 78 k), .int y]) (HH I J R T) _
        refine Z_ialK (6 + k) rfl rfl (nI_6 k) (by omega) (by decide) ?_
        show Zs _ _ (am_P 227).2 (79, [(0, .ref 73), (1, .int (nI k)), (2, .int q), (3, .int v), (4, .int p), (5, .long (0 : Int64)), (7, .long wh), (9, .int y)], [.int (I 78 (6 + k)), .int (I 78 k), .int y]) (HH I J R T) _
        refine Z_jump 2 rfl ?_
        refine Z_bd (fun (c80 : ((I 78 k) + (I 78 (6 + k))) ≤ y) => ?_) (fun (c80 : ¬ (((I 78 k) + (I 78 (6 + k))) ≤ y)) => ?_)
        · show Zs _ _ (am_P 227).2 (97, [(0, .ref 73), (1, .int (nI k)), (2, .int q), (3, .int v), (4, .int p), (5, .long (0 : Int64)), (7, .long wh), (9, .int y)], []) (HH I J R T) _
          exact Zs_wk (E9 y wh hw.1) (lnD rfl) (lnD rfl) (by repeat (first | exact trivial | refine ⟨rfl, ?_⟩))
        · refine Z_jump 6 rfl ?_
          show Zs _ _ (am_P 227).2 (60, [(0, .ref 73), (1, .int (nI k)), (2, .int q), (3, .int v), (4, .int p), (5, .long (0 : Int64)), (7, .long (wh * (10 : Int64))), (9, .int (y + 1))], []) (HH I J R T) _
          exact ih (j + 1) _ _ ey (by rw [ey, nI_toInt (by omega)]; rw [hy, nI_toInt (by omega)] at hn; omega) (by omega) ⟨by omega, by rw [hm, ← hw2]; exact hw.2⟩
    refine Z_jump 2 rfl ?_
    show Zs _ _ (am_P 227).2 (2, [(0, .ref 73), (1, .int (nI k)), (2, .int q), (3, .int v), (4, .int p)], [.int (nI k), .ref 73]) (HH I J R T) _
    refine Z_c1 rfl rfl rfl (E_pos (m_isRodN hD.1 hD.2.1) hr) ?_
    show Zs _ _ (am_P 227).2 (5, [(0, .ref 73), (1, .int (nI k)), (2, .int q), (3, .int v), (4, .int p)], [.int (1 : Int32)]) (HH I J R T) _
    refine Z_jump 5 rfl ?_
    show Zs _ _ (am_P 227).2 (18, [(0, .ref 73), (1, .int (nI k)), (2, .int q), (3, .int v), (4, .int p)], [.long (10 : Int64), .long (0 : Int64), .long (Int32.toInt64 q)]) (HH I J R T) _
    by_cases b18 : 0 ≤ q.toInt ∧ q.toInt ≤ 10
    · refine Z_c1 rfl rfl rfl (E_pos (m_inI (a := 0) (b := 10) rfl rfl) b18) ?_
      show Zs _ _ (am_P 227).2 (21, [(0, .ref 73), (1, .int (nI k)), (2, .int q), (3, .int v), (4, .int p)], [.int (1 : Int32)]) (HH I J R T) _
      refine Z_jump 5 rfl ?_
      show Zs _ _ (am_P 227).2 (30, [(0, .ref 73), (1, .int (nI k)), (2, .int q), (3, .int v), (4, .int p)], [.long (60 : Int64), .long (0 : Int64), .long (Int32.toInt64 v)]) (HH I J R T) _
      by_cases b30 : 0 ≤ v.toInt ∧ v.toInt ≤ 60
      · refine Z_c1 rfl rfl rfl (E_pos (m_inI (a := 0) (b := 60) rfl rfl) b30) ?_
        show Zs _ _ (am_P 227).2 (33, [(0, .ref 73), (1, .int (nI k)), (2, .int q), (3, .int v), (4, .int p)], [.int (1 : Int32)]) (HH I J R T) _
        refine Z_jump 5 rfl ?_
        show Zs _ _ (am_P 227).2 (41, [(0, .ref 73), (1, .int (nI k)), (2, .int q), (3, .int v), (4, .int p)], [.long (1 : Int64), .long (0 : Int64), .long (Int32.toInt64 p)]) (HH I J R T) _
        by_cases b41 : 0 ≤ p.toInt ∧ p.toInt ≤ 1
        · refine Z_c1 rfl rfl rfl (E_pos (m_inI (a := 0) (b := 1) rfl rfl) b41) ?_
          show Zs _ _ (am_P 227).2 (44, [(0, .ref 73), (1, .int (nI k)), (2, .int q), (3, .int v), (4, .int p)], [.int (1 : Int32)]) (HH I J R T) _
          refine Z_jump 7 rfl ?_
          show Zs _ _ (am_P 227).2 (60, [(0, .ref 73), (1, .int (nI k)), (2, .int q), (3, .int v), (4, .int p), (5, .long (0 : Int64)), (7, .long (1 : Int64)), (9, .int (0 : Int32))], []) (HH I J R T) _
          exact V 18 0 _ _ rfl (by omega) (by omega) ⟨by decide, by decide⟩
        · refine Z_c1 rfl rfl rfl (E_neg (m_inI (a := 0) (b := 1) rfl rfl) b41) ?_
          show Zs _ _ (am_P 227).2 (44, [(0, .ref 73), (1, .int (nI k)), (2, .int q), (3, .int v), (4, .int p)], [.int (0 : Int32)]) (HH I J R T) _
          refine Z_jump 2 rfl ?_
          show Zs _ _ (am_P 227).2 (50, [(0, .ref 73), (1, .int (nI k)), (2, .int q), (3, .int v), (4, .int p)], [.long (-3 : Int64)]) (HH I J R T) _
          refine Z_ret rfl rfl rfl ?_
          exact ⟨_, rfl, rfl⟩
      · refine Z_c1 rfl rfl rfl (E_neg (m_inI (a := 0) (b := 60) rfl rfl) b30) ?_
        show Zs _ _ (am_P 227).2 (33, [(0, .ref 73), (1, .int (nI k)), (2, .int q), (3, .int v), (4, .int p)], [.int (0 : Int32)]) (HH I J R T) _
        refine Z_jump 2 rfl ?_
        show Zs _ _ (am_P 227).2 (50, [(0, .ref 73), (1, .int (nI k)), (2, .int q), (3, .int v), (4, .int p)], [.long (-3 : Int64)]) (HH I J R T) _
        refine Z_ret rfl rfl rfl ?_
        exact ⟨_, rfl, rfl⟩
    · refine Z_c1 rfl rfl rfl (E_neg (m_inI (a := 0) (b := 10) rfl rfl) b18) ?_
      show Zs _ _ (am_P 227).2 (21, [(0, .ref 73), (1, .int (nI k)), (2, .int q), (3, .int v), (4, .int p)], [.int (0 : Int32)]) (HH I J R T) _
      refine Z_jump 2 rfl ?_
      show Zs _ _ (am_P 227).2 (50, [(0, .ref 73), (1, .int (nI k)), (2, .int q), (3, .int v), (4, .int p)], [.long (-3 : Int64)]) (HH I J R T) _
      refine Z_ret rfl rfl rfl ?_
      exact ⟨_, rfl, rfl⟩
  · refine Z_jump 2 rfl ?_
    show Zs _ _ (am_P 227).2 (2, [(0, .ref 73), (1, .int x), (2, .int q), (3, .int v), (4, .int p)], [.int x, .ref 73]) (HH I J R T) _
    refine Z_c1 rfl rfl rfl (E_neg (m_isRodN hD.1 hD.2.1) hr) ?_
    show Zs _ _ (am_P 227).2 (5, [(0, .ref 73), (1, .int x), (2, .int q), (3, .int v), (4, .int p)], [.int (0 : Int32)]) (HH I J R T) _
    refine Z_jump 2 rfl ?_
    show Zs _ _ (am_P 227).2 (11, [(0, .ref 73), (1, .int x), (2, .int q), (3, .int v), (4, .int p)], [.long (-2 : Int64)]) (HH I J R T) _
    refine Z_ret rfl rfl rfl ?_
    exact ⟨_, rfl, rfl⟩
end ML9

