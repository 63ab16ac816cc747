/-! Sums: the class reads and reckons an expression. -/
def PXq (tx : Nat → Nat) (c : Nat) (res : SR) (I : hI) (J : hJ) (R : hR) (T : am_H) (r : Option Value) (h : am_H) : Prop := ∃ I', h = HH I' J R T ∧ UX I I' ∧ CT tx c I' ∧ ∃ v, r = some (.long v) ∧ (match res with
  | .inl p => p ≤ c ∧ I' 1 2 = nI p
  | .inr q => v = q.2.1 ∧ I' 1 2 = -1 ∧ CTK tx c q.1 I' ∧ I' 3 2 = q.2.2)
theorem PX_t {tx : Nat → Nat} {c : Nat} {res : SR} {I I1 : hI} {J : hJ} {R : hR} {T : am_H} {r : Option Value} {h : am_H} (u : UX I I1) (q : PXq tx c res I1 J R T r h) : PXq tx c res I J R T r h := by
  obtain ⟨I', h1, h2, h3⟩ := q
  exact ⟨I', h1, UX_t u h2, h3⟩
theorem nI_sur (x : Int32) : ∃ s : Nat, x = nI s := ⟨x.toBitVec.toNat, by
  show x = Int32.ofNat _
  apply Int32.toBitVec_inj.mp
  show _ = BitVec.ofNat 32 _
  rw [BitVec.ofNat_toNat, BitVec.setWidth_eq]⟩
section EXP
variable {sc : Nat × (Nat → Int32)} {d : Nat} {I : hI} {J : hJ} {R : hR} {T : am_H} {Q : Option Value → am_H → Prop} {tx : Nat → Nat} {c : Nat} {num : Int64}
theorem c_sgn {s t : Nat} {v : Int32} (hK : CTK tx c s I) (hv : v = nI t) (ht : t ≤ 255) (h : s < c ∧ tx s = t) : am_E sc (d + 2) 60 [.ref 1, .int v] (HH I J R T) (some (.int 1)) (HH I J R T) := by
  have w := c_isSign (sc := sc) (d := d) (J := J) (R := R) (T := T) hK hv ht
  rw [if_pos h] at w
  exact w
theorem c_sgn0 {s t : Nat} {v : Int32} (hK : CTK tx c s I) (hv : v = nI t) (ht : t ≤ 255) (h : ¬ (s < c ∧ tx s = t)) : am_E sc (d + 2) 60 [.ref 1, .int v] (HH I J R T) (some (.int 0)) (HH I J R T) := by
  have w := c_isSign (sc := sc) (d := d) (J := J) (R := R) (T := T) hK hv ht
  rw [if_neg h] at w
  exact w
/-- behind a fault -/
theorem c_exu {p : Nat} {x less j : Int32} {sum prod : Int64} (hC : CT tx c I) (hp : p ≤ c) (h2 : I 1 2 = nI p) : Zs sc (d + 2) (am_P 45).2 (16, [(0, .ref 3), (1, .ref 1), (2, .int x), (3, .long sum), (5, .int less), (6, .long prod), (8, .int j)], []) (HH I J R T) (PXq tx c (.inl p) I J R T) := by
  have hu : ¬ I 1 2 = -1 := by rw [h2]; exact nI_m1 hp hC.2.1
  refine Z_jump 3 rfl ?_
  refine Z_bd (fun (c21 : (160 : Int32) ≤ j) => ?_) (fun (c21 : ¬ ((160 : Int32) ≤ j)) => ?_)
  · refine Z_jump 3 rfl ?_
    refine Z_bd (fun (c159 : less = (0 : Int32)) => ?_) (fun (c159 : ¬ (less = (0 : Int32))) => ?_)
    · refine Z_jump 3 rfl ?_
      show Zs _ _ (am_P 45).2 (173, [(0, .ref 3), (1, .ref 1), (2, .int x), (3, .long sum), (5, .int less), (6, .long prod), (8, .int j)], [.long (sum + prod), .ref 3]) (HH I J R T) _
      refine Z_cQ rfl rfl rfl (c_bounded) (fun v h1 hq => ?_)
      obtain ⟨rfl, I', rfl, u⟩ := hq
      show Zs _ _ (am_P 45).2 (176, [(0, .ref 3), (1, .ref 1), (2, .int x), (3, .long sum), (5, .int less), (6, .long prod), (8, .int j)], [.long ((bd (sum + prod) (I 3 2)).1)]) (HH I' J R T) _
      show Zs _ _ (am_P 45).2 (176, [(0, .ref 3), (1, .ref 1), (2, .int x), (3, .long sum), (5, .int less), (6, .long prod), (8, .int j)], [.long ((bd (sum + prod) (I 3 2)).1)]) (HH I' J R T) _
      refine Z_ret rfl rfl rfl ?_
      exact ⟨I', rfl, U32_X u, CT_of hC (congrFun (u.1 1 (by decide)) 1) (u.1 2 (by decide)), _, rfl, hp, (congrFun (u.1 1 (by decide)) 2).trans h2⟩
    · refine Z_jump 4 rfl ?_
      show Zs _ _ (am_P 45).2 (173, [(0, .ref 3), (1, .ref 1), (2, .int x), (3, .long sum), (5, .int less), (6, .long prod), (8, .int j)], [.long (sum - prod), .ref 3]) (HH I J R T) _
      refine Z_cQ rfl rfl rfl (c_bounded) (fun v h1 hq => ?_)
      obtain ⟨rfl, I', rfl, u⟩ := hq
      show Zs _ _ (am_P 45).2 (176, [(0, .ref 3), (1, .ref 1), (2, .int x), (3, .long sum), (5, .int less), (6, .long prod), (8, .int j)], [.long ((bd (sum - prod) (I 3 2)).1)]) (HH I' J R T) _
      show Zs _ _ (am_P 45).2 (176, [(0, .ref 3), (1, .ref 1), (2, .int x), (3, .long sum), (5, .int less), (6, .long prod), (8, .int j)], [.long ((bd (sum - prod) (I 3 2)).1)]) (HH I' J R T) _
      refine Z_ret rfl rfl rfl ?_
      exact ⟨I', rfl, U32_X u, CT_of hC (congrFun (u.1 1 (by decide)) 1) (u.1 2 (by decide)), _, rfl, hp, (congrFun (u.1 1 (by decide)) 2).trans h2⟩
  · refine Z_jump 1 rfl ?_
    show Zs _ _ (am_P 45).2 (25, [(0, .ref 3), (1, .ref 1), (2, .int x), (3, .long sum), (5, .int less), (6, .long prod), (8, .int j)], [.ref 1]) (HH I J R T) _
    refine Z_c1 rfl rfl rfl (c_soundN hu) ?_
    show Zs _ _ (am_P 45).2 (28, [(0, .ref 3), (1, .ref 1), (2, .int x), (3, .long sum), (5, .int less), (6, .long prod), (8, .int j)], [.int (0 : Int32)]) (HH I J R T) _
    refine Z_jump 4 rfl ?_
    refine Z_bd (fun (c159 : less = (0 : Int32)) => ?_) (fun (c159 : ¬ (less = (0 : Int32))) => ?_)
    · refine Z_jump 3 rfl ?_
      show Zs _ _ (am_P 45).2 (173, [(0, .ref 3), (1, .ref 1), (2, .int x), (3, .long sum), (5, .int less), (6, .long prod), (8, .int j)], [.long (sum + prod), .ref 3]) (HH I J R T) _
      refine Z_cQ rfl rfl rfl (c_bounded) (fun v h1 hq => ?_)
      obtain ⟨rfl, I', rfl, u⟩ := hq
      show Zs _ _ (am_P 45).2 (176, [(0, .ref 3), (1, .ref 1), (2, .int x), (3, .long sum), (5, .int less), (6, .long prod), (8, .int j)], [.long ((bd (sum + prod) (I 3 2)).1)]) (HH I' J R T) _
      show Zs _ _ (am_P 45).2 (176, [(0, .ref 3), (1, .ref 1), (2, .int x), (3, .long sum), (5, .int less), (6, .long prod), (8, .int j)], [.long ((bd (sum + prod) (I 3 2)).1)]) (HH I' J R T) _
      refine Z_ret rfl rfl rfl ?_
      exact ⟨I', rfl, U32_X u, CT_of hC (congrFun (u.1 1 (by decide)) 1) (u.1 2 (by decide)), _, rfl, hp, (congrFun (u.1 1 (by decide)) 2).trans h2⟩
    · refine Z_jump 4 rfl ?_
      show Zs _ _ (am_P 45).2 (173, [(0, .ref 3), (1, .ref 1), (2, .int x), (3, .long sum), (5, .int less), (6, .long prod), (8, .int j)], [.long (sum - prod), .ref 3]) (HH I J R T) _
      refine Z_cQ rfl rfl rfl (c_bounded) (fun v h1 hq => ?_)
      obtain ⟨rfl, I', rfl, u⟩ := hq
      show Zs _ _ (am_P 45).2 (176, [(0, .ref 3), (1, .ref 1), (2, .int x), (3, .long sum), (5, .int less), (6, .long prod), (8, .int j)], [.long ((bd (sum - prod) (I 3 2)).1)]) (HH I' J R T) _
      show Zs _ _ (am_P 45).2 (176, [(0, .ref 3), (1, .ref 1), (2, .int x), (3, .long sum), (5, .int less), (6, .long prod), (8, .int j)], [.long ((bd (sum - prod) (I 3 2)).1)]) (HH I' J R T) _
      refine Z_ret rfl rfl rfl ?_
      exact ⟨I', rfl, U32_X u, CT_of hC (congrFun (u.1 1 (by decide)) 1) (u.1 2 (by decide)), _, rfl, hp, (congrFun (u.1 1 (by decide)) 2).trans h2⟩
/-- its end -/
theorem c_ex_e {s : Nat} {x less j : Int32} {sum prod : Int64} (hK : CTK tx c s I) (h2 : I 1 2 = -1) : Zs sc (d + 2) (am_P 45).2 (156, [(0, .ref 3), (1, .ref 1), (2, .int x), (3, .long sum), (5, .int less), (6, .long prod), (8, .int j)], []) (HH I J R T) (PXq tx c (.inr (s, (bd (sm less sum prod) (I 3 2)).1, (bd (sm less sum prod) (I 3 2)).2)) I J R T) := by
  refine Z_jump 3 rfl ?_
  refine Z_bd (fun (c159 : less = (0 : Int32)) => ?_) (fun (c159 : ¬ (less = (0 : Int32))) => ?_)
  · refine Z_jump 3 rfl ?_
    show Zs _ _ (am_P 45).2 (173, [(0, .ref 3), (1, .ref 1), (2, .int x), (3, .long sum), (5, .int less), (6, .long prod), (8, .int j)], [.long (sum + prod), .ref 3]) (HH I J R T) _
    refine Z_cQ rfl rfl rfl (c_bounded) (fun v h1 hq => ?_)
    obtain ⟨rfl, I', rfl, u⟩ := hq
    show Zs _ _ (am_P 45).2 (176, [(0, .ref 3), (1, .ref 1), (2, .int x), (3, .long sum), (5, .int less), (6, .long prod), (8, .int j)], [.long ((bd (sum + prod) (I 3 2)).1)]) (HH I' J R T) _
    show Zs _ _ (am_P 45).2 (176, [(0, .ref 3), (1, .ref 1), (2, .int x), (3, .long sum), (5, .int less), (6, .long prod), (8, .int j)], [.long ((bd (sum + prod) (I 3 2)).1)]) (HH I' J R T) _
    refine Z_ret rfl rfl rfl ?_
    have e : sm less sum prod = sum + prod := if_pos c159
    rw [e]
    exact ⟨I', rfl, U32_X u, (CTK_3 hK u).1, _, rfl, rfl, (congrFun (u.1 1 (by decide)) 2).trans h2, CTK_3 hK u, u.2.2⟩
  · refine Z_jump 4 rfl ?_
    show Zs _ _ (am_P 45).2 (173, [(0, .ref 3), (1, .ref 1), (2, .int x), (3, .long sum), (5, .int less), (6, .long prod), (8, .int j)], [.long (sum - prod), .ref 3]) (HH I J R T) _
    refine Z_cQ rfl rfl rfl (c_bounded) (fun v h1 hq => ?_)
    obtain ⟨rfl, I', rfl, u⟩ := hq
    show Zs _ _ (am_P 45).2 (176, [(0, .ref 3), (1, .ref 1), (2, .int x), (3, .long sum), (5, .int less), (6, .long prod), (8, .int j)], [.long ((bd (sum - prod) (I 3 2)).1)]) (HH I' J R T) _
    show Zs _ _ (am_P 45).2 (176, [(0, .ref 3), (1, .ref 1), (2, .int x), (3, .long sum), (5, .int less), (6, .long prod), (8, .int j)], [.long ((bd (sum - prod) (I 3 2)).1)]) (HH I' J R T) _
    refine Z_ret rfl rfl rfl ?_
    have e : sm less sum prod = sum - prod := if_neg c159
    rw [e]
    exact ⟨I', rfl, U32_X u, (CTK_3 hK u).1, _, rfl, rfl, (congrFun (u.1 1 (by decide)) 2).trans h2, CTK_3 hK u, u.2.2⟩
def EXs (sc : Nat × (Nat → Int32)) (tx : Nat → Nat) (c : Nat) (num : Int64) (k : Nat) : Prop :=
  (∀ (s dd D : Nat) (I : hI) (J : hJ) (R : hR) (T : am_H) (x : Int32), 3 * (c - s) + 1 < k → CTK tx c s I → I 1 2 = -1 → J 3 3 = num → x = nI dd → dd ≤ 6 → k + 10 ≤ D → Ze sc D 46 [.ref 3, .ref 1, .int x] (HH I J R T) (PXq tx c (sx tx c num k 0 s dd (0, 0, 0) (I 3 2)) I J R T)) ∧
  (∀ (s dd D : Nat) (I : hI) (J : hJ) (R : hR) (T : am_H) (x : Int32), 3 * (c - s) + 2 < k → CTK tx c s I → I 1 2 = -1 → J 3 3 = num → x = nI dd → dd ≤ 6 → k + 10 ≤ D → Ze sc D 45 [.ref 3, .ref 1, .int x] (HH I J R T) (PXq tx c (sx tx c num k 1 s dd (0, 0, 0) (I 3 2)) I J R T)) ∧
  (∀ (s dd j D : Nat) (I : hI) (J : hJ) (R : hR) (T : am_H) (x less : Int32) (sum prod : Int64), 3 * (c - s) + 1 < k → CTK tx c s I → I 1 2 = -1 → J 3 3 = num → x = nI dd → dd ≤ 6 → j ≤ s → k + 9 ≤ D → Zs sc D (am_P 45).2 (16, [(0, .ref 3), (1, .ref 1), (2, .int x), (3, .long sum), (5, .int less), (6, .long prod), (8, .int (nI j))], []) (HH I J R T) (PXq tx c (sx tx c num k 2 s dd (sum, less, prod) (I 3 2)) I J R T))
theorem c_ex_part {k : Nat} (ih : EXs sc tx c num k) : ∀ (s dd D : Nat) (I : hI) (J : hJ) (R : hR) (T : am_H) (x : Int32), 3 * (c - s) + 1 < k + 1 → CTK tx c s I → I 1 2 = -1 → J 3 3 = num → x = nI dd → dd ≤ 6 → k + 1 + 10 ≤ D → Ze sc D 46 [.ref 3, .ref 1, .int x] (HH I J R T) (PXq tx c (sx tx c num (k + 1) 0 s dd (0, 0, 0) (I 3 2)) I J R T) := by
  intro s dd D I J R T x hk hK h2 hJ hx hdd hD
  obtain ⟨d, rfl⟩ : ∃ d, D = d + 11 := ⟨D - 11, by omega⟩
  refine Ze_of (Nat.le_of_ble_eq_true rfl) ?_
  have hc := hK.1.2.1
  by_cases h35 : s < c ∧ tx s = 35
  · have es : sx tx c num (k + 1) 0 s dd (0, 0, 0) (I 3 2) = .inr (nx tx c s, num, I 3 2) := by simp only [sx]; rw [if_pos h35]
    rw [es]
    refine Z_jump 2 rfl ?_
    show Zs _ _ (am_P 46).2 (3, [(0, .ref 3), (1, .ref 1), (2, .int x)], [.int (35 : Int32), .ref 1]) (HH I J R T) _
    refine Z_c1 rfl rfl rfl (c_sgn (t := 35) hK rfl (by omega) h35) ?_
    show Zs _ _ (am_P 46).2 (6, [(0, .ref 3), (1, .ref 1), (2, .int x)], [.int (1 : Int32)]) (HH I J R T) _
    refine Z_jump 2 rfl ?_
    show Zs _ _ (am_P 46).2 (10, [(0, .ref 3), (1, .ref 1), (2, .int x)], [.ref 1]) (HH I J R T) _
    refine Z_cQ rfl rfl rfl (Ze_deep (d := 2) (by omega) (c_stepQ (d := 0) hK)) (fun v h1 hq => ?_)
    obtain ⟨rfl, I1, rfl, K1, u1, f1⟩ := hq
    show Zs _ _ (am_P 46).2 (13, [(0, .ref 3), (1, .ref 1), (2, .int x)], []) (HH I1 J R T) _
    refine Z_jump 2 rfl ?_
    show Zs _ _ (am_P 46).2 (17, [(0, .ref 3), (1, .ref 1), (2, .int x)], [.long (J 3 3)]) (HH I1 J R T) _
    refine Z_ret rfl rfl rfl ?_
    exact ⟨I1, rfl, UX_o u1, K1.1, _, rfl, hJ, f1.trans h2, K1, congrFun (u1 3 (by decide)) 2⟩
  · by_cases h40 : s < c ∧ tx s = 40
    · by_cases h6 : 6 ≤ dd
      · have es : sx tx c num (k + 1) 0 s dd (0, 0, 0) (I 3 2) = .inl s := by simp only [sx]; rw [if_neg h35, if_pos h40, if_pos h6]
        rw [es]
        refine Z_jump 2 rfl ?_
        show Zs _ _ (am_P 46).2 (3, [(0, .ref 3), (1, .ref 1), (2, .int x)], [.int (35 : Int32), .ref 1]) (HH I J R T) _
        refine Z_c1 rfl rfl rfl (c_sgn0 (t := 35) hK rfl (by omega) h35) ?_
        show Zs _ _ (am_P 46).2 (6, [(0, .ref 3), (1, .ref 1), (2, .int x)], [.int (0 : Int32)]) (HH I J R T) _
        refine Z_jump 3 rfl ?_
        show Zs _ _ (am_P 46).2 (21, [(0, .ref 3), (1, .ref 1), (2, .int x)], [.int (40 : Int32), .ref 1]) (HH I J R T) _
        refine Z_c1 rfl rfl rfl (c_sgn (t := 40) hK rfl (by omega) h40) ?_
        show Zs _ _ (am_P 46).2 (24, [(0, .ref 3), (1, .ref 1), (2, .int x)], [.int (1 : Int32)]) (HH I J R T) _
        refine Z_jump 4 rfl ?_
        refine Z_bd (fun c41 => absurd c41 ((show ¬ x < 6 by rw [hx]; exact nI_nlt (b := 6) (by omega) (by omega)))) (fun c41 => ?_)
        refine Z_jump 1 rfl ?_
        show Zs _ _ (am_P 46).2 (45, [(0, .ref 3), (1, .ref 1), (2, .int x)], [.ref 1]) (HH I J R T) _
        refine Z_c0 rfl rfl rfl (c_failY hK.2.2.1 h2) ?_
        show Zs _ _ (am_P 46).2 (48, [(0, .ref 3), (1, .ref 1), (2, .int x)], []) (HH (sf I 1 2 (nI s)) J R T) _
        refine Z_jump 1 rfl ?_
        show Zs _ _ (am_P 46).2 (49, [(0, .ref 3), (1, .ref 1), (2, .int x)], [.long (0 : Int64)]) (HH (sf I 1 2 (nI s)) J R T) _
        refine Z_ret rfl rfl rfl ?_
        exact ⟨_, rfl, UX_1, CT_of hK.1 rfl rfl, _, rfl, hK.2.1, rfl⟩
      · have hn := nx_lt (tx := tx) h40.1
        refine Z_jump 2 rfl ?_
        show Zs _ _ (am_P 46).2 (3, [(0, .ref 3), (1, .ref 1), (2, .int x)], [.int (35 : Int32), .ref 1]) (HH I J R T) _
        refine Z_c1 rfl rfl rfl (c_sgn0 (t := 35) hK rfl (by omega) h35) ?_
        show Zs _ _ (am_P 46).2 (6, [(0, .ref 3), (1, .ref 1), (2, .int x)], [.int (0 : Int32)]) (HH I J R T) _
        refine Z_jump 3 rfl ?_
        show Zs _ _ (am_P 46).2 (21, [(0, .ref 3), (1, .ref 1), (2, .int x)], [.int (40 : Int32), .ref 1]) (HH I J R T) _
        refine Z_c1 rfl rfl rfl (c_sgn (t := 40) hK rfl (by omega) h40) ?_
        show Zs _ _ (am_P 46).2 (24, [(0, .ref 3), (1, .ref 1), (2, .int x)], [.int (1 : Int32)]) (HH I J R T) _
        refine Z_jump 4 rfl ?_
        refine Z_bd (fun c41 => ?_) (fun c41 => absurd ((show x < 6 by rw [hx]; exact nI_lt (b := 6) (by omega) (by omega))) c41)
        refine Z_jump 1 rfl ?_
        show Zs _ _ (am_P 46).2 (51, [(0, .ref 3), (1, .ref 1), (2, .int x)], [.ref 1]) (HH I J R T) _
        refine Z_cQ rfl rfl rfl (Ze_deep (d := 2) (by omega) (c_stepQ (d := 0) hK)) (fun v h1 hq => ?_)
        obtain ⟨rfl, I1, rfl, K1, u1, f1⟩ := hq
        show Zs _ _ (am_P 46).2 (54, [(0, .ref 3), (1, .ref 1), (2, .int x)], []) (HH I1 J R T) _
        refine Z_jump 5 rfl ?_
        show Zs _ _ (am_P 46).2 (59, [(0, .ref 3), (1, .ref 1), (2, .int x)], [.int (x + (1 : Int32)), .ref 1, .ref 3]) (HH I1 J R T) _
        refine Z_cQ rfl rfl rfl (ih.2.1 (nx tx c s) (dd + 1) (d + 10) I1 J R T (x + 1) (by omega) K1 (f1.trans h2) hJ (by rw [hx]; exact nI_1 dd) (by omega) (by omega)) (fun v h1 hq => ?_)
        rw [show I1 3 2 = I 3 2 from congrFun (u1 3 (by decide)) 2] at hq
        obtain ⟨I2, rfl, u2, C2, v, rfl, hq⟩ := hq
        rcases hf : sx tx c num k 1 (nx tx c s) (dd + 1) (0, 0, 0) (I 3 2) with p | ⟨s2, v2, f2⟩
        · have es : sx tx c num (k + 1) 0 s dd (0, 0, 0) (I 3 2) = .inl p := by simp only [sx]; rw [if_neg h35, if_pos h40, if_neg h6, hf]
          rw [es]
          rw [hf] at hq
          have hu : ¬ I2 1 2 = -1 := by rw [hq.2]; exact nI_m1 hq.1 hc
          have hfl : am_E sc (d + 10) 58 [.ref 1] (HH I2 J R T) none (HH I2 J R T) := by
            obtain ⟨s0, hs0⟩ : ∃ s0 : Nat, I2 1 3 = nI s0 := nI_sur _
            have w := c_fail (sc := sc) (d := d + 9) (J := J) (R := R) (T := T) hs0
            rw [if_neg hu] at w
            exact w
          refine Z_jump 2 rfl ?_
          show Zs _ _ (am_P 46).2 (64, [(0, .ref 3), (1, .ref 1), (2, .int x), (3, .long v)], [.ref 1]) (HH I2 J R T) _
          refine Z_c1 rfl rfl rfl (c_soundN hu) ?_
          show Zs _ _ (am_P 46).2 (67, [(0, .ref 3), (1, .ref 1), (2, .int x), (3, .long v)], [.int (0 : Int32)]) (HH I2 J R T) _
          refine Z_jump 2 rfl ?_
          show Zs _ _ (am_P 46).2 (87, [(0, .ref 3), (1, .ref 1), (2, .int x), (3, .long v)], [.ref 1]) (HH I2 J R T) _
          refine Z_c0 rfl rfl rfl (hfl) ?_
          show Zs _ _ (am_P 46).2 (90, [(0, .ref 3), (1, .ref 1), (2, .int x), (3, .long v)], []) (HH I2 J R T) _
          refine Z_jump 1 rfl ?_
          show Zs _ _ (am_P 46).2 (91, [(0, .ref 3), (1, .ref 1), (2, .int x), (3, .long v)], [.long v]) (HH I2 J R T) _
          refine Z_ret rfl rfl rfl ?_
          exact ⟨I2, rfl, UX_t (UX_o u1) u2, C2, _, rfl, hq⟩
        · rw [hf] at hq
          obtain ⟨hv, f3, K2, g3⟩ := hq
          have hv' : v2 = v := hv.symm
          subst hv'
          have U2 : UX I I2 := UX_t (UX_o u1) u2
          by_cases h41 : s2 < c ∧ tx s2 = 41
          · have es : sx tx c num (k + 1) 0 s dd (0, 0, 0) (I 3 2) = .inr (nx tx c s2, v2, f2) := by simp only [sx]; rw [if_neg h35, if_pos h40, if_neg h6, hf]; exact if_pos h41
            rw [es]
            refine Z_jump 2 rfl ?_
            show Zs _ _ (am_P 46).2 (64, [(0, .ref 3), (1, .ref 1), (2, .int x), (3, .long v2)], [.ref 1]) (HH I2 J R T) _
            refine Z_c1 rfl rfl rfl (c_soundY f3) ?_
            show Zs _ _ (am_P 46).2 (67, [(0, .ref 3), (1, .ref 1), (2, .int x), (3, .long v2)], [.int (1 : Int32)]) (HH I2 J R T) _
            refine Z_jump 3 rfl ?_
            show Zs _ _ (am_P 46).2 (73, [(0, .ref 3), (1, .ref 1), (2, .int x), (3, .long v2)], [.int (41 : Int32), .ref 1]) (HH I2 J R T) _
            refine Z_c1 rfl rfl rfl (c_sgn (t := 41) K2 rfl (by omega) h41) ?_
            show Zs _ _ (am_P 46).2 (76, [(0, .ref 3), (1, .ref 1), (2, .int x), (3, .long v2)], [.int (1 : Int32)]) (HH I2 J R T) _
            refine Z_jump 2 rfl ?_
            show Zs _ _ (am_P 46).2 (80, [(0, .ref 3), (1, .ref 1), (2, .int x), (3, .long v2)], [.ref 1]) (HH I2 J R T) _
            refine Z_cQ rfl rfl rfl (Ze_deep (d := 2) (by omega) (c_stepQ (d := 0) K2)) (fun v h1 hq => ?_)
            obtain ⟨rfl, I3, rfl, K3, u3, f4⟩ := hq
            show Zs _ _ (am_P 46).2 (83, [(0, .ref 3), (1, .ref 1), (2, .int x), (3, .long v2)], []) (HH I3 J R T) _
            refine Z_jump 2 rfl ?_
            show Zs _ _ (am_P 46).2 (91, [(0, .ref 3), (1, .ref 1), (2, .int x), (3, .long v2)], [.long v2]) (HH I3 J R T) _
            refine Z_ret rfl rfl rfl ?_
            exact ⟨I3, rfl, UX_t U2 (UX_o u3), K3.1, _, rfl, rfl, f4.trans f3, K3, (congrFun (u3 3 (by decide)) 2).trans g3⟩
          · have es : sx tx c num (k + 1) 0 s dd (0, 0, 0) (I 3 2) = .inl s2 := by simp only [sx]; rw [if_neg h35, if_pos h40, if_neg h6, hf]; exact if_neg h41
            rw [es]
            refine Z_jump 2 rfl ?_
            show Zs _ _ (am_P 46).2 (64, [(0, .ref 3), (1, .ref 1), (2, .int x), (3, .long v2)], [.ref 1]) (HH I2 J R T) _
            refine Z_c1 rfl rfl rfl (c_soundY f3) ?_
            show Zs _ _ (am_P 46).2 (67, [(0, .ref 3), (1, .ref 1), (2, .int x), (3, .long v2)], [.int (1 : Int32)]) (HH I2 J R T) _
            refine Z_jump 3 rfl ?_
            show Zs _ _ (am_P 46).2 (73, [(0, .ref 3), (1, .ref 1), (2, .int x), (3, .long v2)], [.int (41 : Int32), .ref 1]) (HH I2 J R T) _
            refine Z_c1 rfl rfl rfl (c_sgn0 (t := 41) K2 rfl (by omega) h41) ?_
            show Zs _ _ (am_P 46).2 (76, [(0, .ref 3), (1, .ref 1), (2, .int x), (3, .long v2)], [.int (0 : Int32)]) (HH I2 J R T) _
            refine Z_jump 2 rfl ?_
            show Zs _ _ (am_P 46).2 (87, [(0, .ref 3), (1, .ref 1), (2, .int x), (3, .long v2)], [.ref 1]) (HH I2 J R T) _
            refine Z_c0 rfl rfl rfl (c_failY K2.2.2.1 f3) ?_
            show Zs _ _ (am_P 46).2 (90, [(0, .ref 3), (1, .ref 1), (2, .int x), (3, .long v2)], []) (HH (sf I2 1 2 (nI s2)) J R T) _
            refine Z_jump 1 rfl ?_
            show Zs _ _ (am_P 46).2 (91, [(0, .ref 3), (1, .ref 1), (2, .int x), (3, .long v2)], [.long v2]) (HH (sf I2 1 2 (nI s2)) J R T) _
            refine Z_ret rfl rfl rfl ?_
            exact ⟨_, rfl, UX_t U2 UX_1, CT_of K2.1 rfl rfl, _, rfl, K2.2.1, rfl⟩
    · refine Z_jump 2 rfl ?_
      show Zs _ _ (am_P 46).2 (3, [(0, .ref 3), (1, .ref 1), (2, .int x)], [.int (35 : Int32), .ref 1]) (HH I J R T) _
      refine Z_c1 rfl rfl rfl (c_sgn0 (t := 35) hK rfl (by omega) h35) ?_
      show Zs _ _ (am_P 46).2 (6, [(0, .ref 3), (1, .ref 1), (2, .int x)], [.int (0 : Int32)]) (HH I J R T) _
      refine Z_jump 3 rfl ?_
      show Zs _ _ (am_P 46).2 (21, [(0, .ref 3), (1, .ref 1), (2, .int x)], [.int (40 : Int32), .ref 1]) (HH I J R T) _
      refine Z_c1 rfl rfl rfl (c_sgn0 (t := 40) hK rfl (by omega) h40) ?_
      show Zs _ _ (am_P 46).2 (24, [(0, .ref 3), (1, .ref 1), (2, .int x)], [.int (0 : Int32)]) (HH I J R T) _
      refine Z_jump 5 rfl ?_
      show Zs _ _ (am_P 46).2 (33, [(0, .ref 3), (1, .ref 1), (2, .int x)], [.int (1000000000 : Int32), .int (0 : Int32), .int (7 : Int32), .ref 1]) (HH I J R T) _
      refine Z_cQ rfl rfl rfl (Ze_deep (d := 3) (by omega) (c_takeI (d := 0) (md := 7) hK h2 rfl (by omega) (show (0 : Int32).toInt = 0 from rfl) (show (1000000000 : Int32).toInt = 1000000000 from rfl))) (fun v h1 hq => ?_)
      rcases hq with ⟨hT, rfl, I1, rfl, K1, u1, f1⟩ | ⟨hT, rfl, rfl⟩
      · have es : sx tx c num (k + 1) 0 s dd (0, 0, 0) (I 3 2) = .inr (nx tx c s, lN (nv tx s (tE tx c s)), I 3 2) := by simp only [sx]; rw [if_neg h35, if_neg h40, if_pos hT]
        rw [es]
        refine Z_jump 1 rfl ?_
        show Zs _ _ (am_P 46).2 (37, [(0, .ref 3), (1, .ref 1), (2, .int x)], [.long (Int32.toInt64 (nI (nv tx s (tE tx c s))))]) (HH I1 J R T) _
        refine Z_ret rfl rfl rfl ?_
        exact ⟨I1, rfl, UX_o u1, K1.1, _, rfl, nI_l (by have := nv_lt hT.1 hT.2.1 (by omega); omega), f1, K1, congrFun (u1 3 (by decide)) 2⟩
      · have es : sx tx c num (k + 1) 0 s dd (0, 0, 0) (I 3 2) = .inl s := by simp only [sx]; rw [if_neg h35, if_neg h40, if_neg hT]
        rw [es]
        refine Z_jump 1 rfl ?_
        show Zs _ _ (am_P 46).2 (37, [(0, .ref 3), (1, .ref 1), (2, .int x)], [.long (0 : Int64)]) (HH (sf I 1 2 (nI s)) J R T) _
        refine Z_ret rfl rfl rfl ?_
        exact ⟨_, rfl, UX_1, CT_of hK.1 rfl rfl, _, rfl, hK.2.1, rfl⟩
theorem c_ex_expr {k : Nat} (ih : EXs sc tx c num k) : ∀ (s dd D : Nat) (I : hI) (J : hJ) (R : hR) (T : am_H) (x : Int32), 3 * (c - s) + 2 < k + 1 → CTK tx c s I → I 1 2 = -1 → J 3 3 = num → x = nI dd → dd ≤ 6 → k + 1 + 10 ≤ D → Ze sc D 45 [.ref 3, .ref 1, .int x] (HH I J R T) (PXq tx c (sx tx c num (k + 1) 1 s dd (0, 0, 0) (I 3 2)) I J R T) := by
  intro s dd D I J R T x hk hK h2 hJ hx hdd hD
  obtain ⟨d, rfl⟩ : ∃ d, D = d + 11 := ⟨D - 11, by omega⟩
  refine Ze_of (Nat.le_of_ble_eq_true rfl) ?_
  refine Z_jump 7 rfl ?_
  show Zs _ _ (am_P 45).2 (8, [(0, .ref 3), (1, .ref 1), (2, .int x), (3, .long (0 : Int64)), (5, .int (0 : Int32))], [.int x, .ref 1, .ref 3]) (HH I J R T) _
  refine Z_cQ rfl rfl rfl (ih.1 s dd (d + 10) I J R T x (by omega) hK h2 hJ hx hdd (by omega)) (fun v h1 hq => ?_)
  obtain ⟨I2, rfl, u2, C2, v, rfl, hq⟩ := hq
  rcases hf : sx tx c num k 0 s dd (0, 0, 0) (I 3 2) with p | ⟨s2, v2, f2⟩
  · have es : sx tx c num (k + 1) 1 s dd (0, 0, 0) (I 3 2) = .inl p := by simp only [sx]; rw [hf]
    rw [es]
    rw [hf] at hq
    refine Z_jump 3 rfl ?_
    show Zs _ _ (am_P 45).2 (16, [(0, .ref 3), (1, .ref 1), (2, .int x), (3, .long (0 : Int64)), (5, .int (0 : Int32)), (6, .long v), (8, .int (0 : Int32))], []) (HH I2 J R T) _
    exact Zs_mono (c_exu (d := d + 8) (p := p) C2 hq.1 hq.2) (fun r h' q => PX_t u2 q)
  · have hadv := (sx_adv (tx := tx) (c := c) (num := num) k 0 s dd (0, 0, 0) (I 3 2) hK.2.1).2 _ hf
    have hs2 := hadv.2.2 (by omega)
    dsimp only at hs2
    have es : sx tx c num (k + 1) 1 s dd (0, 0, 0) (I 3 2) = sx tx c num k 2 s2 dd (0, 0, v2) f2 := by simp only [sx]; rw [hf]
    rw [es]
    rw [hf] at hq
    obtain ⟨hv, f3, K2, g3⟩ := hq
    have hv' : v2 = v := hv.symm
    subst hv'
    dsimp only at g3 K2
    have hlt : s < c := by have := K2.2.1; omega
    refine Z_jump 3 rfl ?_
    show Zs _ _ (am_P 45).2 (16, [(0, .ref 3), (1, .ref 1), (2, .int x), (3, .long (0 : Int64)), (5, .int (0 : Int32)), (6, .long v2), (8, .int (0 : Int32))], []) (HH I2 J R T) _
    have w := ih.2.2 s2 dd 0 (d + 10) I2 J R T x 0 0 v2 (by omega) K2 f3 hJ hx hdd (by omega) (by omega)
    rw [g3] at w
    exact Zs_mono w (fun r h' q => PX_t u2 q)
theorem c_ex_loop {k : Nat} (ih : EXs sc tx c num k) : ∀ (s dd j D : Nat) (I : hI) (J : hJ) (R : hR) (T : am_H) (x less : Int32) (sum prod : Int64), 3 * (c - s) + 1 < k + 1 → CTK tx c s I → I 1 2 = -1 → J 3 3 = num → x = nI dd → dd ≤ 6 → j ≤ s → k + 1 + 9 ≤ D → Zs sc D (am_P 45).2 (16, [(0, .ref 3), (1, .ref 1), (2, .int x), (3, .long sum), (5, .int less), (6, .long prod), (8, .int (nI j))], []) (HH I J R T) (PXq tx c (sx tx c num (k + 1) 2 s dd (sum, less, prod) (I 3 2)) I J R T) := by
  intro s dd j D I J R T x less sum prod hk hK h2 hJ hx hdd hj hD
  obtain ⟨d, rfl⟩ : ∃ d, D = d + 10 := ⟨D - 10, by omega⟩
  have hc := hK.1.2.1
  have hs := hK.2.1
  by_cases hop : s < c ∧ (tx s = 42 ∨ tx s = 47 ∨ tx s = 43 ∨ tx s = 45)
  · have hj1 : ¬ (160 : Int32) ≤ nI j := nI_ge (b := 160) (by omega) (by omega)
    have hn := nx_lt (tx := tx) hop.1
    have hjn : nI j + 1 = nI (j + 1) := nI_1 j
    have hgo : ∀ (fl : Int32) (I1 : hI) (K1 : CTK tx c (nx tx c s) I1) (f1 : I1 1 2 = -1) (g1 : I1 3 2 = fl), Ze sc (d + 10) 46 [.ref 3, .ref 1, .int x] (HH I1 J R T) (PXq tx c (sx tx c num k 0 (nx tx c s) dd (0, 0, 0) fl) I1 J R T) := fun fl I1 K1 f1 g1 => by
      have w := ih.1 (nx tx c s) dd (d + 10) I1 J R T x (by omega) K1 f1 hJ hx hdd (by omega)
      rw [g1] at w
      exact w
    by_cases h42 : s < c ∧ tx s = 42
    · refine Z_jump 3 rfl ?_
      refine Z_bd (fun c21 => absurd c21 (hj1)) (fun c21 => ?_)
      refine Z_jump 1 rfl ?_
      show Zs _ _ (am_P 45).2 (25, [(0, .ref 3), (1, .ref 1), (2, .int x), (3, .long sum), (5, .int less), (6, .long prod), (8, .int (nI j))], [.ref 1]) (HH I J R T) _
      refine Z_c1 rfl rfl rfl (c_soundY h2) ?_
      show Zs _ _ (am_P 45).2 (28, [(0, .ref 3), (1, .ref 1), (2, .int x), (3, .long sum), (5, .int less), (6, .long prod), (8, .int (nI j))], [.int (1 : Int32)]) (HH I J R T) _
      refine Z_jump 3 rfl ?_
      show Zs _ _ (am_P 45).2 (34, [(0, .ref 3), (1, .ref 1), (2, .int x), (3, .long sum), (5, .int less), (6, .long prod), (8, .int (nI j))], [.int (42 : Int32), .ref 1]) (HH I J R T) _
      refine Z_c1 rfl rfl rfl (c_sgn (t := 42) hK rfl (by omega) h42) ?_
      show Zs _ _ (am_P 45).2 (37, [(0, .ref 3), (1, .ref 1), (2, .int x), (3, .long sum), (5, .int less), (6, .long prod), (8, .int (nI j))], [.int (1 : Int32)]) (HH I J R T) _
      refine Z_jump 2 rfl ?_
      show Zs _ _ (am_P 45).2 (41, [(0, .ref 3), (1, .ref 1), (2, .int x), (3, .long sum), (5, .int less), (6, .long prod), (8, .int (nI j))], [.ref 1]) (HH I J R T) _
      refine Z_cQ rfl rfl rfl (Ze_deep (d := 2) (by omega) (c_stepQ (d := 0) hK)) (fun v h1 hq => ?_)
      obtain ⟨rfl, I1, rfl, K1, u1, f1⟩ := hq
      show Zs _ _ (am_P 45).2 (44, [(0, .ref 3), (1, .ref 1), (2, .int x), (3, .long sum), (5, .int less), (6, .long prod), (8, .int (nI j))], []) (HH I1 J R T) _
      refine Z_jump 5 rfl ?_
      show Zs _ _ (am_P 45).2 (50, [(0, .ref 3), (1, .ref 1), (2, .int x), (3, .long sum), (5, .int less), (6, .long prod), (8, .int (nI j))], [.int x, .ref 1, .ref 3, .long prod, .ref 3]) (HH I1 J R T) _
      refine Z_cQ rfl rfl rfl (hgo (I 3 2) I1 K1 (f1.trans h2) (congrFun (u1 3 (by decide)) 2)) (fun v h1 hq => ?_)
      obtain ⟨I2, rfl, u2, C2, v, rfl, hq⟩ := hq
      rcases hf : sx tx c num k 0 (nx tx c s) dd (0, 0, 0) (I 3 2) with p | ⟨s2, v2, f2⟩
      · have es : sx tx c num (k + 1) 2 s dd (sum, less, prod) (I 3 2) = .inl p := by simp only [sx]; rw [if_pos h42, hf]
        rw [es]
        rw [hf] at hq
        have hq0 := hq
        show Zs _ _ (am_P 45).2 (53, [(0, .ref 3), (1, .ref 1), (2, .int x), (3, .long sum), (5, .int less), (6, .long prod), (8, .int (nI j))], [.long v, .long prod, .ref 3]) (HH I2 J R T) _
        refine Z_cQ rfl rfl rfl (c_multiplied) (fun v h1 hq => ?_)
        obtain ⟨rfl, I3, rfl, u3⟩ := hq
        show Zs _ _ (am_P 45).2 (56, [(0, .ref 3), (1, .ref 1), (2, .int x), (3, .long sum), (5, .int less), (6, .long prod), (8, .int (nI j))], [.long ((mu prod v (I2 3 2)).1)]) (HH I3 J R T) _
        refine Z_jump 4 rfl ?_
        show Zs _ _ (am_P 45).2 (16, [(0, .ref 3), (1, .ref 1), (2, .int x), (3, .long sum), (5, .int less), (6, .long ((mu prod v (I2 3 2)).1)), (8, .int ((nI j) + 1))], []) (HH I3 J R T) _
        exact Zs_mono (c_exu (d := d + 8) (p := p) (CT_of C2 (congrFun (u3.1 1 (by decide)) 1) (u3.1 2 (by decide))) hq0.1 ((congrFun (u3.1 1 (by decide)) 2).trans hq0.2)) (fun r h' q => PX_t (UX_t (UX_t (UX_o u1) u2) (U32_X u3)) q)
      · have hadv := (sx_adv (tx := tx) (c := c) (num := num) k 0 (nx tx c s) dd (0, 0, 0) (I 3 2) hn.2).2 _ hf
        have hs2 := hadv.2.2 (by omega)
        dsimp only at hs2
        have es : sx tx c num (k + 1) 2 s dd (sum, less, prod) (I 3 2) = sx tx c num k 2 s2 dd (sum, less, (mu prod v2 f2).1) (mu prod v2 f2).2 := by simp only [sx]; rw [if_pos h42, hf]
        rw [es]
        rw [hf] at hq
        obtain ⟨hv, f3, K2, g3⟩ := hq
        have hv' : v2 = v := hv.symm
        subst hv'
        dsimp only at g3 K2
        show Zs _ _ (am_P 45).2 (53, [(0, .ref 3), (1, .ref 1), (2, .int x), (3, .long sum), (5, .int less), (6, .long prod), (8, .int (nI j))], [.long v2, .long prod, .ref 3]) (HH I2 J R T) _
        refine Z_cQ rfl rfl rfl (c_multiplied) (fun v h1 hq => ?_)
        obtain ⟨rfl, I3, rfl, u3⟩ := hq
        show Zs _ _ (am_P 45).2 (56, [(0, .ref 3), (1, .ref 1), (2, .int x), (3, .long sum), (5, .int less), (6, .long prod), (8, .int (nI j))], [.long ((mu prod v2 (I2 3 2)).1)]) (HH I3 J R T) _
        refine Z_jump 4 rfl ?_
        show Zs _ _ (am_P 45).2 (16, [(0, .ref 3), (1, .ref 1), (2, .int x), (3, .long sum), (5, .int less), (6, .long ((mu prod v2 (I2 3 2)).1)), (8, .int ((nI j) + 1))], []) (HH I3 J R T) _
        have w := ih.2.2 s2 dd (j + 1) (d + 10) I3 J R T x less sum (mu prod v2 (I2 3 2)).1 (by have := K2.2.1; omega) (CTK_3 K2 u3) ((congrFun (u3.1 1 (by decide)) 2).trans f3) hJ hx hdd (by omega) (by omega)
        rw [u3.2.2, g3, ← hjn] at w
        rw [g3]
        exact Zs_mono w (fun r h' q => PX_t (UX_t (UX_t (UX_o u1) u2) (U32_X u3)) q)
    · by_cases h47 : s < c ∧ tx s = 47
      · refine Z_jump 3 rfl ?_
        refine Z_bd (fun c21 => absurd c21 (hj1)) (fun c21 => ?_)
        refine Z_jump 1 rfl ?_
        show Zs _ _ (am_P 45).2 (25, [(0, .ref 3), (1, .ref 1), (2, .int x), (3, .long sum), (5, .int less), (6, .long prod), (8, .int (nI j))], [.ref 1]) (HH I J R T) _
        refine Z_c1 rfl rfl rfl (c_soundY h2) ?_
        show Zs _ _ (am_P 45).2 (28, [(0, .ref 3), (1, .ref 1), (2, .int x), (3, .long sum), (5, .int less), (6, .long prod), (8, .int (nI j))], [.int (1 : Int32)]) (HH I J R T) _
        refine Z_jump 3 rfl ?_
        show Zs _ _ (am_P 45).2 (34, [(0, .ref 3), (1, .ref 1), (2, .int x), (3, .long sum), (5, .int less), (6, .long prod), (8, .int (nI j))], [.int (42 : Int32), .ref 1]) (HH I J R T) _
        refine Z_c1 rfl rfl rfl (c_sgn0 (t := 42) hK rfl (by omega) h42) ?_
        show Zs _ _ (am_P 45).2 (37, [(0, .ref 3), (1, .ref 1), (2, .int x), (3, .long sum), (5, .int less), (6, .long prod), (8, .int (nI j))], [.int (0 : Int32)]) (HH I J R T) _
        refine Z_jump 3 rfl ?_
        show Zs _ _ (am_P 45).2 (64, [(0, .ref 3), (1, .ref 1), (2, .int x), (3, .long sum), (5, .int less), (6, .long prod), (8, .int (nI j))], [.int (47 : Int32), .ref 1]) (HH I J R T) _
        refine Z_c1 rfl rfl rfl (c_sgn (t := 47) hK rfl (by omega) h47) ?_
        show Zs _ _ (am_P 45).2 (67, [(0, .ref 3), (1, .ref 1), (2, .int x), (3, .long sum), (5, .int less), (6, .long prod), (8, .int (nI j))], [.int (1 : Int32)]) (HH I J R T) _
        refine Z_jump 2 rfl ?_
        show Zs _ _ (am_P 45).2 (71, [(0, .ref 3), (1, .ref 1), (2, .int x), (3, .long sum), (5, .int less), (6, .long prod), (8, .int (nI j))], [.ref 1]) (HH I J R T) _
        refine Z_cQ rfl rfl rfl (Ze_deep (d := 2) (by omega) (c_stepQ (d := 0) hK)) (fun v h1 hq => ?_)
        obtain ⟨rfl, I1, rfl, K1, u1, f1⟩ := hq
        show Zs _ _ (am_P 45).2 (74, [(0, .ref 3), (1, .ref 1), (2, .int x), (3, .long sum), (5, .int less), (6, .long prod), (8, .int (nI j))], []) (HH I1 J R T) _
        refine Z_jump 5 rfl ?_
        show Zs _ _ (am_P 45).2 (80, [(0, .ref 3), (1, .ref 1), (2, .int x), (3, .long sum), (5, .int less), (6, .long prod), (8, .int (nI j))], [.int x, .ref 1, .ref 3, .long prod, .ref 3]) (HH I1 J R T) _
        refine Z_cQ rfl rfl rfl (hgo (I 3 2) I1 K1 (f1.trans h2) (congrFun (u1 3 (by decide)) 2)) (fun v h1 hq => ?_)
        obtain ⟨I2, rfl, u2, C2, v, rfl, hq⟩ := hq
        rcases hf : sx tx c num k 0 (nx tx c s) dd (0, 0, 0) (I 3 2) with p | ⟨s2, v2, f2⟩
        · have es : sx tx c num (k + 1) 2 s dd (sum, less, prod) (I 3 2) = .inl p := by simp only [sx]; rw [if_neg h42, if_pos h47, hf]
          rw [es]
          rw [hf] at hq
          have hq0 := hq
          show Zs _ _ (am_P 45).2 (83, [(0, .ref 3), (1, .ref 1), (2, .int x), (3, .long sum), (5, .int less), (6, .long prod), (8, .int (nI j))], [.long v, .long prod, .ref 3]) (HH I2 J R T) _
          refine Z_cQ rfl rfl rfl (c_divided) (fun v h1 hq => ?_)
          obtain ⟨rfl, I3, rfl, u3⟩ := hq
          show Zs _ _ (am_P 45).2 (86, [(0, .ref 3), (1, .ref 1), (2, .int x), (3, .long sum), (5, .int less), (6, .long prod), (8, .int (nI j))], [.long ((dv prod v (I2 3 2)).1)]) (HH I3 J R T) _
          refine Z_jump 4 rfl ?_
          show Zs _ _ (am_P 45).2 (16, [(0, .ref 3), (1, .ref 1), (2, .int x), (3, .long sum), (5, .int less), (6, .long ((dv prod v (I2 3 2)).1)), (8, .int ((nI j) + 1))], []) (HH I3 J R T) _
          exact Zs_mono (c_exu (d := d + 8) (p := p) (CT_of C2 (congrFun (u3.1 1 (by decide)) 1) (u3.1 2 (by decide))) hq0.1 ((congrFun (u3.1 1 (by decide)) 2).trans hq0.2)) (fun r h' q => PX_t (UX_t (UX_t (UX_o u1) u2) (U32_X u3)) q)
        · have hadv := (sx_adv (tx := tx) (c := c) (num := num) k 0 (nx tx c s) dd (0, 0, 0) (I 3 2) hn.2).2 _ hf
          have hs2 := hadv.2.2 (by omega)
          dsimp only at hs2
          have es : sx tx c num (k + 1) 2 s dd (sum, less, prod) (I 3 2) = sx tx c num k 2 s2 dd (sum, less, (dv prod v2 f2).1) (dv prod v2 f2).2 := by simp only [sx]; rw [if_neg h42, if_pos h47, hf]
          rw [es]
          rw [hf] at hq
          obtain ⟨hv, f3, K2, g3⟩ := hq
          have hv' : v2 = v := hv.symm
          subst hv'
          dsimp only at g3 K2
          show Zs _ _ (am_P 45).2 (83, [(0, .ref 3), (1, .ref 1), (2, .int x), (3, .long sum), (5, .int less), (6, .long prod), (8, .int (nI j))], [.long v2, .long prod, .ref 3]) (HH I2 J R T) _
          refine Z_cQ rfl rfl rfl (c_divided) (fun v h1 hq => ?_)
          obtain ⟨rfl, I3, rfl, u3⟩ := hq
          show Zs _ _ (am_P 45).2 (86, [(0, .ref 3), (1, .ref 1), (2, .int x), (3, .long sum), (5, .int less), (6, .long prod), (8, .int (nI j))], [.long ((dv prod v2 (I2 3 2)).1)]) (HH I3 J R T) _
          refine Z_jump 4 rfl ?_
          show Zs _ _ (am_P 45).2 (16, [(0, .ref 3), (1, .ref 1), (2, .int x), (3, .long sum), (5, .int less), (6, .long ((dv prod v2 (I2 3 2)).1)), (8, .int ((nI j) + 1))], []) (HH I3 J R T) _
          have w := ih.2.2 s2 dd (j + 1) (d + 10) I3 J R T x less sum (dv prod v2 (I2 3 2)).1 (by have := K2.2.1; omega) (CTK_3 K2 u3) ((congrFun (u3.1 1 (by decide)) 2).trans f3) hJ hx hdd (by omega) (by omega)
          rw [u3.2.2, g3, ← hjn] at w
          rw [g3]
          exact Zs_mono w (fun r h' q => PX_t (UX_t (UX_t (UX_o u1) u2) (U32_X u3)) q)
      · have h43 : s < c ∧ (tx s = 43 ∨ tx s = 45) := ⟨hop.1, by have := hop.2; have n1 : ¬ tx s = 42 := fun z => h42 ⟨hop.1, z⟩; have n2 : ¬ tx s = 47 := fun z => h47 ⟨hop.1, z⟩; omega⟩
        rcases (show tx s = 43 ∨ tx s = 45 from h43.2) with hch | hch
        · by_cases hl0 : less = 0
          · have esm : sm less sum prod = sum + prod := if_pos hl0
            refine Z_jump 3 rfl ?_
            refine Z_bd (fun c21 => absurd c21 (hj1)) (fun c21 => ?_)
            refine Z_jump 1 rfl ?_
            show Zs _ _ (am_P 45).2 (25, [(0, .ref 3), (1, .ref 1), (2, .int x), (3, .long sum), (5, .int less), (6, .long prod), (8, .int (nI j))], [.ref 1]) (HH I J R T) _
            refine Z_c1 rfl rfl rfl (c_soundY h2) ?_
            show Zs _ _ (am_P 45).2 (28, [(0, .ref 3), (1, .ref 1), (2, .int x), (3, .long sum), (5, .int less), (6, .long prod), (8, .int (nI j))], [.int (1 : Int32)]) (HH I J R T) _
            refine Z_jump 3 rfl ?_
            show Zs _ _ (am_P 45).2 (34, [(0, .ref 3), (1, .ref 1), (2, .int x), (3, .long sum), (5, .int less), (6, .long prod), (8, .int (nI j))], [.int (42 : Int32), .ref 1]) (HH I J R T) _
            refine Z_c1 rfl rfl rfl (c_sgn0 (t := 42) hK rfl (by omega) h42) ?_
            show Zs _ _ (am_P 45).2 (37, [(0, .ref 3), (1, .ref 1), (2, .int x), (3, .long sum), (5, .int less), (6, .long prod), (8, .int (nI j))], [.int (0 : Int32)]) (HH I J R T) _
            refine Z_jump 3 rfl ?_
            show Zs _ _ (am_P 45).2 (64, [(0, .ref 3), (1, .ref 1), (2, .int x), (3, .long sum), (5, .int less), (6, .long prod), (8, .int (nI j))], [.int (47 : Int32), .ref 1]) (HH I J R T) _
            refine Z_c1 rfl rfl rfl (c_sgn0 (t := 47) hK rfl (by omega) h47) ?_
            show Zs _ _ (am_P 45).2 (67, [(0, .ref 3), (1, .ref 1), (2, .int x), (3, .long sum), (5, .int less), (6, .long prod), (8, .int (nI j))], [.int (0 : Int32)]) (HH I J R T) _
            refine Z_jump 3 rfl ?_
            show Zs _ _ (am_P 45).2 (94, [(0, .ref 3), (1, .ref 1), (2, .int x), (3, .long sum), (5, .int less), (6, .long prod), (8, .int (nI j))], [.int (43 : Int32), .ref 1]) (HH I J R T) _
            refine Z_c1 rfl rfl rfl (c_sgn (t := 43) hK rfl (by omega) ⟨hop.1, hch⟩) ?_
            show Zs _ _ (am_P 45).2 (97, [(0, .ref 3), (1, .ref 1), (2, .int x), (3, .long sum), (5, .int less), (6, .long prod), (8, .int (nI j))], [.int (1 : Int32)]) (HH I J R T) _
            refine Z_jump 4 rfl ?_
            refine Z_bd (fun c112 => ?_) (fun c112 => absurd (hl0) c112)
            refine Z_jump 3 rfl ?_
            show Zs _ _ (am_P 45).2 (126, [(0, .ref 3), (1, .ref 1), (2, .int x), (3, .long sum), (5, .int less), (6, .long prod), (8, .int (nI j))], [.long (sum + prod), .ref 3]) (HH I J R T) _
            refine Z_cQ rfl rfl rfl (c_bounded) (fun v h1 hq => ?_)
            obtain ⟨rfl, I0, rfl, u0⟩ := hq
            rw [← esm] at u0
            show Zs _ _ (am_P 45).2 (129, [(0, .ref 3), (1, .ref 1), (2, .int x), (3, .long sum), (5, .int less), (6, .long prod), (8, .int (nI j))], [.long ((bd (sum + prod) (I 3 2)).1)]) (HH I0 J R T) _
            refine Z_jump 3 rfl ?_
            show Zs _ _ (am_P 45).2 (133, [(0, .ref 3), (1, .ref 1), (2, .int x), (3, .long ((bd (sum + prod) (I 3 2)).1)), (5, .int less), (6, .long prod), (8, .int (nI j))], [.int (45 : Int32), .ref 1]) (HH I0 J R T) _
            refine Z_c1 rfl rfl rfl (c_sgn0 (t := 45) (CTK_3 hK u0) rfl (by omega) (fun z => by have := z.2; omega)) ?_
            show Zs _ _ (am_P 45).2 (136, [(0, .ref 3), (1, .ref 1), (2, .int x), (3, .long ((bd (sum + prod) (I 3 2)).1)), (5, .int less), (6, .long prod), (8, .int (nI j))], [.int (0 : Int32)]) (HH I0 J R T) _
            refine Z_jump 2 rfl ?_
            show Zs _ _ (am_P 45).2 (139, [(0, .ref 3), (1, .ref 1), (2, .int x), (3, .long ((bd (sum + prod) (I 3 2)).1)), (5, .int (0 : Int32)), (6, .long prod), (8, .int (nI j))], [.ref 1]) (HH I0 J R T) _
            refine Z_cQ rfl rfl rfl (Ze_deep (d := 2) (by omega) (c_stepQ (d := 0) (CTK_3 hK u0))) (fun v h1 hq => ?_)
            obtain ⟨rfl, I1, rfl, K1, u1, f1⟩ := hq
            show Zs _ _ (am_P 45).2 (142, [(0, .ref 3), (1, .ref 1), (2, .int x), (3, .long ((bd (sum + prod) (I 3 2)).1)), (5, .int (0 : Int32)), (6, .long prod), (8, .int (nI j))], []) (HH I1 J R T) _
            refine Z_jump 3 rfl ?_
            show Zs _ _ (am_P 45).2 (145, [(0, .ref 3), (1, .ref 1), (2, .int x), (3, .long ((bd (sum + prod) (I 3 2)).1)), (5, .int (0 : Int32)), (6, .long prod), (8, .int (nI j))], [.int x, .ref 1, .ref 3]) (HH I1 J R T) _
            refine Z_cQ rfl rfl rfl (hgo (bd (sm less sum prod) (I 3 2)).2 I1 K1 (f1.trans ((congrFun (u0.1 1 (by decide)) 2).trans h2)) ((congrFun (u1 3 (by decide)) 2).trans u0.2.2)) (fun v h1 hq => ?_)
            obtain ⟨I2, rfl, u2, C2, v, rfl, hq⟩ := hq
            have U2 : UX I I2 := UX_t (UX_t (U32_X u0) (UX_o u1)) u2
            rcases hf : sx tx c num k 0 (nx tx c s) dd (0, 0, 0) (bd (sm less sum prod) (I 3 2)).2 with p | ⟨s2, v2, f2⟩
            · have es : sx tx c num (k + 1) 2 s dd (sum, less, prod) (I 3 2) = .inl p := by simp only [sx]; rw [if_neg h42, if_neg h47, if_pos h43, hf]
              rw [es]
              rw [hf] at hq
              refine Z_jump 3 rfl ?_
              show Zs _ _ (am_P 45).2 (16, [(0, .ref 3), (1, .ref 1), (2, .int x), (3, .long ((bd (sum + prod) (I 3 2)).1)), (5, .int (0 : Int32)), (6, .long v), (8, .int ((nI j) + 1))], []) (HH I2 J R T) _
              exact Zs_mono (c_exu (d := d + 8) (p := p) C2 hq.1 hq.2) (fun r h' q => PX_t U2 q)
            · have hadv := (sx_adv (tx := tx) (c := c) (num := num) k 0 (nx tx c s) dd (0, 0, 0) (bd (sm less sum prod) (I 3 2)).2 hn.2).2 _ hf
              have hs2 := hadv.2.2 (by omega)
              dsimp only at hs2
              have es : sx tx c num (k + 1) 2 s dd (sum, less, prod) (I 3 2) = sx tx c num k 2 s2 dd ((bd (sm less sum prod) (I 3 2)).1, 0, v2) f2 := by simp only [sx]; rw [if_neg h42, if_neg h47, if_pos h43, hf]; dsimp only; rw [if_neg (by omega)]
              rw [es]
              rw [hf] at hq
              obtain ⟨hv, f3, K2, g3⟩ := hq
              have hv' : v2 = v := hv.symm
              subst hv'
              dsimp only at g3 K2
              rw [← esm]
              refine Z_jump 3 rfl ?_
              show Zs _ _ (am_P 45).2 (16, [(0, .ref 3), (1, .ref 1), (2, .int x), (3, .long ((bd (sm less sum prod) (I 3 2)).1)), (5, .int (0 : Int32)), (6, .long v2), (8, .int ((nI j) + 1))], []) (HH I2 J R T) _
              have w := ih.2.2 s2 dd (j + 1) (d + 10) I2 J R T x 0 (bd (sm less sum prod) (I 3 2)).1 v2 (by have := K2.2.1; omega) K2 f3 hJ hx hdd (by omega) (by omega)
              rw [g3, ← hjn] at w
              exact Zs_mono w (fun r h' q => PX_t U2 q)
          · have esm : sm less sum prod = sum - prod := if_neg hl0
            refine Z_jump 3 rfl ?_
            refine Z_bd (fun c21 => absurd c21 (hj1)) (fun c21 => ?_)
            refine Z_jump 1 rfl ?_
            show Zs _ _ (am_P 45).2 (25, [(0, .ref 3), (1, .ref 1), (2, .int x), (3, .long sum), (5, .int less), (6, .long prod), (8, .int (nI j))], [.ref 1]) (HH I J R T) _
            refine Z_c1 rfl rfl rfl (c_soundY h2) ?_
            show Zs _ _ (am_P 45).2 (28, [(0, .ref 3), (1, .ref 1), (2, .int x), (3, .long sum), (5, .int less), (6, .long prod), (8, .int (nI j))], [.int (1 : Int32)]) (HH I J R T) _
            refine Z_jump 3 rfl ?_
            show Zs _ _ (am_P 45).2 (34, [(0, .ref 3), (1, .ref 1), (2, .int x), (3, .long sum), (5, .int less), (6, .long prod), (8, .int (nI j))], [.int (42 : Int32), .ref 1]) (HH I J R T) _
            refine Z_c1 rfl rfl rfl (c_sgn0 (t := 42) hK rfl (by omega) h42) ?_
            show Zs _ _ (am_P 45).2 (37, [(0, .ref 3), (1, .ref 1), (2, .int x), (3, .long sum), (5, .int less), (6, .long prod), (8, .int (nI j))], [.int (0 : Int32)]) (HH I J R T) _
            refine Z_jump 3 rfl ?_
            show Zs _ _ (am_P 45).2 (64, [(0, .ref 3), (1, .ref 1), (2, .int x), (3, .long sum), (5, .int less), (6, .long prod), (8, .int (nI j))], [.int (47 : Int32), .ref 1]) (HH I J R T) _
            refine Z_c1 rfl rfl rfl (c_sgn0 (t := 47) hK rfl (by omega) h47) ?_
            show Zs _ _ (am_P 45).2 (67, [(0, .ref 3), (1, .ref 1), (2, .int x), (3, .long sum), (5, .int less), (6, .long prod), (8, .int (nI j))], [.int (0 : Int32)]) (HH I J R T) _
            refine Z_jump 3 rfl ?_
            show Zs _ _ (am_P 45).2 (94, [(0, .ref 3), (1, .ref 1), (2, .int x), (3, .long sum), (5, .int less), (6, .long prod), (8, .int (nI j))], [.int (43 : Int32), .ref 1]) (HH I J R T) _
            refine Z_c1 rfl rfl rfl (c_sgn (t := 43) hK rfl (by omega) ⟨hop.1, hch⟩) ?_
            show Zs _ _ (am_P 45).2 (97, [(0, .ref 3), (1, .ref 1), (2, .int x), (3, .long sum), (5, .int less), (6, .long prod), (8, .int (nI j))], [.int (1 : Int32)]) (HH I J R T) _
            refine Z_jump 4 rfl ?_
            refine Z_bd (fun c112 => absurd c112 (hl0)) (fun c112 => ?_)
            refine Z_jump 4 rfl ?_
            show Zs _ _ (am_P 45).2 (126, [(0, .ref 3), (1, .ref 1), (2, .int x), (3, .long sum), (5, .int less), (6, .long prod), (8, .int (nI j))], [.long (sum - prod), .ref 3]) (HH I J R T) _
            refine Z_cQ rfl rfl rfl (c_bounded) (fun v h1 hq => ?_)
            obtain ⟨rfl, I0, rfl, u0⟩ := hq
            rw [← esm] at u0
            show Zs _ _ (am_P 45).2 (129, [(0, .ref 3), (1, .ref 1), (2, .int x), (3, .long sum), (5, .int less), (6, .long prod), (8, .int (nI j))], [.long ((bd (sum - prod) (I 3 2)).1)]) (HH I0 J R T) _
            refine Z_jump 3 rfl ?_
            show Zs _ _ (am_P 45).2 (133, [(0, .ref 3), (1, .ref 1), (2, .int x), (3, .long ((bd (sum - prod) (I 3 2)).1)), (5, .int less), (6, .long prod), (8, .int (nI j))], [.int (45 : Int32), .ref 1]) (HH I0 J R T) _
            refine Z_c1 rfl rfl rfl (c_sgn0 (t := 45) (CTK_3 hK u0) rfl (by omega) (fun z => by have := z.2; omega)) ?_
            show Zs _ _ (am_P 45).2 (136, [(0, .ref 3), (1, .ref 1), (2, .int x), (3, .long ((bd (sum - prod) (I 3 2)).1)), (5, .int less), (6, .long prod), (8, .int (nI j))], [.int (0 : Int32)]) (HH I0 J R T) _
            refine Z_jump 2 rfl ?_
            show Zs _ _ (am_P 45).2 (139, [(0, .ref 3), (1, .ref 1), (2, .int x), (3, .long ((bd (sum - prod) (I 3 2)).1)), (5, .int (0 : Int32)), (6, .long prod), (8, .int (nI j))], [.ref 1]) (HH I0 J R T) _
            refine Z_cQ rfl rfl rfl (Ze_deep (d := 2) (by omega) (c_stepQ (d := 0) (CTK_3 hK u0))) (fun v h1 hq => ?_)
            obtain ⟨rfl, I1, rfl, K1, u1, f1⟩ := hq
            show Zs _ _ (am_P 45).2 (142, [(0, .ref 3), (1, .ref 1), (2, .int x), (3, .long ((bd (sum - prod) (I 3 2)).1)), (5, .int (0 : Int32)), (6, .long prod), (8, .int (nI j))], []) (HH I1 J R T) _
            refine Z_jump 3 rfl ?_
            show Zs _ _ (am_P 45).2 (145, [(0, .ref 3), (1, .ref 1), (2, .int x), (3, .long ((bd (sum - prod) (I 3 2)).1)), (5, .int (0 : Int32)), (6, .long prod), (8, .int (nI j))], [.int x, .ref 1, .ref 3]) (HH I1 J R T) _
            refine Z_cQ rfl rfl rfl (hgo (bd (sm less sum prod) (I 3 2)).2 I1 K1 (f1.trans ((congrFun (u0.1 1 (by decide)) 2).trans h2)) ((congrFun (u1 3 (by decide)) 2).trans u0.2.2)) (fun v h1 hq => ?_)
            obtain ⟨I2, rfl, u2, C2, v, rfl, hq⟩ := hq
            have U2 : UX I I2 := UX_t (UX_t (U32_X u0) (UX_o u1)) u2
            rcases hf : sx tx c num k 0 (nx tx c s) dd (0, 0, 0) (bd (sm less sum prod) (I 3 2)).2 with p | ⟨s2, v2, f2⟩
            · have es : sx tx c num (k + 1) 2 s dd (sum, less, prod) (I 3 2) = .inl p := by simp only [sx]; rw [if_neg h42, if_neg h47, if_pos h43, hf]
              rw [es]
              rw [hf] at hq
              refine Z_jump 3 rfl ?_
              show Zs _ _ (am_P 45).2 (16, [(0, .ref 3), (1, .ref 1), (2, .int x), (3, .long ((bd (sum - prod) (I 3 2)).1)), (5, .int (0 : Int32)), (6, .long v), (8, .int ((nI j) + 1))], []) (HH I2 J R T) _
              exact Zs_mono (c_exu (d := d + 8) (p := p) C2 hq.1 hq.2) (fun r h' q => PX_t U2 q)
            · have hadv := (sx_adv (tx := tx) (c := c) (num := num) k 0 (nx tx c s) dd (0, 0, 0) (bd (sm less sum prod) (I 3 2)).2 hn.2).2 _ hf
              have hs2 := hadv.2.2 (by omega)
              dsimp only at hs2
              have es : sx tx c num (k + 1) 2 s dd (sum, less, prod) (I 3 2) = sx tx c num k 2 s2 dd ((bd (sm less sum prod) (I 3 2)).1, 0, v2) f2 := by simp only [sx]; rw [if_neg h42, if_neg h47, if_pos h43, hf]; dsimp only; rw [if_neg (by omega)]
              rw [es]
              rw [hf] at hq
              obtain ⟨hv, f3, K2, g3⟩ := hq
              have hv' : v2 = v := hv.symm
              subst hv'
              dsimp only at g3 K2
              rw [← esm]
              refine Z_jump 3 rfl ?_
              show Zs _ _ (am_P 45).2 (16, [(0, .ref 3), (1, .ref 1), (2, .int x), (3, .long ((bd (sm less sum prod) (I 3 2)).1)), (5, .int (0 : Int32)), (6, .long v2), (8, .int ((nI j) + 1))], []) (HH I2 J R T) _
              have w := ih.2.2 s2 dd (j + 1) (d + 10) I2 J R T x 0 (bd (sm less sum prod) (I 3 2)).1 v2 (by have := K2.2.1; omega) K2 f3 hJ hx hdd (by omega) (by omega)
              rw [g3, ← hjn] at w
              exact Zs_mono w (fun r h' q => PX_t U2 q)
        · by_cases hl0 : less = 0
          · have esm : sm less sum prod = sum + prod := if_pos hl0
            refine Z_jump 3 rfl ?_
            refine Z_bd (fun c21 => absurd c21 (hj1)) (fun c21 => ?_)
            refine Z_jump 1 rfl ?_
            show Zs _ _ (am_P 45).2 (25, [(0, .ref 3), (1, .ref 1), (2, .int x), (3, .long sum), (5, .int less), (6, .long prod), (8, .int (nI j))], [.ref 1]) (HH I J R T) _
            refine Z_c1 rfl rfl rfl (c_soundY h2) ?_
            show Zs _ _ (am_P 45).2 (28, [(0, .ref 3), (1, .ref 1), (2, .int x), (3, .long sum), (5, .int less), (6, .long prod), (8, .int (nI j))], [.int (1 : Int32)]) (HH I J R T) _
            refine Z_jump 3 rfl ?_
            show Zs _ _ (am_P 45).2 (34, [(0, .ref 3), (1, .ref 1), (2, .int x), (3, .long sum), (5, .int less), (6, .long prod), (8, .int (nI j))], [.int (42 : Int32), .ref 1]) (HH I J R T) _
            refine Z_c1 rfl rfl rfl (c_sgn0 (t := 42) hK rfl (by omega) h42) ?_
            show Zs _ _ (am_P 45).2 (37, [(0, .ref 3), (1, .ref 1), (2, .int x), (3, .long sum), (5, .int less), (6, .long prod), (8, .int (nI j))], [.int (0 : Int32)]) (HH I J R T) _
            refine Z_jump 3 rfl ?_
            show Zs _ _ (am_P 45).2 (64, [(0, .ref 3), (1, .ref 1), (2, .int x), (3, .long sum), (5, .int less), (6, .long prod), (8, .int (nI j))], [.int (47 : Int32), .ref 1]) (HH I J R T) _
            refine Z_c1 rfl rfl rfl (c_sgn0 (t := 47) hK rfl (by omega) h47) ?_
            show Zs _ _ (am_P 45).2 (67, [(0, .ref 3), (1, .ref 1), (2, .int x), (3, .long sum), (5, .int less), (6, .long prod), (8, .int (nI j))], [.int (0 : Int32)]) (HH I J R T) _
            refine Z_jump 3 rfl ?_
            show Zs _ _ (am_P 45).2 (94, [(0, .ref 3), (1, .ref 1), (2, .int x), (3, .long sum), (5, .int less), (6, .long prod), (8, .int (nI j))], [.int (43 : Int32), .ref 1]) (HH I J R T) _
            refine Z_c1 rfl rfl rfl (c_sgn0 (t := 43) hK rfl (by omega) (fun z => by have := z.2; omega)) ?_
            show Zs _ _ (am_P 45).2 (97, [(0, .ref 3), (1, .ref 1), (2, .int x), (3, .long sum), (5, .int less), (6, .long prod), (8, .int (nI j))], [.int (0 : Int32)]) (HH I J R T) _
            refine Z_jump 3 rfl ?_
            show Zs _ _ (am_P 45).2 (103, [(0, .ref 3), (1, .ref 1), (2, .int x), (3, .long sum), (5, .int less), (6, .long prod), (8, .int (nI j))], [.int (45 : Int32), .ref 1]) (HH I J R T) _
            refine Z_c1 rfl rfl rfl (c_sgn (t := 45) hK rfl (by omega) ⟨hop.1, hch⟩) ?_
            show Zs _ _ (am_P 45).2 (106, [(0, .ref 3), (1, .ref 1), (2, .int x), (3, .long sum), (5, .int less), (6, .long prod), (8, .int (nI j))], [.int (1 : Int32)]) (HH I J R T) _
            refine Z_jump 4 rfl ?_
            refine Z_bd (fun c112 => ?_) (fun c112 => absurd (hl0) c112)
            refine Z_jump 3 rfl ?_
            show Zs _ _ (am_P 45).2 (126, [(0, .ref 3), (1, .ref 1), (2, .int x), (3, .long sum), (5, .int less), (6, .long prod), (8, .int (nI j))], [.long (sum + prod), .ref 3]) (HH I J R T) _
            refine Z_cQ rfl rfl rfl (c_bounded) (fun v h1 hq => ?_)
            obtain ⟨rfl, I0, rfl, u0⟩ := hq
            rw [← esm] at u0
            show Zs _ _ (am_P 45).2 (129, [(0, .ref 3), (1, .ref 1), (2, .int x), (3, .long sum), (5, .int less), (6, .long prod), (8, .int (nI j))], [.long ((bd (sum + prod) (I 3 2)).1)]) (HH I0 J R T) _
            refine Z_jump 3 rfl ?_
            show Zs _ _ (am_P 45).2 (133, [(0, .ref 3), (1, .ref 1), (2, .int x), (3, .long ((bd (sum + prod) (I 3 2)).1)), (5, .int less), (6, .long prod), (8, .int (nI j))], [.int (45 : Int32), .ref 1]) (HH I0 J R T) _
            refine Z_c1 rfl rfl rfl (c_sgn (t := 45) (CTK_3 hK u0) rfl (by omega) ⟨hop.1, hch⟩) ?_
            show Zs _ _ (am_P 45).2 (136, [(0, .ref 3), (1, .ref 1), (2, .int x), (3, .long ((bd (sum + prod) (I 3 2)).1)), (5, .int less), (6, .long prod), (8, .int (nI j))], [.int (1 : Int32)]) (HH I0 J R T) _
            refine Z_jump 2 rfl ?_
            show Zs _ _ (am_P 45).2 (139, [(0, .ref 3), (1, .ref 1), (2, .int x), (3, .long ((bd (sum + prod) (I 3 2)).1)), (5, .int (1 : Int32)), (6, .long prod), (8, .int (nI j))], [.ref 1]) (HH I0 J R T) _
            refine Z_cQ rfl rfl rfl (Ze_deep (d := 2) (by omega) (c_stepQ (d := 0) (CTK_3 hK u0))) (fun v h1 hq => ?_)
            obtain ⟨rfl, I1, rfl, K1, u1, f1⟩ := hq
            show Zs _ _ (am_P 45).2 (142, [(0, .ref 3), (1, .ref 1), (2, .int x), (3, .long ((bd (sum + prod) (I 3 2)).1)), (5, .int (1 : Int32)), (6, .long prod), (8, .int (nI j))], []) (HH I1 J R T) _
            refine Z_jump 3 rfl ?_
            show Zs _ _ (am_P 45).2 (145, [(0, .ref 3), (1, .ref 1), (2, .int x), (3, .long ((bd (sum + prod) (I 3 2)).1)), (5, .int (1 : Int32)), (6, .long prod), (8, .int (nI j))], [.int x, .ref 1, .ref 3]) (HH I1 J R T) _
            refine Z_cQ rfl rfl rfl (hgo (bd (sm less sum prod) (I 3 2)).2 I1 K1 (f1.trans ((congrFun (u0.1 1 (by decide)) 2).trans h2)) ((congrFun (u1 3 (by decide)) 2).trans u0.2.2)) (fun v h1 hq => ?_)
            obtain ⟨I2, rfl, u2, C2, v, rfl, hq⟩ := hq
            have U2 : UX I I2 := UX_t (UX_t (U32_X u0) (UX_o u1)) u2
            rcases hf : sx tx c num k 0 (nx tx c s) dd (0, 0, 0) (bd (sm less sum prod) (I 3 2)).2 with p | ⟨s2, v2, f2⟩
            · have es : sx tx c num (k + 1) 2 s dd (sum, less, prod) (I 3 2) = .inl p := by simp only [sx]; rw [if_neg h42, if_neg h47, if_pos h43, hf]
              rw [es]
              rw [hf] at hq
              refine Z_jump 3 rfl ?_
              show Zs _ _ (am_P 45).2 (16, [(0, .ref 3), (1, .ref 1), (2, .int x), (3, .long ((bd (sum + prod) (I 3 2)).1)), (5, .int (1 : Int32)), (6, .long v), (8, .int ((nI j) + 1))], []) (HH I2 J R T) _
              exact Zs_mono (c_exu (d := d + 8) (p := p) C2 hq.1 hq.2) (fun r h' q => PX_t U2 q)
            · have hadv := (sx_adv (tx := tx) (c := c) (num := num) k 0 (nx tx c s) dd (0, 0, 0) (bd (sm less sum prod) (I 3 2)).2 hn.2).2 _ hf
              have hs2 := hadv.2.2 (by omega)
              dsimp only at hs2
              have es : sx tx c num (k + 1) 2 s dd (sum, less, prod) (I 3 2) = sx tx c num k 2 s2 dd ((bd (sm less sum prod) (I 3 2)).1, 1, v2) f2 := by simp only [sx]; rw [if_neg h42, if_neg h47, if_pos h43, hf]; dsimp only; rw [if_pos hch]
              rw [es]
              rw [hf] at hq
              obtain ⟨hv, f3, K2, g3⟩ := hq
              have hv' : v2 = v := hv.symm
              subst hv'
              dsimp only at g3 K2
              rw [← esm]
              refine Z_jump 3 rfl ?_
              show Zs _ _ (am_P 45).2 (16, [(0, .ref 3), (1, .ref 1), (2, .int x), (3, .long ((bd (sm less sum prod) (I 3 2)).1)), (5, .int (1 : Int32)), (6, .long v2), (8, .int ((nI j) + 1))], []) (HH I2 J R T) _
              have w := ih.2.2 s2 dd (j + 1) (d + 10) I2 J R T x 1 (bd (sm less sum prod) (I 3 2)).1 v2 (by have := K2.2.1; omega) K2 f3 hJ hx hdd (by omega) (by omega)
              rw [g3, ← hjn] at w
              exact Zs_mono w (fun r h' q => PX_t U2 q)
          · have esm : sm less sum prod = sum - prod := if_neg hl0
            refine Z_jump 3 rfl ?_
            refine Z_bd (fun c21 => absurd c21 (hj1)) (fun c21 => ?_)
            refine Z_jump 1 rfl ?_
            show Zs _ _ (am_P 45).2 (25, [(0, .ref 3), (1, .ref 1), (2, .int x), (3, .long sum), (5, .int less), (6, .long prod), (8, .int (nI j))], [.ref 1]) (HH I J R T) _
            refine Z_c1 rfl rfl rfl (c_soundY h2) ?_
            show Zs _ _ (am_P 45).2 (28, [(0, .ref 3), (1, .ref 1), (2, .int x), (3, .long sum), (5, .int less), (6, .long prod), (8, .int (nI j))], [.int (1 : Int32)]) (HH I J R T) _
            refine Z_jump 3 rfl ?_
            show Zs _ _ (am_P 45).2 (34, [(0, .ref 3), (1, .ref 1), (2, .int x), (3, .long sum), (5, .int less), (6, .long prod), (8, .int (nI j))], [.int (42 : Int32), .ref 1]) (HH I J R T) _
            refine Z_c1 rfl rfl rfl (c_sgn0 (t := 42) hK rfl (by omega) h42) ?_
            show Zs _ _ (am_P 45).2 (37, [(0, .ref 3), (1, .ref 1), (2, .int x), (3, .long sum), (5, .int less), (6, .long prod), (8, .int (nI j))], [.int (0 : Int32)]) (HH I J R T) _
            refine Z_jump 3 rfl ?_
            show Zs _ _ (am_P 45).2 (64, [(0, .ref 3), (1, .ref 1), (2, .int x), (3, .long sum), (5, .int less), (6, .long prod), (8, .int (nI j))], [.int (47 : Int32), .ref 1]) (HH I J R T) _
            refine Z_c1 rfl rfl rfl (c_sgn0 (t := 47) hK rfl (by omega) h47) ?_
            show Zs _ _ (am_P 45).2 (67, [(0, .ref 3), (1, .ref 1), (2, .int x), (3, .long sum), (5, .int less), (6, .long prod), (8, .int (nI j))], [.int (0 : Int32)]) (HH I J R T) _
            refine Z_jump 3 rfl ?_
            show Zs _ _ (am_P 45).2 (94, [(0, .ref 3), (1, .ref 1), (2, .int x), (3, .long sum), (5, .int less), (6, .long prod), (8, .int (nI j))], [.int (43 : Int32), .ref 1]) (HH I J R T) _
            refine Z_c1 rfl rfl rfl (c_sgn0 (t := 43) hK rfl (by omega) (fun z => by have := z.2; omega)) ?_
            show Zs _ _ (am_P 45).2 (97, [(0, .ref 3), (1, .ref 1), (2, .int x), (3, .long sum), (5, .int less), (6, .long prod), (8, .int (nI j))], [.int (0 : Int32)]) (HH I J R T) _
            refine Z_jump 3 rfl ?_
            show Zs _ _ (am_P 45).2 (103, [(0, .ref 3), (1, .ref 1), (2, .int x), (3, .long sum), (5, .int less), (6, .long prod), (8, .int (nI j))], [.int (45 : Int32), .ref 1]) (HH I J R T) _
            refine Z_c1 rfl rfl rfl (c_sgn (t := 45) hK rfl (by omega) ⟨hop.1, hch⟩) ?_
            show Zs _ _ (am_P 45).2 (106, [(0, .ref 3), (1, .ref 1), (2, .int x), (3, .long sum), (5, .int less), (6, .long prod), (8, .int (nI j))], [.int (1 : Int32)]) (HH I J R T) _
            refine Z_jump 4 rfl ?_
            refine Z_bd (fun c112 => absurd c112 (hl0)) (fun c112 => ?_)
            refine Z_jump 4 rfl ?_
            show Zs _ _ (am_P 45).2 (126, [(0, .ref 3), (1, .ref 1), (2, .int x), (3, .long sum), (5, .int less), (6, .long prod), (8, .int (nI j))], [.long (sum - prod), .ref 3]) (HH I J R T) _
            refine Z_cQ rfl rfl rfl (c_bounded) (fun v h1 hq => ?_)
            obtain ⟨rfl, I0, rfl, u0⟩ := hq
            rw [← esm] at u0
            show Zs _ _ (am_P 45).2 (129, [(0, .ref 3), (1, .ref 1), (2, .int x), (3, .long sum), (5, .int less), (6, .long prod), (8, .int (nI j))], [.long ((bd (sum - prod) (I 3 2)).1)]) (HH I0 J R T) _
            refine Z_jump 3 rfl ?_
            show Zs _ _ (am_P 45).2 (133, [(0, .ref 3), (1, .ref 1), (2, .int x), (3, .long ((bd (sum - prod) (I 3 2)).1)), (5, .int less), (6, .long prod), (8, .int (nI j))], [.int (45 : Int32), .ref 1]) (HH I0 J R T) _
            refine Z_c1 rfl rfl rfl (c_sgn (t := 45) (CTK_3 hK u0) rfl (by omega) ⟨hop.1, hch⟩) ?_
            show Zs _ _ (am_P 45).2 (136, [(0, .ref 3), (1, .ref 1), (2, .int x), (3, .long ((bd (sum - prod) (I 3 2)).1)), (5, .int less), (6, .long prod), (8, .int (nI j))], [.int (1 : Int32)]) (HH I0 J R T) _
            refine Z_jump 2 rfl ?_
            show Zs _ _ (am_P 45).2 (139, [(0, .ref 3), (1, .ref 1), (2, .int x), (3, .long ((bd (sum - prod) (I 3 2)).1)), (5, .int (1 : Int32)), (6, .long prod), (8, .int (nI j))], [.ref 1]) (HH I0 J R T) _
            refine Z_cQ rfl rfl rfl (Ze_deep (d := 2) (by omega) (c_stepQ (d := 0) (CTK_3 hK u0))) (fun v h1 hq => ?_)
            obtain ⟨rfl, I1, rfl, K1, u1, f1⟩ := hq
            show Zs _ _ (am_P 45).2 (142, [(0, .ref 3), (1, .ref 1), (2, .int x), (3, .long ((bd (sum - prod) (I 3 2)).1)), (5, .int (1 : Int32)), (6, .long prod), (8, .int (nI j))], []) (HH I1 J R T) _
            refine Z_jump 3 rfl ?_
            show Zs _ _ (am_P 45).2 (145, [(0, .ref 3), (1, .ref 1), (2, .int x), (3, .long ((bd (sum - prod) (I 3 2)).1)), (5, .int (1 : Int32)), (6, .long prod), (8, .int (nI j))], [.int x, .ref 1, .ref 3]) (HH I1 J R T) _
            refine Z_cQ rfl rfl rfl (hgo (bd (sm less sum prod) (I 3 2)).2 I1 K1 (f1.trans ((congrFun (u0.1 1 (by decide)) 2).trans h2)) ((congrFun (u1 3 (by decide)) 2).trans u0.2.2)) (fun v h1 hq => ?_)
            obtain ⟨I2, rfl, u2, C2, v, rfl, hq⟩ := hq
            have U2 : UX I I2 := UX_t (UX_t (U32_X u0) (UX_o u1)) u2
            rcases hf : sx tx c num k 0 (nx tx c s) dd (0, 0, 0) (bd (sm less sum prod) (I 3 2)).2 with p | ⟨s2, v2, f2⟩
            · have es : sx tx c num (k + 1) 2 s dd (sum, less, prod) (I 3 2) = .inl p := by simp only [sx]; rw [if_neg h42, if_neg h47, if_pos h43, hf]
              rw [es]
              rw [hf] at hq
              refine Z_jump 3 rfl ?_
              show Zs _ _ (am_P 45).2 (16, [(0, .ref 3), (1, .ref 1), (2, .int x), (3, .long ((bd (sum - prod) (I 3 2)).1)), (5, .int (1 : Int32)), (6, .long v), (8, .int ((nI j) + 1))], []) (HH I2 J R T) _
              exact Zs_mono (c_exu (d := d + 8) (p := p) C2 hq.1 hq.2) (fun r h' q => PX_t U2 q)
            · have hadv := (sx_adv (tx := tx) (c := c) (num := num) k 0 (nx tx c s) dd (0, 0, 0) (bd (sm less sum prod) (I 3 2)).2 hn.2).2 _ hf
              have hs2 := hadv.2.2 (by omega)
              dsimp only at hs2
              have es : sx tx c num (k + 1) 2 s dd (sum, less, prod) (I 3 2) = sx tx c num k 2 s2 dd ((bd (sm less sum prod) (I 3 2)).1, 1, v2) f2 := by simp only [sx]; rw [if_neg h42, if_neg h47, if_pos h43, hf]; dsimp only; rw [if_pos hch]
              rw [es]
              rw [hf] at hq
              obtain ⟨hv, f3, K2, g3⟩ := hq
              have hv' : v2 = v := hv.symm
              subst hv'
              dsimp only at g3 K2
              rw [← esm]
              refine Z_jump 3 rfl ?_
              show Zs _ _ (am_P 45).2 (16, [(0, .ref 3), (1, .ref 1), (2, .int x), (3, .long ((bd (sm less sum prod) (I 3 2)).1)), (5, .int (1 : Int32)), (6, .long v2), (8, .int ((nI j) + 1))], []) (HH I2 J R T) _
              have w := ih.2.2 s2 dd (j + 1) (d + 10) I2 J R T x 1 (bd (sm less sum prod) (I 3 2)).1 v2 (by have := K2.2.1; omega) K2 f3 hJ hx hdd (by omega) (by omega)
              rw [g3, ← hjn] at w
              exact Zs_mono w (fun r h' q => PX_t U2 q)
  · have n1 : ¬ (s < c ∧ tx s = 42) := fun z => hop ⟨z.1, Or.inl z.2⟩
    have n2 : ¬ (s < c ∧ tx s = 47) := fun z => hop ⟨z.1, Or.inr (Or.inl z.2)⟩
    have n3 : ¬ (s < c ∧ tx s = 43) := fun z => hop ⟨z.1, Or.inr (Or.inr (Or.inl z.2))⟩
    have n4 : ¬ (s < c ∧ tx s = 45) := fun z => hop ⟨z.1, Or.inr (Or.inr (Or.inr z.2))⟩
    have es : sx tx c num (k + 1) 2 s dd (sum, less, prod) (I 3 2) = .inr (s, (bd (sm less sum prod) (I 3 2)).1, (bd (sm less sum prod) (I 3 2)).2) := by
      simp only [sx]
      rw [if_neg n1, if_neg n2, if_neg (fun z => z.2.elim (fun y => n3 ⟨z.1, y⟩) (fun y => n4 ⟨z.1, y⟩))]
    rw [es]
    refine Z_jump 3 rfl ?_
    refine Z_bd (fun (c21 : (160 : Int32) ≤ (nI j)) => ?_) (fun (c21 : ¬ ((160 : Int32) ≤ (nI j))) => ?_)
    · show Zs _ _ (am_P 45).2 (156, [(0, .ref 3), (1, .ref 1), (2, .int x), (3, .long sum), (5, .int less), (6, .long prod), (8, .int (nI j))], []) (HH I J R T) _
      exact c_ex_e (d := d + 8) hK h2
    · refine Z_jump 1 rfl ?_
      show Zs _ _ (am_P 45).2 (25, [(0, .ref 3), (1, .ref 1), (2, .int x), (3, .long sum), (5, .int less), (6, .long prod), (8, .int (nI j))], [.ref 1]) (HH I J R T) _
      refine Z_c1 rfl rfl rfl (c_soundY h2) ?_
      show Zs _ _ (am_P 45).2 (28, [(0, .ref 3), (1, .ref 1), (2, .int x), (3, .long sum), (5, .int less), (6, .long prod), (8, .int (nI j))], [.int (1 : Int32)]) (HH I J R T) _
      refine Z_jump 3 rfl ?_
      show Zs _ _ (am_P 45).2 (34, [(0, .ref 3), (1, .ref 1), (2, .int x), (3, .long sum), (5, .int less), (6, .long prod), (8, .int (nI j))], [.int (42 : Int32), .ref 1]) (HH I J R T) _
      refine Z_c1 rfl rfl rfl (c_sgn0 (t := 42) hK rfl (by omega) n1) ?_
      show Zs _ _ (am_P 45).2 (37, [(0, .ref 3), (1, .ref 1), (2, .int x), (3, .long sum), (5, .int less), (6, .long prod), (8, .int (nI j))], [.int (0 : Int32)]) (HH I J R T) _
      refine Z_jump 3 rfl ?_
      show Zs _ _ (am_P 45).2 (64, [(0, .ref 3), (1, .ref 1), (2, .int x), (3, .long sum), (5, .int less), (6, .long prod), (8, .int (nI j))], [.int (47 : Int32), .ref 1]) (HH I J R T) _
      refine Z_c1 rfl rfl rfl (c_sgn0 (t := 47) hK rfl (by omega) n2) ?_
      show Zs _ _ (am_P 45).2 (67, [(0, .ref 3), (1, .ref 1), (2, .int x), (3, .long sum), (5, .int less), (6, .long prod), (8, .int (nI j))], [.int (0 : Int32)]) (HH I J R T) _
      refine Z_jump 3 rfl ?_
      show Zs _ _ (am_P 45).2 (94, [(0, .ref 3), (1, .ref 1), (2, .int x), (3, .long sum), (5, .int less), (6, .long prod), (8, .int (nI j))], [.int (43 : Int32), .ref 1]) (HH I J R T) _
      refine Z_c1 rfl rfl rfl (c_sgn0 (t := 43) hK rfl (by omega) n3) ?_
      show Zs _ _ (am_P 45).2 (97, [(0, .ref 3), (1, .ref 1), (2, .int x), (3, .long sum), (5, .int less), (6, .long prod), (8, .int (nI j))], [.int (0 : Int32)]) (HH I J R T) _
      refine Z_jump 3 rfl ?_
      show Zs _ _ (am_P 45).2 (103, [(0, .ref 3), (1, .ref 1), (2, .int x), (3, .long sum), (5, .int less), (6, .long prod), (8, .int (nI j))], [.int (45 : Int32), .ref 1]) (HH I J R T) _
      refine Z_c1 rfl rfl rfl (c_sgn0 (t := 45) hK rfl (by omega) n4) ?_
      show Zs _ _ (am_P 45).2 (106, [(0, .ref 3), (1, .ref 1), (2, .int x), (3, .long sum), (5, .int less), (6, .long prod), (8, .int (nI j))], [.int (0 : Int32)]) (HH I J R T) _
      refine Z_jump 1 rfl ?_
      show Zs _ _ (am_P 45).2 (156, [(0, .ref 3), (1, .ref 1), (2, .int x), (3, .long sum), (5, .int less), (6, .long prod), (8, .int (nI j))], []) (HH I J R T) _
      exact c_ex_e (d := d + 8) hK h2
theorem c_ex : ∀ k, EXs sc tx c num k
  | 0 => ⟨fun s dd D I J R T x h => absurd h (by omega), fun s dd D I J R T x h => absurd h (by omega), fun s dd j D I J R T x less sum prod h => absurd h (by omega)⟩
  | k + 1 => ⟨c_ex_part (c_ex k), c_ex_expr (c_ex k), c_ex_loop (c_ex k)⟩
end EXP

