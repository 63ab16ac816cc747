/-! The class without rods: its calls. -/
/-- what a call of the class leaves of the reference -/
def C0p (v : Value) (I : hI) (J : hJ) (T : am_H) (r : Option Value) (h : am_H) : Prop := r = some v ∧ ∃ I' J' R', h = HH I' J' R' T ∧ (∀ c, 73 ≤ c → I' c = I c) ∧ (∀ c, 73 ≤ c → J' c = J c)
section C2
variable {sc : Nat × (Nat → Int32)} {d : Nat} {I : hI} {J : hJ} {R : hR} {T : am_H} {h : am_H} {Q : Option Value → am_H → Prop} {code : List am_I}
theorem k_atK {a L i : Nat} {f : Nat → Int32} {x : Int32} (hh : h[a]? = some (.inl (0, L, .inl f))) (hx : x = nI i) (hi : i < L) (hL : L < 2 ^ 31) : am_E sc (d + 1) 25 [.ref a, .int x] h (some (.int (f i))) h := by
  rw [← am_rdK (f := f) hx hi hL]
  exact k_at hh hL
theorem k_putK {a L i : Nat} {f : Nat → Int32} {x v : Int32} (hh : h[a]? = some (.inl (0, L, .inl f))) (hx : x = nI i) (hi : i < L) (hL : L < 2 ^ 31) : am_E sc (d + 1) 26 [.ref a, .int x, .int v] h none (h.set a (.inl (0, L, .inl (va_up f i v)))) := by
  rw [← am_wrK (f := f) hx hi hL]
  exact k_put hh hL
theorem c_stAt28 {K a : Nat} {x : Int32} (hR : R 28 K = some a) (hx : x = nI K) (hK : K < 3) : am_E sc (d + 1) 122 [.ref 28, .int x] (HH I J R T) (some (.ref a)) (HH I J R T) := by
  refine E_Z (Ze_of (Nat.le_of_ble_eq_true rfl) ?_)
  refine Z_jump 2 rfl ?_
  refine Z_bd (fun c1 => absurd c1 ((show ¬ x < 0 by rw [hx]; exact nI_pos (by omega)))) (fun c1 => ?_)
  refine Z_jump 3 rfl ?_
  show Zs _ _ (am_P 122).2 (7, [(0, .ref 28), (1, .int x)], [.int (3 : Int32), .int x]) (HH I J R T) _
  refine Z_jump 1 rfl ?_
  refine Z_bd (fun c7 => absurd c7 ((show ¬ (3 : Int32) ≤ x by rw [hx]; exact nI_ge (b := 3) (by omega) (by omega)))) (fun c7 => ?_)
  refine Z_jump 2 rfl ?_
  show Zs _ _ (am_P 122).2 (12, [(0, .ref 28), (1, .int x)], [.int x, .ref 28]) (HH I J R T) _
  refine Z_aalK (K) rfl rfl (by decide) (hx) (by omega) (by decide) ?_
  rw [hR]
  show Zs _ _ (am_P 122).2 (13, [(0, .ref 28), (1, .int x)], [.ref a]) (HH I J R T) _
  refine Z_jump 1 rfl ?_
  show Zs _ _ (am_P 122).2 (17, [(0, .ref 28), (1, .int x)], [.ref a]) (HH I J R T) _
  refine Z_ret rfl rfl rfl ?_
  exact ⟨rfl, rfl⟩
theorem c_stAt38 {K a : Nat} {x : Int32} (hR : R 38 K = some a) (hx : x = nI K) (hK : K < 8) : am_E sc (d + 1) 122 [.ref 38, .int x] (HH I J R T) (some (.ref a)) (HH I J R T) := by
  refine E_Z (Ze_of (Nat.le_of_ble_eq_true rfl) ?_)
  refine Z_jump 2 rfl ?_
  refine Z_bd (fun c1 => absurd c1 ((show ¬ x < 0 by rw [hx]; exact nI_pos (by omega)))) (fun c1 => ?_)
  refine Z_jump 3 rfl ?_
  show Zs _ _ (am_P 122).2 (7, [(0, .ref 38), (1, .int x)], [.int (8 : Int32), .int x]) (HH I J R T) _
  refine Z_jump 1 rfl ?_
  refine Z_bd (fun c7 => absurd c7 ((show ¬ (8 : Int32) ≤ x by rw [hx]; exact nI_ge (b := 8) (by omega) (by omega)))) (fun c7 => ?_)
  refine Z_jump 2 rfl ?_
  show Zs _ _ (am_P 122).2 (12, [(0, .ref 38), (1, .int x)], [.int x, .ref 38]) (HH I J R T) _
  refine Z_aalK (K) rfl rfl (by decide) (hx) (by omega) (by decide) ?_
  rw [hR]
  show Zs _ _ (am_P 122).2 (13, [(0, .ref 38), (1, .int x)], [.ref a]) (HH I J R T) _
  refine Z_jump 1 rfl ?_
  show Zs _ _ (am_P 122).2 (17, [(0, .ref 38), (1, .int x)], [.ref a]) (HH I J R T) _
  refine Z_ret rfl rfl rfl ?_
  exact ⟨rfl, rfl⟩
theorem c_stAt63 {K a : Nat} {x : Int32} (hR : R 63 K = some a) (hx : x = nI K) (hK : K < 2) : am_E sc (d + 1) 122 [.ref 63, .int x] (HH I J R T) (some (.ref a)) (HH I J R T) := by
  refine E_Z (Ze_of (Nat.le_of_ble_eq_true rfl) ?_)
  refine Z_jump 2 rfl ?_
  refine Z_bd (fun c1 => absurd c1 ((show ¬ x < 0 by rw [hx]; exact nI_pos (by omega)))) (fun c1 => ?_)
  refine Z_jump 3 rfl ?_
  show Zs _ _ (am_P 122).2 (7, [(0, .ref 63), (1, .int x)], [.int (2 : Int32), .int x]) (HH I J R T) _
  refine Z_jump 1 rfl ?_
  refine Z_bd (fun c7 => absurd c7 ((show ¬ (2 : Int32) ≤ x by rw [hx]; exact nI_ge (b := 2) (by omega) (by omega)))) (fun c7 => ?_)
  refine Z_jump 2 rfl ?_
  show Zs _ _ (am_P 122).2 (12, [(0, .ref 63), (1, .int x)], [.int x, .ref 63]) (HH I J R T) _
  refine Z_aalK (K) rfl rfl (by decide) (hx) (by omega) (by decide) ?_
  rw [hR]
  show Zs _ _ (am_P 122).2 (13, [(0, .ref 63), (1, .int x)], [.ref a]) (HH I J R T) _
  refine Z_jump 1 rfl ?_
  show Zs _ _ (am_P 122).2 (17, [(0, .ref 63), (1, .int x)], [.ref a]) (HH I J R T) _
  refine Z_ret rfl rfl rfl ?_
  exact ⟨rfl, rfl⟩
theorem c_stAt63_no {x : Int32} (hx : ¬ M_01 x) : am_E sc (d + 1) 122 [.ref 63, .int x] (HH I J R T) (some .null) (HH I J R T) := by
  refine E_Z (Ze_of (Nat.le_of_ble_eq_true rfl) ?_)
  refine Z_jump 2 rfl ?_
  refine Z_bd (fun (c1 : x < (0 : Int32)) => ?_) (fun (c1 : ¬ (x < (0 : Int32))) => ?_)
  · refine Z_jump 1 rfl ?_
    show Zs _ _ (am_P 122).2 (17, [(0, .ref 63), (1, .int x)], [.null]) (HH I J R T) _
    refine Z_ret rfl rfl rfl ?_
    exact ⟨rfl, rfl⟩
  · refine Z_jump 3 rfl ?_
    show Zs _ _ (am_P 122).2 (7, [(0, .ref 63), (1, .int x)], [.int (2 : Int32), .int x]) (HH I J R T) _
    refine Z_jump 1 rfl ?_
    refine Z_bd (fun c7 => ?_) (fun c7 => absurd ((show (2 : Int32) ≤ x by rw [fi_le]; rw [fi_lt] at c1; have z0 : (0 : Int32).toInt = 0 := rfl; have z2 : (2 : Int32).toInt = 2 := rfl; omega)) c7)
    refine Z_jump 1 rfl ?_
    show Zs _ _ (am_P 122).2 (17, [(0, .ref 63), (1, .int x)], [.null]) (HH I J R T) _
    refine Z_ret rfl rfl rfl ?_
    exact ⟨rfl, rfl⟩
/-- remember(), while there is room -/
theorem c_remember_l {m a : Nat} (hp : I 0 9 = nI m) (hm : m < 8) (hR : R 38 m = some a) (ha : isSt a) (hne : a ≠ 22) : Ze sc (d + 3) 127 [.ref 0] (HH I J R T) (fun r h => r = none ∧ ∃ I1, h = HH (sf I1 0 9 (nI (m + 1))) J R T ∧ CP a 22 I I1) := by
  refine Ze_of (Nat.le_of_ble_eq_true rfl) ?_
  have h0 : 0 ≠ a ∧ 0 ≠ a + 1 ∧ 0 ≠ a + 2 := by rcases isSt_c ha with rfl | rfl | rfl | rfl | rfl | rfl | rfl | rfl | rfl | rfl | rfl | rfl | rfl | rfl | rfl <;> decide
  refine Z_jump 5 rfl ?_
  show Zs _ _ (am_P 127).2 (9, [(0, .ref 0)], [.int (8 : Int32), .int (I 0 9)]) (HH I J R T) _
  refine Z_jump 1 rfl ?_
  refine Z_bd (fun c9 => ?_) (fun c9 => absurd ((show I 0 9 < (8 : Int32) by rw [hp]; exact nI_lt (b := 8) (by omega) (by omega))) c9)
  refine Z_jump 4 rfl ?_
  show Zs _ _ (am_P 127).2 (98, [(0, .ref 0)], [.int (I 0 9), .ref 38]) (HH I J R T) _
  refine Z_c1 rfl rfl rfl (c_stAt38 hR hp hm) ?_
  show Zs _ _ (am_P 127).2 (101, [(0, .ref 0)], [.ref a]) (HH I J R T) _
  refine Z_jump 6 rfl ?_
  show Zs _ _ (am_P 127).2 (111, [(0, .ref 0), (1, .ref a)], [.ref 22, .ref a]) (HH I J R T) _
  refine Z_cQ rfl (am_do_inv (st_0 ha) rfl rfl (Nat.le_of_ble_eq_true rfl)) rfl (Ze_deep (d := 2) (by omega) (c_copy (d := 0) ha (show isSt 22 by decide) hne)) (fun v h1 hq => ?_)
  obtain ⟨rfl, I1, rfl, hC⟩ := hq
  show Zs _ _ (am_P 127).2 (114, [(0, .ref 0), (1, .ref a)], []) (HH I1 J R T) _
  refine Z_jump 6 rfl ?_
  show Zs _ _ (am_P 127).2 (124, [(0, .ref 0), (1, .ref a)], []) (HH (sf I1 0 9 ((I1 0 9) + (1 : Int32))) J R T) _
  show Zs _ _ (am_P 127).2 (124, [(0, .ref 0), (1, .ref a)], []) (HH (sf I1 0 9 ((I1 0 9) + (1 : Int32))) J R T) _
  refine Z_ret rfl rfl rfl ?_
  have e : I1 0 9 + 1 = nI (m + 1) := by rw [hC.1 0 h0.1 h0.2.1 h0.2.2, hp]; exact nI_1 m
  refine ⟨rfl, I1, ?_, hC⟩
  rw [← e]
theorem C0p_c {v : Value} {I1 : hI} {R1 : hR} (h : ∀ c, 73 ≤ c → I1 c = I c) : C0p v I J T (some v) (HH I1 J R1 T) := ⟨rfl, I1, J, R1, rfl, h, fun _ _ => rfl⟩
theorem c_done0 {v : Int32} (hv : v = 0 ∨ v = -1) (hp : I 0 9 = 0) (hR : R 38 0 = some 39) : Ze sc (d + 4) 128 [.ref 0, .int v] (HH I J R T) (C0p (.int (if v = 0 then 0 else -4)) I J T) := by
  refine Ze_of (Nat.le_of_ble_eq_true rfl) ?_
  rcases hv with rfl | rfl
  · refine Z_jump 4 rfl ?_
    show Zs _ _ (am_P 128).2 (9, [(0, .ref 0), (1, .int (0 : Int32))], [.ref 0]) (HH I J R T) _
    refine Z_cQ rfl rfl rfl (c_remember_l (m := 0) (a := 39) hp (by omega) hR (by decide) (by decide)) (fun v h1 hq => ?_)
    obtain ⟨rfl, I1, rfl, hC⟩ := hq
    show Zs _ _ (am_P 128).2 (12, [(0, .ref 0), (1, .int (0 : Int32))], []) (HH (sf I1 0 9 (nI (0 + 1))) J R T) _
    refine Z_jump 4 rfl ?_
    show Zs _ _ (am_P 128).2 (20, [(0, .ref 0), (1, .int (0 : Int32))], [.ref 25, .ref 22]) (HH (sf I1 0 9 (nI (0 + 1))) J R T) _
    refine Z_cQ rfl rfl rfl (Ze_deep (d := 2) (by omega) (c_copy (d := 0) (a := 22) (b := 25) (by decide) (by decide) (by decide))) (fun v h1 hq => ?_)
    obtain ⟨rfl, I2, rfl, hC2⟩ := hq
    show Zs _ _ (am_P 128).2 (23, [(0, .ref 0), (1, .int (0 : Int32))], []) (HH I2 J R T) _
    refine Z_jump 1 rfl ?_
    show Zs _ _ (am_P 128).2 (24, [(0, .ref 0), (1, .int (0 : Int32))], [.int (0 : Int32)]) (HH I2 J R T) _
    refine Z_rI rfl (by first | exact am_nw0 _ | exact am_nw01 | rfl | assumption) ?_
    exact C0p_c (fun c hc => by rw [hC2.1 c (by omega) (by omega) (by omega), sf_c (by omega), hC.1 c (by omega) (by omega) (by omega)])
  · refine Z_jump 4 rfl ?_
    show Zs _ _ (am_P 128).2 (7, [(0, .ref 0), (1, .int (-1 : Int32))], [.int (-4 : Int32)]) (HH I J R T) _
    refine Z_rI rfl (by first | exact am_nw0 _ | exact am_nw01 | rfl | assumption) ?_
    exact C0p_c (fun _ _ => rfl)
theorem c_set0 {v : Int32} (hn : I 18 1 = 0) (hp : I 0 9 = 0) (hR : R 38 0 = some 39) : Ze sc (d + 5) 101 [.ref 0, .int v] (HH I J R T) (C0p (.int (if M_num v then (if v = 0 then 0 else -4) else -3)) I J T) := by
  refine Ze_of (Nat.le_of_ble_eq_true rfl) ?_
  by_cases hb : M_num v
  · rw [if_pos hb]
    refine Z_jump 1 rfl ?_
    show Zs _ _ (am_P 101).2 (1, [(0, .ref 0), (1, .int v)], [.int v]) (HH I J R T) _
    refine Z_c1 rfl rfl rfl (c_isNumber) ?_
    show Zs _ _ (am_P 101).2 (4, [(0, .ref 0), (1, .int v)], [.int (if M_num v then 1 else 0)]) (HH I J R T) _
    refine Z_jump 1 rfl ?_
    refine Z_bn (fun c4 => ?_) (fun c4 => absurd c4 ((fun z => if10.mp z hb)))
    refine Z_jump 4 rfl ?_
    show Zs _ _ (am_P 101).2 (18, [(0, .ref 0), (1, .int v)], [.ref 22, .ref 25]) (HH I J R T) _
    refine Z_cQ rfl rfl rfl (Ze_deep (d := 2) (by omega) (c_copy (d := 0) (a := 25) (b := 22) (by decide) (by decide) (by decide))) (fun v h1 hq => ?_)
    obtain ⟨rfl, I1, rfl, hC⟩ := hq
    show Zs _ _ (am_P 101).2 (21, [(0, .ref 0), (1, .int v)], []) (HH I1 J R T) _
    refine Z_jump 6 rfl ?_
    show Zs _ _ (am_P 101).2 (29, [(0, .ref 0), (1, .int v)], [.long (Int32.toInt64 v), .ref 25, .ref 0, .ref 0]) (HH I1 J R T) _
    refine Z_cQ rfl rfl rfl (c_settle0 (s := 25) (v := v.toInt64) (by decide) ((congrFun (hC.1 18 (by decide) (by decide) (by decide)) 1).trans hn)) (fun v h1 hq => ?_)
    obtain ⟨rfl, I2, rfl, hI2, h3⟩ := hq
    show Zs _ _ (am_P 101).2 (32, [(0, .ref 0), (1, .int v)], [.int (if v.toInt64 = 0 then 0 else -1), .ref 0]) (HH I2 J R T) _
    show Zs _ _ (am_P 101).2 (32, [(0, .ref 0), (1, .int v)], [.int (if v.toInt64 = 0 then 0 else -1), .ref 0]) (HH I2 J R T) _
    refine Z_cQ rfl rfl rfl (c_done0 (by by_cases z : v.toInt64 = 0; exact Or.inl (if_pos z); exact Or.inr (if_neg z)) (by rw [hI2 0 (by decide) (by decide) (by decide) (by decide) (by decide) (by decide) (by decide), hC.1 0 (by decide) (by decide) (by decide)]; exact hp) hR) (fun v h1 hq => ?_)
    obtain ⟨rfl, I3, J3, R3, rfl, h4, h5⟩ := hq
    show Zs _ _ (am_P 101).2 (35, [(0, .ref 0), (1, .int v)], [.int (if (if v.toInt64 = 0 then (0 : Int32) else -1) = 0 then 0 else -4)]) (HH I3 J3 R3 T) _
    show Zs _ _ (am_P 101).2 (35, [(0, .ref 0), (1, .int v)], [.int (if (if v.toInt64 = 0 then (0 : Int32) else -1) = 0 then 0 else -4)]) (HH I3 J3 R3 T) _
    refine Z_rI rfl (by first | exact am_nw0 _ | exact am_nw01 | rfl | assumption) ?_
    refine ⟨am_ii ?_, I3, J3, R3, rfl, fun c hc => by rw [h4 c hc, hI2 c (by omega) (by omega) (by omega) (by omega) (by omega) (by omega) (by omega), hC.1 c (by omega) (by omega) (by omega)], h5⟩
    by_cases z : v = 0
    · rw [if_pos z, if_pos (if_pos (i64_0.mpr z))]
    · rw [if_neg z, if_neg (by rw [if_neg (fun y => z (i64_0.mp y))]; decide)]
  · rw [if_neg hb]
    refine Z_jump 1 rfl ?_
    show Zs _ _ (am_P 101).2 (1, [(0, .ref 0), (1, .int v)], [.int v]) (HH I J R T) _
    refine Z_c1 rfl rfl rfl (c_isNumber) ?_
    show Zs _ _ (am_P 101).2 (4, [(0, .ref 0), (1, .int v)], [.int (if M_num v then 1 else 0)]) (HH I J R T) _
    refine Z_jump 1 rfl ?_
    refine Z_bn (fun c4 => absurd (if10.mpr hb) c4) (fun c4 => ?_)
    refine Z_jump 1 rfl ?_
    show Zs _ _ (am_P 101).2 (9, [(0, .ref 0), (1, .int v)], [.int (-3 : Int32)]) (HH I J R T) _
    refine Z_rI rfl (by first | exact am_nw0 _ | exact am_nw01 | rfl | assumption) ?_
    exact C0p_c (fun _ _ => rfl)
theorem c_ways0 {v : Int32} (hn : I 18 1 = 0) : Ze sc (d + 4) 106 [.ref 0, .int v] (HH I J R T) (C0p (.int (if M_num v then (if v = 0 then 1 else 0) else -3)) I J T) := by
  refine Ze_of (Nat.le_of_ble_eq_true rfl) ?_
  by_cases hb : M_num v
  · rw [if_pos hb]
    refine Z_jump 1 rfl ?_
    show Zs _ _ (am_P 106).2 (1, [(0, .ref 0), (1, .int v)], [.int v]) (HH I J R T) _
    refine Z_c1 rfl rfl rfl (c_isNumber) ?_
    show Zs _ _ (am_P 106).2 (4, [(0, .ref 0), (1, .int v)], [.int (if M_num v then 1 else 0)]) (HH I J R T) _
    refine Z_jump 1 rfl ?_
    refine Z_bn (fun c4 => ?_) (fun c4 => absurd c4 ((fun z => if10.mp z hb)))
    refine Z_jump 7 rfl ?_
    show Zs _ _ (am_P 106).2 (23, [(0, .ref 0), (1, .int v)], [.int (0 : Int32), .ref 22, .ref 18, .ref 4]) (HH I J R T) _
    refine Z_cQ rfl rfl rfl (Ze_deep (d := 2) (by omega) (c_load0 (d := 0) hn)) (fun v h1 hq => ?_)
    obtain ⟨rfl, I1, rfl, hI1, h13, h10, h11⟩ := hq
    show Zs _ _ (am_P 106).2 (26, [(0, .ref 0), (1, .int v)], []) (HH I1 J R T) _
    refine Z_jump 4 rfl ?_
    show Zs _ _ (am_P 106).2 (32, [(0, .ref 0), (1, .int v)], [.long (Int32.toInt64 v), .ref 4]) (HH I1 J R T) _
    refine Z_cQ rfl rfl rfl (c_howMany0 (v := v.toInt64) h13 h10 h11) (fun v h1 hq => ?_)
    obtain ⟨rfl, I2, rfl, hI2⟩ := hq
    show Zs _ _ (am_P 106).2 (35, [(0, .ref 0), (1, .int v)], [.int (if v.toInt64 = 0 then 1 else 0)]) (HH I2 J R T) _
    show Zs _ _ (am_P 106).2 (35, [(0, .ref 0), (1, .int v)], [.int (if v.toInt64 = 0 then 1 else 0)]) (HH I2 J R T) _
    refine Z_rI rfl (by first | exact am_nw0 _ | exact am_nw01 | rfl | assumption) ?_
    refine ⟨am_ii ?_, I2, J, R, rfl, fun c hc => by rw [hI2 c (by omega), hI1 c (by omega) (by omega) (by omega) (by omega) (by omega)], fun _ _ => rfl⟩
    by_cases z : v = 0
    · rw [if_pos z, if_pos (i64_0.mpr z)]
    · rw [if_neg z, if_neg (fun y => z (i64_0.mp y))]
  · rw [if_neg hb]
    refine Z_jump 1 rfl ?_
    show Zs _ _ (am_P 106).2 (1, [(0, .ref 0), (1, .int v)], [.int v]) (HH I J R T) _
    refine Z_c1 rfl rfl rfl (c_isNumber) ?_
    show Zs _ _ (am_P 106).2 (4, [(0, .ref 0), (1, .int v)], [.int (if M_num v then 1 else 0)]) (HH I J R T) _
    refine Z_jump 1 rfl ?_
    refine Z_bn (fun c4 => absurd (if10.mpr hb) c4) (fun c4 => ?_)
    refine Z_jump 1 rfl ?_
    show Zs _ _ (am_P 106).2 (9, [(0, .ref 0), (1, .int v)], [.int (-3 : Int32)]) (HH I J R T) _
    refine Z_rI rfl (by first | exact am_nw0 _ | exact am_nw01 | rfl | assumption) ?_
    exact C0p_c (fun _ _ => rfl)
theorem c_leastCost0 {v b : Int32} (hn : I 18 1 = 0) : Ze sc (d + 4) 133 [.ref 0, .int v, .int b] (HH I J R T) (fun r h => r = some (.int (if v = 0 then 0 else -1)) ∧ ∃ I', h = HH I' J R T ∧ ∀ c, 73 ≤ c → I' c = I c) := by
  refine Ze_of (Nat.le_of_ble_eq_true rfl) ?_
  refine Z_jump 7 rfl ?_
  show Zs _ _ (am_P 133).2 (13, [(0, .ref 0), (1, .int v), (2, .int b)], [.int b, .ref 22, .ref 18, .ref 4]) (HH I J R T) _
  refine Z_cQ rfl rfl rfl (Ze_deep (d := 2) (by omega) (c_load0 (d := 0) hn)) (fun v h1 hq => ?_)
  obtain ⟨rfl, I1, rfl, hI1, h13, h10, h11⟩ := hq
  show Zs _ _ (am_P 133).2 (16, [(0, .ref 0), (1, .int v), (2, .int b)], []) (HH I1 J R T) _
  refine Z_jump 4 rfl ?_
  show Zs _ _ (am_P 133).2 (22, [(0, .ref 0), (1, .int v), (2, .int b)], [.long (Int32.toInt64 v), .ref 4]) (HH I1 J R T) _
  refine Z_cQ rfl rfl rfl (c_least0 (v := v.toInt64) h13 h10 h11) (fun v h1 hq => ?_)
  obtain ⟨rfl, I2, rfl, hI2⟩ := hq
  show Zs _ _ (am_P 133).2 (25, [(0, .ref 0), (1, .int v), (2, .int b)], [.int (if v.toInt64 = 0 then 0 else 1048576)]) (HH I2 J R T) _
  refine Z_jump 4 rfl ?_
  refine Z_bd (fun (c29 : (if v.toInt64 = 0 then 0 else 1048576) < (1048576 : Int32)) => ?_) (fun (c29 : ¬ ((if v.toInt64 = 0 then 0 else 1048576) < (1048576 : Int32))) => ?_)
  · refine Z_jump 1 rfl ?_
    show Zs _ _ (am_P 133).2 (37, [(0, .ref 0), (1, .int v), (2, .int b), (3, .int (if v.toInt64 = 0 then 0 else 1048576))], [.int (if v.toInt64 = 0 then 0 else 1048576)]) (HH I2 J R T) _
    refine Z_rI rfl (by first | exact am_nw0 _ | exact am_nw01 | rfl | assumption) ?_
    refine ⟨am_ii ?_, I2, rfl, fun c hc => by rw [hI2 c (by omega), hI1 c (by omega) (by omega) (by omega) (by omega) (by omega)]⟩
    by_cases z : v = 0
    · rw [if_pos (i64_0.mpr z)] at c29 ⊢; rw [if_pos z]
    · rw [if_neg (fun y => z (i64_0.mp y))] at c29; exact absurd c29 (by decide)
  · refine Z_jump 2 rfl ?_
    show Zs _ _ (am_P 133).2 (37, [(0, .ref 0), (1, .int v), (2, .int b), (3, .int (if v.toInt64 = 0 then 0 else 1048576))], [.int (-1 : Int32)]) (HH I2 J R T) _
    refine Z_rI rfl (by first | exact am_nw0 _ | exact am_nw01 | rfl | assumption) ?_
    refine ⟨am_ii ?_, I2, rfl, fun c hc => by rw [hI2 c (by omega), hI1 c (by omega) (by omega) (by omega) (by omega) (by omega)]⟩
    by_cases z : v = 0
    · rw [if_pos (i64_0.mpr z)] at c29; exact absurd (by decide) c29
    · rw [if_neg z]
theorem c_time0 {v : Int32} (hn : I 18 1 = 0) : Ze sc (d + 5) 107 [.ref 0, .int v] (HH I J R T) (C0p (.int (if M_num v then (if v = 0 then 0 else -1) else -3)) I J T) := by
  refine Ze_of (Nat.le_of_ble_eq_true rfl) ?_
  refine Z_jump 1 rfl ?_
  show Zs _ _ (am_P 107).2 (1, [(0, .ref 0), (1, .int v)], [.int v]) (HH I J R T) _
  refine Z_c1 rfl rfl rfl (c_isNumber) ?_
  show Zs _ _ (am_P 107).2 (4, [(0, .ref 0), (1, .int v)], [.int (if M_num v then 1 else 0)]) (HH I J R T) _
  refine Z_jump 1 rfl ?_
  refine Z_bd (fun (c4 : (if M_num v then 1 else 0) = (0 : Int32)) => ?_) (fun (c4 : ¬ ((if M_num v then 1 else 0) = (0 : Int32))) => ?_)
  · refine Z_jump 1 rfl ?_
    show Zs _ _ (am_P 107).2 (18, [(0, .ref 0), (1, .int v)], [.int (-3 : Int32)]) (HH I J R T) _
    refine Z_rI rfl (by first | exact am_nw0 _ | exact am_nw01 | rfl | assumption) ?_
    exact ⟨am_ii (if_neg (if10.mp c4)).symm, I, J, R, rfl, fun _ _ => rfl, fun _ _ => rfl⟩
  · refine Z_jump 3 rfl ?_
    show Zs _ _ (am_P 107).2 (10, [(0, .ref 0), (1, .int v)], [.int (0 : Int32), .int v, .ref 0]) (HH I J R T) _
    refine Z_cQ rfl rfl rfl (c_leastCost0 hn) (fun v h1 hq => ?_)
    obtain ⟨rfl, I1, rfl, hI1⟩ := hq
    show Zs _ _ (am_P 107).2 (13, [(0, .ref 0), (1, .int v)], [.int (if v = 0 then 0 else -1)]) (HH I1 J R T) _
    refine Z_jump 1 rfl ?_
    show Zs _ _ (am_P 107).2 (18, [(0, .ref 0), (1, .int v)], [.int (if v = 0 then 0 else -1)]) (HH I1 J R T) _
    refine Z_rI rfl (by first | exact am_nw0 _ | exact am_nw01 | rfl | assumption) ?_
    exact ⟨am_ii (if_pos (if10n c4)).symm, I1, J, R, rfl, hI1, fun _ _ => rfl⟩
theorem c_loosen0 {v : Int32} (hn : I 18 1 = 0) : Ze sc (d + 5) 111 [.ref 0, .int v] (HH I J R T) (C0p (.int (if M_num v then (if v = 0 then 0 else -1) else -3)) I J T) := by
  refine Ze_of (Nat.le_of_ble_eq_true rfl) ?_
  refine Z_jump 1 rfl ?_
  show Zs _ _ (am_P 111).2 (1, [(0, .ref 0), (1, .int v)], [.int v]) (HH I J R T) _
  refine Z_c1 rfl rfl rfl (c_isNumber) ?_
  show Zs _ _ (am_P 111).2 (4, [(0, .ref 0), (1, .int v)], [.int (if M_num v then 1 else 0)]) (HH I J R T) _
  refine Z_jump 1 rfl ?_
  refine Z_bn (fun (c4 : ¬ ((if M_num v then 1 else 0) = (0 : Int32))) => ?_) (fun (c4 : (if M_num v then 1 else 0) = (0 : Int32)) => ?_)
  · refine Z_jump 3 rfl ?_
    show Zs _ _ (am_P 111).2 (13, [(0, .ref 0), (1, .int v)], [.int (1 : Int32), .int v, .ref 0]) (HH I J R T) _
    refine Z_cQ rfl rfl rfl (c_leastCost0 hn) (fun v h1 hq => ?_)
    obtain ⟨rfl, I1, rfl, hI1⟩ := hq
    show Zs _ _ (am_P 111).2 (16, [(0, .ref 0), (1, .int v)], [.int (if v = 0 then 0 else -1)]) (HH I1 J R T) _
    refine Z_jump 4 rfl ?_
    refine Z_bn (fun (c19 : ¬ ((if v = 0 then 0 else -1) = (-1 : Int32))) => ?_) (fun (c19 : (if v = 0 then 0 else -1) = (-1 : Int32)) => ?_)
    · refine Z_jump 3 rfl ?_
      show Zs _ _ (am_P 111).2 (31, [(0, .ref 0), (1, .int v), (2, .int (if v = 0 then 0 else -1))], [.int ((if v = 0 then 0 else -1) &&& (4095 : Int32))]) (HH I1 J R T) _
      refine Z_rI rfl (by first | exact am_nw0 _ | exact am_nw01 | rfl | assumption) ?_
      refine ⟨am_ii ?_, I1, J, R, rfl, hI1, fun _ _ => rfl⟩
      rw [if_pos (if10n c4)]
      by_cases z : v = 0
      · rw [if_pos z]; decide
      · rw [if_neg z] at c19; exact absurd rfl c19
    · refine Z_jump 2 rfl ?_
      show Zs _ _ (am_P 111).2 (31, [(0, .ref 0), (1, .int v), (2, .int (if v = 0 then 0 else -1))], [.int (-1 : Int32)]) (HH I1 J R T) _
      refine Z_rI rfl (by first | exact am_nw0 _ | exact am_nw01 | rfl | assumption) ?_
      refine ⟨am_ii ?_, I1, J, R, rfl, hI1, fun _ _ => rfl⟩
      rw [if_pos (if10n c4)]
      by_cases z : v = 0
      · rw [if_pos z] at c19; exact absurd c19 (by decide)
      · rw [if_neg z]
  · refine Z_jump 1 rfl ?_
    show Zs _ _ (am_P 111).2 (9, [(0, .ref 0), (1, .int v)], [.int (-3 : Int32)]) (HH I J R T) _
    refine Z_rI rfl (by first | exact am_nw0 _ | exact am_nw01 | rfl | assumption) ?_
    exact ⟨am_ii (if_neg (if10.mp c4)).symm, I, J, R, rfl, fun _ _ => rfl, fun _ _ => rfl⟩
end C2

