/-! The class: standings; numbers; rods that are none. -/
abbrev isSt (a : Nat) : Prop := a ∈ [22, 25, 29, 32, 35, 39, 42, 45, 48, 51, 54, 57, 60, 64, 67]
theorem isSt_c {a : Nat} (h : isSt a) : a = 22 ∨ a = 25 ∨ a = 29 ∨ a = 32 ∨ a = 35 ∨ a = 39 ∨ a = 42 ∨ a = 45 ∨ a = 48 ∨ a = 51 ∨ a = 54 ∨ a = 57 ∨ a = 60 ∨ a = 64 ∨ a = 67 := by
  simpa [isSt] using h
theorem st_dis : ∀ a ∈ [22, 25, 29, 32, 35, 39, 42, 45, 48, 51, 54, 57, 60, 64, 67], ∀ b ∈ [22, 25, 29, 32, 35, 39, 42, 45, 48, 51, 54, 57, 60, 64, 67], a ≠ b → (b ≠ a + 1 ∧ b ≠ a + 2) ∧ (b + 1 ≠ a ∧ b + 1 ≠ a + 1 ∧ b + 1 ≠ a + 2) ∧ (b + 2 ≠ a ∧ b + 2 ≠ a + 1 ∧ b + 2 ≠ a + 2) := by decide
section C0
variable {sc : Nat × (Nat → Int32)} {d : Nat} {I : hI} {J : hJ} {R : hR} {T : am_H} {Q : Option Value → am_H → Prop} {code : List am_I}
theorem st_0 {a : Nat} (h : isSt a) : (HH I J R T)[a]? = some (.inr (5, [.ref (a + 1), .ref (a + 2), .int (I a 2), .int (I a 3)])) := by
  rcases isSt_c h with rfl | rfl | rfl | rfl | rfl | rfl | rfl | rfl | rfl | rfl | rfl | rfl | rfl | rfl | rfl <;> rfl
theorem st_1 {a : Nat} (h : isSt a) : (HH I J R T)[a + 1]? = some (.inl (0, 6, .inl (I (a + 1)))) := by
  rcases isSt_c h with rfl | rfl | rfl | rfl | rfl | rfl | rfl | rfl | rfl | rfl | rfl | rfl | rfl | rfl | rfl <;> rfl
theorem st_2 {a : Nat} (h : isSt a) : (HH I J R T)[a + 2]? = some (.inl (0, 6, .inl (I (a + 2)))) := by
  rcases isSt_c h with rfl | rfl | rfl | rfl | rfl | rfl | rfl | rfl | rfl | rfl | rfl | rfl | rfl | rfl | rfl <;> rfl
theorem st_s1 {a : Nat} (h : isSt a) (f : Nat → Int32) : (HH I J R T).set (a + 1) (.inl (0, 6, .inl f)) = HH (va_up I (a + 1) f) J R T := by
  rcases isSt_c h with rfl | rfl | rfl | rfl | rfl | rfl | rfl | rfl | rfl | rfl | rfl | rfl | rfl | rfl | rfl <;> rfl
theorem st_s2 {a : Nat} (h : isSt a) (f : Nat → Int32) : (HH I J R T).set (a + 2) (.inl (0, 6, .inl f)) = HH (va_up I (a + 2) f) J R T := by
  rcases isSt_c h with rfl | rfl | rfl | rfl | rfl | rfl | rfl | rfl | rfl | rfl | rfl | rfl | rfl | rfl | rfl <;> rfl
theorem st_f2 {a : Nat} (h : isSt a) (x : Int32) : (HH I J R T).set a (.inr (5, [.ref (a + 1), .ref (a + 2), .int x, .int (I a 3)])) = HH (sf I a 2 x) J R T := by
  rcases isSt_c h with rfl | rfl | rfl | rfl | rfl | rfl | rfl | rfl | rfl | rfl | rfl | rfl | rfl | rfl | rfl <;> rfl
theorem st_f3 {a : Nat} (h : isSt a) (x : Int32) : (HH I J R T).set a (.inr (5, [.ref (a + 1), .ref (a + 2), .int (I a 2), .int x])) = HH (sf I a 3 x) J R T := by
  rcases isSt_c h with rfl | rfl | rfl | rfl | rfl | rfl | rfl | rfl | rfl | rfl | rfl | rfl | rfl | rfl | rfl <;> rfl
theorem Z_pfS2 {a pc idx len : Nat} {cv : Value} {l : am_L} {st : List Value} {x : Int32} (h : isSt a) (ha : am_at code pc = some (pc, .putfield idx, len, [2, 0, 5], cv)) (k : Zs sc d code (pc + 3, l, st) (HH (sf I a 2 x) J R T) Q) : Zs sc d code (pc, l, .int x :: .ref a :: st) (HH I J R T) Q := by
  rw [← st_f2 h x] at k
  exact Z_lift (fun _ _ => S_pf ha (st_0 h) rfl) k
theorem Z_pfS3 {a pc idx len : Nat} {cv : Value} {l : am_L} {st : List Value} {x : Int32} (h : isSt a) (ha : am_at code pc = some (pc, .putfield idx, len, [3, 0, 5], cv)) (k : Zs sc d code (pc + 3, l, st) (HH (sf I a 3 x) J R T) Q) : Zs sc d code (pc, l, .int x :: .ref a :: st) (HH I J R T) Q := by
  rw [← st_f3 h x] at k
  exact Z_lift (fun _ _ => S_pf ha (st_0 h) rfl) k
theorem am_rdK {L i : Nat} {f : Nat → Int32} {x : Int32} (hx : x = nI i) (hi : i < L) (hL : L < 2 ^ 31) : am_rd L f x = f i := by
  rw [hx, am_rd_in (nI_pos (by omega)) (nI_ge hi hL), nI_clamp (by omega)]
theorem am_wrK {L i : Nat} {f : Nat → Int32} {x v : Int32} (hx : x = nI i) (hi : i < L) (hL : L < 2 ^ 31) : am_wr L f x v = va_up f i v := by
  rw [hx, am_wr_in (nI_pos (by omega)) (nI_ge hi hL), nI_clamp (by omega)]
  rfl
theorem k_at1 {a i : Nat} {x : Int32} (h : isSt a) (hx : x = nI i) (hi : i < 6) : am_E sc (d + 1) 25 [.ref (a + 1), .int x] (HH I J R T) (some (.int (I (a + 1) i))) (HH I J R T) := by
  rw [← am_rdK (f := I (a + 1)) hx hi (by decide)]
  exact k_at (st_1 h) (by decide)
theorem k_at2 {a i : Nat} {x : Int32} (h : isSt a) (hx : x = nI i) (hi : i < 6) : am_E sc (d + 1) 25 [.ref (a + 2), .int x] (HH I J R T) (some (.int (I (a + 2) i))) (HH I J R T) := by
  rw [← am_rdK (f := I (a + 2)) hx hi (by decide)]
  exact k_at (st_2 h) (by decide)
theorem k_put1 {a i : Nat} {x v : Int32} (h : isSt a) (hx : x = nI i) (hi : i < 6) : am_E sc (d + 1) 26 [.ref (a + 1), .int x, .int v] (HH I J R T) none (HH (sf I (a + 1) i v) J R T) := by
  have w := k_put (sc := sc) (d := d) (i := x) (v := v) (st_1 (I := I) (J := J) (R := R) (T := T) h) (by decide)
  rw [am_wrK hx hi (by decide), st_s1 h] at w
  exact w
theorem k_put2 {a i : Nat} {x v : Int32} (h : isSt a) (hx : x = nI i) (hi : i < 6) : am_E sc (d + 1) 26 [.ref (a + 2), .int x, .int v] (HH I J R T) none (HH (sf I (a + 2) i v) J R T) := by
  have w := k_put (sc := sc) (d := d) (i := x) (v := v) (st_2 (I := I) (J := J) (R := R) (T := T) h) (by decide)
  rw [am_wrK hx hi (by decide), st_s2 h] at w
  exact w
/-- Standing.copy -/
def SB (a b : Nat) (I0 : hI) (i : Nat) (I : hI) : Prop := (∀ c, c ≠ a + 1 → c ≠ a + 2 → I c = I0 c) ∧ ∀ k, k < i → I (a + 1) k = I0 (b + 1) k ∧ I (a + 2) k = I0 (b + 2) k
def CP (a b : Nat) (I0 I : hI) : Prop := (∀ c, c ≠ a → c ≠ a + 1 → c ≠ a + 2 → I c = I0 c) ∧ (∀ k, k < 6 → I (a + 1) k = I0 (b + 1) k ∧ I (a + 2) k = I0 (b + 2) k) ∧ I a 2 = I0 b 2 ∧ I a 3 = I0 b 3
theorem SB_s {a b i : Nat} {I0 I : hI} (ha : isSt a) (hb : isSt b) (hne : a ≠ b) (H : SB a b I0 i I) : SB a b I0 (i + 1) (sf (sf I (a + 1) i (I (b + 1) i)) (a + 2) i (sf I (a + 1) i (I (b + 1) i) (b + 2) i)) := by
  obtain ⟨⟨d1, d2⟩, ⟨d3, d4, d5⟩, d6, d7, d8⟩ := st_dis a ha b hb hne
  obtain ⟨H1, H2⟩ := H
  refine ⟨fun c h1 h2 => by rw [sf_c h2, sf_c h1]; exact H1 c h1 h2, fun k hk => ?_⟩
  by_cases e : k = i
  · subst e
    refine ⟨?_, ?_⟩
    · rw [sf_c (by omega), sf_s, H1 _ d4 d5]
    · rw [sf_s, sf_c d7, H1 _ d7 d8]
  · refine ⟨?_, ?_⟩
    · rw [sf_c (by omega), sf_k e]; exact (H2 k (by omega)).1
    · rw [sf_k e, sf_c (by omega)]; exact (H2 k (by omega)).2
theorem c_copy_l {a b : Nat} {I0 : hI} (ha : isSt a) (hb : isSt b) (hne : a ≠ b) (H : ∀ I, SB a b I0 6 I → Zs sc (d + 1) (am_P 33).2 (51, [(0, .ref a), (1, .ref b), (2, .int (nI 6))], []) (HH I J R T) Q) : ∀ (k i : Nat) (I : hI) (x : Int32), i + k = 6 → x = nI i → SB a b I0 i I → Zs sc (d + 1) (am_P 33).2 (7, [(0, .ref a), (1, .ref b), (2, .int x)], []) (HH I J R T) Q
  | 0, i, I, x, hi, hx, hR => by
    have e : i = 6 := by omega
    subst e
    subst hx
    refine Z_jump 3 rfl ?_
    refine Z_bd (fun c10 => ?_) (fun c10 => absurd ((show (6 : Int32) ≤ nI 6 by decide)) c10)
    show Zs _ _ (am_P 33).2 (51, [(0, .ref a), (1, .ref b), (2, .int (nI 6))], []) (HH I J R T) _
    exact H I hR
  | k + 1, i, I, x, hi, hx, hR => by
    refine Z_jump 3 rfl ?_
    refine Z_bd (fun c10 => absurd c10 ((show ¬ (6 : Int32) ≤ x by rw [hx]; exact nI_ge (b := 6) (by omega) (by omega)))) (fun c10 => ?_)
    refine Z_jump 1 rfl ?_
    show Zs _ _ (am_P 33).2 (14, [(0, .ref a), (1, .ref b), (2, .int x)], [.ref a]) (HH I J R T) _
    refine Z_gf rfl (st_0 ha) rfl rfl ?_
    refine Z_jump 2 rfl ?_
    show Zs _ _ (am_P 33).2 (19, [(0, .ref a), (1, .ref b), (2, .int x)], [.ref b, .int x, .ref (a + 1)]) (HH I J R T) _
    refine Z_gf rfl (st_0 hb) rfl rfl ?_
    refine Z_jump 1 rfl ?_
    show Zs _ _ (am_P 33).2 (23, [(0, .ref a), (1, .ref b), (2, .int x)], [.int x, .ref (b + 1), .int x, .ref (a + 1)]) (HH I J R T) _
    refine Z_c1 rfl rfl rfl (k_at1 hb hx (by omega)) ?_
    show Zs _ _ (am_P 33).2 (26, [(0, .ref a), (1, .ref b), (2, .int x)], [.int (I (b + 1) i), .int x, .ref (a + 1)]) (HH I J R T) _
    show Zs _ _ (am_P 33).2 (26, [(0, .ref a), (1, .ref b), (2, .int x)], [.int (I (b + 1) i), .int x, .ref (a + 1)]) (HH I J R T) _
    refine Z_c0 rfl rfl rfl (k_put1 ha hx (by omega)) ?_
    show Zs _ _ (am_P 33).2 (29, [(0, .ref a), (1, .ref b), (2, .int x)], []) (HH (sf I (a + 1) i (I (b + 1) i)) J R T) _
    refine Z_jump 1 rfl ?_
    show Zs _ _ (am_P 33).2 (30, [(0, .ref a), (1, .ref b), (2, .int x)], [.ref a]) (HH (sf I (a + 1) i (I (b + 1) i)) J R T) _
    refine Z_gf rfl (st_0 ha) rfl rfl ?_
    refine Z_jump 2 rfl ?_
    show Zs _ _ (am_P 33).2 (35, [(0, .ref a), (1, .ref b), (2, .int x)], [.ref b, .int x, .ref (a + 2)]) (HH (sf I (a + 1) i (I (b + 1) i)) J R T) _
    refine Z_gf rfl (st_0 hb) rfl rfl ?_
    refine Z_jump 1 rfl ?_
    show Zs _ _ (am_P 33).2 (39, [(0, .ref a), (1, .ref b), (2, .int x)], [.int x, .ref (b + 2), .int x, .ref (a + 2)]) (HH (sf I (a + 1) i (I (b + 1) i)) J R T) _
    refine Z_c1 rfl rfl rfl (k_at2 hb hx (by omega)) ?_
    show Zs _ _ (am_P 33).2 (42, [(0, .ref a), (1, .ref b), (2, .int x)], [.int ((sf I (a + 1) i (I (b + 1) i)) (b + 2) i), .int x, .ref (a + 2)]) (HH (sf I (a + 1) i (I (b + 1) i)) J R T) _
    show Zs _ _ (am_P 33).2 (42, [(0, .ref a), (1, .ref b), (2, .int x)], [.int ((sf I (a + 1) i (I (b + 1) i)) (b + 2) i), .int x, .ref (a + 2)]) (HH (sf I (a + 1) i (I (b + 1) i)) J R T) _
    refine Z_c0 rfl rfl rfl (k_put2 ha hx (by omega)) ?_
    show Zs _ _ (am_P 33).2 (45, [(0, .ref a), (1, .ref b), (2, .int x)], []) (HH (sf (sf I (a + 1) i (I (b + 1) i)) (a + 2) i ((sf I (a + 1) i (I (b + 1) i)) (b + 2) i)) J R T) _
    refine Z_jump 2 rfl ?_
    show Zs _ _ (am_P 33).2 (7, [(0, .ref a), (1, .ref b), (2, .int (x + 1))], []) (HH (sf (sf I (a + 1) i (I (b + 1) i)) (a + 2) i ((sf I (a + 1) i (I (b + 1) i)) (b + 2) i)) J R T) _
    exact c_copy_l ha hb hne H k (i + 1) _ _ (by omega) (by rw [hx]; exact nI_1 i) (SB_s ha hb hne hR)
theorem c_copy {a b : Nat} (ha : isSt a) (hb : isSt b) (hne : a ≠ b) : Ze sc (d + 2) 33 [.ref a, .ref b] (HH I J R T) (fun r h => r = none ∧ ∃ I', h = HH I' J R T ∧ CP a b I I') := by
  refine Ze_of (Nat.le_of_ble_eq_true rfl) ?_
  obtain ⟨⟨d1, d2⟩, ⟨d3, d4, d5⟩, d6, d7, d8⟩ := st_dis a ha b hb hne
  refine Z_jump 4 rfl ?_
  show Zs _ _ (am_P 33).2 (7, [(0, .ref a), (1, .ref b), (2, .int (0 : Int32))], []) (HH I J R T) _
  refine c_copy_l ha hb hne (fun I' hR => ?_) 6 0 _ _ (by omega) rfl ⟨fun _ _ _ => rfl, fun k hk => absurd hk (by omega)⟩
  refine Z_jump 2 rfl ?_
  show Zs _ _ (am_P 33).2 (53, [(0, .ref a), (1, .ref b), (2, .int (nI 6))], [.ref b, .ref a]) (HH I' J R T) _
  refine Z_gf rfl (st_0 hb) rfl rfl ?_
  show Zs _ _ (am_P 33).2 (56, [(0, .ref a), (1, .ref b), (2, .int (nI 6))], [.int (I' b 2), .ref a]) (HH I' J R T) _
  refine Z_pfS2 ha rfl ?_
  show Zs _ _ (am_P 33).2 (59, [(0, .ref a), (1, .ref b), (2, .int (nI 6))], []) (HH (sf I' a 2 (I' b 2)) J R T) _
  refine Z_jump 2 rfl ?_
  show Zs _ _ (am_P 33).2 (61, [(0, .ref a), (1, .ref b), (2, .int (nI 6))], [.ref b, .ref a]) (HH (sf I' a 2 (I' b 2)) J R T) _
  refine Z_gf rfl (st_0 hb) rfl rfl ?_
  show Zs _ _ (am_P 33).2 (64, [(0, .ref a), (1, .ref b), (2, .int (nI 6))], [.int (sf I' a 2 (I' b 2) b 3), .ref a]) (HH (sf I' a 2 (I' b 2)) J R T) _
  refine Z_pfS3 ha rfl ?_
  show Zs _ _ (am_P 33).2 (67, [(0, .ref a), (1, .ref b), (2, .int (nI 6))], []) (HH (sf (sf I' a 2 (I' b 2)) a 3 (sf I' a 2 (I' b 2) b 3)) J R T) _
  show Zs _ _ (am_P 33).2 (67, [(0, .ref a), (1, .ref b), (2, .int (nI 6))], []) (HH (sf (sf I' a 2 (I' b 2)) a 3 (sf I' a 2 (I' b 2) b 3)) J R T) _
  refine Z_ret rfl rfl rfl ?_
  refine ⟨rfl, _, rfl, fun c h1 h2 h3 => ?_, fun k hk => ?_, ?_, ?_⟩
  · rw [sf_c h1, sf_c h1]; exact hR.1 c h2 h3
  · rw [sf_c (by omega), sf_c (by omega), sf_c (by omega), sf_c (by omega)]; exact hR.2 k hk
  · rw [sf_k (by decide), sf_s, hR.1 b d1 d2]
  · rw [sf_s, sf_c (Ne.symm hne), hR.1 b d1 d2]
theorem c_spend {a : Nat} {t : Int32} (ha : isSt a) : am_E sc (d + 1) 40 [.ref a, .int t] (HH I J R T) none (HH (sf I a 3 (if (1000000 : Int32) < I a 3 + t then 1000000 else I a 3 + t)) J R T) := by
  refine E_Z (Ze_of (Nat.le_of_ble_eq_true rfl) ?_)
  refine Z_jump 2 rfl ?_
  show Zs _ _ (am_P 40).2 (2, [(0, .ref a), (1, .int t)], [.ref a, .ref a]) (HH I J R T) _
  refine Z_gf rfl (st_0 ha) rfl rfl ?_
  refine Z_jump 4 rfl ?_
  show Zs _ _ (am_P 40).2 (12, [(0, .ref a), (1, .int t)], [.int (if (1000000 : Int32) < ((I a 3) + t) then (1000000 : Int32) else ((I a 3) + t)), .ref a]) (HH I J R T) _
  refine Z_pfS3 ha rfl ?_
  show Zs _ _ (am_P 40).2 (15, [(0, .ref a), (1, .int t)], []) (HH (sf I a 3 (if (1000000 : Int32) < ((I a 3) + t) then (1000000 : Int32) else ((I a 3) + t))) J R T) _
  show Zs _ _ (am_P 40).2 (15, [(0, .ref a), (1, .int t)], []) (HH (sf I a 3 (if (1000000 : Int32) < ((I a 3) + t) then (1000000 : Int32) else ((I a 3) + t))) J R T) _
  refine Z_ret rfl rfl rfl ?_
  exact ⟨rfl, rfl⟩
theorem c_isNumber {v : Int32} : am_E sc (d + 1) 119 [.int v] (HH I J R T) (some (.int (if M_num v then 1 else 0))) (HH I J R T) := by
  refine E_Z (Ze_of (Nat.le_of_ble_eq_true rfl) ?_)
  have z0 : (0 : Int32).toInt = 0 := rfl
  have z1 : (1000000000 : Int32).toInt = 1000000000 := rfl
  refine Z_jump 2 rfl ?_
  refine Z_bd (fun (c1 : v < (0 : Int32)) => ?_) (fun (c1 : ¬ (v < (0 : Int32))) => ?_)
  · refine Z_jump 1 rfl ?_
    show Zs _ _ (am_P 119).2 (16, [(0, .int v)], [.int (0 : Int32)]) (HH I J R T) _
    refine Z_rI rfl (by first | exact am_nw0 _ | exact am_nw01 | rfl | assumption) ?_
    rw [fi_lt, z0] at c1
    exact ⟨am_ii (if_neg (by omega)).symm, rfl⟩
  · refine Z_jump 3 rfl ?_
    refine Z_bd (fun (c8 : (1000000000 : Int32) < v) => ?_) (fun (c8 : ¬ ((1000000000 : Int32) < v)) => ?_)
    · refine Z_jump 1 rfl ?_
      show Zs _ _ (am_P 119).2 (16, [(0, .int v)], [.int (0 : Int32)]) (HH I J R T) _
      refine Z_rI rfl (by first | exact am_nw0 _ | exact am_nw01 | rfl | assumption) ?_
      rw [fi_lt, z1] at c8
      exact ⟨am_ii (if_neg (by omega)).symm, rfl⟩
    · refine Z_jump 2 rfl ?_
      show Zs _ _ (am_P 119).2 (16, [(0, .int v)], [.int (1 : Int32)]) (HH I J R T) _
      refine Z_rI rfl (by first | exact am_nw0 _ | exact am_nw01 | rfl | assumption) ?_
      rw [fi_lt, z1] at c8
      rw [fi_lt, z0] at c1
      exact ⟨am_ii (if_pos (by omega)).symm, rfl⟩
theorem c_isOfTour {v : Int32} : am_E sc (d + 1) 120 [.int v] (HH I J R T) (some (.int (if M_mil v then 1 else 0))) (HH I J R T) := by
  refine E_Z (Ze_of (Nat.le_of_ble_eq_true rfl) ?_)
  have z0 : (0 : Int32).toInt = 0 := rfl
  have z1 : (1000000 : Int32).toInt = 1000000 := rfl
  refine Z_jump 2 rfl ?_
  refine Z_bd (fun (c1 : v < (0 : Int32)) => ?_) (fun (c1 : ¬ (v < (0 : Int32))) => ?_)
  · refine Z_jump 1 rfl ?_
    show Zs _ _ (am_P 120).2 (16, [(0, .int v)], [.int (0 : Int32)]) (HH I J R T) _
    refine Z_rI rfl (by first | exact am_nw0 _ | exact am_nw01 | rfl | assumption) ?_
    rw [fi_lt, z0] at c1
    exact ⟨am_ii (if_neg (by omega)).symm, rfl⟩
  · refine Z_jump 3 rfl ?_
    refine Z_bd (fun (c8 : (1000000 : Int32) < v) => ?_) (fun (c8 : ¬ ((1000000 : Int32) < v)) => ?_)
    · refine Z_jump 1 rfl ?_
      show Zs _ _ (am_P 120).2 (16, [(0, .int v)], [.int (0 : Int32)]) (HH I J R T) _
      refine Z_rI rfl (by first | exact am_nw0 _ | exact am_nw01 | rfl | assumption) ?_
      rw [fi_lt, z1] at c8
      exact ⟨am_ii (if_neg (by omega)).symm, rfl⟩
    · refine Z_jump 2 rfl ?_
      show Zs _ _ (am_P 120).2 (16, [(0, .int v)], [.int (1 : Int32)]) (HH I J R T) _
      refine Z_rI rfl (by first | exact am_nw0 _ | exact am_nw01 | rfl | assumption) ?_
      rw [fi_lt, z1] at c8
      rw [fi_lt, z0] at c1
      exact ⟨am_ii (if_pos (by omega)).symm, rfl⟩
theorem c_isPart {v : Int32} : am_E sc (d + 1) 118 [.int v] (HH I J R T) (some (.int (if v = 0 ∨ v = 1 then 1 else 0))) (HH I J R T) := by
  refine E_Z (Ze_of (Nat.le_of_ble_eq_true rfl) ?_)
  refine Z_jump 2 rfl ?_
  refine Z_bd (fun (c1 : v = (0 : Int32)) => ?_) (fun (c1 : ¬ (v = (0 : Int32))) => ?_)
  · refine Z_jump 2 rfl ?_
    show Zs _ _ (am_P 118).2 (14, [(0, .int v)], [.int (1 : Int32)]) (HH I J R T) _
    refine Z_rI rfl (by first | exact am_nw0 _ | exact am_nw01 | rfl | assumption) ?_
    exact ⟨am_ii (if_pos (Or.inl c1)).symm, rfl⟩
  · refine Z_jump 3 rfl ?_
    refine Z_bn (fun (c6 : ¬ (v = (1 : Int32))) => ?_) (fun (c6 : v = (1 : Int32)) => ?_)
    · refine Z_jump 1 rfl ?_
      show Zs _ _ (am_P 118).2 (14, [(0, .int v)], [.int (0 : Int32)]) (HH I J R T) _
      refine Z_rI rfl (by first | exact am_nw0 _ | exact am_nw01 | rfl | assumption) ?_
      exact ⟨am_ii (if_neg (fun z => z.elim c1 c6)).symm, rfl⟩
    · refine Z_jump 2 rfl ?_
      show Zs _ _ (am_P 118).2 (14, [(0, .int v)], [.int (1 : Int32)]) (HH I J R T) _
      refine Z_rI rfl (by first | exact am_nw0 _ | exact am_nw01 | rfl | assumption) ?_
      exact ⟨am_ii (if_pos (Or.inr c6)).symm, rfl⟩
/-- a rod that is not there -/
theorem c_rodAt_no {n : Nat} {i : Int32} (hn : I 18 1 = nI n) (h6 : n ≤ 6) (hr : ¬ M_rod n i) : am_E sc (d + 1) 4 [.ref 18, .int i] (HH I J R T) (some .null) (HH I J R T) := by
  refine E_Z (Ze_of (Nat.le_of_ble_eq_true rfl) ?_)
  refine Z_jump 2 rfl ?_
  refine Z_bd (fun (c1 : i < (0 : Int32)) => ?_) (fun (c1 : ¬ (i < (0 : Int32))) => ?_)
  · refine Z_jump 1 rfl ?_
    show Zs _ _ (am_P 4).2 (31, [(0, .ref 18), (1, .int i)], [.null]) (HH I J R T) _
    refine Z_ret rfl rfl rfl ?_
    exact ⟨rfl, rfl⟩
  · refine Z_jump 4 rfl ?_
    refine Z_bd (fun c9 => ?_) (fun c9 => absurd ((show I 18 1 ≤ i by rw [hn, fi_le, nI_toInt (by omega)]; rw [fi_lt] at c1; have z0 : (0 : Int32).toInt = 0 := rfl; omega)) c9)
    refine Z_jump 1 rfl ?_
    show Zs _ _ (am_P 4).2 (31, [(0, .ref 18), (1, .int i)], [.null]) (HH I J R T) _
    refine Z_ret rfl rfl rfl ?_
    exact ⟨rfl, rfl⟩
end C0

