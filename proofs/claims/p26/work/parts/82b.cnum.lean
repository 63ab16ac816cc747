/-! The class's text: numbers. -/
section CTZ
variable {sc : Nat × (Nat → Int32)} {d : Nat} {I : hI} {J : hJ} {R : hR} {T : am_H} {h : am_H} {Q : Option Value → am_H → Prop} {tx : Nat → Nat} {c : Nat}
/-- a number that fits -/
abbrev TN (tx : Nat → Nat) (c s md : Nat) (lo hi : Int) : Prop := dg tx c s ∧ tE tx c s - s ≤ md ∧ lo ≤ (nv tx s (tE tx c s) : Int) ∧ (nv tx s (tE tx c s) : Int) ≤ hi
theorem tE_D {s : Nat} (hd : dg tx c s) : tE tx c s = ru pDb tx c (s + 1) := by
  unfold tE
  rw [if_pos hd.1, if_neg (by have := hd.2; omega), if_pos hd.2]
theorem dgs {s j : Nat} (hd : dg tx c s) (h1 : s ≤ j) (h2 : j < tE tx c s) : pD (tx j) := by
  by_cases e : j = s
  · rw [e]; exact hd.2
  · rw [tE_D hd] at h2
    exact of_decide_eq_true (ru_all (p := pDb) (show s + 1 ≤ j by omega) h2)
theorem nv_lt {s md : Nat} (hd : dg tx c s) (hm : tE tx c s - s ≤ md) (h7 : md ≤ 7) : nv tx s (tE tx c s) < 10000000 := by
  unfold nv
  refine Nat.lt_of_lt_of_le (nvl_lt tx (tE tx c s - s) s 0 (fun j h1 h2 => dgs hd h1 (by omega))) ?_
  have : 10 ^ (tE tx c s - s) ≤ 10 ^ 7 := Nat.pow_le_pow_right (by omega) (by omega)
  omega
theorem dig10 {a t : Nat} (h : 48 ≤ t) : nI a * 10 + (nI t - 48) = nI (a * 10 + (t - 48)) := by
  rw [show nI t - 48 = nI (t - 48) from nI_subI h, ← nI_add]
  congr 1
  exact (Int32.ofNat_mul a 10).symm
theorem c_take_l {s e : Nat} {m lo hi : Int32} (hK : CTK tx c s I) (he : e = tE tx c s) (hd : dg tx c s) : ∀ (k i a : Nat) (x : Int32), i + k = e → s ≤ i → x = nI i → Zs sc (d + 2) (am_P 62).2 (80, [(0, .ref 1), (1, .int m), (2, .int lo), (3, .int hi), (4, .int 1), (5, .int (nI (nvl tx i a k))), (6, .int (nI e))], []) (HH I J R T) Q → Zs sc (d + 2) (am_P 62).2 (43, [(0, .ref 1), (1, .int m), (2, .int lo), (3, .int hi), (4, .int 1), (5, .int (nI a)), (6, .int x)], []) (HH I J R T) Q
  | 0, i, a, x, hk, hsi, hx, K => by
    have hc := hK.1.2.1
    have hE := tE_c (tx := tx) hK.2.1
    have e1 : i = e := by omega
    subst e1
    rw [← hx] at K
    refine Z_jump 4 rfl ?_
    refine Z_bd (fun c49 => ?_) (fun c49 => absurd ((show I 1 4 ≤ x by rw [hK.2.2.2.1, hx]; exact nI_le (by omega) (by omega))) c49)
    show Zs _ _ (am_P 62).2 (80, [(0, .ref 1), (1, .int m), (2, .int lo), (3, .int hi), (4, .int (1 : Int32)), (5, .int (nI a)), (6, .int x)], []) (HH I J R T) _
    exact K
  | k + 1, i, a, x, hk, hsi, hx, K => by
    have hc := hK.1.2.1
    have hE := tE_c (tx := tx) hK.2.1
    have hic : i < c := by omega
    have hp := dgs (j := i) hd hsi (by omega)
    have ea : nI a * 10 + (I 2 i - 48) = nI (a * 10 + (tx i - 48)) := by rw [hK.1.2.2.1 i hic]; exact dig10 hp.1
    refine Z_jump 4 rfl ?_
    refine Z_bd (fun c49 => absurd c49 ((show ¬ I 1 4 ≤ x by rw [hK.2.2.2.1, hx]; exact nI_ge (by omega) (by omega)))) (fun c49 => ?_)
    refine Z_jump 7 rfl ?_
    show Zs _ _ (am_P 62).2 (65, [(0, .ref 1), (1, .int m), (2, .int lo), (3, .int hi), (4, .int (1 : Int32)), (5, .int (nI a)), (6, .int x)], [.int x, .ref 1, .int ((nI a) * (10 : Int32))]) (HH I J R T) _
    refine Z_c1 rfl rfl rfl (c_letterAt hx (by omega)) ?_
    show Zs _ _ (am_P 62).2 (68, [(0, .ref 1), (1, .int m), (2, .int lo), (3, .int hi), (4, .int (1 : Int32)), (5, .int (nI a)), (6, .int x)], [.int (I 2 i), .int ((nI a) * (10 : Int32))]) (HH I J R T) _
    refine Z_jump 3 rfl ?_
    show Zs _ _ (am_P 62).2 (72, [(0, .ref 1), (1, .int m), (2, .int lo), (3, .int hi), (4, .int (1 : Int32)), (5, .int (nI a)), (6, .int x)], [.int (((nI a) * (10 : Int32)) + ((I 2 i) - (48 : Int32)))]) (HH I J R T) _
    refine Z_eqI (ea) ?_
    show Zs _ _ (am_P 62).2 (72, [(0, .ref 1), (1, .int m), (2, .int lo), (3, .int hi), (4, .int (1 : Int32)), (5, .int (nI a)), (6, .int x)], [.int (nI (a * 10 + (tx i - 48)))]) (HH I J R T) _
    refine Z_jump 3 rfl ?_
    show Zs _ _ (am_P 62).2 (43, [(0, .ref 1), (1, .int m), (2, .int lo), (3, .int hi), (4, .int (1 : Int32)), (5, .int (nI (a * 10 + (tx i - 48)))), (6, .int (x + 1))], []) (HH I J R T) _
    exact c_take_l hK he hd k (i + 1) (a * 10 + (tx i - 48)) _ (by omega) (by omega) (by rw [hx]; exact nI_1 i) K
/-- what takeNumber leaves, from a sound text -/
def TNq (tx : Nat → Nat) (c s md : Nat) (lo hi : Int) (I : hI) (J : hJ) (R : hR) (T : am_H) (r : Option Value) (h : am_H) : Prop :=
  (TN tx c s md lo hi ∧ r = some (.int (nI (nv tx s (tE tx c s)))) ∧ ∃ I', h = HH I' J R T ∧ CTK tx c (tS tx c (tE tx c s)) I' ∧ CTo I I' ∧ I' 1 2 = -1) ∨ (¬ TN tx c s md lo hi ∧ r = some (.int 0) ∧ h = HH (sf I 1 2 (nI s)) J R T)
theorem c_take {s md : Nat} {m lo hi : Int32} (hK : CTK tx c s I) (h2 : I 1 2 = -1) (hm : m = nI md) (h7 : md ≤ 7) : Ze sc (d + 3) 62 [.ref 1, .int m, .int lo, .int hi] (HH I J R T) (TNq tx c s md lo.toInt hi.toInt I J R T) := by
  refine Ze_of (Nat.le_of_ble_eq_true rfl) ?_
  have hc := hK.1.2.1
  have hE := tE_c (tx := tx) hK.2.1
  have e22 : I 1 4 - I 1 3 = nI (tE tx c s - s) := by rw [hK.2.2.1, hK.2.2.2.1]; exact nI_subI hE.1
  have e24 : m < nI (tE tx c s - s) ↔ md < tE tx c s - s := by rw [hm]; exact nI_ltI (by omega) (by omega)
  have hf : am_E sc (d + 2) 58 [.ref 1] (HH I J R T) none (HH (sf I 1 2 (nI s)) J R T) := by
    have w := c_fail (sc := sc) (d := d + 1) (J := J) (R := R) (T := T) hK.2.2.1
    rw [if_pos h2] at w
    exact w
  have hso : am_E sc (d + 2) 57 [.ref 1] (HH I J R T) (some (.int 1)) (HH I J R T) := by
    have w := c_isSound (sc := sc) (d := d + 1) (I := I) (J := J) (R := R) (T := T)
    rw [if_pos h2] at w
    exact w
  by_cases hd : dg tx c s
  · by_cases hmd : tE tx c s - s ≤ md
    · have hlt := nv_lt hd hmd h7
      have en : (nI (nv tx s (tE tx c s))).toInt = (nv tx s (tE tx c s) : Int) := nI_toInt (by omega)
      refine Z_jump 1 rfl ?_
      show Zs _ _ (am_P 62).2 (1, [(0, .ref 1), (1, .int m), (2, .int lo), (3, .int hi)], [.ref 1]) (HH I J R T) _
      refine Z_c1 rfl rfl rfl (hso) ?_
      show Zs _ _ (am_P 62).2 (4, [(0, .ref 1), (1, .int m), (2, .int lo), (3, .int hi)], [.int (1 : Int32)]) (HH I J R T) _
      refine Z_jump 3 rfl ?_
      show Zs _ _ (am_P 62).2 (11, [(0, .ref 1), (1, .int m), (2, .int lo), (3, .int hi)], [.int (I 1 5)]) (HH I J R T) _
      refine Z_eqI ((hK.2.2.2.2).trans (if_pos hd)) ?_
      show Zs _ _ (am_P 62).2 (11, [(0, .ref 1), (1, .int m), (2, .int lo), (3, .int hi)], [.int (1 : Int32)]) (HH I J R T) _
      refine Z_jump 6 rfl ?_
      show Zs _ _ (am_P 62).2 (23, [(0, .ref 1), (1, .int m), (2, .int lo), (3, .int hi)], [.int ((I 1 4) - (I 1 3))]) (HH I J R T) _
      refine Z_eqI (e22) ?_
      show Zs _ _ (am_P 62).2 (23, [(0, .ref 1), (1, .int m), (2, .int lo), (3, .int hi)], [.int (nI (tE tx c s - s))]) (HH I J R T) _
      refine Z_jump 2 rfl ?_
      refine Z_bd (fun c24 => absurd c24 ((fun z => absurd (e24.mp z) (by omega)))) (fun c24 => ?_)
      refine Z_jump 8 rfl ?_
      show Zs _ _ (am_P 62).2 (43, [(0, .ref 1), (1, .int m), (2, .int lo), (3, .int hi), (4, .int (1 : Int32)), (5, .int (0 : Int32)), (6, .int (I 1 3))], []) (HH I J R T) _
      refine c_take_l (a := 0) hK rfl hd (tE tx c s - s) s _ (by omega) (Nat.le_refl s) hK.2.2.1 ?_
      refine Z_jump 5 rfl ?_
      refine Z_bd (fun (c88 : (nI (nv tx s (tE tx c s))) < lo) => ?_) (fun (c88 : ¬ ((nI (nv tx s (tE tx c s))) < lo)) => ?_)
      · refine Z_jump 1 rfl ?_
        show Zs _ _ (am_P 62).2 (98, [(0, .ref 1), (1, .int m), (2, .int lo), (3, .int hi), (4, .int (1 : Int32)), (5, .int (nI (nv tx s (tE tx c s)))), (6, .int (nI (tE tx c s)))], [.ref 1]) (HH I J R T) _
        refine Z_c0 rfl rfl rfl (hf) ?_
        show Zs _ _ (am_P 62).2 (101, [(0, .ref 1), (1, .int m), (2, .int lo), (3, .int hi), (4, .int (1 : Int32)), (5, .int (nI (nv tx s (tE tx c s)))), (6, .int (nI (tE tx c s)))], []) (HH (sf I 1 2 (nI s)) J R T) _
        refine Z_jump 1 rfl ?_
        show Zs _ _ (am_P 62).2 (102, [(0, .ref 1), (1, .int m), (2, .int lo), (3, .int hi), (4, .int (1 : Int32)), (5, .int (nI (nv tx s (tE tx c s)))), (6, .int (nI (tE tx c s)))], [.int (0 : Int32)]) (HH (sf I 1 2 (nI s)) J R T) _
        refine Z_rI rfl (by first | exact am_nw0 _ | exact am_nw01 | rfl | assumption) ?_
        rw [fi_lt, en] at c88
        exact Or.inr ⟨fun z => by have := z.2.2.1; omega, rfl, rfl⟩
      · refine Z_jump 3 rfl ?_
        refine Z_bd (fun (c94 : (nI (nv tx s (tE tx c s))) ≤ hi) => ?_) (fun (c94 : ¬ ((nI (nv tx s (tE tx c s))) ≤ hi)) => ?_)
        · refine Z_jump 1 rfl ?_
          show Zs _ _ (am_P 62).2 (104, [(0, .ref 1), (1, .int m), (2, .int lo), (3, .int hi), (4, .int (1 : Int32)), (5, .int (nI (nv tx s (tE tx c s)))), (6, .int (nI (tE tx c s)))], [.ref 1]) (HH I J R T) _
          refine Z_cQ rfl rfl rfl (c_stepQ hK) (fun v h1 hq => ?_)
          obtain ⟨rfl, I', rfl, h3, h4, h5⟩ := hq
          show Zs _ _ (am_P 62).2 (107, [(0, .ref 1), (1, .int m), (2, .int lo), (3, .int hi), (4, .int (1 : Int32)), (5, .int (nI (nv tx s (tE tx c s)))), (6, .int (nI (tE tx c s)))], []) (HH I' J R T) _
          refine Z_jump 1 rfl ?_
          show Zs _ _ (am_P 62).2 (109, [(0, .ref 1), (1, .int m), (2, .int lo), (3, .int hi), (4, .int (1 : Int32)), (5, .int (nI (nv tx s (tE tx c s)))), (6, .int (nI (tE tx c s)))], [.int (nI (nv tx s (tE tx c s)))]) (HH I' J R T) _
          refine Z_rI rfl (by first | exact am_nw0 _ | exact am_nw01 | rfl | assumption) ?_
          rw [fi_lt, en] at c88
          rw [fi_le, en] at c94
          exact Or.inl ⟨⟨hd, hmd, by omega, c94⟩, rfl, I', rfl, h3, h4, h5.trans h2⟩
        · refine Z_jump 1 rfl ?_
          show Zs _ _ (am_P 62).2 (98, [(0, .ref 1), (1, .int m), (2, .int lo), (3, .int hi), (4, .int (1 : Int32)), (5, .int (nI (nv tx s (tE tx c s)))), (6, .int (nI (tE tx c s)))], [.ref 1]) (HH I J R T) _
          refine Z_c0 rfl rfl rfl (hf) ?_
          show Zs _ _ (am_P 62).2 (101, [(0, .ref 1), (1, .int m), (2, .int lo), (3, .int hi), (4, .int (1 : Int32)), (5, .int (nI (nv tx s (tE tx c s)))), (6, .int (nI (tE tx c s)))], []) (HH (sf I 1 2 (nI s)) J R T) _
          refine Z_jump 1 rfl ?_
          show Zs _ _ (am_P 62).2 (102, [(0, .ref 1), (1, .int m), (2, .int lo), (3, .int hi), (4, .int (1 : Int32)), (5, .int (nI (nv tx s (tE tx c s)))), (6, .int (nI (tE tx c s)))], [.int (0 : Int32)]) (HH (sf I 1 2 (nI s)) J R T) _
          refine Z_rI rfl (by first | exact am_nw0 _ | exact am_nw01 | rfl | assumption) ?_
          rw [fi_le, en] at c94
          exact Or.inr ⟨fun z => c94 z.2.2.2, rfl, rfl⟩
    · refine Z_jump 1 rfl ?_
      show Zs _ _ (am_P 62).2 (1, [(0, .ref 1), (1, .int m), (2, .int lo), (3, .int hi)], [.ref 1]) (HH I J R T) _
      refine Z_c1 rfl rfl rfl (hso) ?_
      show Zs _ _ (am_P 62).2 (4, [(0, .ref 1), (1, .int m), (2, .int lo), (3, .int hi)], [.int (1 : Int32)]) (HH I J R T) _
      refine Z_jump 3 rfl ?_
      show Zs _ _ (am_P 62).2 (11, [(0, .ref 1), (1, .int m), (2, .int lo), (3, .int hi)], [.int (I 1 5)]) (HH I J R T) _
      refine Z_eqI ((hK.2.2.2.2).trans (if_pos hd)) ?_
      show Zs _ _ (am_P 62).2 (11, [(0, .ref 1), (1, .int m), (2, .int lo), (3, .int hi)], [.int (1 : Int32)]) (HH I J R T) _
      refine Z_jump 6 rfl ?_
      show Zs _ _ (am_P 62).2 (23, [(0, .ref 1), (1, .int m), (2, .int lo), (3, .int hi)], [.int ((I 1 4) - (I 1 3))]) (HH I J R T) _
      refine Z_eqI (e22) ?_
      show Zs _ _ (am_P 62).2 (23, [(0, .ref 1), (1, .int m), (2, .int lo), (3, .int hi)], [.int (nI (tE tx c s - s))]) (HH I J R T) _
      refine Z_jump 2 rfl ?_
      refine Z_bd (fun c24 => ?_) (fun c24 => absurd ((e24.mpr (by omega))) c24)
      refine Z_jump 11 rfl ?_
      refine Z_bd (fun (c49 : (I 1 4) ≤ (I 1 3)) => ?_) (fun (c49 : ¬ ((I 1 4) ≤ (I 1 3))) => ?_)
      · refine Z_jump 3 rfl ?_
        show Zs _ _ (am_P 62).2 (98, [(0, .ref 1), (1, .int m), (2, .int lo), (3, .int hi), (4, .int (0 : Int32)), (5, .int (0 : Int32)), (6, .int (I 1 3))], [.ref 1]) (HH I J R T) _
        refine Z_c0 rfl rfl rfl (hf) ?_
        show Zs _ _ (am_P 62).2 (101, [(0, .ref 1), (1, .int m), (2, .int lo), (3, .int hi), (4, .int (0 : Int32)), (5, .int (0 : Int32)), (6, .int (I 1 3))], []) (HH (sf I 1 2 (nI s)) J R T) _
        refine Z_jump 1 rfl ?_
        show Zs _ _ (am_P 62).2 (102, [(0, .ref 1), (1, .int m), (2, .int lo), (3, .int hi), (4, .int (0 : Int32)), (5, .int (0 : Int32)), (6, .int (I 1 3))], [.int (0 : Int32)]) (HH (sf I 1 2 (nI s)) J R T) _
        refine Z_rI rfl (by first | exact am_nw0 _ | exact am_nw01 | rfl | assumption) ?_
        exact Or.inr ⟨fun z => hmd z.2.1, rfl, rfl⟩
      · refine Z_jump 5 rfl ?_
        show Zs _ _ (am_P 62).2 (98, [(0, .ref 1), (1, .int m), (2, .int lo), (3, .int hi), (4, .int (0 : Int32)), (5, .int (0 : Int32)), (6, .int (I 1 3))], [.ref 1]) (HH I J R T) _
        refine Z_c0 rfl rfl rfl (hf) ?_
        show Zs _ _ (am_P 62).2 (101, [(0, .ref 1), (1, .int m), (2, .int lo), (3, .int hi), (4, .int (0 : Int32)), (5, .int (0 : Int32)), (6, .int (I 1 3))], []) (HH (sf I 1 2 (nI s)) J R T) _
        refine Z_jump 1 rfl ?_
        show Zs _ _ (am_P 62).2 (102, [(0, .ref 1), (1, .int m), (2, .int lo), (3, .int hi), (4, .int (0 : Int32)), (5, .int (0 : Int32)), (6, .int (I 1 3))], [.int (0 : Int32)]) (HH (sf I 1 2 (nI s)) J R T) _
        refine Z_rI rfl (by first | exact am_nw0 _ | exact am_nw01 | rfl | assumption) ?_
        exact Or.inr ⟨fun z => hmd z.2.1, rfl, rfl⟩
  · refine Z_jump 1 rfl ?_
    show Zs _ _ (am_P 62).2 (1, [(0, .ref 1), (1, .int m), (2, .int lo), (3, .int hi)], [.ref 1]) (HH I J R T) _
    refine Z_c1 rfl rfl rfl (hso) ?_
    show Zs _ _ (am_P 62).2 (4, [(0, .ref 1), (1, .int m), (2, .int lo), (3, .int hi)], [.int (1 : Int32)]) (HH I J R T) _
    refine Z_jump 3 rfl ?_
    show Zs _ _ (am_P 62).2 (11, [(0, .ref 1), (1, .int m), (2, .int lo), (3, .int hi)], [.int (I 1 5)]) (HH I J R T) _
    refine Z_eqI ((hK.2.2.2.2).trans (if_neg hd)) ?_
    show Zs _ _ (am_P 62).2 (11, [(0, .ref 1), (1, .int m), (2, .int lo), (3, .int hi)], [.int (0 : Int32)]) (HH I J R T) _
    refine Z_jump 12 rfl ?_
    refine Z_bd (fun (c49 : (I 1 4) ≤ (I 1 3)) => ?_) (fun (c49 : ¬ ((I 1 4) ≤ (I 1 3))) => ?_)
    · refine Z_jump 3 rfl ?_
      show Zs _ _ (am_P 62).2 (98, [(0, .ref 1), (1, .int m), (2, .int lo), (3, .int hi), (4, .int (0 : Int32)), (5, .int (0 : Int32)), (6, .int (I 1 3))], [.ref 1]) (HH I J R T) _
      refine Z_c0 rfl rfl rfl (hf) ?_
      show Zs _ _ (am_P 62).2 (101, [(0, .ref 1), (1, .int m), (2, .int lo), (3, .int hi), (4, .int (0 : Int32)), (5, .int (0 : Int32)), (6, .int (I 1 3))], []) (HH (sf I 1 2 (nI s)) J R T) _
      refine Z_jump 1 rfl ?_
      show Zs _ _ (am_P 62).2 (102, [(0, .ref 1), (1, .int m), (2, .int lo), (3, .int hi), (4, .int (0 : Int32)), (5, .int (0 : Int32)), (6, .int (I 1 3))], [.int (0 : Int32)]) (HH (sf I 1 2 (nI s)) J R T) _
      refine Z_rI rfl (by first | exact am_nw0 _ | exact am_nw01 | rfl | assumption) ?_
      exact Or.inr ⟨fun z => hd z.1, rfl, rfl⟩
    · refine Z_jump 5 rfl ?_
      show Zs _ _ (am_P 62).2 (98, [(0, .ref 1), (1, .int m), (2, .int lo), (3, .int hi), (4, .int (0 : Int32)), (5, .int (0 : Int32)), (6, .int (I 1 3))], [.ref 1]) (HH I J R T) _
      refine Z_c0 rfl rfl rfl (hf) ?_
      show Zs _ _ (am_P 62).2 (101, [(0, .ref 1), (1, .int m), (2, .int lo), (3, .int hi), (4, .int (0 : Int32)), (5, .int (0 : Int32)), (6, .int (I 1 3))], []) (HH (sf I 1 2 (nI s)) J R T) _
      refine Z_jump 1 rfl ?_
      show Zs _ _ (am_P 62).2 (102, [(0, .ref 1), (1, .int m), (2, .int lo), (3, .int hi), (4, .int (0 : Int32)), (5, .int (0 : Int32)), (6, .int (I 1 3))], [.int (0 : Int32)]) (HH (sf I 1 2 (nI s)) J R T) _
      refine Z_rI rfl (by first | exact am_nw0 _ | exact am_nw01 | rfl | assumption) ?_
      exact Or.inr ⟨fun z => hd z.1, rfl, rfl⟩
/-- behind a fault nothing more happens -/
theorem c_take_u {s : Nat} {m lo hi : Int32} (hs : I 1 3 = nI s) (h2 : ¬ I 1 2 = -1) : am_E sc (d + 3) 62 [.ref 1, .int m, .int lo, .int hi] (HH I J R T) (some (.int 0)) (HH I J R T) := by
  refine E_Z (Ze_of (Nat.le_of_ble_eq_true rfl) ?_)
  have hf : am_E sc (d + 2) 58 [.ref 1] (HH I J R T) none (HH I J R T) := by
    have w := c_fail (sc := sc) (d := d + 1) (J := J) (R := R) (T := T) hs
    rw [if_neg h2] at w
    exact w
  have hso : am_E sc (d + 2) 57 [.ref 1] (HH I J R T) (some (.int 0)) (HH I J R T) := by
    have w := c_isSound (sc := sc) (d := d + 1) (I := I) (J := J) (R := R) (T := T)
    rw [if_neg h2] at w
    exact w
  refine Z_jump 1 rfl ?_
  show Zs _ _ (am_P 62).2 (1, [(0, .ref 1), (1, .int m), (2, .int lo), (3, .int hi)], [.ref 1]) (HH I J R T) _
  refine Z_c1 rfl rfl rfl (hso) ?_
  show Zs _ _ (am_P 62).2 (4, [(0, .ref 1), (1, .int m), (2, .int lo), (3, .int hi)], [.int (0 : Int32)]) (HH I J R T) _
  refine Z_jump 12 rfl ?_
  refine Z_bd (fun (c49 : (I 1 4) ≤ (I 1 3)) => ?_) (fun (c49 : ¬ ((I 1 4) ≤ (I 1 3))) => ?_)
  · refine Z_jump 3 rfl ?_
    show Zs _ _ (am_P 62).2 (98, [(0, .ref 1), (1, .int m), (2, .int lo), (3, .int hi), (4, .int (0 : Int32)), (5, .int (0 : Int32)), (6, .int (I 1 3))], [.ref 1]) (HH I J R T) _
    refine Z_c0 rfl rfl rfl (hf) ?_
    show Zs _ _ (am_P 62).2 (101, [(0, .ref 1), (1, .int m), (2, .int lo), (3, .int hi), (4, .int (0 : Int32)), (5, .int (0 : Int32)), (6, .int (I 1 3))], []) (HH I J R T) _
    refine Z_jump 1 rfl ?_
    show Zs _ _ (am_P 62).2 (102, [(0, .ref 1), (1, .int m), (2, .int lo), (3, .int hi), (4, .int (0 : Int32)), (5, .int (0 : Int32)), (6, .int (I 1 3))], [.int (0 : Int32)]) (HH I J R T) _
    refine Z_rI rfl (by first | exact am_nw0 _ | exact am_nw01 | rfl | assumption) ?_
    exact ⟨rfl, rfl⟩
  · refine Z_jump 5 rfl ?_
    show Zs _ _ (am_P 62).2 (98, [(0, .ref 1), (1, .int m), (2, .int lo), (3, .int hi), (4, .int (0 : Int32)), (5, .int (0 : Int32)), (6, .int (I 1 3))], [.ref 1]) (HH I J R T) _
    refine Z_c0 rfl rfl rfl (hf) ?_
    show Zs _ _ (am_P 62).2 (101, [(0, .ref 1), (1, .int m), (2, .int lo), (3, .int hi), (4, .int (0 : Int32)), (5, .int (0 : Int32)), (6, .int (I 1 3))], []) (HH I J R T) _
    refine Z_jump 1 rfl ?_
    show Zs _ _ (am_P 62).2 (102, [(0, .ref 1), (1, .int m), (2, .int lo), (3, .int hi), (4, .int (0 : Int32)), (5, .int (0 : Int32)), (6, .int (I 1 3))], [.int (0 : Int32)]) (HH I J R T) _
    refine Z_rI rfl (by first | exact am_nw0 _ | exact am_nw01 | rfl | assumption) ?_
    exact ⟨rfl, rfl⟩
/-- another: does a clause or statement follow? -/
theorem c_another {s n : Nat} {v : Int32} (hK : CTK tx c s I) (h2 : I 1 2 = -1) (hv : v = nI n) (hn : n ≤ 12) : Ze sc (d + 4) 63 [.ref 1, .int v] (HH I J R T) (fun r h =>
    (s = c ∧ r = some (.int 0) ∧ h = HH I J R T) ∨
    (s < c ∧ tx s = 59 ∧ n < 12 ∧ r = some (.int 1) ∧ ∃ I', h = HH I' J R T ∧ CTK tx c (tS tx c (tE tx c s)) I' ∧ CTo I I' ∧ I' 1 2 = -1) ∨
    (s < c ∧ ¬ (tx s = 59 ∧ n < 12) ∧ r = some (.int 0) ∧ h = HH (sf I 1 2 (nI s)) J R T)) := by
  refine Ze_of (Nat.le_of_ble_eq_true rfl) ?_
  have hs := hK.2.1
  have hf : am_E sc (d + 3) 58 [.ref 1] (HH I J R T) none (HH (sf I 1 2 (nI s)) J R T) := by
    have w := c_fail (sc := sc) (d := d + 2) (J := J) (R := R) (T := T) hK.2.2.1
    rw [if_pos h2] at w
    exact w
  have hso : am_E sc (d + 3) 57 [.ref 1] (HH I J R T) (some (.int 1)) (HH I J R T) := by
    have w := c_isSound (sc := sc) (d := d + 2) (I := I) (J := J) (R := R) (T := T)
    rw [if_pos h2] at w
    exact w
  have e19 : (12 : Int32) ≤ v ↔ 12 ≤ n := by rw [hv]; exact nI_leI (a := 12) (by omega) (by omega)
  refine Z_jump 1 rfl ?_
  show Zs _ _ (am_P 63).2 (1, [(0, .ref 1), (1, .int v)], [.ref 1]) (HH I J R T) _
  refine Z_c1 rfl rfl rfl (hso) ?_
  show Zs _ _ (am_P 63).2 (4, [(0, .ref 1), (1, .int v)], [.int (1 : Int32)]) (HH I J R T) _
  refine Z_jump 2 rfl ?_
  show Zs _ _ (am_P 63).2 (8, [(0, .ref 1), (1, .int v)], [.ref 1]) (HH I J R T) _
  refine Z_c1 rfl rfl rfl (c_isAtEnd hK) ?_
  show Zs _ _ (am_P 63).2 (11, [(0, .ref 1), (1, .int v)], [.int (if s < c then 0 else 1)]) (HH I J R T) _
  refine Z_jump 1 rfl ?_
  refine Z_bd (fun (c11 : (if s < c then 0 else 1) = (0 : Int32)) => ?_) (fun (c11 : ¬ ((if s < c then 0 else 1) = (0 : Int32))) => ?_)
  · refine Z_jump 3 rfl ?_
    refine Z_bd (fun (c19 : (12 : Int32) ≤ v) => ?_) (fun (c19 : ¬ ((12 : Int32) ≤ v)) => ?_)
    · refine Z_jump 1 rfl ?_
      show Zs _ _ (am_P 63).2 (38, [(0, .ref 1), (1, .int v)], [.ref 1]) (HH I J R T) _
      refine Z_c0 rfl rfl rfl (hf) ?_
      show Zs _ _ (am_P 63).2 (41, [(0, .ref 1), (1, .int v)], []) (HH (sf I 1 2 (nI s)) J R T) _
      refine Z_jump 1 rfl ?_
      show Zs _ _ (am_P 63).2 (42, [(0, .ref 1), (1, .int v)], [.int (0 : Int32)]) (HH (sf I 1 2 (nI s)) J R T) _
      refine Z_rI rfl (by first | exact am_nw0 _ | exact am_nw01 | rfl | assumption) ?_
      have hsc : s < c := Classical.byContradiction (fun z => by rw [if_neg z] at c11; exact absurd c11 (by decide))
      exact Or.inr (Or.inr ⟨hsc, fun z => absurd (e19.mp c19) (by omega), rfl, rfl⟩)
    · refine Z_jump 2 rfl ?_
      show Zs _ _ (am_P 63).2 (25, [(0, .ref 1), (1, .int v)], [.int (59 : Int32), .ref 1]) (HH I J R T) _
      refine Z_c1 rfl rfl rfl (c_isSign (t := 59) hK rfl (by omega)) ?_
      show Zs _ _ (am_P 63).2 (28, [(0, .ref 1), (1, .int v)], [.int (if s < c ∧ tx s = 59 then 1 else 0)]) (HH I J R T) _
      refine Z_jump 1 rfl ?_
      refine Z_bd (fun (c28 : (if s < c ∧ tx s = 59 then 1 else 0) = (0 : Int32)) => ?_) (fun (c28 : ¬ ((if s < c ∧ tx s = 59 then 1 else 0) = (0 : Int32))) => ?_)
      · refine Z_jump 1 rfl ?_
        show Zs _ _ (am_P 63).2 (38, [(0, .ref 1), (1, .int v)], [.ref 1]) (HH I J R T) _
        refine Z_c0 rfl rfl rfl (hf) ?_
        show Zs _ _ (am_P 63).2 (41, [(0, .ref 1), (1, .int v)], []) (HH (sf I 1 2 (nI s)) J R T) _
        refine Z_jump 1 rfl ?_
        show Zs _ _ (am_P 63).2 (42, [(0, .ref 1), (1, .int v)], [.int (0 : Int32)]) (HH (sf I 1 2 (nI s)) J R T) _
        refine Z_rI rfl (by first | exact am_nw0 _ | exact am_nw01 | rfl | assumption) ?_
        have hsc : s < c := Classical.byContradiction (fun z => by rw [if_neg z] at c11; exact absurd c11 (by decide))
        exact Or.inr (Or.inr ⟨hsc, fun z => if10.mp c28 ⟨hsc, z.1⟩, rfl, rfl⟩)
      · refine Z_jump 1 rfl ?_
        show Zs _ _ (am_P 63).2 (32, [(0, .ref 1), (1, .int v)], [.ref 1]) (HH I J R T) _
        refine Z_cQ rfl rfl rfl (c_stepQ hK) (fun v h1 hq => ?_)
        obtain ⟨rfl, I', rfl, h3, h4, h5⟩ := hq
        show Zs _ _ (am_P 63).2 (35, [(0, .ref 1), (1, .int v)], []) (HH I' J R T) _
        refine Z_jump 1 rfl ?_
        show Zs _ _ (am_P 63).2 (36, [(0, .ref 1), (1, .int v)], [.int (1 : Int32)]) (HH I' J R T) _
        refine Z_rI rfl (by first | exact am_nw0 _ | exact am_nw01 | rfl | assumption) ?_
        have h9 := if10n c28
        exact Or.inr (Or.inl ⟨h9.1, h9.2, Nat.lt_of_not_le (fun z => c19 (e19.mpr z)), rfl, I', rfl, h3, h4, h5.trans h2⟩)
  · refine Z_jump 1 rfl ?_
    show Zs _ _ (am_P 63).2 (15, [(0, .ref 1), (1, .int v)], [.int (0 : Int32)]) (HH I J R T) _
    refine Z_rI rfl (by first | exact am_nw0 _ | exact am_nw01 | rfl | assumption) ?_
    have hsc : ¬ s < c := fun z => c11 (if_pos z)
    exact Or.inl ⟨by omega, rfl, rfl⟩
theorem c_another_u {v : Int32} (h2 : ¬ I 1 2 = -1) : am_E sc (d + 4) 63 [.ref 1, .int v] (HH I J R T) (some (.int 0)) (HH I J R T) := by
  refine E_Z (Ze_of (Nat.le_of_ble_eq_true rfl) ?_)
  have hso : am_E sc (d + 3) 57 [.ref 1] (HH I J R T) (some (.int 0)) (HH I J R T) := by
    have w := c_isSound (sc := sc) (d := d + 2) (I := I) (J := J) (R := R) (T := T)
    rw [if_neg h2] at w
    exact w
  refine Z_jump 1 rfl ?_
  show Zs _ _ (am_P 63).2 (1, [(0, .ref 1), (1, .int v)], [.ref 1]) (HH I J R T) _
  refine Z_c1 rfl rfl rfl (hso) ?_
  show Zs _ _ (am_P 63).2 (4, [(0, .ref 1), (1, .int v)], [.int (0 : Int32)]) (HH I J R T) _
  refine Z_jump 2 rfl ?_
  show Zs _ _ (am_P 63).2 (15, [(0, .ref 1), (1, .int v)], [.int (0 : Int32)]) (HH I J R T) _
  refine Z_rI rfl (by first | exact am_nw0 _ | exact am_nw01 | rfl | assumption) ?_
  exact ⟨rfl, rfl⟩
end CTZ

