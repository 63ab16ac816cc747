/-! The class without rods: the tour. -/
section C4
variable {sc : Nat × (Nat → Int32)} {d : Nat} {I : hI} {J : hJ} {R : hR} {T : am_H} {h : am_H} {Q : Option Value → am_H → Prop} {code : List am_I}
theorem c_pick {a b c : Int32} {w : Int32} : am_E sc (d + 1) 137 [.int a, .int b, .int c, .int w] (HH I J R T) (some (.int (if w = 0 then a else if w = 1 then b else c))) (HH I J R T) := by
  refine E_Z (Ze_of (Nat.le_of_ble_eq_true rfl) ?_)
  refine Z_jump 2 rfl ?_
  refine Z_bn (fun (c1 : ¬ (w = (0 : Int32))) => ?_) (fun (c1 : w = (0 : Int32)) => ?_)
  · refine Z_jump 3 rfl ?_
    refine Z_bn (fun (c8 : ¬ (w = (1 : Int32))) => ?_) (fun (c8 : w = (1 : Int32)) => ?_)
    · refine Z_jump 1 rfl ?_
      show Zs _ _ (am_P 137).2 (16, [(0, .int a), (1, .int b), (2, .int c), (3, .int w)], [.int c]) (HH I J R T) _
      refine Z_rI rfl (by first | exact am_nw0 _ | exact am_nw01 | rfl | assumption) ?_
      exact ⟨am_ii (by rw [if_neg c1, if_neg c8]), rfl⟩
    · refine Z_jump 2 rfl ?_
      show Zs _ _ (am_P 137).2 (16, [(0, .int a), (1, .int b), (2, .int c), (3, .int w)], [.int b]) (HH I J R T) _
      refine Z_rI rfl (by first | exact am_nw0 _ | exact am_nw01 | rfl | assumption) ?_
      exact ⟨am_ii (by rw [if_neg c1, if_pos c8]), rfl⟩
  · refine Z_jump 1 rfl ?_
    show Zs _ _ (am_P 137).2 (5, [(0, .int a), (1, .int b), (2, .int c), (3, .int w)], [.int a]) (HH I J R T) _
    refine Z_rI rfl (by first | exact am_nw0 _ | exact am_nw01 | rfl | assumption) ?_
    exact ⟨am_ii (by rw [if_pos c1]), rfl⟩
/-- a step of the tour without rods: the way up to here took no time -/
theorem c_goOn0 {f t K : Nat} {s v : Int32} (hf : isSt f) (ht : isSt t) (hne : t ≠ f) (hR : R 28 K = some t) (hs : s = nI K) (hK : K < 3) (h3 : K = 0 ∨ I f 3 = 0) (hn : I 18 1 = 0) : Ze sc (d + 5) 138 [.ref 0, .ref f, .int s, .int v] (HH I J R T) (fun r h => r = some (.int (if v = 0 then 1 else 0)) ∧ ∃ I', h = HH I' J R T ∧ (∀ c, 73 ≤ c → I' c = I c) ∧ I' 18 1 = 0 ∧ (v = 0 → I' t 3 = 0) ∧ (∀ c, isSt c → c ≠ t → I' c 3 = I c 3)) := by
  refine Ze_of (Nat.le_of_ble_eq_true rfl) ?_
  have ht73 : t + 2 < 73 := by rcases isSt_c ht with rfl | rfl | rfl | rfl | rfl | rfl | rfl | rfl | rfl | rfl | rfl | rfl | rfl | rfl | rfl <;> decide
  have ht18 : 21 < t := by rcases isSt_c ht with rfl | rfl | rfl | rfl | rfl | rfl | rfl | rfl | rfl | rfl | rfl | rfl | rfl | rfl | rfl <;> decide
  have hst : ∀ c, isSt c → 12 < c := fun c hc => by rcases isSt_c hc with rfl | rfl | rfl | rfl | rfl | rfl | rfl | rfl | rfl | rfl | rfl | rfl | rfl | rfl | rfl <;> decide
  have hz0 : ∀ y : Int32, y = 0 → (if (1000000 : Int32) < y + 0 then (1000000 : Int32) else y + 0) = 0 := fun y hy => by rw [hy]; decide
  have hvv : v = 0 ↔ v.toInt64 = 0 := i64_0.symm
  by_cases hK0 : K = 0
  · subst hK0
    refine Z_jump 3 rfl ?_
    show Zs _ _ (am_P 138).2 (5, [(0, .ref 0), (1, .ref f), (2, .int s), (3, .int v)], [.int s, .ref 28]) (HH I J R T) _
    refine Z_c1 rfl rfl rfl (c_stAt28 hR hs hK) ?_
    show Zs _ _ (am_P 138).2 (8, [(0, .ref 0), (1, .ref f), (2, .int s), (3, .int v)], [.ref t]) (HH I J R T) _
    refine Z_jump 7 rfl ?_
    show Zs _ _ (am_P 138).2 (24, [(0, .ref 0), (1, .ref f), (2, .int s), (3, .int v), (4, .ref t)], [.ref f, .ref t]) (HH I J R T) _
    refine Z_cQ rfl (am_do_inv (st_0 ht) rfl rfl (Nat.le_of_ble_eq_true rfl)) rfl (Ze_deep (d := 2) (by omega) (c_copy (d := 0) ht hf hne)) (fun v h1 hq => ?_)
    obtain ⟨rfl, I1, rfl, hC⟩ := hq
    show Zs _ _ (am_P 138).2 (27, [(0, .ref 0), (1, .ref f), (2, .int s), (3, .int v), (4, .ref t)], []) (HH I1 J R T) _
    refine Z_jump 2 rfl ?_
    refine Z_bn (fun c28 => absurd (hs) c28) (fun c28 => ?_)
    refine Z_jump 2 rfl ?_
    show Zs _ _ (am_P 138).2 (34, [(0, .ref 0), (1, .ref f), (2, .int s), (3, .int v), (4, .ref t)], [.int (0 : Int32), .ref t]) (HH I1 J R T) _
    refine Z_pfS3 ht rfl ?_
    show Zs _ _ (am_P 138).2 (37, [(0, .ref 0), (1, .ref f), (2, .int s), (3, .int v), (4, .ref t)], []) (HH (sf I1 t 3 (0 : Int32)) J R T) _
    refine Z_jump 4 rfl ?_
    show Zs _ _ (am_P 138).2 (42, [(0, .ref 0), (1, .ref f), (2, .int s), (3, .int v), (4, .ref t)], [.long (Int32.toInt64 v), .ref t, .ref 0]) (HH (sf I1 t 3 (0 : Int32)) J R T) _
    refine Z_cQ rfl rfl rfl (c_settle0 (s := t) (v := v.toInt64) (I := sf I1 t 3 0) ht (by rw [sf_c (by omega), hC.1 18 (by omega) (by omega) (by omega)]; exact hn)) (fun v h1 hq => ?_)
    obtain ⟨rfl, I2, rfl, hI2, h4⟩ := hq
    show Zs _ _ (am_P 138).2 (45, [(0, .ref 0), (1, .ref f), (2, .int s), (3, .int v), (4, .ref t)], [.int (if v.toInt64 = 0 then 0 else -1)]) (HH I2 J R T) _
    refine Z_jump 2 rfl ?_
    refine Z_bd (fun (c46 : (if v.toInt64 = 0 then 0 else -1) = (-1 : Int32)) => ?_) (fun (c46 : ¬ ((if v.toInt64 = 0 then 0 else -1) = (-1 : Int32))) => ?_)
    · refine Z_jump 1 rfl ?_
      show Zs _ _ (am_P 138).2 (54, [(0, .ref 0), (1, .ref f), (2, .int s), (3, .int v), (4, .ref t)], [.int (0 : Int32)]) (HH I2 J R T) _
      refine Z_rI rfl (by first | exact am_nw0 _ | exact am_nw01 | rfl | assumption) ?_
      have hv : ¬ v.toInt64 = 0 := fun z => by rw [if_pos z] at c46; exact absurd c46 (by decide)
      refine ⟨am_ii (if_neg (fun z => hv (hvv.mp z))).symm, I2, rfl, fun c hc => ?_, ?_, fun z => absurd (hvv.mp z) hv, fun c hc hct => ?_⟩
      · rw [hI2 c (by omega) (by omega) (by omega) (by omega) (by omega) (by omega) (by omega), sf_c (by omega), hC.1 c (by omega) (by omega) (by omega)]
      · rw [hI2 18 (by omega) (by omega) (by omega) (by omega) (by omega) (by omega) (by omega), sf_c (by omega), hC.1 18 (by omega) (by omega) (by omega)]; exact hn
      · have h12 := hst c hc
        have hd := st_dis t ht c hc (Ne.symm hct)
        rw [hI2 c (by omega) (by omega) (by omega) (by omega) (by omega) (by omega) hct, sf_c hct, hC.1 c hct hd.1.1 hd.1.2]
    · refine Z_jump 2 rfl ?_
      show Zs _ _ (am_P 138).2 (54, [(0, .ref 0), (1, .ref f), (2, .int s), (3, .int v), (4, .ref t)], [.int (1 : Int32)]) (HH I2 J R T) _
      refine Z_rI rfl (by first | exact am_nw0 _ | exact am_nw01 | rfl | assumption) ?_
      have hv : v.toInt64 = 0 := Classical.not_not.mp (fun z => by rw [if_neg z] at c46; exact absurd rfl c46)
      refine ⟨am_ii (if_pos (hvv.mpr hv)).symm, I2, rfl, fun c hc => ?_, ?_, fun z => ?_, fun c hc hct => ?_⟩
      · rw [hI2 c (by omega) (by omega) (by omega) (by omega) (by omega) (by omega) (by omega), sf_c (by omega), hC.1 c (by omega) (by omega) (by omega)]
      · rw [hI2 18 (by omega) (by omega) (by omega) (by omega) (by omega) (by omega) (by omega), sf_c (by omega), hC.1 18 (by omega) (by omega) (by omega)]; exact hn
      · rw [h4 hv]; exact hz0 _ (sf_s _ _ _ _)
      · have h12 := hst c hc
        have hd := st_dis t ht c hc (Ne.symm hct)
        rw [hI2 c (by omega) (by omega) (by omega) (by omega) (by omega) (by omega) hct, sf_c hct, hC.1 c hct hd.1.1 hd.1.2]
  · have hs0 : ¬ s = 0 := by rw [hs]; exact nI_ne0 (by omega) (by omega)
    refine Z_jump 3 rfl ?_
    show Zs _ _ (am_P 138).2 (5, [(0, .ref 0), (1, .ref f), (2, .int s), (3, .int v)], [.int s, .ref 28]) (HH I J R T) _
    refine Z_c1 rfl rfl rfl (c_stAt28 hR hs hK) ?_
    show Zs _ _ (am_P 138).2 (8, [(0, .ref 0), (1, .ref f), (2, .int s), (3, .int v)], [.ref t]) (HH I J R T) _
    refine Z_jump 7 rfl ?_
    show Zs _ _ (am_P 138).2 (24, [(0, .ref 0), (1, .ref f), (2, .int s), (3, .int v), (4, .ref t)], [.ref f, .ref t]) (HH I J R T) _
    refine Z_cQ rfl (am_do_inv (st_0 ht) rfl rfl (Nat.le_of_ble_eq_true rfl)) rfl (Ze_deep (d := 2) (by omega) (c_copy (d := 0) ht hf hne)) (fun v h1 hq => ?_)
    obtain ⟨rfl, I1, rfl, hC⟩ := hq
    show Zs _ _ (am_P 138).2 (27, [(0, .ref 0), (1, .ref f), (2, .int s), (3, .int v), (4, .ref t)], []) (HH I1 J R T) _
    refine Z_jump 2 rfl ?_
    refine Z_bn (fun c28 => ?_) (fun c28 => absurd c28 (hs0))
    refine Z_jump 4 rfl ?_
    show Zs _ _ (am_P 138).2 (42, [(0, .ref 0), (1, .ref f), (2, .int s), (3, .int v), (4, .ref t)], [.long (Int32.toInt64 v), .ref t, .ref 0]) (HH I1 J R T) _
    refine Z_cQ rfl rfl rfl (c_settle0 (s := t) (v := v.toInt64) (I := I1) ht (by rw [hC.1 18 (by omega) (by omega) (by omega)]; exact hn)) (fun v h1 hq => ?_)
    obtain ⟨rfl, I2, rfl, hI2, h4⟩ := hq
    show Zs _ _ (am_P 138).2 (45, [(0, .ref 0), (1, .ref f), (2, .int s), (3, .int v), (4, .ref t)], [.int (if v.toInt64 = 0 then 0 else -1)]) (HH I2 J R T) _
    refine Z_jump 2 rfl ?_
    refine Z_bd (fun (c46 : (if v.toInt64 = 0 then 0 else -1) = (-1 : Int32)) => ?_) (fun (c46 : ¬ ((if v.toInt64 = 0 then 0 else -1) = (-1 : Int32))) => ?_)
    · refine Z_jump 1 rfl ?_
      show Zs _ _ (am_P 138).2 (54, [(0, .ref 0), (1, .ref f), (2, .int s), (3, .int v), (4, .ref t)], [.int (0 : Int32)]) (HH I2 J R T) _
      refine Z_rI rfl (by first | exact am_nw0 _ | exact am_nw01 | rfl | assumption) ?_
      have hv : ¬ v.toInt64 = 0 := fun z => by rw [if_pos z] at c46; exact absurd c46 (by decide)
      refine ⟨am_ii (if_neg (fun z => hv (hvv.mp z))).symm, I2, rfl, fun c hc => ?_, ?_, fun z => absurd (hvv.mp z) hv, fun c hc hct => ?_⟩
      · rw [hI2 c (by omega) (by omega) (by omega) (by omega) (by omega) (by omega) (by omega), hC.1 c (by omega) (by omega) (by omega)]
      · rw [hI2 18 (by omega) (by omega) (by omega) (by omega) (by omega) (by omega) (by omega), hC.1 18 (by omega) (by omega) (by omega)]; exact hn
      · have h12 := hst c hc
        have hd := st_dis t ht c hc (Ne.symm hct)
        rw [hI2 c (by omega) (by omega) (by omega) (by omega) (by omega) (by omega) hct, hC.1 c hct hd.1.1 hd.1.2]
    · refine Z_jump 2 rfl ?_
      show Zs _ _ (am_P 138).2 (54, [(0, .ref 0), (1, .ref f), (2, .int s), (3, .int v), (4, .ref t)], [.int (1 : Int32)]) (HH I2 J R T) _
      refine Z_rI rfl (by first | exact am_nw0 _ | exact am_nw01 | rfl | assumption) ?_
      have hv : v.toInt64 = 0 := Classical.not_not.mp (fun z => by rw [if_neg z] at c46; exact absurd rfl c46)
      refine ⟨am_ii (if_pos (hvv.mpr hv)).symm, I2, rfl, fun c hc => ?_, ?_, fun z => ?_, fun c hc hct => ?_⟩
      · rw [hI2 c (by omega) (by omega) (by omega) (by omega) (by omega) (by omega) (by omega), hC.1 c (by omega) (by omega) (by omega)]
      · rw [hI2 18 (by omega) (by omega) (by omega) (by omega) (by omega) (by omega) (by omega), hC.1 18 (by omega) (by omega) (by omega)]; exact hn
      · rw [h4 hv]; exact hz0 _ (by rw [hC.2.2.2]; exact h3.elim (fun z => absurd z hK0) id)
      · have h12 := hst c hc
        have hd := st_dis t ht c hc (Ne.symm hct)
        rw [hI2 c (by omega) (by omega) (by omega) (by omega) (by omega) (by omega) hct, hC.1 c hct hd.1.1 hd.1.2]
theorem c_spent {a : Nat} (hR : R 28 2 = some 35) : am_E sc (d + 2) 139 [.ref 0] (HH I J R T) (some (.int (I 35 3))) (HH I J R T) := by
  refine E_Z (Ze_of (Nat.le_of_ble_eq_true rfl) ?_)
  refine Z_jump 5 rfl ?_
  show Zs _ _ (am_P 139).2 (9, [(0, .ref 0)], [.int (3 : Int32), .ref 28]) (HH I J R T) _
  refine Z_jump 2 rfl ?_
  show Zs _ _ (am_P 139).2 (11, [(0, .ref 0)], [.int (2 : Int32), .ref 28]) (HH I J R T) _
  refine Z_c1 rfl rfl rfl (c_stAt28 (K := 2) hR rfl (by omega)) ?_
  show Zs _ _ (am_P 139).2 (14, [(0, .ref 0)], [.ref 35]) (HH I J R T) _
  refine Z_jump 5 rfl ?_
  show Zs _ _ (am_P 139).2 (28, [(0, .ref 0), (1, .ref 35)], [.int (I 35 3)]) (HH I J R T) _
  refine Z_rI rfl (by first | exact am_nw0 _ | exact am_nw01 | rfl | assumption) ?_
  exact ⟨rfl, rfl⟩
theorem c_tourOut {a b c w : Int32} (hb : ¬ (M_mil a ∧ M_mil b ∧ M_mil c ∧ M_01 w)) : am_E sc (d + 2) 112 [.ref 0, .int a, .int b, .int c, .int w] (HH I J R T) (some (.int (-3))) (HH I J R T) := by
  refine E_Z (Ze_of (Nat.le_of_ble_eq_true rfl) ?_)
  have z0 : (0 : Int32).toInt = 0 := rfl
  have z1 : (1 : Int32).toInt = 1 := rfl
  refine Z_jump 1 rfl ?_
  show Zs _ _ (am_P 112).2 (1, [(0, .ref 0), (1, .int a), (2, .int b), (3, .int c), (4, .int w)], [.int a]) (HH I J R T) _
  refine Z_c1 rfl rfl rfl (c_isOfTour) ?_
  show Zs _ _ (am_P 112).2 (4, [(0, .ref 0), (1, .int a), (2, .int b), (3, .int c), (4, .int w)], [.int (if M_mil a then 1 else 0)]) (HH I J R T) _
  refine Z_jump 1 rfl ?_
  refine Z_bd (fun (c4 : (if M_mil a then 1 else 0) = (0 : Int32)) => ?_) (fun (c4 : ¬ ((if M_mil a then 1 else 0) = (0 : Int32))) => ?_)
  · refine Z_jump 1 rfl ?_
    show Zs _ _ (am_P 112).2 (34, [(0, .ref 0), (1, .int a), (2, .int b), (3, .int c), (4, .int w)], [.int (-3 : Int32)]) (HH I J R T) _
    refine Z_rI rfl (by first | exact am_nw0 _ | exact am_nw01 | rfl | assumption) ?_
    exact ⟨rfl, rfl⟩
  · refine Z_jump 1 rfl ?_
    show Zs _ _ (am_P 112).2 (8, [(0, .ref 0), (1, .int a), (2, .int b), (3, .int c), (4, .int w)], [.int b]) (HH I J R T) _
    refine Z_c1 rfl rfl rfl (c_isOfTour) ?_
    show Zs _ _ (am_P 112).2 (11, [(0, .ref 0), (1, .int a), (2, .int b), (3, .int c), (4, .int w)], [.int (if M_mil b then 1 else 0)]) (HH I J R T) _
    refine Z_jump 1 rfl ?_
    refine Z_bd (fun (c11 : (if M_mil b then 1 else 0) = (0 : Int32)) => ?_) (fun (c11 : ¬ ((if M_mil b then 1 else 0) = (0 : Int32))) => ?_)
    · refine Z_jump 1 rfl ?_
      show Zs _ _ (am_P 112).2 (34, [(0, .ref 0), (1, .int a), (2, .int b), (3, .int c), (4, .int w)], [.int (-3 : Int32)]) (HH I J R T) _
      refine Z_rI rfl (by first | exact am_nw0 _ | exact am_nw01 | rfl | assumption) ?_
      exact ⟨rfl, rfl⟩
    · refine Z_jump 1 rfl ?_
      show Zs _ _ (am_P 112).2 (15, [(0, .ref 0), (1, .int a), (2, .int b), (3, .int c), (4, .int w)], [.int c]) (HH I J R T) _
      refine Z_c1 rfl rfl rfl (c_isOfTour) ?_
      show Zs _ _ (am_P 112).2 (18, [(0, .ref 0), (1, .int a), (2, .int b), (3, .int c), (4, .int w)], [.int (if M_mil c then 1 else 0)]) (HH I J R T) _
      refine Z_jump 1 rfl ?_
      refine Z_bd (fun (c18 : (if M_mil c then 1 else 0) = (0 : Int32)) => ?_) (fun (c18 : ¬ ((if M_mil c then 1 else 0) = (0 : Int32))) => ?_)
      · refine Z_jump 1 rfl ?_
        show Zs _ _ (am_P 112).2 (34, [(0, .ref 0), (1, .int a), (2, .int b), (3, .int c), (4, .int w)], [.int (-3 : Int32)]) (HH I J R T) _
        refine Z_rI rfl (by first | exact am_nw0 _ | exact am_nw01 | rfl | assumption) ?_
        exact ⟨rfl, rfl⟩
      · refine Z_jump 2 rfl ?_
        refine Z_bd (fun (c23 : w < (0 : Int32)) => ?_) (fun (c23 : ¬ (w < (0 : Int32))) => ?_)
        · refine Z_jump 1 rfl ?_
          show Zs _ _ (am_P 112).2 (34, [(0, .ref 0), (1, .int a), (2, .int b), (3, .int c), (4, .int w)], [.int (-3 : Int32)]) (HH I J R T) _
          refine Z_rI rfl (by first | exact am_nw0 _ | exact am_nw01 | rfl | assumption) ?_
          exact ⟨rfl, rfl⟩
        · refine Z_jump 3 rfl ?_
          refine Z_bd (fun (c29 : w ≤ (1 : Int32)) => ?_) (fun (c29 : ¬ (w ≤ (1 : Int32))) => ?_)
          · show Zs _ _ (am_P 112).2 (35, [(0, .ref 0), (1, .int a), (2, .int b), (3, .int c), (4, .int w)], []) (HH I J R T) _
            rw [fi_le, z1] at c29
            rw [fi_lt, z0] at c23
            exact absurd ⟨if10n c4, if10n c11, if10n c18, by omega, c29⟩ hb
          · refine Z_jump 1 rfl ?_
            show Zs _ _ (am_P 112).2 (34, [(0, .ref 0), (1, .int a), (2, .int b), (3, .int c), (4, .int w)], [.int (-3 : Int32)]) (HH I J R T) _
            refine Z_rI rfl (by first | exact am_nw0 _ | exact am_nw01 | rfl | assumption) ?_
            exact ⟨rfl, rfl⟩
set_option maxHeartbeats 16000000 in
theorem c_tour0 {a b c w : Int32} (hn : I 18 1 = 0) (hR0 : R 28 0 = some 29) (hR1 : R 28 1 = some 32) (hR2 : R 28 2 = some 35) (hb : M_mil a ∧ M_mil b ∧ M_mil c ∧ M_01 w) : Ze sc (d + 6) 112 [.ref 0, .int a, .int b, .int c, .int w] (HH I J R T) (C0p (.int (if a = 0 ∧ b = 0 ∧ c = 0 then 0 else -1)) I J T) := by
  obtain ⟨h1, h2, h3, h4⟩ := hb
  refine Ze_of (Nat.le_of_ble_eq_true rfl) ?_
  have z0 : (0 : Int32).toInt = 0 := rfl
  have z1 : (1 : Int32).toInt = 1 := rfl
  have hw1 : ¬ w < 0 := by rw [fi_lt]; omega
  have hw2 : w ≤ 1 := by rw [fi_le]; omega
  by_cases ha : a = 0
  · by_cases hb : b = 0
    · by_cases hc : c = 0
      · subst ha
        subst hb
        subst hc
        rw [if_pos ⟨rfl, rfl, rfl⟩]
        have hk : ∀ c, 73 ≤ c → I c = I c := fun _ _ => rfl
        refine Z_jump 1 rfl ?_
        show Zs _ _ (am_P 112).2 (1, [(0, .ref 0), (1, .int (0 : Int32)), (2, .int (0 : Int32)), (3, .int (0 : Int32)), (4, .int w)], [.int (0 : Int32)]) (HH I J R T) _
        refine Z_c1 rfl rfl rfl (c_isOfTour) ?_
        show Zs _ _ (am_P 112).2 (4, [(0, .ref 0), (1, .int (0 : Int32)), (2, .int (0 : Int32)), (3, .int (0 : Int32)), (4, .int w)], [.int (if M_mil 0 then 1 else 0)]) (HH I J R T) _
        refine Z_jump 1 rfl ?_
        refine Z_bd (fun c4 => absurd c4 ((fun z => if10.mp z h1))) (fun c4 => ?_)
        refine Z_jump 1 rfl ?_
        show Zs _ _ (am_P 112).2 (8, [(0, .ref 0), (1, .int (0 : Int32)), (2, .int (0 : Int32)), (3, .int (0 : Int32)), (4, .int w)], [.int (0 : Int32)]) (HH I J R T) _
        refine Z_c1 rfl rfl rfl (c_isOfTour) ?_
        show Zs _ _ (am_P 112).2 (11, [(0, .ref 0), (1, .int (0 : Int32)), (2, .int (0 : Int32)), (3, .int (0 : Int32)), (4, .int w)], [.int (if M_mil 0 then 1 else 0)]) (HH I J R T) _
        refine Z_jump 1 rfl ?_
        refine Z_bd (fun c11 => absurd c11 ((fun z => if10.mp z h2))) (fun c11 => ?_)
        refine Z_jump 1 rfl ?_
        show Zs _ _ (am_P 112).2 (15, [(0, .ref 0), (1, .int (0 : Int32)), (2, .int (0 : Int32)), (3, .int (0 : Int32)), (4, .int w)], [.int (0 : Int32)]) (HH I J R T) _
        refine Z_c1 rfl rfl rfl (c_isOfTour) ?_
        show Zs _ _ (am_P 112).2 (18, [(0, .ref 0), (1, .int (0 : Int32)), (2, .int (0 : Int32)), (3, .int (0 : Int32)), (4, .int w)], [.int (if M_mil 0 then 1 else 0)]) (HH I J R T) _
        refine Z_jump 1 rfl ?_
        refine Z_bd (fun c18 => absurd c18 ((fun z => if10.mp z h3))) (fun c18 => ?_)
        refine Z_jump 2 rfl ?_
        refine Z_bd (fun c23 => absurd c23 (hw1)) (fun c23 => ?_)
        refine Z_jump 3 rfl ?_
        refine Z_bd (fun c29 => ?_) (fun c29 => absurd (hw2) c29)
        refine Z_jump 14 rfl ?_
        show Zs _ _ (am_P 112).2 (60, [(0, .ref 0), (1, .int (0 : Int32)), (2, .int (0 : Int32)), (3, .int (0 : Int32)), (4, .int w), (5, .int (1048576 : Int32)), (6, .int (-1 : Int32)), (7, .int (0 : Int32)), (8, .int (0 : Int32))], [.int (0 : Int32)]) (HH I J R T) _
        refine Z_c1 rfl rfl rfl ((E_run 60 rfl)) ?_
        show Zs _ _ (am_P 112).2 (63, [(0, .ref 0), (1, .int (0 : Int32)), (2, .int (0 : Int32)), (3, .int (0 : Int32)), (4, .int w), (5, .int (1048576 : Int32)), (6, .int (-1 : Int32)), (7, .int (0 : Int32)), (8, .int (0 : Int32))], [.int (1 : Int32)]) (HH I J R T) _
        refine Z_jump 13 rfl ?_
        show Zs _ _ (am_P 112).2 (83, [(0, .ref 0), (1, .int (0 : Int32)), (2, .int (0 : Int32)), (3, .int (0 : Int32)), (4, .int w), (5, .int (1048576 : Int32)), (6, .int (-1 : Int32)), (7, .int (0 : Int32)), (8, .int (0 : Int32)), (9, .int (1 : Int32))], [.int (0 : Int32), .int (0 : Int32), .int (0 : Int32), .int (0 : Int32), .int (0 : Int32), .ref 22, .ref 0]) (HH I J R T) _
        refine Z_c1 rfl rfl rfl (c_pick) ?_
        show Zs _ _ (am_P 112).2 (86, [(0, .ref 0), (1, .int (0 : Int32)), (2, .int (0 : Int32)), (3, .int (0 : Int32)), (4, .int w), (5, .int (1048576 : Int32)), (6, .int (-1 : Int32)), (7, .int (0 : Int32)), (8, .int (0 : Int32)), (9, .int (1 : Int32))], [.int (0 : Int32), .int (0 : Int32), .ref 22, .ref 0]) (HH I J R T) _
        show Zs _ _ (am_P 112).2 (86, [(0, .ref 0), (1, .int (0 : Int32)), (2, .int (0 : Int32)), (3, .int (0 : Int32)), (4, .int w), (5, .int (1048576 : Int32)), (6, .int (-1 : Int32)), (7, .int (0 : Int32)), (8, .int (0 : Int32)), (9, .int (1 : Int32))], [.int (0 : Int32), .int (0 : Int32), .ref 22, .ref 0]) (HH I J R T) _
        refine Z_cQ rfl rfl rfl (c_goOn0 (f := 22) (t := 29) (K := 0) (v := 0) (by decide) (by decide) (by decide) hR0 rfl (by omega) (Or.inl rfl) hn) (fun v h1 hq => ?_)
        obtain ⟨rfl, I', rfl, a1, hn, a3, a4⟩ := hq
        have hk : ∀ c, 73 ≤ c → I' c = I c := fun c hc => (a1 c hc).trans (hk c hc)
        have e29 : I' 29 3 = 0 := a3 rfl
        show Zs _ _ (am_P 112).2 (89, [(0, .ref 0), (1, .int (0 : Int32)), (2, .int (0 : Int32)), (3, .int (0 : Int32)), (4, .int w), (5, .int (1048576 : Int32)), (6, .int (-1 : Int32)), (7, .int (0 : Int32)), (8, .int (0 : Int32)), (9, .int (1 : Int32))], [.int (1 : Int32)]) (HH I' J R T) _
        refine Z_jump 5 rfl ?_
        show Zs _ _ (am_P 112).2 (100, [(0, .ref 0), (1, .int (0 : Int32)), (2, .int (0 : Int32)), (3, .int (0 : Int32)), (4, .int w), (5, .int (1048576 : Int32)), (6, .int (-1 : Int32)), (7, .int (0 : Int32)), (8, .int (0 : Int32)), (9, .int (1 : Int32))], [.int (0 : Int32), .ref 28, .ref 0]) (HH I' J R T) _
        refine Z_c1 rfl rfl rfl (c_stAt28 (K := 0) hR0 rfl (by omega)) ?_
        show Zs _ _ (am_P 112).2 (103, [(0, .ref 0), (1, .int (0 : Int32)), (2, .int (0 : Int32)), (3, .int (0 : Int32)), (4, .int w), (5, .int (1048576 : Int32)), (6, .int (-1 : Int32)), (7, .int (0 : Int32)), (8, .int (0 : Int32)), (9, .int (1 : Int32))], [.ref 29, .ref 0]) (HH I' J R T) _
        refine Z_jump 5 rfl ?_
        show Zs _ _ (am_P 112).2 (109, [(0, .ref 0), (1, .int (0 : Int32)), (2, .int (0 : Int32)), (3, .int (0 : Int32)), (4, .int w), (5, .int (1048576 : Int32)), (6, .int (-1 : Int32)), (7, .int (0 : Int32)), (8, .int (0 : Int32)), (9, .int (1 : Int32))], [.int (1 : Int32), .int (0 : Int32), .int (0 : Int32), .int (0 : Int32), .int (1 : Int32), .ref 29, .ref 0]) (HH I' J R T) _
        refine Z_c1 rfl rfl rfl (c_pick) ?_
        show Zs _ _ (am_P 112).2 (112, [(0, .ref 0), (1, .int (0 : Int32)), (2, .int (0 : Int32)), (3, .int (0 : Int32)), (4, .int w), (5, .int (1048576 : Int32)), (6, .int (-1 : Int32)), (7, .int (0 : Int32)), (8, .int (0 : Int32)), (9, .int (1 : Int32))], [.int (0 : Int32), .int (1 : Int32), .ref 29, .ref 0]) (HH I' J R T) _
        show Zs _ _ (am_P 112).2 (112, [(0, .ref 0), (1, .int (0 : Int32)), (2, .int (0 : Int32)), (3, .int (0 : Int32)), (4, .int w), (5, .int (1048576 : Int32)), (6, .int (-1 : Int32)), (7, .int (0 : Int32)), (8, .int (0 : Int32)), (9, .int (1 : Int32))], [.int (0 : Int32), .int (1 : Int32), .ref 29, .ref 0]) (HH I' J R T) _
        refine Z_cQ rfl rfl rfl (c_goOn0 (f := 29) (t := 32) (K := 1) (v := 0) (by decide) (by decide) (by decide) hR1 rfl (by omega) (Or.inr e29) hn) (fun v h1 hq => ?_)
        obtain ⟨rfl, I', rfl, a1, hn, a3, a4⟩ := hq
        have hk : ∀ c, 73 ≤ c → I' c = I c := fun c hc => (a1 c hc).trans (hk c hc)
        have e29 : I' 29 3 = 0 := (a4 29 (by decide) (by decide)).trans e29
        have e32 : I' 32 3 = 0 := a3 rfl
        show Zs _ _ (am_P 112).2 (115, [(0, .ref 0), (1, .int (0 : Int32)), (2, .int (0 : Int32)), (3, .int (0 : Int32)), (4, .int w), (5, .int (1048576 : Int32)), (6, .int (-1 : Int32)), (7, .int (0 : Int32)), (8, .int (0 : Int32)), (9, .int (1 : Int32))], [.int (1 : Int32)]) (HH I' J R T) _
        refine Z_jump 5 rfl ?_
        show Zs _ _ (am_P 112).2 (124, [(0, .ref 0), (1, .int (0 : Int32)), (2, .int (0 : Int32)), (3, .int (0 : Int32)), (4, .int w), (5, .int (1048576 : Int32)), (6, .int (-1 : Int32)), (7, .int (0 : Int32)), (8, .int (0 : Int32)), (9, .int (1 : Int32))], [.int (1 : Int32), .ref 28, .ref 0]) (HH I' J R T) _
        refine Z_c1 rfl rfl rfl (c_stAt28 (K := 1) hR1 rfl (by omega)) ?_
        show Zs _ _ (am_P 112).2 (127, [(0, .ref 0), (1, .int (0 : Int32)), (2, .int (0 : Int32)), (3, .int (0 : Int32)), (4, .int w), (5, .int (1048576 : Int32)), (6, .int (-1 : Int32)), (7, .int (0 : Int32)), (8, .int (0 : Int32)), (9, .int (1 : Int32))], [.ref 32, .ref 0]) (HH I' J R T) _
        refine Z_jump 9 rfl ?_
        show Zs _ _ (am_P 112).2 (138, [(0, .ref 0), (1, .int (0 : Int32)), (2, .int (0 : Int32)), (3, .int (0 : Int32)), (4, .int w), (5, .int (1048576 : Int32)), (6, .int (-1 : Int32)), (7, .int (0 : Int32)), (8, .int (0 : Int32)), (9, .int (1 : Int32))], [.int (2 : Int32), .int (0 : Int32), .int (0 : Int32), .int (0 : Int32), .int (2 : Int32), .ref 32, .ref 0]) (HH I' J R T) _
        refine Z_c1 rfl rfl rfl (c_pick) ?_
        show Zs _ _ (am_P 112).2 (141, [(0, .ref 0), (1, .int (0 : Int32)), (2, .int (0 : Int32)), (3, .int (0 : Int32)), (4, .int w), (5, .int (1048576 : Int32)), (6, .int (-1 : Int32)), (7, .int (0 : Int32)), (8, .int (0 : Int32)), (9, .int (1 : Int32))], [.int (0 : Int32), .int (2 : Int32), .ref 32, .ref 0]) (HH I' J R T) _
        show Zs _ _ (am_P 112).2 (141, [(0, .ref 0), (1, .int (0 : Int32)), (2, .int (0 : Int32)), (3, .int (0 : Int32)), (4, .int w), (5, .int (1048576 : Int32)), (6, .int (-1 : Int32)), (7, .int (0 : Int32)), (8, .int (0 : Int32)), (9, .int (1 : Int32))], [.int (0 : Int32), .int (2 : Int32), .ref 32, .ref 0]) (HH I' J R T) _
        refine Z_cQ rfl rfl rfl (c_goOn0 (f := 32) (t := 35) (K := 2) (v := 0) (by decide) (by decide) (by decide) hR2 rfl (by omega) (Or.inr e32) hn) (fun v h1 hq => ?_)
        obtain ⟨rfl, I', rfl, a1, hn, a3, a4⟩ := hq
        have hk : ∀ c, 73 ≤ c → I' c = I c := fun c hc => (a1 c hc).trans (hk c hc)
        have e29 : I' 29 3 = 0 := (a4 29 (by decide) (by decide)).trans e29
        have e35 : I' 35 3 = 0 := a3 rfl
        show Zs _ _ (am_P 112).2 (144, [(0, .ref 0), (1, .int (0 : Int32)), (2, .int (0 : Int32)), (3, .int (0 : Int32)), (4, .int w), (5, .int (1048576 : Int32)), (6, .int (-1 : Int32)), (7, .int (0 : Int32)), (8, .int (0 : Int32)), (9, .int (1 : Int32))], [.int (1 : Int32)]) (HH I' J R T) _
        refine Z_jump 2 rfl ?_
        show Zs _ _ (am_P 112).2 (150, [(0, .ref 0), (1, .int (0 : Int32)), (2, .int (0 : Int32)), (3, .int (0 : Int32)), (4, .int w), (5, .int (1048576 : Int32)), (6, .int (-1 : Int32)), (7, .int (0 : Int32)), (8, .int (0 : Int32)), (9, .int (1 : Int32))], [.ref 0]) (HH I' J R T) _
        refine Z_c1 rfl rfl rfl (c_spent (a := 0) hR2) ?_
        show Zs _ _ (am_P 112).2 (153, [(0, .ref 0), (1, .int (0 : Int32)), (2, .int (0 : Int32)), (3, .int (0 : Int32)), (4, .int w), (5, .int (1048576 : Int32)), (6, .int (-1 : Int32)), (7, .int (0 : Int32)), (8, .int (0 : Int32)), (9, .int (1 : Int32))], [.int (I' 35 3)]) (HH I' J R T) _
        show Zs _ _ (am_P 112).2 (153, [(0, .ref 0), (1, .int (0 : Int32)), (2, .int (0 : Int32)), (3, .int (0 : Int32)), (4, .int w), (5, .int (1048576 : Int32)), (6, .int (-1 : Int32)), (7, .int (0 : Int32)), (8, .int (0 : Int32)), (9, .int (1 : Int32))], [.int (I' 35 3)]) (HH I' J R T) _
        refine Z_eqI (e35) ?_
        show Zs _ _ (am_P 112).2 (153, [(0, .ref 0), (1, .int (0 : Int32)), (2, .int (0 : Int32)), (3, .int (0 : Int32)), (4, .int w), (5, .int (1048576 : Int32)), (6, .int (-1 : Int32)), (7, .int (0 : Int32)), (8, .int (0 : Int32)), (9, .int (1 : Int32))], [.int (0 : Int32)]) (HH I' J R T) _
        refine Z_jump 18 rfl ?_
        show Zs _ _ (am_P 112).2 (60, [(0, .ref 0), (1, .int (0 : Int32)), (2, .int (0 : Int32)), (3, .int (0 : Int32)), (4, .int w), (5, .int (0 : Int32)), (6, .int (0 : Int32)), (7, .int (1 : Int32)), (8, .int (0 : Int32)), (9, .int (1 : Int32)), (10, .int (0 : Int32))], [.int (1 : Int32)]) (HH I' J R T) _
        refine Z_c1 rfl rfl rfl ((E_run 60 rfl)) ?_
        show Zs _ _ (am_P 112).2 (63, [(0, .ref 0), (1, .int (0 : Int32)), (2, .int (0 : Int32)), (3, .int (0 : Int32)), (4, .int w), (5, .int (0 : Int32)), (6, .int (0 : Int32)), (7, .int (1 : Int32)), (8, .int (0 : Int32)), (9, .int (1 : Int32)), (10, .int (0 : Int32))], [.int (2 : Int32)]) (HH I' J R T) _
        refine Z_jump 9 rfl ?_
        show Zs _ _ (am_P 112).2 (100, [(0, .ref 0), (1, .int (0 : Int32)), (2, .int (0 : Int32)), (3, .int (0 : Int32)), (4, .int w), (5, .int (0 : Int32)), (6, .int (0 : Int32)), (7, .int (1 : Int32)), (8, .int (0 : Int32)), (9, .int (2 : Int32)), (10, .int (0 : Int32))], [.int (0 : Int32), .ref 28, .ref 0]) (HH I' J R T) _
        refine Z_c1 rfl rfl rfl (c_stAt28 (K := 0) hR0 rfl (by omega)) ?_
        show Zs _ _ (am_P 112).2 (103, [(0, .ref 0), (1, .int (0 : Int32)), (2, .int (0 : Int32)), (3, .int (0 : Int32)), (4, .int w), (5, .int (0 : Int32)), (6, .int (0 : Int32)), (7, .int (1 : Int32)), (8, .int (0 : Int32)), (9, .int (2 : Int32)), (10, .int (0 : Int32))], [.ref 29, .ref 0]) (HH I' J R T) _
        refine Z_jump 5 rfl ?_
        show Zs _ _ (am_P 112).2 (109, [(0, .ref 0), (1, .int (0 : Int32)), (2, .int (0 : Int32)), (3, .int (0 : Int32)), (4, .int w), (5, .int (0 : Int32)), (6, .int (0 : Int32)), (7, .int (1 : Int32)), (8, .int (0 : Int32)), (9, .int (2 : Int32)), (10, .int (0 : Int32))], [.int (2 : Int32), .int (0 : Int32), .int (0 : Int32), .int (0 : Int32), .int (1 : Int32), .ref 29, .ref 0]) (HH I' J R T) _
        refine Z_c1 rfl rfl rfl (c_pick) ?_
        show Zs _ _ (am_P 112).2 (112, [(0, .ref 0), (1, .int (0 : Int32)), (2, .int (0 : Int32)), (3, .int (0 : Int32)), (4, .int w), (5, .int (0 : Int32)), (6, .int (0 : Int32)), (7, .int (1 : Int32)), (8, .int (0 : Int32)), (9, .int (2 : Int32)), (10, .int (0 : Int32))], [.int (0 : Int32), .int (1 : Int32), .ref 29, .ref 0]) (HH I' J R T) _
        show Zs _ _ (am_P 112).2 (112, [(0, .ref 0), (1, .int (0 : Int32)), (2, .int (0 : Int32)), (3, .int (0 : Int32)), (4, .int w), (5, .int (0 : Int32)), (6, .int (0 : Int32)), (7, .int (1 : Int32)), (8, .int (0 : Int32)), (9, .int (2 : Int32)), (10, .int (0 : Int32))], [.int (0 : Int32), .int (1 : Int32), .ref 29, .ref 0]) (HH I' J R T) _
        refine Z_cQ rfl rfl rfl (c_goOn0 (f := 29) (t := 32) (K := 1) (v := 0) (by decide) (by decide) (by decide) hR1 rfl (by omega) (Or.inr e29) hn) (fun v h1 hq => ?_)
        obtain ⟨rfl, I', rfl, a1, hn, a3, a4⟩ := hq
        have hk : ∀ c, 73 ≤ c → I' c = I c := fun c hc => (a1 c hc).trans (hk c hc)
        have e29 : I' 29 3 = 0 := (a4 29 (by decide) (by decide)).trans e29
        have e32 : I' 32 3 = 0 := a3 rfl
        show Zs _ _ (am_P 112).2 (115, [(0, .ref 0), (1, .int (0 : Int32)), (2, .int (0 : Int32)), (3, .int (0 : Int32)), (4, .int w), (5, .int (0 : Int32)), (6, .int (0 : Int32)), (7, .int (1 : Int32)), (8, .int (0 : Int32)), (9, .int (2 : Int32)), (10, .int (0 : Int32))], [.int (1 : Int32)]) (HH I' J R T) _
        refine Z_jump 5 rfl ?_
        show Zs _ _ (am_P 112).2 (124, [(0, .ref 0), (1, .int (0 : Int32)), (2, .int (0 : Int32)), (3, .int (0 : Int32)), (4, .int w), (5, .int (0 : Int32)), (6, .int (0 : Int32)), (7, .int (1 : Int32)), (8, .int (0 : Int32)), (9, .int (2 : Int32)), (10, .int (0 : Int32))], [.int (1 : Int32), .ref 28, .ref 0]) (HH I' J R T) _
        refine Z_c1 rfl rfl rfl (c_stAt28 (K := 1) hR1 rfl (by omega)) ?_
        show Zs _ _ (am_P 112).2 (127, [(0, .ref 0), (1, .int (0 : Int32)), (2, .int (0 : Int32)), (3, .int (0 : Int32)), (4, .int w), (5, .int (0 : Int32)), (6, .int (0 : Int32)), (7, .int (1 : Int32)), (8, .int (0 : Int32)), (9, .int (2 : Int32)), (10, .int (0 : Int32))], [.ref 32, .ref 0]) (HH I' J R T) _
        refine Z_jump 9 rfl ?_
        show Zs _ _ (am_P 112).2 (138, [(0, .ref 0), (1, .int (0 : Int32)), (2, .int (0 : Int32)), (3, .int (0 : Int32)), (4, .int w), (5, .int (0 : Int32)), (6, .int (0 : Int32)), (7, .int (1 : Int32)), (8, .int (0 : Int32)), (9, .int (2 : Int32)), (10, .int (0 : Int32))], [.int (1 : Int32), .int (0 : Int32), .int (0 : Int32), .int (0 : Int32), .int (2 : Int32), .ref 32, .ref 0]) (HH I' J R T) _
        refine Z_c1 rfl rfl rfl (c_pick) ?_
        show Zs _ _ (am_P 112).2 (141, [(0, .ref 0), (1, .int (0 : Int32)), (2, .int (0 : Int32)), (3, .int (0 : Int32)), (4, .int w), (5, .int (0 : Int32)), (6, .int (0 : Int32)), (7, .int (1 : Int32)), (8, .int (0 : Int32)), (9, .int (2 : Int32)), (10, .int (0 : Int32))], [.int (0 : Int32), .int (2 : Int32), .ref 32, .ref 0]) (HH I' J R T) _
        show Zs _ _ (am_P 112).2 (141, [(0, .ref 0), (1, .int (0 : Int32)), (2, .int (0 : Int32)), (3, .int (0 : Int32)), (4, .int w), (5, .int (0 : Int32)), (6, .int (0 : Int32)), (7, .int (1 : Int32)), (8, .int (0 : Int32)), (9, .int (2 : Int32)), (10, .int (0 : Int32))], [.int (0 : Int32), .int (2 : Int32), .ref 32, .ref 0]) (HH I' J R T) _
        refine Z_cQ rfl rfl rfl (c_goOn0 (f := 32) (t := 35) (K := 2) (v := 0) (by decide) (by decide) (by decide) hR2 rfl (by omega) (Or.inr e32) hn) (fun v h1 hq => ?_)
        obtain ⟨rfl, I', rfl, a1, hn, a3, a4⟩ := hq
        have hk : ∀ c, 73 ≤ c → I' c = I c := fun c hc => (a1 c hc).trans (hk c hc)
        have e29 : I' 29 3 = 0 := (a4 29 (by decide) (by decide)).trans e29
        have e35 : I' 35 3 = 0 := a3 rfl
        show Zs _ _ (am_P 112).2 (144, [(0, .ref 0), (1, .int (0 : Int32)), (2, .int (0 : Int32)), (3, .int (0 : Int32)), (4, .int w), (5, .int (0 : Int32)), (6, .int (0 : Int32)), (7, .int (1 : Int32)), (8, .int (0 : Int32)), (9, .int (2 : Int32)), (10, .int (0 : Int32))], [.int (1 : Int32)]) (HH I' J R T) _
        refine Z_jump 2 rfl ?_
        show Zs _ _ (am_P 112).2 (150, [(0, .ref 0), (1, .int (0 : Int32)), (2, .int (0 : Int32)), (3, .int (0 : Int32)), (4, .int w), (5, .int (0 : Int32)), (6, .int (0 : Int32)), (7, .int (1 : Int32)), (8, .int (0 : Int32)), (9, .int (2 : Int32)), (10, .int (0 : Int32))], [.ref 0]) (HH I' J R T) _
        refine Z_c1 rfl rfl rfl (c_spent (a := 0) hR2) ?_
        show Zs _ _ (am_P 112).2 (153, [(0, .ref 0), (1, .int (0 : Int32)), (2, .int (0 : Int32)), (3, .int (0 : Int32)), (4, .int w), (5, .int (0 : Int32)), (6, .int (0 : Int32)), (7, .int (1 : Int32)), (8, .int (0 : Int32)), (9, .int (2 : Int32)), (10, .int (0 : Int32))], [.int (I' 35 3)]) (HH I' J R T) _
        show Zs _ _ (am_P 112).2 (153, [(0, .ref 0), (1, .int (0 : Int32)), (2, .int (0 : Int32)), (3, .int (0 : Int32)), (4, .int w), (5, .int (0 : Int32)), (6, .int (0 : Int32)), (7, .int (1 : Int32)), (8, .int (0 : Int32)), (9, .int (2 : Int32)), (10, .int (0 : Int32))], [.int (I' 35 3)]) (HH I' J R T) _
        refine Z_eqI (e35) ?_
        show Zs _ _ (am_P 112).2 (153, [(0, .ref 0), (1, .int (0 : Int32)), (2, .int (0 : Int32)), (3, .int (0 : Int32)), (4, .int w), (5, .int (0 : Int32)), (6, .int (0 : Int32)), (7, .int (1 : Int32)), (8, .int (0 : Int32)), (9, .int (2 : Int32)), (10, .int (0 : Int32))], [.int (0 : Int32)]) (HH I' J R T) _
        refine Z_jump 14 rfl ?_
        show Zs _ _ (am_P 112).2 (60, [(0, .ref 0), (1, .int (0 : Int32)), (2, .int (0 : Int32)), (3, .int (0 : Int32)), (4, .int w), (5, .int (0 : Int32)), (6, .int (0 : Int32)), (7, .int (2 : Int32)), (8, .int (1 : Int32)), (9, .int (2 : Int32)), (10, .int (0 : Int32))], [.int (2 : Int32)]) (HH I' J R T) _
        refine Z_c1 rfl rfl rfl ((E_run 60 rfl)) ?_
        show Zs _ _ (am_P 112).2 (63, [(0, .ref 0), (1, .int (0 : Int32)), (2, .int (0 : Int32)), (3, .int (0 : Int32)), (4, .int w), (5, .int (0 : Int32)), (6, .int (0 : Int32)), (7, .int (2 : Int32)), (8, .int (1 : Int32)), (9, .int (2 : Int32)), (10, .int (0 : Int32))], [.int (0 : Int32)]) (HH I' J R T) _
        refine Z_jump 13 rfl ?_
        show Zs _ _ (am_P 112).2 (83, [(0, .ref 0), (1, .int (0 : Int32)), (2, .int (0 : Int32)), (3, .int (0 : Int32)), (4, .int w), (5, .int (0 : Int32)), (6, .int (0 : Int32)), (7, .int (2 : Int32)), (8, .int (1 : Int32)), (9, .int (0 : Int32)), (10, .int (0 : Int32))], [.int (1 : Int32), .int (0 : Int32), .int (0 : Int32), .int (0 : Int32), .int (0 : Int32), .ref 22, .ref 0]) (HH I' J R T) _
        refine Z_c1 rfl rfl rfl (c_pick) ?_
        show Zs _ _ (am_P 112).2 (86, [(0, .ref 0), (1, .int (0 : Int32)), (2, .int (0 : Int32)), (3, .int (0 : Int32)), (4, .int w), (5, .int (0 : Int32)), (6, .int (0 : Int32)), (7, .int (2 : Int32)), (8, .int (1 : Int32)), (9, .int (0 : Int32)), (10, .int (0 : Int32))], [.int (0 : Int32), .int (0 : Int32), .ref 22, .ref 0]) (HH I' J R T) _
        show Zs _ _ (am_P 112).2 (86, [(0, .ref 0), (1, .int (0 : Int32)), (2, .int (0 : Int32)), (3, .int (0 : Int32)), (4, .int w), (5, .int (0 : Int32)), (6, .int (0 : Int32)), (7, .int (2 : Int32)), (8, .int (1 : Int32)), (9, .int (0 : Int32)), (10, .int (0 : Int32))], [.int (0 : Int32), .int (0 : Int32), .ref 22, .ref 0]) (HH I' J R T) _
        refine Z_cQ rfl rfl rfl (c_goOn0 (f := 22) (t := 29) (K := 0) (v := 0) (by decide) (by decide) (by decide) hR0 rfl (by omega) (Or.inl rfl) hn) (fun v h1 hq => ?_)
        obtain ⟨rfl, I', rfl, a1, hn, a3, a4⟩ := hq
        have hk : ∀ c, 73 ≤ c → I' c = I c := fun c hc => (a1 c hc).trans (hk c hc)
        have e29 : I' 29 3 = 0 := a3 rfl
        show Zs _ _ (am_P 112).2 (89, [(0, .ref 0), (1, .int (0 : Int32)), (2, .int (0 : Int32)), (3, .int (0 : Int32)), (4, .int w), (5, .int (0 : Int32)), (6, .int (0 : Int32)), (7, .int (2 : Int32)), (8, .int (1 : Int32)), (9, .int (0 : Int32)), (10, .int (0 : Int32))], [.int (1 : Int32)]) (HH I' J R T) _
        refine Z_jump 5 rfl ?_
        show Zs _ _ (am_P 112).2 (100, [(0, .ref 0), (1, .int (0 : Int32)), (2, .int (0 : Int32)), (3, .int (0 : Int32)), (4, .int w), (5, .int (0 : Int32)), (6, .int (0 : Int32)), (7, .int (2 : Int32)), (8, .int (1 : Int32)), (9, .int (0 : Int32)), (10, .int (0 : Int32))], [.int (0 : Int32), .ref 28, .ref 0]) (HH I' J R T) _
        refine Z_c1 rfl rfl rfl (c_stAt28 (K := 0) hR0 rfl (by omega)) ?_
        show Zs _ _ (am_P 112).2 (103, [(0, .ref 0), (1, .int (0 : Int32)), (2, .int (0 : Int32)), (3, .int (0 : Int32)), (4, .int w), (5, .int (0 : Int32)), (6, .int (0 : Int32)), (7, .int (2 : Int32)), (8, .int (1 : Int32)), (9, .int (0 : Int32)), (10, .int (0 : Int32))], [.ref 29, .ref 0]) (HH I' J R T) _
        refine Z_jump 5 rfl ?_
        show Zs _ _ (am_P 112).2 (109, [(0, .ref 0), (1, .int (0 : Int32)), (2, .int (0 : Int32)), (3, .int (0 : Int32)), (4, .int w), (5, .int (0 : Int32)), (6, .int (0 : Int32)), (7, .int (2 : Int32)), (8, .int (1 : Int32)), (9, .int (0 : Int32)), (10, .int (0 : Int32))], [.int (0 : Int32), .int (0 : Int32), .int (0 : Int32), .int (0 : Int32), .int (1 : Int32), .ref 29, .ref 0]) (HH I' J R T) _
        refine Z_c1 rfl rfl rfl (c_pick) ?_
        show Zs _ _ (am_P 112).2 (112, [(0, .ref 0), (1, .int (0 : Int32)), (2, .int (0 : Int32)), (3, .int (0 : Int32)), (4, .int w), (5, .int (0 : Int32)), (6, .int (0 : Int32)), (7, .int (2 : Int32)), (8, .int (1 : Int32)), (9, .int (0 : Int32)), (10, .int (0 : Int32))], [.int (0 : Int32), .int (1 : Int32), .ref 29, .ref 0]) (HH I' J R T) _
        show Zs _ _ (am_P 112).2 (112, [(0, .ref 0), (1, .int (0 : Int32)), (2, .int (0 : Int32)), (3, .int (0 : Int32)), (4, .int w), (5, .int (0 : Int32)), (6, .int (0 : Int32)), (7, .int (2 : Int32)), (8, .int (1 : Int32)), (9, .int (0 : Int32)), (10, .int (0 : Int32))], [.int (0 : Int32), .int (1 : Int32), .ref 29, .ref 0]) (HH I' J R T) _
        refine Z_cQ rfl rfl rfl (c_goOn0 (f := 29) (t := 32) (K := 1) (v := 0) (by decide) (by decide) (by decide) hR1 rfl (by omega) (Or.inr e29) hn) (fun v h1 hq => ?_)
        obtain ⟨rfl, I', rfl, a1, hn, a3, a4⟩ := hq
        have hk : ∀ c, 73 ≤ c → I' c = I c := fun c hc => (a1 c hc).trans (hk c hc)
        have e29 : I' 29 3 = 0 := (a4 29 (by decide) (by decide)).trans e29
        have e32 : I' 32 3 = 0 := a3 rfl
        show Zs _ _ (am_P 112).2 (115, [(0, .ref 0), (1, .int (0 : Int32)), (2, .int (0 : Int32)), (3, .int (0 : Int32)), (4, .int w), (5, .int (0 : Int32)), (6, .int (0 : Int32)), (7, .int (2 : Int32)), (8, .int (1 : Int32)), (9, .int (0 : Int32)), (10, .int (0 : Int32))], [.int (1 : Int32)]) (HH I' J R T) _
        refine Z_jump 5 rfl ?_
        show Zs _ _ (am_P 112).2 (124, [(0, .ref 0), (1, .int (0 : Int32)), (2, .int (0 : Int32)), (3, .int (0 : Int32)), (4, .int w), (5, .int (0 : Int32)), (6, .int (0 : Int32)), (7, .int (2 : Int32)), (8, .int (1 : Int32)), (9, .int (0 : Int32)), (10, .int (0 : Int32))], [.int (1 : Int32), .ref 28, .ref 0]) (HH I' J R T) _
        refine Z_c1 rfl rfl rfl (c_stAt28 (K := 1) hR1 rfl (by omega)) ?_
        show Zs _ _ (am_P 112).2 (127, [(0, .ref 0), (1, .int (0 : Int32)), (2, .int (0 : Int32)), (3, .int (0 : Int32)), (4, .int w), (5, .int (0 : Int32)), (6, .int (0 : Int32)), (7, .int (2 : Int32)), (8, .int (1 : Int32)), (9, .int (0 : Int32)), (10, .int (0 : Int32))], [.ref 32, .ref 0]) (HH I' J R T) _
        refine Z_jump 9 rfl ?_
        show Zs _ _ (am_P 112).2 (138, [(0, .ref 0), (1, .int (0 : Int32)), (2, .int (0 : Int32)), (3, .int (0 : Int32)), (4, .int w), (5, .int (0 : Int32)), (6, .int (0 : Int32)), (7, .int (2 : Int32)), (8, .int (1 : Int32)), (9, .int (0 : Int32)), (10, .int (0 : Int32))], [.int (2 : Int32), .int (0 : Int32), .int (0 : Int32), .int (0 : Int32), .int (2 : Int32), .ref 32, .ref 0]) (HH I' J R T) _
        refine Z_c1 rfl rfl rfl (c_pick) ?_
        show Zs _ _ (am_P 112).2 (141, [(0, .ref 0), (1, .int (0 : Int32)), (2, .int (0 : Int32)), (3, .int (0 : Int32)), (4, .int w), (5, .int (0 : Int32)), (6, .int (0 : Int32)), (7, .int (2 : Int32)), (8, .int (1 : Int32)), (9, .int (0 : Int32)), (10, .int (0 : Int32))], [.int (0 : Int32), .int (2 : Int32), .ref 32, .ref 0]) (HH I' J R T) _
        show Zs _ _ (am_P 112).2 (141, [(0, .ref 0), (1, .int (0 : Int32)), (2, .int (0 : Int32)), (3, .int (0 : Int32)), (4, .int w), (5, .int (0 : Int32)), (6, .int (0 : Int32)), (7, .int (2 : Int32)), (8, .int (1 : Int32)), (9, .int (0 : Int32)), (10, .int (0 : Int32))], [.int (0 : Int32), .int (2 : Int32), .ref 32, .ref 0]) (HH I' J R T) _
        refine Z_cQ rfl rfl rfl (c_goOn0 (f := 32) (t := 35) (K := 2) (v := 0) (by decide) (by decide) (by decide) hR2 rfl (by omega) (Or.inr e32) hn) (fun v h1 hq => ?_)
        obtain ⟨rfl, I', rfl, a1, hn, a3, a4⟩ := hq
        have hk : ∀ c, 73 ≤ c → I' c = I c := fun c hc => (a1 c hc).trans (hk c hc)
        have e29 : I' 29 3 = 0 := (a4 29 (by decide) (by decide)).trans e29
        have e35 : I' 35 3 = 0 := a3 rfl
        show Zs _ _ (am_P 112).2 (144, [(0, .ref 0), (1, .int (0 : Int32)), (2, .int (0 : Int32)), (3, .int (0 : Int32)), (4, .int w), (5, .int (0 : Int32)), (6, .int (0 : Int32)), (7, .int (2 : Int32)), (8, .int (1 : Int32)), (9, .int (0 : Int32)), (10, .int (0 : Int32))], [.int (1 : Int32)]) (HH I' J R T) _
        refine Z_jump 2 rfl ?_
        show Zs _ _ (am_P 112).2 (150, [(0, .ref 0), (1, .int (0 : Int32)), (2, .int (0 : Int32)), (3, .int (0 : Int32)), (4, .int w), (5, .int (0 : Int32)), (6, .int (0 : Int32)), (7, .int (2 : Int32)), (8, .int (1 : Int32)), (9, .int (0 : Int32)), (10, .int (0 : Int32))], [.ref 0]) (HH I' J R T) _
        refine Z_c1 rfl rfl rfl (c_spent (a := 0) hR2) ?_
        show Zs _ _ (am_P 112).2 (153, [(0, .ref 0), (1, .int (0 : Int32)), (2, .int (0 : Int32)), (3, .int (0 : Int32)), (4, .int w), (5, .int (0 : Int32)), (6, .int (0 : Int32)), (7, .int (2 : Int32)), (8, .int (1 : Int32)), (9, .int (0 : Int32)), (10, .int (0 : Int32))], [.int (I' 35 3)]) (HH I' J R T) _
        show Zs _ _ (am_P 112).2 (153, [(0, .ref 0), (1, .int (0 : Int32)), (2, .int (0 : Int32)), (3, .int (0 : Int32)), (4, .int w), (5, .int (0 : Int32)), (6, .int (0 : Int32)), (7, .int (2 : Int32)), (8, .int (1 : Int32)), (9, .int (0 : Int32)), (10, .int (0 : Int32))], [.int (I' 35 3)]) (HH I' J R T) _
        refine Z_eqI (e35) ?_
        show Zs _ _ (am_P 112).2 (153, [(0, .ref 0), (1, .int (0 : Int32)), (2, .int (0 : Int32)), (3, .int (0 : Int32)), (4, .int w), (5, .int (0 : Int32)), (6, .int (0 : Int32)), (7, .int (2 : Int32)), (8, .int (1 : Int32)), (9, .int (0 : Int32)), (10, .int (0 : Int32))], [.int (0 : Int32)]) (HH I' J R T) _
        refine Z_jump 14 rfl ?_
        show Zs _ _ (am_P 112).2 (60, [(0, .ref 0), (1, .int (0 : Int32)), (2, .int (0 : Int32)), (3, .int (0 : Int32)), (4, .int w), (5, .int (0 : Int32)), (6, .int (0 : Int32)), (7, .int (3 : Int32)), (8, .int (1 : Int32)), (9, .int (0 : Int32)), (10, .int (0 : Int32))], [.int (3 : Int32)]) (HH I' J R T) _
        refine Z_c1 rfl rfl rfl ((E_run 60 rfl)) ?_
        show Zs _ _ (am_P 112).2 (63, [(0, .ref 0), (1, .int (0 : Int32)), (2, .int (0 : Int32)), (3, .int (0 : Int32)), (4, .int w), (5, .int (0 : Int32)), (6, .int (0 : Int32)), (7, .int (3 : Int32)), (8, .int (1 : Int32)), (9, .int (0 : Int32)), (10, .int (0 : Int32))], [.int (2 : Int32)]) (HH I' J R T) _
        refine Z_jump 9 rfl ?_
        show Zs _ _ (am_P 112).2 (100, [(0, .ref 0), (1, .int (0 : Int32)), (2, .int (0 : Int32)), (3, .int (0 : Int32)), (4, .int w), (5, .int (0 : Int32)), (6, .int (0 : Int32)), (7, .int (3 : Int32)), (8, .int (1 : Int32)), (9, .int (2 : Int32)), (10, .int (0 : Int32))], [.int (0 : Int32), .ref 28, .ref 0]) (HH I' J R T) _
        refine Z_c1 rfl rfl rfl (c_stAt28 (K := 0) hR0 rfl (by omega)) ?_
        show Zs _ _ (am_P 112).2 (103, [(0, .ref 0), (1, .int (0 : Int32)), (2, .int (0 : Int32)), (3, .int (0 : Int32)), (4, .int w), (5, .int (0 : Int32)), (6, .int (0 : Int32)), (7, .int (3 : Int32)), (8, .int (1 : Int32)), (9, .int (2 : Int32)), (10, .int (0 : Int32))], [.ref 29, .ref 0]) (HH I' J R T) _
        refine Z_jump 5 rfl ?_
        show Zs _ _ (am_P 112).2 (109, [(0, .ref 0), (1, .int (0 : Int32)), (2, .int (0 : Int32)), (3, .int (0 : Int32)), (4, .int w), (5, .int (0 : Int32)), (6, .int (0 : Int32)), (7, .int (3 : Int32)), (8, .int (1 : Int32)), (9, .int (2 : Int32)), (10, .int (0 : Int32))], [.int (2 : Int32), .int (0 : Int32), .int (0 : Int32), .int (0 : Int32), .int (1 : Int32), .ref 29, .ref 0]) (HH I' J R T) _
        refine Z_c1 rfl rfl rfl (c_pick) ?_
        show Zs _ _ (am_P 112).2 (112, [(0, .ref 0), (1, .int (0 : Int32)), (2, .int (0 : Int32)), (3, .int (0 : Int32)), (4, .int w), (5, .int (0 : Int32)), (6, .int (0 : Int32)), (7, .int (3 : Int32)), (8, .int (1 : Int32)), (9, .int (2 : Int32)), (10, .int (0 : Int32))], [.int (0 : Int32), .int (1 : Int32), .ref 29, .ref 0]) (HH I' J R T) _
        show Zs _ _ (am_P 112).2 (112, [(0, .ref 0), (1, .int (0 : Int32)), (2, .int (0 : Int32)), (3, .int (0 : Int32)), (4, .int w), (5, .int (0 : Int32)), (6, .int (0 : Int32)), (7, .int (3 : Int32)), (8, .int (1 : Int32)), (9, .int (2 : Int32)), (10, .int (0 : Int32))], [.int (0 : Int32), .int (1 : Int32), .ref 29, .ref 0]) (HH I' J R T) _
        refine Z_cQ rfl rfl rfl (c_goOn0 (f := 29) (t := 32) (K := 1) (v := 0) (by decide) (by decide) (by decide) hR1 rfl (by omega) (Or.inr e29) hn) (fun v h1 hq => ?_)
        obtain ⟨rfl, I', rfl, a1, hn, a3, a4⟩ := hq
        have hk : ∀ c, 73 ≤ c → I' c = I c := fun c hc => (a1 c hc).trans (hk c hc)
        have e29 : I' 29 3 = 0 := (a4 29 (by decide) (by decide)).trans e29
        have e32 : I' 32 3 = 0 := a3 rfl
        show Zs _ _ (am_P 112).2 (115, [(0, .ref 0), (1, .int (0 : Int32)), (2, .int (0 : Int32)), (3, .int (0 : Int32)), (4, .int w), (5, .int (0 : Int32)), (6, .int (0 : Int32)), (7, .int (3 : Int32)), (8, .int (1 : Int32)), (9, .int (2 : Int32)), (10, .int (0 : Int32))], [.int (1 : Int32)]) (HH I' J R T) _
        refine Z_jump 5 rfl ?_
        show Zs _ _ (am_P 112).2 (124, [(0, .ref 0), (1, .int (0 : Int32)), (2, .int (0 : Int32)), (3, .int (0 : Int32)), (4, .int w), (5, .int (0 : Int32)), (6, .int (0 : Int32)), (7, .int (3 : Int32)), (8, .int (1 : Int32)), (9, .int (2 : Int32)), (10, .int (0 : Int32))], [.int (1 : Int32), .ref 28, .ref 0]) (HH I' J R T) _
        refine Z_c1 rfl rfl rfl (c_stAt28 (K := 1) hR1 rfl (by omega)) ?_
        show Zs _ _ (am_P 112).2 (127, [(0, .ref 0), (1, .int (0 : Int32)), (2, .int (0 : Int32)), (3, .int (0 : Int32)), (4, .int w), (5, .int (0 : Int32)), (6, .int (0 : Int32)), (7, .int (3 : Int32)), (8, .int (1 : Int32)), (9, .int (2 : Int32)), (10, .int (0 : Int32))], [.ref 32, .ref 0]) (HH I' J R T) _
        refine Z_jump 9 rfl ?_
        show Zs _ _ (am_P 112).2 (138, [(0, .ref 0), (1, .int (0 : Int32)), (2, .int (0 : Int32)), (3, .int (0 : Int32)), (4, .int w), (5, .int (0 : Int32)), (6, .int (0 : Int32)), (7, .int (3 : Int32)), (8, .int (1 : Int32)), (9, .int (2 : Int32)), (10, .int (0 : Int32))], [.int (0 : Int32), .int (0 : Int32), .int (0 : Int32), .int (0 : Int32), .int (2 : Int32), .ref 32, .ref 0]) (HH I' J R T) _
        refine Z_c1 rfl rfl rfl (c_pick) ?_
        show Zs _ _ (am_P 112).2 (141, [(0, .ref 0), (1, .int (0 : Int32)), (2, .int (0 : Int32)), (3, .int (0 : Int32)), (4, .int w), (5, .int (0 : Int32)), (6, .int (0 : Int32)), (7, .int (3 : Int32)), (8, .int (1 : Int32)), (9, .int (2 : Int32)), (10, .int (0 : Int32))], [.int (0 : Int32), .int (2 : Int32), .ref 32, .ref 0]) (HH I' J R T) _
        show Zs _ _ (am_P 112).2 (141, [(0, .ref 0), (1, .int (0 : Int32)), (2, .int (0 : Int32)), (3, .int (0 : Int32)), (4, .int w), (5, .int (0 : Int32)), (6, .int (0 : Int32)), (7, .int (3 : Int32)), (8, .int (1 : Int32)), (9, .int (2 : Int32)), (10, .int (0 : Int32))], [.int (0 : Int32), .int (2 : Int32), .ref 32, .ref 0]) (HH I' J R T) _
        refine Z_cQ rfl rfl rfl (c_goOn0 (f := 32) (t := 35) (K := 2) (v := 0) (by decide) (by decide) (by decide) hR2 rfl (by omega) (Or.inr e32) hn) (fun v h1 hq => ?_)
        obtain ⟨rfl, I', rfl, a1, hn, a3, a4⟩ := hq
        have hk : ∀ c, 73 ≤ c → I' c = I c := fun c hc => (a1 c hc).trans (hk c hc)
        have e29 : I' 29 3 = 0 := (a4 29 (by decide) (by decide)).trans e29
        have e35 : I' 35 3 = 0 := a3 rfl
        show Zs _ _ (am_P 112).2 (144, [(0, .ref 0), (1, .int (0 : Int32)), (2, .int (0 : Int32)), (3, .int (0 : Int32)), (4, .int w), (5, .int (0 : Int32)), (6, .int (0 : Int32)), (7, .int (3 : Int32)), (8, .int (1 : Int32)), (9, .int (2 : Int32)), (10, .int (0 : Int32))], [.int (1 : Int32)]) (HH I' J R T) _
        refine Z_jump 2 rfl ?_
        show Zs _ _ (am_P 112).2 (150, [(0, .ref 0), (1, .int (0 : Int32)), (2, .int (0 : Int32)), (3, .int (0 : Int32)), (4, .int w), (5, .int (0 : Int32)), (6, .int (0 : Int32)), (7, .int (3 : Int32)), (8, .int (1 : Int32)), (9, .int (2 : Int32)), (10, .int (0 : Int32))], [.ref 0]) (HH I' J R T) _
        refine Z_c1 rfl rfl rfl (c_spent (a := 0) hR2) ?_
        show Zs _ _ (am_P 112).2 (153, [(0, .ref 0), (1, .int (0 : Int32)), (2, .int (0 : Int32)), (3, .int (0 : Int32)), (4, .int w), (5, .int (0 : Int32)), (6, .int (0 : Int32)), (7, .int (3 : Int32)), (8, .int (1 : Int32)), (9, .int (2 : Int32)), (10, .int (0 : Int32))], [.int (I' 35 3)]) (HH I' J R T) _
        show Zs _ _ (am_P 112).2 (153, [(0, .ref 0), (1, .int (0 : Int32)), (2, .int (0 : Int32)), (3, .int (0 : Int32)), (4, .int w), (5, .int (0 : Int32)), (6, .int (0 : Int32)), (7, .int (3 : Int32)), (8, .int (1 : Int32)), (9, .int (2 : Int32)), (10, .int (0 : Int32))], [.int (I' 35 3)]) (HH I' J R T) _
        refine Z_eqI (e35) ?_
        show Zs _ _ (am_P 112).2 (153, [(0, .ref 0), (1, .int (0 : Int32)), (2, .int (0 : Int32)), (3, .int (0 : Int32)), (4, .int w), (5, .int (0 : Int32)), (6, .int (0 : Int32)), (7, .int (3 : Int32)), (8, .int (1 : Int32)), (9, .int (2 : Int32)), (10, .int (0 : Int32))], [.int (0 : Int32)]) (HH I' J R T) _
        refine Z_jump 14 rfl ?_
        show Zs _ _ (am_P 112).2 (60, [(0, .ref 0), (1, .int (0 : Int32)), (2, .int (0 : Int32)), (3, .int (0 : Int32)), (4, .int w), (5, .int (0 : Int32)), (6, .int (0 : Int32)), (7, .int (4 : Int32)), (8, .int (2 : Int32)), (9, .int (2 : Int32)), (10, .int (0 : Int32))], [.int (4 : Int32)]) (HH I' J R T) _
        refine Z_c1 rfl rfl rfl ((E_run 60 rfl)) ?_
        show Zs _ _ (am_P 112).2 (63, [(0, .ref 0), (1, .int (0 : Int32)), (2, .int (0 : Int32)), (3, .int (0 : Int32)), (4, .int w), (5, .int (0 : Int32)), (6, .int (0 : Int32)), (7, .int (4 : Int32)), (8, .int (2 : Int32)), (9, .int (2 : Int32)), (10, .int (0 : Int32))], [.int (0 : Int32)]) (HH I' J R T) _
        refine Z_jump 13 rfl ?_
        show Zs _ _ (am_P 112).2 (83, [(0, .ref 0), (1, .int (0 : Int32)), (2, .int (0 : Int32)), (3, .int (0 : Int32)), (4, .int w), (5, .int (0 : Int32)), (6, .int (0 : Int32)), (7, .int (4 : Int32)), (8, .int (2 : Int32)), (9, .int (0 : Int32)), (10, .int (0 : Int32))], [.int (2 : Int32), .int (0 : Int32), .int (0 : Int32), .int (0 : Int32), .int (0 : Int32), .ref 22, .ref 0]) (HH I' J R T) _
        refine Z_c1 rfl rfl rfl (c_pick) ?_
        show Zs _ _ (am_P 112).2 (86, [(0, .ref 0), (1, .int (0 : Int32)), (2, .int (0 : Int32)), (3, .int (0 : Int32)), (4, .int w), (5, .int (0 : Int32)), (6, .int (0 : Int32)), (7, .int (4 : Int32)), (8, .int (2 : Int32)), (9, .int (0 : Int32)), (10, .int (0 : Int32))], [.int (0 : Int32), .int (0 : Int32), .ref 22, .ref 0]) (HH I' J R T) _
        show Zs _ _ (am_P 112).2 (86, [(0, .ref 0), (1, .int (0 : Int32)), (2, .int (0 : Int32)), (3, .int (0 : Int32)), (4, .int w), (5, .int (0 : Int32)), (6, .int (0 : Int32)), (7, .int (4 : Int32)), (8, .int (2 : Int32)), (9, .int (0 : Int32)), (10, .int (0 : Int32))], [.int (0 : Int32), .int (0 : Int32), .ref 22, .ref 0]) (HH I' J R T) _
        refine Z_cQ rfl rfl rfl (c_goOn0 (f := 22) (t := 29) (K := 0) (v := 0) (by decide) (by decide) (by decide) hR0 rfl (by omega) (Or.inl rfl) hn) (fun v h1 hq => ?_)
        obtain ⟨rfl, I', rfl, a1, hn, a3, a4⟩ := hq
        have hk : ∀ c, 73 ≤ c → I' c = I c := fun c hc => (a1 c hc).trans (hk c hc)
        have e29 : I' 29 3 = 0 := a3 rfl
        show Zs _ _ (am_P 112).2 (89, [(0, .ref 0), (1, .int (0 : Int32)), (2, .int (0 : Int32)), (3, .int (0 : Int32)), (4, .int w), (5, .int (0 : Int32)), (6, .int (0 : Int32)), (7, .int (4 : Int32)), (8, .int (2 : Int32)), (9, .int (0 : Int32)), (10, .int (0 : Int32))], [.int (1 : Int32)]) (HH I' J R T) _
        refine Z_jump 5 rfl ?_
        show Zs _ _ (am_P 112).2 (100, [(0, .ref 0), (1, .int (0 : Int32)), (2, .int (0 : Int32)), (3, .int (0 : Int32)), (4, .int w), (5, .int (0 : Int32)), (6, .int (0 : Int32)), (7, .int (4 : Int32)), (8, .int (2 : Int32)), (9, .int (0 : Int32)), (10, .int (0 : Int32))], [.int (0 : Int32), .ref 28, .ref 0]) (HH I' J R T) _
        refine Z_c1 rfl rfl rfl (c_stAt28 (K := 0) hR0 rfl (by omega)) ?_
        show Zs _ _ (am_P 112).2 (103, [(0, .ref 0), (1, .int (0 : Int32)), (2, .int (0 : Int32)), (3, .int (0 : Int32)), (4, .int w), (5, .int (0 : Int32)), (6, .int (0 : Int32)), (7, .int (4 : Int32)), (8, .int (2 : Int32)), (9, .int (0 : Int32)), (10, .int (0 : Int32))], [.ref 29, .ref 0]) (HH I' J R T) _
        refine Z_jump 5 rfl ?_
        show Zs _ _ (am_P 112).2 (109, [(0, .ref 0), (1, .int (0 : Int32)), (2, .int (0 : Int32)), (3, .int (0 : Int32)), (4, .int w), (5, .int (0 : Int32)), (6, .int (0 : Int32)), (7, .int (4 : Int32)), (8, .int (2 : Int32)), (9, .int (0 : Int32)), (10, .int (0 : Int32))], [.int (0 : Int32), .int (0 : Int32), .int (0 : Int32), .int (0 : Int32), .int (1 : Int32), .ref 29, .ref 0]) (HH I' J R T) _
        refine Z_c1 rfl rfl rfl (c_pick) ?_
        show Zs _ _ (am_P 112).2 (112, [(0, .ref 0), (1, .int (0 : Int32)), (2, .int (0 : Int32)), (3, .int (0 : Int32)), (4, .int w), (5, .int (0 : Int32)), (6, .int (0 : Int32)), (7, .int (4 : Int32)), (8, .int (2 : Int32)), (9, .int (0 : Int32)), (10, .int (0 : Int32))], [.int (0 : Int32), .int (1 : Int32), .ref 29, .ref 0]) (HH I' J R T) _
        show Zs _ _ (am_P 112).2 (112, [(0, .ref 0), (1, .int (0 : Int32)), (2, .int (0 : Int32)), (3, .int (0 : Int32)), (4, .int w), (5, .int (0 : Int32)), (6, .int (0 : Int32)), (7, .int (4 : Int32)), (8, .int (2 : Int32)), (9, .int (0 : Int32)), (10, .int (0 : Int32))], [.int (0 : Int32), .int (1 : Int32), .ref 29, .ref 0]) (HH I' J R T) _
        refine Z_cQ rfl rfl rfl (c_goOn0 (f := 29) (t := 32) (K := 1) (v := 0) (by decide) (by decide) (by decide) hR1 rfl (by omega) (Or.inr e29) hn) (fun v h1 hq => ?_)
        obtain ⟨rfl, I', rfl, a1, hn, a3, a4⟩ := hq
        have hk : ∀ c, 73 ≤ c → I' c = I c := fun c hc => (a1 c hc).trans (hk c hc)
        have e29 : I' 29 3 = 0 := (a4 29 (by decide) (by decide)).trans e29
        have e32 : I' 32 3 = 0 := a3 rfl
        show Zs _ _ (am_P 112).2 (115, [(0, .ref 0), (1, .int (0 : Int32)), (2, .int (0 : Int32)), (3, .int (0 : Int32)), (4, .int w), (5, .int (0 : Int32)), (6, .int (0 : Int32)), (7, .int (4 : Int32)), (8, .int (2 : Int32)), (9, .int (0 : Int32)), (10, .int (0 : Int32))], [.int (1 : Int32)]) (HH I' J R T) _
        refine Z_jump 5 rfl ?_
        show Zs _ _ (am_P 112).2 (124, [(0, .ref 0), (1, .int (0 : Int32)), (2, .int (0 : Int32)), (3, .int (0 : Int32)), (4, .int w), (5, .int (0 : Int32)), (6, .int (0 : Int32)), (7, .int (4 : Int32)), (8, .int (2 : Int32)), (9, .int (0 : Int32)), (10, .int (0 : Int32))], [.int (1 : Int32), .ref 28, .ref 0]) (HH I' J R T) _
        refine Z_c1 rfl rfl rfl (c_stAt28 (K := 1) hR1 rfl (by omega)) ?_
        show Zs _ _ (am_P 112).2 (127, [(0, .ref 0), (1, .int (0 : Int32)), (2, .int (0 : Int32)), (3, .int (0 : Int32)), (4, .int w), (5, .int (0 : Int32)), (6, .int (0 : Int32)), (7, .int (4 : Int32)), (8, .int (2 : Int32)), (9, .int (0 : Int32)), (10, .int (0 : Int32))], [.ref 32, .ref 0]) (HH I' J R T) _
        refine Z_jump 9 rfl ?_
        show Zs _ _ (am_P 112).2 (138, [(0, .ref 0), (1, .int (0 : Int32)), (2, .int (0 : Int32)), (3, .int (0 : Int32)), (4, .int w), (5, .int (0 : Int32)), (6, .int (0 : Int32)), (7, .int (4 : Int32)), (8, .int (2 : Int32)), (9, .int (0 : Int32)), (10, .int (0 : Int32))], [.int (1 : Int32), .int (0 : Int32), .int (0 : Int32), .int (0 : Int32), .int (2 : Int32), .ref 32, .ref 0]) (HH I' J R T) _
        refine Z_c1 rfl rfl rfl (c_pick) ?_
        show Zs _ _ (am_P 112).2 (141, [(0, .ref 0), (1, .int (0 : Int32)), (2, .int (0 : Int32)), (3, .int (0 : Int32)), (4, .int w), (5, .int (0 : Int32)), (6, .int (0 : Int32)), (7, .int (4 : Int32)), (8, .int (2 : Int32)), (9, .int (0 : Int32)), (10, .int (0 : Int32))], [.int (0 : Int32), .int (2 : Int32), .ref 32, .ref 0]) (HH I' J R T) _
        show Zs _ _ (am_P 112).2 (141, [(0, .ref 0), (1, .int (0 : Int32)), (2, .int (0 : Int32)), (3, .int (0 : Int32)), (4, .int w), (5, .int (0 : Int32)), (6, .int (0 : Int32)), (7, .int (4 : Int32)), (8, .int (2 : Int32)), (9, .int (0 : Int32)), (10, .int (0 : Int32))], [.int (0 : Int32), .int (2 : Int32), .ref 32, .ref 0]) (HH I' J R T) _
        refine Z_cQ rfl rfl rfl (c_goOn0 (f := 32) (t := 35) (K := 2) (v := 0) (by decide) (by decide) (by decide) hR2 rfl (by omega) (Or.inr e32) hn) (fun v h1 hq => ?_)
        obtain ⟨rfl, I', rfl, a1, hn, a3, a4⟩ := hq
        have hk : ∀ c, 73 ≤ c → I' c = I c := fun c hc => (a1 c hc).trans (hk c hc)
        have e29 : I' 29 3 = 0 := (a4 29 (by decide) (by decide)).trans e29
        have e35 : I' 35 3 = 0 := a3 rfl
        show Zs _ _ (am_P 112).2 (144, [(0, .ref 0), (1, .int (0 : Int32)), (2, .int (0 : Int32)), (3, .int (0 : Int32)), (4, .int w), (5, .int (0 : Int32)), (6, .int (0 : Int32)), (7, .int (4 : Int32)), (8, .int (2 : Int32)), (9, .int (0 : Int32)), (10, .int (0 : Int32))], [.int (1 : Int32)]) (HH I' J R T) _
        refine Z_jump 2 rfl ?_
        show Zs _ _ (am_P 112).2 (150, [(0, .ref 0), (1, .int (0 : Int32)), (2, .int (0 : Int32)), (3, .int (0 : Int32)), (4, .int w), (5, .int (0 : Int32)), (6, .int (0 : Int32)), (7, .int (4 : Int32)), (8, .int (2 : Int32)), (9, .int (0 : Int32)), (10, .int (0 : Int32))], [.ref 0]) (HH I' J R T) _
        refine Z_c1 rfl rfl rfl (c_spent (a := 0) hR2) ?_
        show Zs _ _ (am_P 112).2 (153, [(0, .ref 0), (1, .int (0 : Int32)), (2, .int (0 : Int32)), (3, .int (0 : Int32)), (4, .int w), (5, .int (0 : Int32)), (6, .int (0 : Int32)), (7, .int (4 : Int32)), (8, .int (2 : Int32)), (9, .int (0 : Int32)), (10, .int (0 : Int32))], [.int (I' 35 3)]) (HH I' J R T) _
        show Zs _ _ (am_P 112).2 (153, [(0, .ref 0), (1, .int (0 : Int32)), (2, .int (0 : Int32)), (3, .int (0 : Int32)), (4, .int w), (5, .int (0 : Int32)), (6, .int (0 : Int32)), (7, .int (4 : Int32)), (8, .int (2 : Int32)), (9, .int (0 : Int32)), (10, .int (0 : Int32))], [.int (I' 35 3)]) (HH I' J R T) _
        refine Z_eqI (e35) ?_
        show Zs _ _ (am_P 112).2 (153, [(0, .ref 0), (1, .int (0 : Int32)), (2, .int (0 : Int32)), (3, .int (0 : Int32)), (4, .int w), (5, .int (0 : Int32)), (6, .int (0 : Int32)), (7, .int (4 : Int32)), (8, .int (2 : Int32)), (9, .int (0 : Int32)), (10, .int (0 : Int32))], [.int (0 : Int32)]) (HH I' J R T) _
        refine Z_jump 14 rfl ?_
        show Zs _ _ (am_P 112).2 (60, [(0, .ref 0), (1, .int (0 : Int32)), (2, .int (0 : Int32)), (3, .int (0 : Int32)), (4, .int w), (5, .int (0 : Int32)), (6, .int (0 : Int32)), (7, .int (5 : Int32)), (8, .int (2 : Int32)), (9, .int (0 : Int32)), (10, .int (0 : Int32))], [.int (5 : Int32)]) (HH I' J R T) _
        refine Z_c1 rfl rfl rfl ((E_run 60 rfl)) ?_
        show Zs _ _ (am_P 112).2 (63, [(0, .ref 0), (1, .int (0 : Int32)), (2, .int (0 : Int32)), (3, .int (0 : Int32)), (4, .int w), (5, .int (0 : Int32)), (6, .int (0 : Int32)), (7, .int (5 : Int32)), (8, .int (2 : Int32)), (9, .int (0 : Int32)), (10, .int (0 : Int32))], [.int (1 : Int32)]) (HH I' J R T) _
        refine Z_jump 9 rfl ?_
        show Zs _ _ (am_P 112).2 (100, [(0, .ref 0), (1, .int (0 : Int32)), (2, .int (0 : Int32)), (3, .int (0 : Int32)), (4, .int w), (5, .int (0 : Int32)), (6, .int (0 : Int32)), (7, .int (5 : Int32)), (8, .int (2 : Int32)), (9, .int (1 : Int32)), (10, .int (0 : Int32))], [.int (0 : Int32), .ref 28, .ref 0]) (HH I' J R T) _
        refine Z_c1 rfl rfl rfl (c_stAt28 (K := 0) hR0 rfl (by omega)) ?_
        show Zs _ _ (am_P 112).2 (103, [(0, .ref 0), (1, .int (0 : Int32)), (2, .int (0 : Int32)), (3, .int (0 : Int32)), (4, .int w), (5, .int (0 : Int32)), (6, .int (0 : Int32)), (7, .int (5 : Int32)), (8, .int (2 : Int32)), (9, .int (1 : Int32)), (10, .int (0 : Int32))], [.ref 29, .ref 0]) (HH I' J R T) _
        refine Z_jump 5 rfl ?_
        show Zs _ _ (am_P 112).2 (109, [(0, .ref 0), (1, .int (0 : Int32)), (2, .int (0 : Int32)), (3, .int (0 : Int32)), (4, .int w), (5, .int (0 : Int32)), (6, .int (0 : Int32)), (7, .int (5 : Int32)), (8, .int (2 : Int32)), (9, .int (1 : Int32)), (10, .int (0 : Int32))], [.int (1 : Int32), .int (0 : Int32), .int (0 : Int32), .int (0 : Int32), .int (1 : Int32), .ref 29, .ref 0]) (HH I' J R T) _
        refine Z_c1 rfl rfl rfl (c_pick) ?_
        show Zs _ _ (am_P 112).2 (112, [(0, .ref 0), (1, .int (0 : Int32)), (2, .int (0 : Int32)), (3, .int (0 : Int32)), (4, .int w), (5, .int (0 : Int32)), (6, .int (0 : Int32)), (7, .int (5 : Int32)), (8, .int (2 : Int32)), (9, .int (1 : Int32)), (10, .int (0 : Int32))], [.int (0 : Int32), .int (1 : Int32), .ref 29, .ref 0]) (HH I' J R T) _
        show Zs _ _ (am_P 112).2 (112, [(0, .ref 0), (1, .int (0 : Int32)), (2, .int (0 : Int32)), (3, .int (0 : Int32)), (4, .int w), (5, .int (0 : Int32)), (6, .int (0 : Int32)), (7, .int (5 : Int32)), (8, .int (2 : Int32)), (9, .int (1 : Int32)), (10, .int (0 : Int32))], [.int (0 : Int32), .int (1 : Int32), .ref 29, .ref 0]) (HH I' J R T) _
        refine Z_cQ rfl rfl rfl (c_goOn0 (f := 29) (t := 32) (K := 1) (v := 0) (by decide) (by decide) (by decide) hR1 rfl (by omega) (Or.inr e29) hn) (fun v h1 hq => ?_)
        obtain ⟨rfl, I', rfl, a1, hn, a3, a4⟩ := hq
        have hk : ∀ c, 73 ≤ c → I' c = I c := fun c hc => (a1 c hc).trans (hk c hc)
        have e29 : I' 29 3 = 0 := (a4 29 (by decide) (by decide)).trans e29
        have e32 : I' 32 3 = 0 := a3 rfl
        show Zs _ _ (am_P 112).2 (115, [(0, .ref 0), (1, .int (0 : Int32)), (2, .int (0 : Int32)), (3, .int (0 : Int32)), (4, .int w), (5, .int (0 : Int32)), (6, .int (0 : Int32)), (7, .int (5 : Int32)), (8, .int (2 : Int32)), (9, .int (1 : Int32)), (10, .int (0 : Int32))], [.int (1 : Int32)]) (HH I' J R T) _
        refine Z_jump 5 rfl ?_
        show Zs _ _ (am_P 112).2 (124, [(0, .ref 0), (1, .int (0 : Int32)), (2, .int (0 : Int32)), (3, .int (0 : Int32)), (4, .int w), (5, .int (0 : Int32)), (6, .int (0 : Int32)), (7, .int (5 : Int32)), (8, .int (2 : Int32)), (9, .int (1 : Int32)), (10, .int (0 : Int32))], [.int (1 : Int32), .ref 28, .ref 0]) (HH I' J R T) _
        refine Z_c1 rfl rfl rfl (c_stAt28 (K := 1) hR1 rfl (by omega)) ?_
        show Zs _ _ (am_P 112).2 (127, [(0, .ref 0), (1, .int (0 : Int32)), (2, .int (0 : Int32)), (3, .int (0 : Int32)), (4, .int w), (5, .int (0 : Int32)), (6, .int (0 : Int32)), (7, .int (5 : Int32)), (8, .int (2 : Int32)), (9, .int (1 : Int32)), (10, .int (0 : Int32))], [.ref 32, .ref 0]) (HH I' J R T) _
        refine Z_jump 9 rfl ?_
        show Zs _ _ (am_P 112).2 (138, [(0, .ref 0), (1, .int (0 : Int32)), (2, .int (0 : Int32)), (3, .int (0 : Int32)), (4, .int w), (5, .int (0 : Int32)), (6, .int (0 : Int32)), (7, .int (5 : Int32)), (8, .int (2 : Int32)), (9, .int (1 : Int32)), (10, .int (0 : Int32))], [.int (0 : Int32), .int (0 : Int32), .int (0 : Int32), .int (0 : Int32), .int (2 : Int32), .ref 32, .ref 0]) (HH I' J R T) _
        refine Z_c1 rfl rfl rfl (c_pick) ?_
        show Zs _ _ (am_P 112).2 (141, [(0, .ref 0), (1, .int (0 : Int32)), (2, .int (0 : Int32)), (3, .int (0 : Int32)), (4, .int w), (5, .int (0 : Int32)), (6, .int (0 : Int32)), (7, .int (5 : Int32)), (8, .int (2 : Int32)), (9, .int (1 : Int32)), (10, .int (0 : Int32))], [.int (0 : Int32), .int (2 : Int32), .ref 32, .ref 0]) (HH I' J R T) _
        show Zs _ _ (am_P 112).2 (141, [(0, .ref 0), (1, .int (0 : Int32)), (2, .int (0 : Int32)), (3, .int (0 : Int32)), (4, .int w), (5, .int (0 : Int32)), (6, .int (0 : Int32)), (7, .int (5 : Int32)), (8, .int (2 : Int32)), (9, .int (1 : Int32)), (10, .int (0 : Int32))], [.int (0 : Int32), .int (2 : Int32), .ref 32, .ref 0]) (HH I' J R T) _
        refine Z_cQ rfl rfl rfl (c_goOn0 (f := 32) (t := 35) (K := 2) (v := 0) (by decide) (by decide) (by decide) hR2 rfl (by omega) (Or.inr e32) hn) (fun v h1 hq => ?_)
        obtain ⟨rfl, I', rfl, a1, hn, a3, a4⟩ := hq
        have hk : ∀ c, 73 ≤ c → I' c = I c := fun c hc => (a1 c hc).trans (hk c hc)
        have e29 : I' 29 3 = 0 := (a4 29 (by decide) (by decide)).trans e29
        have e35 : I' 35 3 = 0 := a3 rfl
        show Zs _ _ (am_P 112).2 (144, [(0, .ref 0), (1, .int (0 : Int32)), (2, .int (0 : Int32)), (3, .int (0 : Int32)), (4, .int w), (5, .int (0 : Int32)), (6, .int (0 : Int32)), (7, .int (5 : Int32)), (8, .int (2 : Int32)), (9, .int (1 : Int32)), (10, .int (0 : Int32))], [.int (1 : Int32)]) (HH I' J R T) _
        refine Z_jump 2 rfl ?_
        show Zs _ _ (am_P 112).2 (150, [(0, .ref 0), (1, .int (0 : Int32)), (2, .int (0 : Int32)), (3, .int (0 : Int32)), (4, .int w), (5, .int (0 : Int32)), (6, .int (0 : Int32)), (7, .int (5 : Int32)), (8, .int (2 : Int32)), (9, .int (1 : Int32)), (10, .int (0 : Int32))], [.ref 0]) (HH I' J R T) _
        refine Z_c1 rfl rfl rfl (c_spent (a := 0) hR2) ?_
        show Zs _ _ (am_P 112).2 (153, [(0, .ref 0), (1, .int (0 : Int32)), (2, .int (0 : Int32)), (3, .int (0 : Int32)), (4, .int w), (5, .int (0 : Int32)), (6, .int (0 : Int32)), (7, .int (5 : Int32)), (8, .int (2 : Int32)), (9, .int (1 : Int32)), (10, .int (0 : Int32))], [.int (I' 35 3)]) (HH I' J R T) _
        show Zs _ _ (am_P 112).2 (153, [(0, .ref 0), (1, .int (0 : Int32)), (2, .int (0 : Int32)), (3, .int (0 : Int32)), (4, .int w), (5, .int (0 : Int32)), (6, .int (0 : Int32)), (7, .int (5 : Int32)), (8, .int (2 : Int32)), (9, .int (1 : Int32)), (10, .int (0 : Int32))], [.int (I' 35 3)]) (HH I' J R T) _
        refine Z_eqI (e35) ?_
        show Zs _ _ (am_P 112).2 (153, [(0, .ref 0), (1, .int (0 : Int32)), (2, .int (0 : Int32)), (3, .int (0 : Int32)), (4, .int w), (5, .int (0 : Int32)), (6, .int (0 : Int32)), (7, .int (5 : Int32)), (8, .int (2 : Int32)), (9, .int (1 : Int32)), (10, .int (0 : Int32))], [.int (0 : Int32)]) (HH I' J R T) _
        refine Z_jump 11 rfl ?_
        refine Z_bn (fun (c178 : ¬ (w = (0 : Int32))) => ?_) (fun (c178 : w = (0 : Int32)) => ?_)
        · refine Z_jump 1 rfl ?_
          show Zs _ _ (am_P 112).2 (188, [(0, .ref 0), (1, .int (0 : Int32)), (2, .int (0 : Int32)), (3, .int (0 : Int32)), (4, .int w), (5, .int (0 : Int32)), (6, .int (0 : Int32)), (7, .int (6 : Int32)), (8, .int (2 : Int32)), (9, .int (1 : Int32)), (10, .int (0 : Int32))], [.int (0 : Int32)]) (HH I' J R T) _
          refine Z_rI rfl (by first | exact am_nw0 _ | exact am_nw01 | rfl | assumption) ?_
          exact C0p_c hk
        · refine Z_jump 2 rfl ?_
          show Zs _ _ (am_P 112).2 (188, [(0, .ref 0), (1, .int (0 : Int32)), (2, .int (0 : Int32)), (3, .int (0 : Int32)), (4, .int w), (5, .int (0 : Int32)), (6, .int (0 : Int32)), (7, .int (6 : Int32)), (8, .int (2 : Int32)), (9, .int (1 : Int32)), (10, .int (0 : Int32))], [.int (0 : Int32)]) (HH I' J R T) _
          refine Z_rI rfl (by first | exact am_nw0 _ | exact am_nw01 | rfl | assumption) ?_
          exact C0p_c hk
      · rw [if_neg (fun z => hc z.2.2)]
        subst ha
        subst hb
        have hk : ∀ c, 73 ≤ c → I c = I c := fun _ _ => rfl
        refine Z_jump 1 rfl ?_
        show Zs _ _ (am_P 112).2 (1, [(0, .ref 0), (1, .int (0 : Int32)), (2, .int (0 : Int32)), (3, .int c), (4, .int w)], [.int (0 : Int32)]) (HH I J R T) _
        refine Z_c1 rfl rfl rfl (c_isOfTour) ?_
        show Zs _ _ (am_P 112).2 (4, [(0, .ref 0), (1, .int (0 : Int32)), (2, .int (0 : Int32)), (3, .int c), (4, .int w)], [.int (if M_mil 0 then 1 else 0)]) (HH I J R T) _
        refine Z_jump 1 rfl ?_
        refine Z_bd (fun c4 => absurd c4 ((fun z => if10.mp z h1))) (fun c4 => ?_)
        refine Z_jump 1 rfl ?_
        show Zs _ _ (am_P 112).2 (8, [(0, .ref 0), (1, .int (0 : Int32)), (2, .int (0 : Int32)), (3, .int c), (4, .int w)], [.int (0 : Int32)]) (HH I J R T) _
        refine Z_c1 rfl rfl rfl (c_isOfTour) ?_
        show Zs _ _ (am_P 112).2 (11, [(0, .ref 0), (1, .int (0 : Int32)), (2, .int (0 : Int32)), (3, .int c), (4, .int w)], [.int (if M_mil 0 then 1 else 0)]) (HH I J R T) _
        refine Z_jump 1 rfl ?_
        refine Z_bd (fun c11 => absurd c11 ((fun z => if10.mp z h2))) (fun c11 => ?_)
        refine Z_jump 1 rfl ?_
        show Zs _ _ (am_P 112).2 (15, [(0, .ref 0), (1, .int (0 : Int32)), (2, .int (0 : Int32)), (3, .int c), (4, .int w)], [.int c]) (HH I J R T) _
        refine Z_c1 rfl rfl rfl (c_isOfTour) ?_
        show Zs _ _ (am_P 112).2 (18, [(0, .ref 0), (1, .int (0 : Int32)), (2, .int (0 : Int32)), (3, .int c), (4, .int w)], [.int (if M_mil c then 1 else 0)]) (HH I J R T) _
        refine Z_jump 1 rfl ?_
        refine Z_bd (fun c18 => absurd c18 ((fun z => if10.mp z h3))) (fun c18 => ?_)
        refine Z_jump 2 rfl ?_
        refine Z_bd (fun c23 => absurd c23 (hw1)) (fun c23 => ?_)
        refine Z_jump 3 rfl ?_
        refine Z_bd (fun c29 => ?_) (fun c29 => absurd (hw2) c29)
        refine Z_jump 14 rfl ?_
        show Zs _ _ (am_P 112).2 (60, [(0, .ref 0), (1, .int (0 : Int32)), (2, .int (0 : Int32)), (3, .int c), (4, .int w), (5, .int (1048576 : Int32)), (6, .int (-1 : Int32)), (7, .int (0 : Int32)), (8, .int (0 : Int32))], [.int (0 : Int32)]) (HH I J R T) _
        refine Z_c1 rfl rfl rfl ((E_run 60 rfl)) ?_
        show Zs _ _ (am_P 112).2 (63, [(0, .ref 0), (1, .int (0 : Int32)), (2, .int (0 : Int32)), (3, .int c), (4, .int w), (5, .int (1048576 : Int32)), (6, .int (-1 : Int32)), (7, .int (0 : Int32)), (8, .int (0 : Int32))], [.int (1 : Int32)]) (HH I J R T) _
        refine Z_jump 13 rfl ?_
        show Zs _ _ (am_P 112).2 (83, [(0, .ref 0), (1, .int (0 : Int32)), (2, .int (0 : Int32)), (3, .int c), (4, .int w), (5, .int (1048576 : Int32)), (6, .int (-1 : Int32)), (7, .int (0 : Int32)), (8, .int (0 : Int32)), (9, .int (1 : Int32))], [.int (0 : Int32), .int c, .int (0 : Int32), .int (0 : Int32), .int (0 : Int32), .ref 22, .ref 0]) (HH I J R T) _
        refine Z_c1 rfl rfl rfl (c_pick) ?_
        show Zs _ _ (am_P 112).2 (86, [(0, .ref 0), (1, .int (0 : Int32)), (2, .int (0 : Int32)), (3, .int c), (4, .int w), (5, .int (1048576 : Int32)), (6, .int (-1 : Int32)), (7, .int (0 : Int32)), (8, .int (0 : Int32)), (9, .int (1 : Int32))], [.int (0 : Int32), .int (0 : Int32), .ref 22, .ref 0]) (HH I J R T) _
        show Zs _ _ (am_P 112).2 (86, [(0, .ref 0), (1, .int (0 : Int32)), (2, .int (0 : Int32)), (3, .int c), (4, .int w), (5, .int (1048576 : Int32)), (6, .int (-1 : Int32)), (7, .int (0 : Int32)), (8, .int (0 : Int32)), (9, .int (1 : Int32))], [.int (0 : Int32), .int (0 : Int32), .ref 22, .ref 0]) (HH I J R T) _
        refine Z_cQ rfl rfl rfl (c_goOn0 (f := 22) (t := 29) (K := 0) (v := 0) (by decide) (by decide) (by decide) hR0 rfl (by omega) (Or.inl rfl) hn) (fun v h1 hq => ?_)
        obtain ⟨rfl, I', rfl, a1, hn, a3, a4⟩ := hq
        have hk : ∀ c, 73 ≤ c → I' c = I c := fun c hc => (a1 c hc).trans (hk c hc)
        have e29 : I' 29 3 = 0 := a3 rfl
        show Zs _ _ (am_P 112).2 (89, [(0, .ref 0), (1, .int (0 : Int32)), (2, .int (0 : Int32)), (3, .int c), (4, .int w), (5, .int (1048576 : Int32)), (6, .int (-1 : Int32)), (7, .int (0 : Int32)), (8, .int (0 : Int32)), (9, .int (1 : Int32))], [.int (1 : Int32)]) (HH I' J R T) _
        refine Z_jump 5 rfl ?_
        show Zs _ _ (am_P 112).2 (100, [(0, .ref 0), (1, .int (0 : Int32)), (2, .int (0 : Int32)), (3, .int c), (4, .int w), (5, .int (1048576 : Int32)), (6, .int (-1 : Int32)), (7, .int (0 : Int32)), (8, .int (0 : Int32)), (9, .int (1 : Int32))], [.int (0 : Int32), .ref 28, .ref 0]) (HH I' J R T) _
        refine Z_c1 rfl rfl rfl (c_stAt28 (K := 0) hR0 rfl (by omega)) ?_
        show Zs _ _ (am_P 112).2 (103, [(0, .ref 0), (1, .int (0 : Int32)), (2, .int (0 : Int32)), (3, .int c), (4, .int w), (5, .int (1048576 : Int32)), (6, .int (-1 : Int32)), (7, .int (0 : Int32)), (8, .int (0 : Int32)), (9, .int (1 : Int32))], [.ref 29, .ref 0]) (HH I' J R T) _
        refine Z_jump 5 rfl ?_
        show Zs _ _ (am_P 112).2 (109, [(0, .ref 0), (1, .int (0 : Int32)), (2, .int (0 : Int32)), (3, .int c), (4, .int w), (5, .int (1048576 : Int32)), (6, .int (-1 : Int32)), (7, .int (0 : Int32)), (8, .int (0 : Int32)), (9, .int (1 : Int32))], [.int (1 : Int32), .int c, .int (0 : Int32), .int (0 : Int32), .int (1 : Int32), .ref 29, .ref 0]) (HH I' J R T) _
        refine Z_c1 rfl rfl rfl (c_pick) ?_
        show Zs _ _ (am_P 112).2 (112, [(0, .ref 0), (1, .int (0 : Int32)), (2, .int (0 : Int32)), (3, .int c), (4, .int w), (5, .int (1048576 : Int32)), (6, .int (-1 : Int32)), (7, .int (0 : Int32)), (8, .int (0 : Int32)), (9, .int (1 : Int32))], [.int (0 : Int32), .int (1 : Int32), .ref 29, .ref 0]) (HH I' J R T) _
        show Zs _ _ (am_P 112).2 (112, [(0, .ref 0), (1, .int (0 : Int32)), (2, .int (0 : Int32)), (3, .int c), (4, .int w), (5, .int (1048576 : Int32)), (6, .int (-1 : Int32)), (7, .int (0 : Int32)), (8, .int (0 : Int32)), (9, .int (1 : Int32))], [.int (0 : Int32), .int (1 : Int32), .ref 29, .ref 0]) (HH I' J R T) _
        refine Z_cQ rfl rfl rfl (c_goOn0 (f := 29) (t := 32) (K := 1) (v := 0) (by decide) (by decide) (by decide) hR1 rfl (by omega) (Or.inr e29) hn) (fun v h1 hq => ?_)
        obtain ⟨rfl, I', rfl, a1, hn, a3, a4⟩ := hq
        have hk : ∀ c, 73 ≤ c → I' c = I c := fun c hc => (a1 c hc).trans (hk c hc)
        have e29 : I' 29 3 = 0 := (a4 29 (by decide) (by decide)).trans e29
        have e32 : I' 32 3 = 0 := a3 rfl
        show Zs _ _ (am_P 112).2 (115, [(0, .ref 0), (1, .int (0 : Int32)), (2, .int (0 : Int32)), (3, .int c), (4, .int w), (5, .int (1048576 : Int32)), (6, .int (-1 : Int32)), (7, .int (0 : Int32)), (8, .int (0 : Int32)), (9, .int (1 : Int32))], [.int (1 : Int32)]) (HH I' J R T) _
        refine Z_jump 5 rfl ?_
        show Zs _ _ (am_P 112).2 (124, [(0, .ref 0), (1, .int (0 : Int32)), (2, .int (0 : Int32)), (3, .int c), (4, .int w), (5, .int (1048576 : Int32)), (6, .int (-1 : Int32)), (7, .int (0 : Int32)), (8, .int (0 : Int32)), (9, .int (1 : Int32))], [.int (1 : Int32), .ref 28, .ref 0]) (HH I' J R T) _
        refine Z_c1 rfl rfl rfl (c_stAt28 (K := 1) hR1 rfl (by omega)) ?_
        show Zs _ _ (am_P 112).2 (127, [(0, .ref 0), (1, .int (0 : Int32)), (2, .int (0 : Int32)), (3, .int c), (4, .int w), (5, .int (1048576 : Int32)), (6, .int (-1 : Int32)), (7, .int (0 : Int32)), (8, .int (0 : Int32)), (9, .int (1 : Int32))], [.ref 32, .ref 0]) (HH I' J R T) _
        refine Z_jump 9 rfl ?_
        show Zs _ _ (am_P 112).2 (138, [(0, .ref 0), (1, .int (0 : Int32)), (2, .int (0 : Int32)), (3, .int c), (4, .int w), (5, .int (1048576 : Int32)), (6, .int (-1 : Int32)), (7, .int (0 : Int32)), (8, .int (0 : Int32)), (9, .int (1 : Int32))], [.int (2 : Int32), .int c, .int (0 : Int32), .int (0 : Int32), .int (2 : Int32), .ref 32, .ref 0]) (HH I' J R T) _
        refine Z_c1 rfl rfl rfl (c_pick) ?_
        show Zs _ _ (am_P 112).2 (141, [(0, .ref 0), (1, .int (0 : Int32)), (2, .int (0 : Int32)), (3, .int c), (4, .int w), (5, .int (1048576 : Int32)), (6, .int (-1 : Int32)), (7, .int (0 : Int32)), (8, .int (0 : Int32)), (9, .int (1 : Int32))], [.int c, .int (2 : Int32), .ref 32, .ref 0]) (HH I' J R T) _
        show Zs _ _ (am_P 112).2 (141, [(0, .ref 0), (1, .int (0 : Int32)), (2, .int (0 : Int32)), (3, .int c), (4, .int w), (5, .int (1048576 : Int32)), (6, .int (-1 : Int32)), (7, .int (0 : Int32)), (8, .int (0 : Int32)), (9, .int (1 : Int32))], [.int c, .int (2 : Int32), .ref 32, .ref 0]) (HH I' J R T) _
        refine Z_cQ rfl rfl rfl (c_goOn0 (f := 32) (t := 35) (K := 2) (v := c) (by decide) (by decide) (by decide) hR2 rfl (by omega) (Or.inr e32) hn) (fun v h1 hq => ?_)
        obtain ⟨rfl, I', rfl, a1, hn, a3, a4⟩ := hq
        have hk : ∀ c, 73 ≤ c → I' c = I c := fun c hc => (a1 c hc).trans (hk c hc)
        show Zs _ _ (am_P 112).2 (144, [(0, .ref 0), (1, .int (0 : Int32)), (2, .int (0 : Int32)), (3, .int c), (4, .int w), (5, .int (1048576 : Int32)), (6, .int (-1 : Int32)), (7, .int (0 : Int32)), (8, .int (0 : Int32)), (9, .int (1 : Int32))], [.int (if c = 0 then 1 else 0)]) (HH I' J R T) _
        show Zs _ _ (am_P 112).2 (144, [(0, .ref 0), (1, .int (0 : Int32)), (2, .int (0 : Int32)), (3, .int c), (4, .int w), (5, .int (1048576 : Int32)), (6, .int (-1 : Int32)), (7, .int (0 : Int32)), (8, .int (0 : Int32)), (9, .int (1 : Int32))], [.int (if c = 0 then 1 else 0)]) (HH I' J R T) _
        refine Z_eqI (if_neg hc) ?_
        show Zs _ _ (am_P 112).2 (144, [(0, .ref 0), (1, .int (0 : Int32)), (2, .int (0 : Int32)), (3, .int c), (4, .int w), (5, .int (1048576 : Int32)), (6, .int (-1 : Int32)), (7, .int (0 : Int32)), (8, .int (0 : Int32)), (9, .int (1 : Int32))], [.int (0 : Int32)]) (HH I' J R T) _
        refine Z_jump 2 rfl ?_
        show Zs _ _ (am_P 112).2 (148, [(0, .ref 0), (1, .int (0 : Int32)), (2, .int (0 : Int32)), (3, .int c), (4, .int w), (5, .int (1048576 : Int32)), (6, .int (-1 : Int32)), (7, .int (0 : Int32)), (8, .int (0 : Int32)), (9, .int (1 : Int32))], [.int (-1 : Int32)]) (HH I' J R T) _
        refine Z_rI rfl (by first | exact am_nw0 _ | exact am_nw01 | rfl | assumption) ?_
        exact C0p_c hk
    · rw [if_neg (fun z => hb z.2.1)]
      subst ha
      have hk : ∀ c, 73 ≤ c → I c = I c := fun _ _ => rfl
      refine Z_jump 1 rfl ?_
      show Zs _ _ (am_P 112).2 (1, [(0, .ref 0), (1, .int (0 : Int32)), (2, .int b), (3, .int c), (4, .int w)], [.int (0 : Int32)]) (HH I J R T) _
      refine Z_c1 rfl rfl rfl (c_isOfTour) ?_
      show Zs _ _ (am_P 112).2 (4, [(0, .ref 0), (1, .int (0 : Int32)), (2, .int b), (3, .int c), (4, .int w)], [.int (if M_mil 0 then 1 else 0)]) (HH I J R T) _
      refine Z_jump 1 rfl ?_
      refine Z_bd (fun c4 => absurd c4 ((fun z => if10.mp z h1))) (fun c4 => ?_)
      refine Z_jump 1 rfl ?_
      show Zs _ _ (am_P 112).2 (8, [(0, .ref 0), (1, .int (0 : Int32)), (2, .int b), (3, .int c), (4, .int w)], [.int b]) (HH I J R T) _
      refine Z_c1 rfl rfl rfl (c_isOfTour) ?_
      show Zs _ _ (am_P 112).2 (11, [(0, .ref 0), (1, .int (0 : Int32)), (2, .int b), (3, .int c), (4, .int w)], [.int (if M_mil b then 1 else 0)]) (HH I J R T) _
      refine Z_jump 1 rfl ?_
      refine Z_bd (fun c11 => absurd c11 ((fun z => if10.mp z h2))) (fun c11 => ?_)
      refine Z_jump 1 rfl ?_
      show Zs _ _ (am_P 112).2 (15, [(0, .ref 0), (1, .int (0 : Int32)), (2, .int b), (3, .int c), (4, .int w)], [.int c]) (HH I J R T) _
      refine Z_c1 rfl rfl rfl (c_isOfTour) ?_
      show Zs _ _ (am_P 112).2 (18, [(0, .ref 0), (1, .int (0 : Int32)), (2, .int b), (3, .int c), (4, .int w)], [.int (if M_mil c then 1 else 0)]) (HH I J R T) _
      refine Z_jump 1 rfl ?_
      refine Z_bd (fun c18 => absurd c18 ((fun z => if10.mp z h3))) (fun c18 => ?_)
      refine Z_jump 2 rfl ?_
      refine Z_bd (fun c23 => absurd c23 (hw1)) (fun c23 => ?_)
      refine Z_jump 3 rfl ?_
      refine Z_bd (fun c29 => ?_) (fun c29 => absurd (hw2) c29)
      refine Z_jump 14 rfl ?_
      show Zs _ _ (am_P 112).2 (60, [(0, .ref 0), (1, .int (0 : Int32)), (2, .int b), (3, .int c), (4, .int w), (5, .int (1048576 : Int32)), (6, .int (-1 : Int32)), (7, .int (0 : Int32)), (8, .int (0 : Int32))], [.int (0 : Int32)]) (HH I J R T) _
      refine Z_c1 rfl rfl rfl ((E_run 60 rfl)) ?_
      show Zs _ _ (am_P 112).2 (63, [(0, .ref 0), (1, .int (0 : Int32)), (2, .int b), (3, .int c), (4, .int w), (5, .int (1048576 : Int32)), (6, .int (-1 : Int32)), (7, .int (0 : Int32)), (8, .int (0 : Int32))], [.int (1 : Int32)]) (HH I J R T) _
      refine Z_jump 13 rfl ?_
      show Zs _ _ (am_P 112).2 (83, [(0, .ref 0), (1, .int (0 : Int32)), (2, .int b), (3, .int c), (4, .int w), (5, .int (1048576 : Int32)), (6, .int (-1 : Int32)), (7, .int (0 : Int32)), (8, .int (0 : Int32)), (9, .int (1 : Int32))], [.int (0 : Int32), .int c, .int b, .int (0 : Int32), .int (0 : Int32), .ref 22, .ref 0]) (HH I J R T) _
      refine Z_c1 rfl rfl rfl (c_pick) ?_
      show Zs _ _ (am_P 112).2 (86, [(0, .ref 0), (1, .int (0 : Int32)), (2, .int b), (3, .int c), (4, .int w), (5, .int (1048576 : Int32)), (6, .int (-1 : Int32)), (7, .int (0 : Int32)), (8, .int (0 : Int32)), (9, .int (1 : Int32))], [.int (0 : Int32), .int (0 : Int32), .ref 22, .ref 0]) (HH I J R T) _
      show Zs _ _ (am_P 112).2 (86, [(0, .ref 0), (1, .int (0 : Int32)), (2, .int b), (3, .int c), (4, .int w), (5, .int (1048576 : Int32)), (6, .int (-1 : Int32)), (7, .int (0 : Int32)), (8, .int (0 : Int32)), (9, .int (1 : Int32))], [.int (0 : Int32), .int (0 : Int32), .ref 22, .ref 0]) (HH I J R T) _
      refine Z_cQ rfl rfl rfl (c_goOn0 (f := 22) (t := 29) (K := 0) (v := 0) (by decide) (by decide) (by decide) hR0 rfl (by omega) (Or.inl rfl) hn) (fun v h1 hq => ?_)
      obtain ⟨rfl, I', rfl, a1, hn, a3, a4⟩ := hq
      have hk : ∀ c, 73 ≤ c → I' c = I c := fun c hc => (a1 c hc).trans (hk c hc)
      have e29 : I' 29 3 = 0 := a3 rfl
      show Zs _ _ (am_P 112).2 (89, [(0, .ref 0), (1, .int (0 : Int32)), (2, .int b), (3, .int c), (4, .int w), (5, .int (1048576 : Int32)), (6, .int (-1 : Int32)), (7, .int (0 : Int32)), (8, .int (0 : Int32)), (9, .int (1 : Int32))], [.int (1 : Int32)]) (HH I' J R T) _
      refine Z_jump 5 rfl ?_
      show Zs _ _ (am_P 112).2 (100, [(0, .ref 0), (1, .int (0 : Int32)), (2, .int b), (3, .int c), (4, .int w), (5, .int (1048576 : Int32)), (6, .int (-1 : Int32)), (7, .int (0 : Int32)), (8, .int (0 : Int32)), (9, .int (1 : Int32))], [.int (0 : Int32), .ref 28, .ref 0]) (HH I' J R T) _
      refine Z_c1 rfl rfl rfl (c_stAt28 (K := 0) hR0 rfl (by omega)) ?_
      show Zs _ _ (am_P 112).2 (103, [(0, .ref 0), (1, .int (0 : Int32)), (2, .int b), (3, .int c), (4, .int w), (5, .int (1048576 : Int32)), (6, .int (-1 : Int32)), (7, .int (0 : Int32)), (8, .int (0 : Int32)), (9, .int (1 : Int32))], [.ref 29, .ref 0]) (HH I' J R T) _
      refine Z_jump 5 rfl ?_
      show Zs _ _ (am_P 112).2 (109, [(0, .ref 0), (1, .int (0 : Int32)), (2, .int b), (3, .int c), (4, .int w), (5, .int (1048576 : Int32)), (6, .int (-1 : Int32)), (7, .int (0 : Int32)), (8, .int (0 : Int32)), (9, .int (1 : Int32))], [.int (1 : Int32), .int c, .int b, .int (0 : Int32), .int (1 : Int32), .ref 29, .ref 0]) (HH I' J R T) _
      refine Z_c1 rfl rfl rfl (c_pick) ?_
      show Zs _ _ (am_P 112).2 (112, [(0, .ref 0), (1, .int (0 : Int32)), (2, .int b), (3, .int c), (4, .int w), (5, .int (1048576 : Int32)), (6, .int (-1 : Int32)), (7, .int (0 : Int32)), (8, .int (0 : Int32)), (9, .int (1 : Int32))], [.int b, .int (1 : Int32), .ref 29, .ref 0]) (HH I' J R T) _
      show Zs _ _ (am_P 112).2 (112, [(0, .ref 0), (1, .int (0 : Int32)), (2, .int b), (3, .int c), (4, .int w), (5, .int (1048576 : Int32)), (6, .int (-1 : Int32)), (7, .int (0 : Int32)), (8, .int (0 : Int32)), (9, .int (1 : Int32))], [.int b, .int (1 : Int32), .ref 29, .ref 0]) (HH I' J R T) _
      refine Z_cQ rfl rfl rfl (c_goOn0 (f := 29) (t := 32) (K := 1) (v := b) (by decide) (by decide) (by decide) hR1 rfl (by omega) (Or.inr e29) hn) (fun v h1 hq => ?_)
      obtain ⟨rfl, I', rfl, a1, hn, a3, a4⟩ := hq
      have hk : ∀ c, 73 ≤ c → I' c = I c := fun c hc => (a1 c hc).trans (hk c hc)
      show Zs _ _ (am_P 112).2 (115, [(0, .ref 0), (1, .int (0 : Int32)), (2, .int b), (3, .int c), (4, .int w), (5, .int (1048576 : Int32)), (6, .int (-1 : Int32)), (7, .int (0 : Int32)), (8, .int (0 : Int32)), (9, .int (1 : Int32))], [.int (if b = 0 then 1 else 0)]) (HH I' J R T) _
      show Zs _ _ (am_P 112).2 (115, [(0, .ref 0), (1, .int (0 : Int32)), (2, .int b), (3, .int c), (4, .int w), (5, .int (1048576 : Int32)), (6, .int (-1 : Int32)), (7, .int (0 : Int32)), (8, .int (0 : Int32)), (9, .int (1 : Int32))], [.int (if b = 0 then 1 else 0)]) (HH I' J R T) _
      refine Z_eqI (if_neg hb) ?_
      show Zs _ _ (am_P 112).2 (115, [(0, .ref 0), (1, .int (0 : Int32)), (2, .int b), (3, .int c), (4, .int w), (5, .int (1048576 : Int32)), (6, .int (-1 : Int32)), (7, .int (0 : Int32)), (8, .int (0 : Int32)), (9, .int (1 : Int32))], [.int (0 : Int32)]) (HH I' J R T) _
      refine Z_jump 2 rfl ?_
      show Zs _ _ (am_P 112).2 (148, [(0, .ref 0), (1, .int (0 : Int32)), (2, .int b), (3, .int c), (4, .int w), (5, .int (1048576 : Int32)), (6, .int (-1 : Int32)), (7, .int (0 : Int32)), (8, .int (0 : Int32)), (9, .int (1 : Int32))], [.int (-1 : Int32)]) (HH I' J R T) _
      refine Z_rI rfl (by first | exact am_nw0 _ | exact am_nw01 | rfl | assumption) ?_
      exact C0p_c hk
  · rw [if_neg (fun z => ha z.1)]
    have hk : ∀ c, 73 ≤ c → I c = I c := fun _ _ => rfl
    refine Z_jump 1 rfl ?_
    show Zs _ _ (am_P 112).2 (1, [(0, .ref 0), (1, .int a), (2, .int b), (3, .int c), (4, .int w)], [.int a]) (HH I J R T) _
    refine Z_c1 rfl rfl rfl (c_isOfTour) ?_
    show Zs _ _ (am_P 112).2 (4, [(0, .ref 0), (1, .int a), (2, .int b), (3, .int c), (4, .int w)], [.int (if M_mil a then 1 else 0)]) (HH I J R T) _
    refine Z_jump 1 rfl ?_
    refine Z_bd (fun c4 => absurd c4 ((fun z => if10.mp z h1))) (fun c4 => ?_)
    refine Z_jump 1 rfl ?_
    show Zs _ _ (am_P 112).2 (8, [(0, .ref 0), (1, .int a), (2, .int b), (3, .int c), (4, .int w)], [.int b]) (HH I J R T) _
    refine Z_c1 rfl rfl rfl (c_isOfTour) ?_
    show Zs _ _ (am_P 112).2 (11, [(0, .ref 0), (1, .int a), (2, .int b), (3, .int c), (4, .int w)], [.int (if M_mil b then 1 else 0)]) (HH I J R T) _
    refine Z_jump 1 rfl ?_
    refine Z_bd (fun c11 => absurd c11 ((fun z => if10.mp z h2))) (fun c11 => ?_)
    refine Z_jump 1 rfl ?_
    show Zs _ _ (am_P 112).2 (15, [(0, .ref 0), (1, .int a), (2, .int b), (3, .int c), (4, .int w)], [.int c]) (HH I J R T) _
    refine Z_c1 rfl rfl rfl (c_isOfTour) ?_
    show Zs _ _ (am_P 112).2 (18, [(0, .ref 0), (1, .int a), (2, .int b), (3, .int c), (4, .int w)], [.int (if M_mil c then 1 else 0)]) (HH I J R T) _
    refine Z_jump 1 rfl ?_
    refine Z_bd (fun c18 => absurd c18 ((fun z => if10.mp z h3))) (fun c18 => ?_)
    refine Z_jump 2 rfl ?_
    refine Z_bd (fun c23 => absurd c23 (hw1)) (fun c23 => ?_)
    refine Z_jump 3 rfl ?_
    refine Z_bd (fun c29 => ?_) (fun c29 => absurd (hw2) c29)
    refine Z_jump 14 rfl ?_
    show Zs _ _ (am_P 112).2 (60, [(0, .ref 0), (1, .int a), (2, .int b), (3, .int c), (4, .int w), (5, .int (1048576 : Int32)), (6, .int (-1 : Int32)), (7, .int (0 : Int32)), (8, .int (0 : Int32))], [.int (0 : Int32)]) (HH I J R T) _
    refine Z_c1 rfl rfl rfl ((E_run 60 rfl)) ?_
    show Zs _ _ (am_P 112).2 (63, [(0, .ref 0), (1, .int a), (2, .int b), (3, .int c), (4, .int w), (5, .int (1048576 : Int32)), (6, .int (-1 : Int32)), (7, .int (0 : Int32)), (8, .int (0 : Int32))], [.int (1 : Int32)]) (HH I J R T) _
    refine Z_jump 13 rfl ?_
    show Zs _ _ (am_P 112).2 (83, [(0, .ref 0), (1, .int a), (2, .int b), (3, .int c), (4, .int w), (5, .int (1048576 : Int32)), (6, .int (-1 : Int32)), (7, .int (0 : Int32)), (8, .int (0 : Int32)), (9, .int (1 : Int32))], [.int (0 : Int32), .int c, .int b, .int a, .int (0 : Int32), .ref 22, .ref 0]) (HH I J R T) _
    refine Z_c1 rfl rfl rfl (c_pick) ?_
    show Zs _ _ (am_P 112).2 (86, [(0, .ref 0), (1, .int a), (2, .int b), (3, .int c), (4, .int w), (5, .int (1048576 : Int32)), (6, .int (-1 : Int32)), (7, .int (0 : Int32)), (8, .int (0 : Int32)), (9, .int (1 : Int32))], [.int a, .int (0 : Int32), .ref 22, .ref 0]) (HH I J R T) _
    show Zs _ _ (am_P 112).2 (86, [(0, .ref 0), (1, .int a), (2, .int b), (3, .int c), (4, .int w), (5, .int (1048576 : Int32)), (6, .int (-1 : Int32)), (7, .int (0 : Int32)), (8, .int (0 : Int32)), (9, .int (1 : Int32))], [.int a, .int (0 : Int32), .ref 22, .ref 0]) (HH I J R T) _
    refine Z_cQ rfl rfl rfl (c_goOn0 (f := 22) (t := 29) (K := 0) (v := a) (by decide) (by decide) (by decide) hR0 rfl (by omega) (Or.inl rfl) hn) (fun v h1 hq => ?_)
    obtain ⟨rfl, I', rfl, a1, hn, a3, a4⟩ := hq
    have hk : ∀ c, 73 ≤ c → I' c = I c := fun c hc => (a1 c hc).trans (hk c hc)
    show Zs _ _ (am_P 112).2 (89, [(0, .ref 0), (1, .int a), (2, .int b), (3, .int c), (4, .int w), (5, .int (1048576 : Int32)), (6, .int (-1 : Int32)), (7, .int (0 : Int32)), (8, .int (0 : Int32)), (9, .int (1 : Int32))], [.int (if a = 0 then 1 else 0)]) (HH I' J R T) _
    show Zs _ _ (am_P 112).2 (89, [(0, .ref 0), (1, .int a), (2, .int b), (3, .int c), (4, .int w), (5, .int (1048576 : Int32)), (6, .int (-1 : Int32)), (7, .int (0 : Int32)), (8, .int (0 : Int32)), (9, .int (1 : Int32))], [.int (if a = 0 then 1 else 0)]) (HH I' J R T) _
    refine Z_eqI (if_neg ha) ?_
    show Zs _ _ (am_P 112).2 (89, [(0, .ref 0), (1, .int a), (2, .int b), (3, .int c), (4, .int w), (5, .int (1048576 : Int32)), (6, .int (-1 : Int32)), (7, .int (0 : Int32)), (8, .int (0 : Int32)), (9, .int (1 : Int32))], [.int (0 : Int32)]) (HH I' J R T) _
    refine Z_jump 2 rfl ?_
    show Zs _ _ (am_P 112).2 (93, [(0, .ref 0), (1, .int a), (2, .int b), (3, .int c), (4, .int w), (5, .int (1048576 : Int32)), (6, .int (-1 : Int32)), (7, .int (0 : Int32)), (8, .int (0 : Int32)), (9, .int (1 : Int32))], [.int (-1 : Int32)]) (HH I' J R T) _
    refine Z_rI rfl (by first | exact am_nw0 _ | exact am_nw01 | rfl | assumption) ?_
    exact C0p_c hk
end C4

