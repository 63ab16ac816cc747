/-! The reference's text: reads(), numbered(). -/
/-- what reads() knows of the token at s -/
def TKm (tx : Nat → Nat) (c s : Nat) (I : hI) (J : hJ) : Prop :=
  (¬ s < c → I 73 16 = -1) ∧ (s < c → pL (tx s) → I 73 16 = -2 ∧ I 73 19 = nI (wcode tx s (tE tx c s))) ∧
  (dg tx c s → I 73 16 = -3 ∧ I 73 17 = nI (tE tx c s - s) ∧ (tE tx c s - s ≤ 9 → J 73 18 = lN (nv tx s (tE tx c s)))) ∧
  (s < c → ¬ pL (tx s) → ¬ pD (tx s) → I 73 16 = nI (tx s))
/-- what reads() leaves as it was -/
def UR (I : hI) (J : hJ) (I' : hI) (J' : hJ) : Prop := (∀ a, a ≠ 73 → I' a = I a) ∧ (∀ k, k ≠ 14 → k ≠ 15 → k ≠ 16 → k ≠ 17 → k ≠ 19 → I' 73 k = I 73 k) ∧ (∀ a, a ≠ 73 → J' a = J a) ∧ (∀ k, k ≠ 18 → J' 73 k = J 73 k)
theorem UR_0 (I : hI) (J : hJ) : UR I J I J := ⟨fun _ _ => rfl, fun _ _ _ _ _ _ => rfl, fun _ _ => rfl, fun _ _ => rfl⟩
theorem UR_t {I I1 I2 : hI} {J J1 J2 : hJ} (h : UR I J I1 J1) (g : UR I1 J1 I2 J2) : UR I J I2 J2 :=
  ⟨fun a ha => (g.1 a ha).trans (h.1 a ha), fun k a b e f i => (g.2.1 k a b e f i).trans (h.2.1 k a b e f i), fun a ha => (g.2.2.1 a ha).trans (h.2.2.1 a ha), fun k hk => (g.2.2.2 k hk).trans (h.2.2.2 k hk)⟩
theorem UR_14 {I I' : hI} {J : hJ} (h : U14 I I') : UR I J I' J := ⟨h.1, fun k a _ _ _ _ => h.2 k a, fun _ _ => rfl, fun _ _ => rfl⟩
theorem UR_sf {I : hI} {J : hJ} {k : Nat} {v : Int32} (hk : k = 14 ∨ k = 15 ∨ k = 16 ∨ k = 17 ∨ k = 19) : UR I J (sf I 73 k v) J :=
  ⟨fun a ha => sf_c ha, fun j a b e f i => sf_k (by omega), fun _ _ => rfl, fun _ _ => rfl⟩
theorem UR_sl {I : hI} {J : hJ} {v : Int64} : UR I J I (sl J 73 18 v) := ⟨fun _ _ => rfl, fun _ _ _ _ _ _ => rfl, fun a ha => sl_c ha, fun j a => sl_k a⟩
theorem MT_R {tx : Nat → Nat} {c : Nat} {I I' : hI} {J J' : hJ} (hM : MT tx c I) (h : UR I J I' J') : MT tx c I' := MT_of hM (h.2.1 12 (by decide) (by decide) (by decide) (by decide) (by decide)) (h.1 84 (by decide))
/-- the token's own number: what it is -/
theorem RD_n {tx : Nat → Nat} {c s : Nat} {I : hI} {J : hJ} (h255 : ∀ k, k < c → tx k ≤ 255) (h : TKm tx c s I J) : I 73 16 = -3 ↔ dg tx c s := by
  refine ⟨fun z => Classical.byContradiction (fun y => ?_), fun z => (h.2.2.1 z).1⟩
  by_cases hsc : s < c
  · by_cases hw : pL (tx s)
    · rw [(h.2.1 hsc hw).1] at z; exact absurd z (by decide)
    · have hd : ¬ pD (tx s) := fun x => y ⟨hsc, x⟩
      have h2 := h255 s hsc
      rw [h.2.2.2 hsc hw hd] at z
      have h3 := congrArg Int32.toInt z
      rw [nI_toInt (by omega)] at h3
      have h4 : (-3 : Int32).toInt = -3 := rfl
      omega
  · rw [h.1 hsc] at z; exact absurd z (by decide)
section MTY
variable {sc : Nat × (Nat → Int32)} {d : Nat} {I : hI} {J : hJ} {R : hR} {T : am_H} {Q : Option Value → am_H → Prop} {tx : Nat → Nat} {c : Nat}
theorem ten {a t : Nat} (h : 48 ≤ t) (h2 : t ≤ 255) : (10 : Int64) * lN a + (nI t).toInt64 - 48 = lN (a * 10 + (t - 48)) := by
  rw [nI_l (by omega), show (10 : Int64) = lN 10 from rfl, show (48 : Int64) = lN 48 from rfl, lN_mul, lN_add, lN_subI (by omega)]
  congr 1
  omega
/-- the turns of readsNumber: q digits are read -/
theorem m_rn_l {s : Nat} (hs : s < c) : ∀ (k q : Nat) (I : hI) (J : hJ), c - (s + q) = k → s + q ≤ c → MT tx c I → I 73 14 = nI (s + q) → I 73 17 = nI q → (q ≤ 9 → J 73 18 = lN (nvl tx s 0 q)) →
    (∀ I' J', UR I J I' J' → I' 73 15 = I 73 15 → I' 73 16 = I 73 16 → I' 73 14 = nI (ru pDb tx c (s + q)) → I' 73 17 = nI (ru pDb tx c (s + q) - s) → (ru pDb tx c (s + q) - s ≤ 9 → J' 73 18 = lN (nvl tx s 0 (ru pDb tx c (s + q) - s))) → Zs sc (d + 2) (am_P 180).2 (89, [(0, .ref 73)], []) (HH I' J' R T) Q) →
    Zs sc (d + 2) (am_P 180).2 (10, [(0, .ref 73)], []) (HH I J R T) Q
  | 0, q, I, J, hk, hi, hM, h14, h17, h18, K => by
    have e : ru pDb tx c (s + q) = s + q := ru_out (by omega)
    have e2 : s + q - s = q := by omega
    have hc := hM.2.1
    rw [e, e2] at K
    refine Z_jump 3 rfl ?_
    show Zs _ _ (am_P 180).2 (15, [(0, .ref 73)], [.int (I 73 14), .ref 73]) (HH I J R T) _
    refine Z_c1 rfl rfl rfl (m_let_out hM h14 (by omega) (by omega)) ?_
    show Zs _ _ (am_P 180).2 (18, [(0, .ref 73)], [.int (-1 : Int32)]) (HH I J R T) _
    show Zs _ _ (am_P 180).2 (18, [(0, .ref 73)], [.int (-1 : Int32)]) (HH I J R T) _
    refine Z_c1 rfl rfl rfl (m_isFigureX) ?_
    show Zs _ _ (am_P 180).2 (21, [(0, .ref 73)], [.int (0 : Int32)]) (HH I J R T) _
    refine Z_jump 1 rfl ?_
    show Zs _ _ (am_P 180).2 (89, [(0, .ref 73)], []) (HH I J R T) _
    exact K I J (UR_0 I J) rfl rfl h14 h17 h18
  | k + 1, q, I, J, hk, hi, hM, h14, h17, h18, K => by
    have hic : s + q < c := by omega
    have hc := hM.2.1
    have h255 := hM.2.2.2 (s + q) hic
    have e9 : (9 : Int32) ≤ I 73 17 ↔ 9 ≤ q := by rw [h17]; exact nI_leI (a := 9) (by omega) (by omega)
    by_cases hp : pD (tx (s + q))
    · have e1 : ru pDb tx c (s + q) = ru pDb tx c (s + (q + 1)) := ru_in hic (decide_eq_true hp)
      rw [e1] at K
      refine Z_jump 3 rfl ?_
      show Zs _ _ (am_P 180).2 (15, [(0, .ref 73)], [.int (I 73 14), .ref 73]) (HH I J R T) _
      refine Z_c1 rfl rfl rfl (m_let_in hM h14 hic) ?_
      show Zs _ _ (am_P 180).2 (18, [(0, .ref 73)], [.int (nI (tx (s + q)))]) (HH I J R T) _
      show Zs _ _ (am_P 180).2 (18, [(0, .ref 73)], [.int (nI (tx (s + q)))]) (HH I J R T) _
      refine Z_c1 rfl rfl rfl (m_isFigureN h255) ?_
      show Zs _ _ (am_P 180).2 (21, [(0, .ref 73)], [.int (if pD (tx (s + q)) then 1 else 0)]) (HH I J R T) _
      show Zs _ _ (am_P 180).2 (21, [(0, .ref 73)], [.int (if pD (tx (s + q)) then 1 else 0)]) (HH I J R T) _
      refine Z_eqI (if_pos hp) ?_
      show Zs _ _ (am_P 180).2 (21, [(0, .ref 73)], [.int (1 : Int32)]) (HH I J R T) _
      refine Z_jump 6 rfl ?_
      refine Z_bd (fun (c31 : (9 : Int32) ≤ (I 73 17)) => ?_) (fun (c31 : ¬ ((9 : Int32) ≤ (I 73 17))) => ?_)
      · refine Z_jump 3 rfl ?_
        show Zs _ _ (am_P 180).2 (66, [(0, .ref 73)], []) (HH I (sl J 73 18 (J 73 18)) R T) _
        refine Z_jump 6 rfl ?_
        show Zs _ _ (am_P 180).2 (76, [(0, .ref 73)], []) (HH (sf I 73 17 ((I 73 17) + (1 : Int32))) (sl J 73 18 (J 73 18)) R T) _
        refine Z_jump 6 rfl ?_
        show Zs _ _ (am_P 180).2 (86, [(0, .ref 73)], []) (HH (sf (sf I 73 17 ((I 73 17) + (1 : Int32))) 73 14 ((I 73 14) + (1 : Int32))) (sl J 73 18 (J 73 18)) R T) _
        refine Z_jump 1 rfl ?_
        show Zs _ _ (am_P 180).2 (10, [(0, .ref 73)], []) (HH (sf (sf I 73 17 ((I 73 17) + (1 : Int32))) 73 14 ((I 73 14) + (1 : Int32))) (sl J 73 18 (J 73 18)) R T) _
        refine m_rn_l hs k (q + 1) _ _ (by omega) (by omega) (MT_of hM rfl rfl) ?_ ?_ ?_ (fun I' J' h1 h2 h3 h4 h5 h6 => K I' J' (UR_t (UR_t UR_sl (UR_t (UR_sf (k := 17) (by omega)) (UR_sf (k := 14) (by omega)))) h1) h2 h3 h4 h5 h6)
        · rw [sf_s, h14]; exact nI_1 (s + q)
        · rw [sf_k (by decide), sf_s, h17]; exact nI_1 q
        · intro h9
          rw [sl_s]
          first | exact absurd (e9.mp c31) (by omega) | (rw [h18 (by omega), nvl_s]; exact ten hp.1 h255)
      · refine Z_jump 7 rfl ?_
        show Zs _ _ (am_P 180).2 (47, [(0, .ref 73)], [.int (I 73 14), .ref 73, .long ((10 : Int64) * (J 73 18)), .ref 73]) (HH I J R T) _
        refine Z_c1 rfl rfl rfl (m_let_in hM h14 hic) ?_
        show Zs _ _ (am_P 180).2 (50, [(0, .ref 73)], [.int (nI (tx (s + q))), .long ((10 : Int64) * (J 73 18)), .ref 73]) (HH I J R T) _
        refine Z_jump 6 rfl ?_
        show Zs _ _ (am_P 180).2 (66, [(0, .ref 73)], []) (HH I (sl J 73 18 ((((10 : Int64) * (J 73 18)) + (Int32.toInt64 (nI (tx (s + q))))) - (48 : Int64))) R T) _
        refine Z_jump 6 rfl ?_
        show Zs _ _ (am_P 180).2 (76, [(0, .ref 73)], []) (HH (sf I 73 17 ((I 73 17) + (1 : Int32))) (sl J 73 18 ((((10 : Int64) * (J 73 18)) + (Int32.toInt64 (nI (tx (s + q))))) - (48 : Int64))) R T) _
        refine Z_jump 6 rfl ?_
        show Zs _ _ (am_P 180).2 (86, [(0, .ref 73)], []) (HH (sf (sf I 73 17 ((I 73 17) + (1 : Int32))) 73 14 ((I 73 14) + (1 : Int32))) (sl J 73 18 ((((10 : Int64) * (J 73 18)) + (Int32.toInt64 (nI (tx (s + q))))) - (48 : Int64))) R T) _
        refine Z_jump 1 rfl ?_
        show Zs _ _ (am_P 180).2 (10, [(0, .ref 73)], []) (HH (sf (sf I 73 17 ((I 73 17) + (1 : Int32))) 73 14 ((I 73 14) + (1 : Int32))) (sl J 73 18 ((((10 : Int64) * (J 73 18)) + (Int32.toInt64 (nI (tx (s + q))))) - (48 : Int64))) R T) _
        refine m_rn_l hs k (q + 1) _ _ (by omega) (by omega) (MT_of hM rfl rfl) ?_ ?_ ?_ (fun I' J' h1 h2 h3 h4 h5 h6 => K I' J' (UR_t (UR_t UR_sl (UR_t (UR_sf (k := 17) (by omega)) (UR_sf (k := 14) (by omega)))) h1) h2 h3 h4 h5 h6)
        · rw [sf_s, h14]; exact nI_1 (s + q)
        · rw [sf_k (by decide), sf_s, h17]; exact nI_1 q
        · intro h9
          rw [sl_s]
          first | exact absurd (e9.mp c31) (by omega) | (rw [h18 (by omega), nvl_s]; exact ten hp.1 h255)
    · have e1 : ru pDb tx c (s + q) = s + q := ru_out (fun z => hp (of_decide_eq_true z.2))
      have e2 : s + q - s = q := by omega
      rw [e1, e2] at K
      refine Z_jump 3 rfl ?_
      show Zs _ _ (am_P 180).2 (15, [(0, .ref 73)], [.int (I 73 14), .ref 73]) (HH I J R T) _
      refine Z_c1 rfl rfl rfl (m_let_in hM h14 hic) ?_
      show Zs _ _ (am_P 180).2 (18, [(0, .ref 73)], [.int (nI (tx (s + q)))]) (HH I J R T) _
      show Zs _ _ (am_P 180).2 (18, [(0, .ref 73)], [.int (nI (tx (s + q)))]) (HH I J R T) _
      refine Z_c1 rfl rfl rfl (m_isFigureN h255) ?_
      show Zs _ _ (am_P 180).2 (21, [(0, .ref 73)], [.int (if pD (tx (s + q)) then 1 else 0)]) (HH I J R T) _
      show Zs _ _ (am_P 180).2 (21, [(0, .ref 73)], [.int (if pD (tx (s + q)) then 1 else 0)]) (HH I J R T) _
      refine Z_eqI (if_neg hp) ?_
      show Zs _ _ (am_P 180).2 (21, [(0, .ref 73)], [.int (0 : Int32)]) (HH I J R T) _
      refine Z_jump 1 rfl ?_
      show Zs _ _ (am_P 180).2 (89, [(0, .ref 73)], []) (HH I J R T) _
      exact K I J (UR_0 I J) rfl rfl h14 h17 h18
theorem m_readsNumber {s : Nat} (hd : dg tx c s) (hM : MT tx c I) (h14 : I 73 14 = nI s) : Ze sc (d + 3) 180 [.ref 73] (HH I J R T) (fun r h => r = none ∧ ∃ I' J', h = HH I' J' R T ∧ UR I J I' J' ∧ I' 73 15 = I 73 15 ∧ I' 73 16 = -3 ∧ I' 73 14 = nI (tE tx c s) ∧ I' 73 17 = nI (tE tx c s - s) ∧ (tE tx c s - s ≤ 9 → J' 73 18 = lN (nv tx s (tE tx c s)))) := by
  refine Ze_of (Nat.le_of_ble_eq_true rfl) ?_
  have e : ru pDb tx c (s + 0) = tE tx c s := by rw [tE_D hd]; exact ru_in hd.1 (decide_eq_true hd.2)
  refine Z_jump 3 rfl ?_
  show Zs _ _ (am_P 180).2 (5, [(0, .ref 73)], []) (HH I (sl J 73 18 (0 : Int64)) R T) _
  refine Z_jump 3 rfl ?_
  show Zs _ _ (am_P 180).2 (10, [(0, .ref 73)], []) (HH (sf I 73 17 (0 : Int32)) (sl J 73 18 (0 : Int64)) R T) _
  show Zs _ _ (am_P 180).2 (10, [(0, .ref 73)], []) (HH (sf I 73 17 (0 : Int32)) (sl J 73 18 (0 : Int64)) R T) _
  refine m_rn_l (tx := tx) (c := c) (s := s) hd.1 (c - s) 0 _ _ rfl (by have := hd.1; omega) (MT_of hM rfl rfl) h14 rfl (fun _ => rfl) (fun I' J' h1 h2 h3 h4 h5 h6 => ?_)
  rw [e] at h4 h5 h6
  refine Z_jump 3 rfl ?_
  show Zs _ _ (am_P 180).2 (95, [(0, .ref 73)], []) (HH (sf I' 73 16 (-3 : Int32)) J' R T) _
  show Zs _ _ (am_P 180).2 (95, [(0, .ref 73)], []) (HH (sf I' 73 16 (-3 : Int32)) J' R T) _
  refine Z_ret rfl rfl rfl ?_
  exact ⟨rfl, _, J', rfl, UR_t (UR_t (UR_t UR_sl (UR_sf (k := 17) (by omega))) h1) (UR_sf (k := 16) (by omega)), h2, rfl, h4, h5, h6⟩
theorem tE_W {s : Nat} (hs : s < c) (hw : pL (tx s)) : tE tx c s = ru pLb tx c s := by
  unfold tE
  rw [if_pos hs, if_pos hw]
  exact (ru_in hs (decide_eq_true hw)).symm
/-- reads() -/
def RDq (tx : Nat → Nat) (c i : Nat) (I : hI) (J : hJ) (R : hR) (T : am_H) (r : Option Value) (h : am_H) : Prop :=
  r = none ∧ ∃ I' J', h = HH I' J' R T ∧ UR I J I' J' ∧ I' 73 15 = nI (tS tx c i) ∧ I' 73 14 = nI (tE tx c (tS tx c i)) ∧ TKm tx c (tS tx c i) I' J'
theorem m_reads {i : Nat} (hM : MT tx c I) (h14 : I 73 14 = nI i) (hi : i ≤ c) : Ze sc (d + 4) 179 [.ref 73] (HH I J R T) (RDq tx c i I J R T) := by
  refine Ze_of (Nat.le_of_ble_eq_true rfl) ?_
  have hc := hM.2.1
  refine m_rd_a (d := d + 2) (c - i) i I rfl hi hM h14 (fun I1 u1 g1 => ?_)
  have hM1 := MT_14 hM u1
  have hs := tS_c (tx := tx) hi
  generalize hsd : tS tx c i = s at g1 hs
  unfold RDq
  rw [hsd]
  by_cases hsc : s < c
  · have h255 := hM.2.2.2 s hsc
    have hpos : (0 : Int32) ≤ nI (tx s) := nI_pos' (by omega)
    by_cases hw : pL (tx s)
    · have hd : ¬ pD (tx s) := by omega
      have eE := tE_W hsc hw
      refine Z_jump 4 rfl ?_
      show Zs _ _ (am_P 179).2 (34, [(0, .ref 73)], []) (HH (sf I1 73 15 (I1 73 14)) J R T) _
      refine Z_jump 3 rfl ?_
      show Zs _ _ (am_P 179).2 (39, [(0, .ref 73)], [.int (I1 73 14), .ref 73]) (HH (sf I1 73 15 (I1 73 14)) J R T) _
      refine Z_c1 rfl rfl rfl (m_let_in (I := (sf I1 73 15 (I1 73 14))) (MT_of hM1 rfl rfl) g1 hsc) ?_
      show Zs _ _ (am_P 179).2 (42, [(0, .ref 73)], [.int (nI (tx s))]) (HH (sf I1 73 15 (I1 73 14)) J R T) _
      refine Z_jump 3 rfl ?_
      refine Z_bd (fun c44 => ?_) (fun c44 => absurd (hpos) c44)
      refine Z_jump 1 rfl ?_
      show Zs _ _ (am_P 179).2 (56, [(0, .ref 73), (1, .int (nI (tx s)))], [.int (nI (tx s))]) (HH (sf I1 73 15 (I1 73 14)) J R T) _
      refine Z_c1 rfl rfl rfl (m_isSmallN h255) ?_
      show Zs _ _ (am_P 179).2 (59, [(0, .ref 73), (1, .int (nI (tx s)))], [.int (if pL (tx s) then 1 else 0)]) (HH (sf I1 73 15 (I1 73 14)) J R T) _
      show Zs _ _ (am_P 179).2 (59, [(0, .ref 73), (1, .int (nI (tx s)))], [.int (if pL (tx s) then 1 else 0)]) (HH (sf I1 73 15 (I1 73 14)) J R T) _
      refine Z_eqI (if_pos hw) ?_
      show Zs _ _ (am_P 179).2 (59, [(0, .ref 73), (1, .int (nI (tx s)))], [.int (1 : Int32)]) (HH (sf I1 73 15 (I1 73 14)) J R T) _
      refine Z_jump 1 rfl ?_
      show Zs _ _ (am_P 179).2 (62, [(0, .ref 73), (1, .int (nI (tx s)))], []) (HH (sf I1 73 15 (I1 73 14)) J R T) _
      refine m_rd_w (d := d + 1) (c - s) s _ rfl hs (MT_of hM1 rfl rfl) g1 (fun I2 u2 g2 => ?_)
      rw [← eE] at g2
      have hM2 : MT tx c I2 := MT_14 (I := sf I1 73 15 (I1 73 14)) (MT_of hM1 rfl rfl) u2
      have hE := tE_lt (tx := tx) hsc
      have g15 : I2 73 15 = nI s := (u2.2 15 (by decide)).trans g1
      have ez : I2 73 14 - I2 73 15 = nI (tE tx c s - s) := by rw [g2, g15]; exact nI_subI (by omega)
      refine Z_jump 3 rfl ?_
      show Zs _ _ (am_P 179).2 (95, [(0, .ref 73), (1, .int (nI (tx s)))], []) (HH (sf I2 73 16 (-2 : Int32)) J R T) _
      refine Z_jump 9 rfl ?_
      show Zs _ _ (am_P 179).2 (110, [(0, .ref 73), (1, .int (nI (tx s)))], [.int ((I2 73 14) - (I2 73 15)), .int (I2 73 15), .ref 73, .ref 73]) (HH (sf I2 73 16 (-2 : Int32)) J R T) _
      refine Z_c1 rfl rfl rfl (m_wordOf (s := s) (e := tE tx c s) (I := (sf I2 73 16 (-2 : Int32))) (MT_of hM2 rfl rfl) hE.2 g15 ez (by omega) (fun j h1 h2 => by rw [eE] at h2; exact of_decide_eq_true (ru_all (p := pLb) h1 h2))) ?_
      show Zs _ _ (am_P 179).2 (113, [(0, .ref 73), (1, .int (nI (tx s)))], [.int (nI (wcode tx s (tE tx c s))), .ref 73]) (HH (sf I2 73 16 (-2 : Int32)) J R T) _
      refine Z_jump 1 rfl ?_
      show Zs _ _ (am_P 179).2 (116, [(0, .ref 73), (1, .int (nI (tx s)))], []) (HH (sf (sf I2 73 16 (-2 : Int32)) 73 19 (nI (wcode tx s (tE tx c s)))) J R T) _
      refine Z_jump 1 rfl ?_
      show Zs _ _ (am_P 179).2 (148, [(0, .ref 73), (1, .int (nI (tx s)))], []) (HH (sf (sf I2 73 16 (-2 : Int32)) 73 19 (nI (wcode tx s (tE tx c s)))) J R T) _
      refine Z_ret rfl rfl rfl ?_
      refine ⟨rfl, _, J, rfl, UR_t (UR_14 u1) (UR_t (UR_sf (k := 15) (by omega)) (UR_t (UR_14 u2) (UR_t (UR_sf (k := 16) (by omega)) (UR_sf (k := 19) (by omega))))), g15, g2, fun z => absurd hsc z, fun _ _ => ⟨rfl, rfl⟩, fun z => absurd z.2 hd, fun _ z => absurd hw z⟩
    · by_cases hd : pD (tx s)
      · refine Z_jump 4 rfl ?_
        show Zs _ _ (am_P 179).2 (34, [(0, .ref 73)], []) (HH (sf I1 73 15 (I1 73 14)) J R T) _
        refine Z_jump 3 rfl ?_
        show Zs _ _ (am_P 179).2 (39, [(0, .ref 73)], [.int (I1 73 14), .ref 73]) (HH (sf I1 73 15 (I1 73 14)) J R T) _
        refine Z_c1 rfl rfl rfl (m_let_in (I := (sf I1 73 15 (I1 73 14))) (MT_of hM1 rfl rfl) g1 hsc) ?_
        show Zs _ _ (am_P 179).2 (42, [(0, .ref 73)], [.int (nI (tx s))]) (HH (sf I1 73 15 (I1 73 14)) J R T) _
        refine Z_jump 3 rfl ?_
        refine Z_bd (fun c44 => ?_) (fun c44 => absurd (hpos) c44)
        refine Z_jump 1 rfl ?_
        show Zs _ _ (am_P 179).2 (56, [(0, .ref 73), (1, .int (nI (tx s)))], [.int (nI (tx s))]) (HH (sf I1 73 15 (I1 73 14)) J R T) _
        refine Z_c1 rfl rfl rfl (m_isSmallN h255) ?_
        show Zs _ _ (am_P 179).2 (59, [(0, .ref 73), (1, .int (nI (tx s)))], [.int (if pL (tx s) then 1 else 0)]) (HH (sf I1 73 15 (I1 73 14)) J R T) _
        show Zs _ _ (am_P 179).2 (59, [(0, .ref 73), (1, .int (nI (tx s)))], [.int (if pL (tx s) then 1 else 0)]) (HH (sf I1 73 15 (I1 73 14)) J R T) _
        refine Z_eqI (if_neg hw) ?_
        show Zs _ _ (am_P 179).2 (59, [(0, .ref 73), (1, .int (nI (tx s)))], [.int (0 : Int32)]) (HH (sf I1 73 15 (I1 73 14)) J R T) _
        refine Z_jump 2 rfl ?_
        show Zs _ _ (am_P 179).2 (120, [(0, .ref 73), (1, .int (nI (tx s)))], [.int (nI (tx s))]) (HH (sf I1 73 15 (I1 73 14)) J R T) _
        refine Z_c1 rfl rfl rfl (m_isFigureN h255) ?_
        show Zs _ _ (am_P 179).2 (123, [(0, .ref 73), (1, .int (nI (tx s)))], [.int (if pD (tx s) then 1 else 0)]) (HH (sf I1 73 15 (I1 73 14)) J R T) _
        show Zs _ _ (am_P 179).2 (123, [(0, .ref 73), (1, .int (nI (tx s)))], [.int (if pD (tx s) then 1 else 0)]) (HH (sf I1 73 15 (I1 73 14)) J R T) _
        refine Z_eqI (if_pos hd) ?_
        show Zs _ _ (am_P 179).2 (123, [(0, .ref 73), (1, .int (nI (tx s)))], [.int (1 : Int32)]) (HH (sf I1 73 15 (I1 73 14)) J R T) _
        refine Z_jump 2 rfl ?_
        show Zs _ _ (am_P 179).2 (127, [(0, .ref 73), (1, .int (nI (tx s)))], [.ref 73]) (HH (sf I1 73 15 (I1 73 14)) J R T) _
        refine Z_cQ rfl rfl rfl (m_readsNumber (s := s) (I := (sf I1 73 15 (I1 73 14))) ⟨hsc, hd⟩ (MT_of hM1 rfl rfl) g1) (fun v h1 hq => ?_)
        obtain ⟨rfl, I2, J2, rfl, u2, g15, g16, g14, g17, g18⟩ := hq
        show Zs _ _ (am_P 179).2 (130, [(0, .ref 73), (1, .int (nI (tx s)))], []) (HH I2 J2 R T) _
        refine Z_jump 1 rfl ?_
        show Zs _ _ (am_P 179).2 (148, [(0, .ref 73), (1, .int (nI (tx s)))], []) (HH I2 J2 R T) _
        refine Z_ret rfl rfl rfl ?_
        exact ⟨rfl, I2, J2, rfl, UR_t (UR_14 u1) (UR_t (UR_sf (k := 15) (by omega)) u2), g15.trans g1, g14, fun z => absurd hsc z, fun _ z => absurd z hw, fun _ => ⟨g16, g17, g18⟩, fun _ _ z => absurd hd z⟩
      · have eE : tE tx c s = s + 1 := by unfold tE; rw [if_pos hsc, if_neg hw, if_neg hd]
        refine Z_jump 4 rfl ?_
        show Zs _ _ (am_P 179).2 (34, [(0, .ref 73)], []) (HH (sf I1 73 15 (I1 73 14)) J R T) _
        refine Z_jump 3 rfl ?_
        show Zs _ _ (am_P 179).2 (39, [(0, .ref 73)], [.int (I1 73 14), .ref 73]) (HH (sf I1 73 15 (I1 73 14)) J R T) _
        refine Z_c1 rfl rfl rfl (m_let_in (I := (sf I1 73 15 (I1 73 14))) (MT_of hM1 rfl rfl) g1 hsc) ?_
        show Zs _ _ (am_P 179).2 (42, [(0, .ref 73)], [.int (nI (tx s))]) (HH (sf I1 73 15 (I1 73 14)) J R T) _
        refine Z_jump 3 rfl ?_
        refine Z_bd (fun c44 => ?_) (fun c44 => absurd (hpos) c44)
        refine Z_jump 1 rfl ?_
        show Zs _ _ (am_P 179).2 (56, [(0, .ref 73), (1, .int (nI (tx s)))], [.int (nI (tx s))]) (HH (sf I1 73 15 (I1 73 14)) J R T) _
        refine Z_c1 rfl rfl rfl (m_isSmallN h255) ?_
        show Zs _ _ (am_P 179).2 (59, [(0, .ref 73), (1, .int (nI (tx s)))], [.int (if pL (tx s) then 1 else 0)]) (HH (sf I1 73 15 (I1 73 14)) J R T) _
        show Zs _ _ (am_P 179).2 (59, [(0, .ref 73), (1, .int (nI (tx s)))], [.int (if pL (tx s) then 1 else 0)]) (HH (sf I1 73 15 (I1 73 14)) J R T) _
        refine Z_eqI (if_neg hw) ?_
        show Zs _ _ (am_P 179).2 (59, [(0, .ref 73), (1, .int (nI (tx s)))], [.int (0 : Int32)]) (HH (sf I1 73 15 (I1 73 14)) J R T) _
        refine Z_jump 2 rfl ?_
        show Zs _ _ (am_P 179).2 (120, [(0, .ref 73), (1, .int (nI (tx s)))], [.int (nI (tx s))]) (HH (sf I1 73 15 (I1 73 14)) J R T) _
        refine Z_c1 rfl rfl rfl (m_isFigureN h255) ?_
        show Zs _ _ (am_P 179).2 (123, [(0, .ref 73), (1, .int (nI (tx s)))], [.int (if pD (tx s) then 1 else 0)]) (HH (sf I1 73 15 (I1 73 14)) J R T) _
        show Zs _ _ (am_P 179).2 (123, [(0, .ref 73), (1, .int (nI (tx s)))], [.int (if pD (tx s) then 1 else 0)]) (HH (sf I1 73 15 (I1 73 14)) J R T) _
        refine Z_eqI (if_neg hd) ?_
        show Zs _ _ (am_P 179).2 (123, [(0, .ref 73), (1, .int (nI (tx s)))], [.int (0 : Int32)]) (HH (sf I1 73 15 (I1 73 14)) J R T) _
        refine Z_jump 7 rfl ?_
        show Zs _ _ (am_P 179).2 (143, [(0, .ref 73), (1, .int (nI (tx s)))], []) (HH (sf (sf I1 73 15 (I1 73 14)) 73 14 ((I1 73 14) + (1 : Int32))) J R T) _
        refine Z_jump 3 rfl ?_
        show Zs _ _ (am_P 179).2 (148, [(0, .ref 73), (1, .int (nI (tx s)))], []) (HH (sf (sf (sf I1 73 15 (I1 73 14)) 73 14 ((I1 73 14) + (1 : Int32))) 73 16 (nI (tx s))) J R T) _
        show Zs _ _ (am_P 179).2 (148, [(0, .ref 73), (1, .int (nI (tx s)))], []) (HH (sf (sf (sf I1 73 15 (I1 73 14)) 73 14 ((I1 73 14) + (1 : Int32))) 73 16 (nI (tx s))) J R T) _
        refine Z_ret rfl rfl rfl ?_
        refine ⟨rfl, _, J, rfl, UR_t (UR_14 u1) (UR_t (UR_sf (k := 15) (by omega)) (UR_t (UR_sf (k := 14) (by omega)) (UR_sf (k := 16) (by omega)))), g1, ?_, fun z => absurd hsc z, fun _ z => absurd z hw, fun z => absurd z.2 hd, fun _ _ _ => rfl⟩
        show I1 73 14 + 1 = _
        rw [g1, eE]
        exact nI_1 s
  · have eE : tE tx c s = s := by unfold tE; rw [if_neg hsc]
    refine Z_jump 4 rfl ?_
    show Zs _ _ (am_P 179).2 (34, [(0, .ref 73)], []) (HH (sf I1 73 15 (I1 73 14)) J R T) _
    refine Z_jump 3 rfl ?_
    show Zs _ _ (am_P 179).2 (39, [(0, .ref 73)], [.int (I1 73 14), .ref 73]) (HH (sf I1 73 15 (I1 73 14)) J R T) _
    refine Z_c1 rfl rfl rfl (m_let_out (I := (sf I1 73 15 (I1 73 14))) (MT_of hM1 rfl rfl) g1 hsc (by omega)) ?_
    show Zs _ _ (am_P 179).2 (42, [(0, .ref 73)], [.int (-1 : Int32)]) (HH (sf I1 73 15 (I1 73 14)) J R T) _
    refine Z_jump 6 rfl ?_
    show Zs _ _ (am_P 179).2 (52, [(0, .ref 73), (1, .int (-1 : Int32))], []) (HH (sf (sf I1 73 15 (I1 73 14)) 73 16 (-1 : Int32)) J R T) _
    refine Z_jump 1 rfl ?_
    show Zs _ _ (am_P 179).2 (148, [(0, .ref 73), (1, .int (-1 : Int32))], []) (HH (sf (sf I1 73 15 (I1 73 14)) 73 16 (-1 : Int32)) J R T) _
    refine Z_ret rfl rfl rfl ?_
    exact ⟨rfl, _, J, rfl, UR_t (UR_14 u1) (UR_t (UR_sf (k := 15) (by omega)) (UR_sf (k := 16) (by omega))), g1, by rw [eE]; exact g1, fun _ => rfl, fun z => absurd z hsc, fun z => absurd z.1 hsc, fun z => absurd z hsc⟩
/-- numbered(low, high) -/
theorem m_numbered {i : Nat} {lo hi : Int32} (hM : MT tx c I) (h14 : I 73 14 = nI i) (hi' : i ≤ c) : Ze sc (d + 5) 183 [.ref 73, .int lo, .int hi] (HH I J R T) (fun r h => ∃ I' J', h = HH I' J' R T ∧ UR I J I' J' ∧ I' 73 15 = nI (tS tx c i) ∧ I' 73 14 = nI (tE tx c (tS tx c i)) ∧
    ((TN tx c (tS tx c i) 2 lo.toInt hi.toInt ∧ r = some (.int 1) ∧ J' 73 18 = lN (nv tx (tS tx c i) (tE tx c (tS tx c i)))) ∨ (¬ TN tx c (tS tx c i) 2 lo.toInt hi.toInt ∧ r = some (.int 0)))) := by
  refine Ze_of (Nat.le_of_ble_eq_true rfl) ?_
  have hc := hM.2.1
  have hs := tS_c (tx := tx) hi'
  have hE := tE_c (tx := tx) hs
  refine Z_jump 1 rfl ?_
  show Zs _ _ (am_P 183).2 (1, [(0, .ref 73), (1, .int lo), (2, .int hi)], [.ref 73]) (HH I J R T) _
  refine Z_cQ rfl rfl rfl (m_reads hM h14 hi') (fun v h1 hq => ?_)
  obtain ⟨rfl, I', J', rfl, u, g15, g14, gT⟩ := hq
  have hdg : I' 73 16 = -3 ↔ dg tx c (tS tx c i) := RD_n hM.2.2.2 gT
  show Zs _ _ (am_P 183).2 (4, [(0, .ref 73), (1, .int lo), (2, .int hi)], []) (HH I' J' R T) _
  refine Z_jump 4 rfl ?_
  refine Z_bn (fun (c10 : ¬ ((I' 73 16) = (-3 : Int32))) => ?_) (fun (c10 : (I' 73 16) = (-3 : Int32)) => ?_)
  · refine Z_jump 1 rfl ?_
    show Zs _ _ (am_P 183).2 (40, [(0, .ref 73), (1, .int lo), (2, .int hi)], [.int (0 : Int32)]) (HH I' J' R T) _
    refine Z_rI rfl (by first | exact am_nw0 _ | exact am_nw01 | rfl | assumption) ?_
    exact ⟨I', J', rfl, u, g15, g14, Or.inr ⟨fun z => c10 (hdg.mpr z.1), rfl⟩⟩
  · refine Z_jump 4 rfl ?_
    refine Z_bd (fun (c18 : (3 : Int32) ≤ (I' 73 17)) => ?_) (fun (c18 : ¬ ((3 : Int32) ≤ (I' 73 17))) => ?_)
    · refine Z_jump 1 rfl ?_
      show Zs _ _ (am_P 183).2 (40, [(0, .ref 73), (1, .int lo), (2, .int hi)], [.int (0 : Int32)]) (HH I' J' R T) _
      refine Z_rI rfl (by first | exact am_nw0 _ | exact am_nw01 | rfl | assumption) ?_
      have hd := hdg.mp c10
      have h17 := (gT.2.2.1 hd).2.1
      refine ⟨I', J', rfl, u, g15, g14, Or.inr ⟨fun z => ?_, rfl⟩⟩
      rw [h17] at c18
      have := (nI_leI (a := 3) (by omega) (by omega)).mp c18
      have := z.2.1
      omega
    · refine Z_jump 6 rfl ?_
      show Zs _ _ (am_P 183).2 (29, [(0, .ref 73), (1, .int lo), (2, .int hi)], [.long (Int32.toInt64 hi), .long (Int32.toInt64 lo), .long (J' 73 18)]) (HH I' J' R T) _
      refine Z_c1 rfl rfl rfl (k_in) ?_
      show Zs _ _ (am_P 183).2 (32, [(0, .ref 73), (1, .int lo), (2, .int hi)], [.int (if (Int32.toInt64 lo) ≤ (J' 73 18) ∧ (J' 73 18) ≤ (Int32.toInt64 hi) then 1 else 0)]) (HH I' J' R T) _
      refine Z_jump 1 rfl ?_
      refine Z_bd (fun (c32 : (if (Int32.toInt64 lo) ≤ (J' 73 18) ∧ (J' 73 18) ≤ (Int32.toInt64 hi) then 1 else 0) = (0 : Int32)) => ?_) (fun (c32 : ¬ ((if (Int32.toInt64 lo) ≤ (J' 73 18) ∧ (J' 73 18) ≤ (Int32.toInt64 hi) then 1 else 0) = (0 : Int32))) => ?_)
      · refine Z_jump 1 rfl ?_
        show Zs _ _ (am_P 183).2 (40, [(0, .ref 73), (1, .int lo), (2, .int hi)], [.int (0 : Int32)]) (HH I' J' R T) _
        refine Z_rI rfl (by first | exact am_nw0 _ | exact am_nw01 | rfl | assumption) ?_
        have hd := hdg.mp c10
        have h17 := (gT.2.2.1 hd).2.1
        rw [h17] at c18
        have h3 := mt (nI_leI (a := 3) (by omega) (by omega)).mpr c18
        have h18 := (gT.2.2.1 hd).2.2 (by omega)
        refine ⟨I', J', rfl, u, g15, g14, Or.inr ⟨fun z => if10.mp c32 ?_, rfl⟩⟩
        rw [fi_leL, fi_leL, i64, i64, h18, lN_toInt (by have := nv_lt hd (md := 2) (by omega) (by omega); omega)]
        exact z.2.2
      · refine Z_jump 2 rfl ?_
        show Zs _ _ (am_P 183).2 (40, [(0, .ref 73), (1, .int lo), (2, .int hi)], [.int (1 : Int32)]) (HH I' J' R T) _
        refine Z_rI rfl (by first | exact am_nw0 _ | exact am_nw01 | rfl | assumption) ?_
        have hd := hdg.mp c10
        have h17 := (gT.2.2.1 hd).2.1
        rw [h17] at c18
        have h3 := mt (nI_leI (a := 3) (by omega) (by omega)).mpr c18
        have h18 := (gT.2.2.1 hd).2.2 (by omega)
        have h5 := if10n c32
        rw [fi_leL, fi_leL, i64, i64, h18, lN_toInt (by have := nv_lt hd (md := 2) (by omega) (by omega); omega)] at h5
        exact ⟨I', J', rfl, u, g15, g14, Or.inl ⟨⟨hd, by omega, h5⟩, rfl, h18⟩⟩
end MTY

