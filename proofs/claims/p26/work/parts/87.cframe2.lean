/-! The class reads a frame's text. -/
section CF2
variable {sc : Nat × (Nat → Int32)} {d : Nat} {I : hI} {J : hJ} {R : hR} {T : am_H} {Q : Option Value → am_H → Prop} {tx : Nat → Nat} {c : Nat}
theorem c_kindTold {s : Nat} (hK : CTK tx c s I) : am_E sc (d + 7) 8 [.ref 1] (HH I J R T) (some (.int (if wP tx s (tE tx c s) then 0 else if wV tx s (tE tx c s) then 1 else if wW tx s (tE tx c s) then 2 else if wH tx s (tE tx c s) then 3 else -1))) (HH I J R T) := by
  refine E_Z (Ze_of (Nat.le_of_ble_eq_true rfl) ?_)
  refine Z_jump 2 rfl ?_
  show Zs _ _ (am_P 8).2 (3, [(0, .ref 1)], [.retAddr 3, .ref 1]) (HH I J R T) _
  refine Z_c1 rfl rfl rfl (c_wP hK) ?_
  show Zs _ _ (am_P 8).2 (6, [(0, .ref 1)], [.int (if wP tx s (tE tx c s) then 1 else 0)]) (HH I J R T) _
  refine Z_jump 1 rfl ?_
  refine Z_bd (fun (c6 : (if wP tx s (tE tx c s) then 1 else 0) = (0 : Int32)) => ?_) (fun (c6 : ¬ ((if wP tx s (tE tx c s) then 1 else 0) = (0 : Int32))) => ?_)
  · refine Z_jump 2 rfl ?_
    show Zs _ _ (am_P 8).2 (14, [(0, .ref 1)], [.retAddr 4, .ref 1]) (HH I J R T) _
    refine Z_c1 rfl rfl rfl (c_wV hK) ?_
    show Zs _ _ (am_P 8).2 (17, [(0, .ref 1)], [.int (if wV tx s (tE tx c s) then 1 else 0)]) (HH I J R T) _
    refine Z_jump 1 rfl ?_
    refine Z_bd (fun (c17 : (if wV tx s (tE tx c s) then 1 else 0) = (0 : Int32)) => ?_) (fun (c17 : ¬ ((if wV tx s (tE tx c s) then 1 else 0) = (0 : Int32))) => ?_)
    · refine Z_jump 2 rfl ?_
      show Zs _ _ (am_P 8).2 (25, [(0, .ref 1)], [.retAddr 5, .ref 1]) (HH I J R T) _
      refine Z_c1 rfl rfl rfl (c_wW hK) ?_
      show Zs _ _ (am_P 8).2 (28, [(0, .ref 1)], [.int (if wW tx s (tE tx c s) then 1 else 0)]) (HH I J R T) _
      refine Z_jump 1 rfl ?_
      refine Z_bd (fun (c28 : (if wW tx s (tE tx c s) then 1 else 0) = (0 : Int32)) => ?_) (fun (c28 : ¬ ((if wW tx s (tE tx c s) then 1 else 0) = (0 : Int32))) => ?_)
      · refine Z_jump 2 rfl ?_
        show Zs _ _ (am_P 8).2 (36, [(0, .ref 1)], [.retAddr 6, .ref 1]) (HH I J R T) _
        refine Z_c1 rfl rfl rfl (c_wH hK) ?_
        show Zs _ _ (am_P 8).2 (39, [(0, .ref 1)], [.int (if wH tx s (tE tx c s) then 1 else 0)]) (HH I J R T) _
        refine Z_jump 1 rfl ?_
        refine Z_bd (fun (c39 : (if wH tx s (tE tx c s) then 1 else 0) = (0 : Int32)) => ?_) (fun (c39 : ¬ ((if wH tx s (tE tx c s) then 1 else 0) = (0 : Int32))) => ?_)
        · refine Z_jump 1 rfl ?_
          show Zs _ _ (am_P 8).2 (47, [(0, .ref 1)], [.int (-1 : Int32)]) (HH I J R T) _
          refine Z_rI rfl (by first | exact am_nw0 _ | exact am_nw01 | rfl | assumption) ?_
          exact ⟨am_ii (by rw [if_neg (if10.mp c6), if_neg (if10.mp c17), if_neg (if10.mp c28), if_neg (if10.mp c39)]), rfl⟩
        · refine Z_jump 2 rfl ?_
          show Zs _ _ (am_P 8).2 (47, [(0, .ref 1)], [.int (3 : Int32)]) (HH I J R T) _
          refine Z_rI rfl (by first | exact am_nw0 _ | exact am_nw01 | rfl | assumption) ?_
          exact ⟨am_ii (by rw [if_neg (if10.mp c6), if_neg (if10.mp c17), if_neg (if10.mp c28), if_pos (if10n c39)]), rfl⟩
      · refine Z_jump 1 rfl ?_
        show Zs _ _ (am_P 8).2 (32, [(0, .ref 1)], [.int (2 : Int32)]) (HH I J R T) _
        refine Z_rI rfl (by first | exact am_nw0 _ | exact am_nw01 | rfl | assumption) ?_
        exact ⟨am_ii (by rw [if_neg (if10.mp c6), if_neg (if10.mp c17), if_pos (if10n c28)]), rfl⟩
    · refine Z_jump 1 rfl ?_
      show Zs _ _ (am_P 8).2 (21, [(0, .ref 1)], [.int (1 : Int32)]) (HH I J R T) _
      refine Z_rI rfl (by first | exact am_nw0 _ | exact am_nw01 | rfl | assumption) ?_
      exact ⟨am_ii (by rw [if_neg (if10.mp c6), if_pos (if10n c17)]), rfl⟩
  · refine Z_jump 1 rfl ?_
    show Zs _ _ (am_P 8).2 (10, [(0, .ref 1)], [.int (0 : Int32)]) (HH I J R T) _
    refine Z_rI rfl (by first | exact am_nw0 _ | exact am_nw01 | rfl | assumption) ?_
    exact ⟨am_ii (by rw [if_pos (if10n c6)]), rfl⟩
theorem c_partBit {r p : Int32} : am_E sc (d + 1) 36 [.int r, .int p] (HH I J R T) (some (.int (1 <<< ((2 * r + p) &&& 31)))) (HH I J R T) := by
  refine E_Z (Ze_of (Nat.le_of_ble_eq_true rfl) ?_)
  refine Z_jump 7 rfl ?_
  show Zs _ _ (am_P 36).2 (7, [(0, .int r), (1, .int p)], [.int ((1 : Int32) <<< ((((2 : Int32) * r) + p) &&& 31))]) (HH I J R T) _
  refine Z_rI rfl (by first | exact am_nw0 _ | exact am_nw01 | rfl | assumption) ?_
  exact ⟨rfl, rfl⟩
theorem c_readRodN {s : Nat} (hK : CTK tx c s I) (h2 : I 1 2 = -1) : am_E sc (d + 5) 9 [.ref 20, .ref 1, .int (-1)] (HH I J R T) none (HH (sf I 1 2 (nI s)) J R T) := by
  refine E_Z (Ze_of (Nat.le_of_ble_eq_true rfl) ?_)
  refine Z_jump 4 rfl ?_
  show Zs _ _ (am_P 9).2 (18, [(0, .ref 20), (1, .ref 1), (2, .int (-1 : Int32))], [.ref 1]) (HH I J R T) _
  refine Z_c0 rfl rfl rfl (c_failY hK.2.2.1 h2) ?_
  show Zs _ _ (am_P 9).2 (21, [(0, .ref 20), (1, .ref 1), (2, .int (-1 : Int32))], []) (HH (sf I 1 2 (nI s)) J R T) _
  show Zs _ _ (am_P 9).2 (21, [(0, .ref 20), (1, .ref 1), (2, .int (-1 : Int32))], []) (HH (sf I 1 2 (nI s)) J R T) _
  refine Z_ret rfl rfl rfl ?_
  exact ⟨rfl, rfl⟩
theorem c_st_51 {s : Nat} {v : Int32} (hs : I 1 3 = nI s) (h2 : ¬ I 1 2 = -1) : Zs sc (d + 4) (am_P 7).2 (51, [(0, .ref 20), (1, .ref 1)], [.int v]) (HH I J R T) (fun r h => r = none ∧ h = HH I J R T) := by
  refine Z_jump 5 rfl ?_
  show Zs _ _ (am_P 7).2 (56, [(0, .ref 20), (1, .ref 1), (2, .int v)], [.int (1 : Int32), .int (0 : Int32), .int (2 : Int32), .ref 1]) (HH I J R T) _
  refine Z_c1 rfl rfl rfl (c_take_u hs h2) ?_
  show Zs _ _ (am_P 7).2 (59, [(0, .ref 20), (1, .ref 1), (2, .int v)], [.int (0 : Int32)]) (HH I J R T) _
  refine Z_jump 2 rfl ?_
  show Zs _ _ (am_P 7).2 (61, [(0, .ref 20), (1, .ref 1), (2, .int v), (3, .int (0 : Int32))], [.ref 1]) (HH I J R T) _
  refine Z_c1 rfl rfl rfl (c_soundN h2) ?_
  show Zs _ _ (am_P 7).2 (64, [(0, .ref 20), (1, .ref 1), (2, .int v), (3, .int (0 : Int32))], [.int (0 : Int32)]) (HH I J R T) _
  refine Z_jump 2 rfl ?_
  show Zs _ _ (am_P 7).2 (93, [(0, .ref 20), (1, .ref 1), (2, .int v), (3, .int (0 : Int32))], []) (HH I J R T) _
  refine Z_ret rfl rfl rfl ?_
  exact ⟨rfl, rfl⟩
theorem c_st_59 {v w : Int32} (h2 : ¬ I 1 2 = -1) : Zs sc (d + 4) (am_P 7).2 (59, [(0, .ref 20), (1, .ref 1), (2, .int w)], [.int v]) (HH I J R T) (fun r h => r = none ∧ h = HH I J R T) := by
  refine Z_jump 2 rfl ?_
  show Zs _ _ (am_P 7).2 (61, [(0, .ref 20), (1, .ref 1), (2, .int w), (3, .int v)], [.ref 1]) (HH I J R T) _
  refine Z_c1 rfl rfl rfl (c_soundN h2) ?_
  show Zs _ _ (am_P 7).2 (64, [(0, .ref 20), (1, .ref 1), (2, .int w), (3, .int v)], [.int (0 : Int32)]) (HH I J R T) _
  refine Z_jump 2 rfl ?_
  show Zs _ _ (am_P 7).2 (93, [(0, .ref 20), (1, .ref 1), (2, .int w), (3, .int v)], []) (HH I J R T) _
  refine Z_ret rfl rfl rfl ?_
  exact ⟨rfl, rfl⟩
theorem c_readClause {s : Nat} {D : FD} (hK : CTK tx c s I) (h2 : I 1 2 = -1) (hD : DC 20 D I R T) : Ze sc (d + 9) 7 [.ref 20, .ref 1] (HH I J R T) (fun r h => r = none ∧ FCq tx c 1 (fClause tx c s D) I J R T h) := by
  refine Ze_of (Nat.le_of_ble_eq_true rfl) ?_
  have hc := hK.1.2.1
  have h6 := hD.2.1
  have hE := tE_c (tx := tx) hK.2.1
  unfold fClause
  by_cases hF : wF tx s (tE tx c s)
  · rw [if_pos hF]
    refine Z_jump 2 rfl ?_
    show Zs _ _ (am_P 7).2 (3, [(0, .ref 20), (1, .ref 1)], [.retAddr 1, .ref 1]) (HH I J R T) _
    refine Z_c1 rfl rfl rfl (c_wF hK) ?_
    show Zs _ _ (am_P 7).2 (6, [(0, .ref 20), (1, .ref 1)], [.int (if wF tx s (tE tx c s) then 1 else 0)]) (HH I J R T) _
    show Zs _ _ (am_P 7).2 (6, [(0, .ref 20), (1, .ref 1)], [.int (if wF tx s (tE tx c s) then 1 else 0)]) (HH I J R T) _
    refine Z_eqI (if_pos hF) ?_
    show Zs _ _ (am_P 7).2 (6, [(0, .ref 20), (1, .ref 1)], [.int (1 : Int32)]) (HH I J R T) _
    refine Z_jump 2 rfl ?_
    show Zs _ _ (am_P 7).2 (10, [(0, .ref 20), (1, .ref 1)], [.ref 1]) (HH I J R T) _
    refine Z_cQ rfl rfl rfl (Ze_deep (d := 2) (by omega) (c_stepQ (d := 0) hK)) (fun v h1 hq => ?_)
    obtain ⟨rfl, I1, rfl, K1, u1, f1⟩ := hq
    show Zs _ _ (am_P 7).2 (13, [(0, .ref 20), (1, .ref 1)], []) (HH I1 J R T) _
    refine Z_jump 3 rfl ?_
    show Zs _ _ (am_P 7).2 (18, [(0, .ref 20), (1, .ref 1)], []) (HH (sf I1 20 1 (0 : Int32)) J R T) _
    refine Z_jump 3 rfl ?_
    show Zs _ _ (am_P 7).2 (23, [(0, .ref 20), (1, .ref 1)], []) (HH (sf (sf I1 20 1 (0 : Int32)) 20 2 (0 : Int32)) J R T) _
    refine Z_jump 1 rfl ?_
    show Zs _ _ (am_P 7).2 (93, [(0, .ref 20), (1, .ref 1)], []) (HH (sf (sf I1 20 1 (0 : Int32)) 20 2 (0 : Int32)) J R T) _
    refine Z_ret rfl rfl rfl ?_
    refine ⟨rfl, _, R, T, rfl, fun a h1 h3 => by rw [sf_c h3, sf_c h3]; exact u1 a h1, fun _ _ => rfl, TX_w (TX_0 T) (by omega), CT_of K1.1 rfl rfl, hE.2, f1.trans h2, K1, rfl, Nat.zero_le _, rfl, fun k hk => absurd hk (Nat.not_lt_zero k)⟩
  · rw [if_neg hF]
    by_cases hKk : wK tx s (tE tx c s)
    · rw [if_pos hKk]
      have e0 : (0 : Int32).toInt = 0 := rfl
      have e1 : (1 : Int32).toInt = 1 := rfl
      refine Z_jump 2 rfl ?_
      show Zs _ _ (am_P 7).2 (3, [(0, .ref 20), (1, .ref 1)], [.retAddr 1, .ref 1]) (HH I J R T) _
      refine Z_c1 rfl rfl rfl (c_wF hK) ?_
      show Zs _ _ (am_P 7).2 (6, [(0, .ref 20), (1, .ref 1)], [.int (if wF tx s (tE tx c s) then 1 else 0)]) (HH I J R T) _
      show Zs _ _ (am_P 7).2 (6, [(0, .ref 20), (1, .ref 1)], [.int (if wF tx s (tE tx c s) then 1 else 0)]) (HH I J R T) _
      refine Z_eqI (if_neg hF) ?_
      show Zs _ _ (am_P 7).2 (6, [(0, .ref 20), (1, .ref 1)], [.int (0 : Int32)]) (HH I J R T) _
      refine Z_jump 3 rfl ?_
      show Zs _ _ (am_P 7).2 (29, [(0, .ref 20), (1, .ref 1)], [.retAddr 2, .ref 1]) (HH I J R T) _
      refine Z_c1 rfl rfl rfl (c_wK hK) ?_
      show Zs _ _ (am_P 7).2 (32, [(0, .ref 20), (1, .ref 1)], [.int (if wK tx s (tE tx c s) then 1 else 0)]) (HH I J R T) _
      show Zs _ _ (am_P 7).2 (32, [(0, .ref 20), (1, .ref 1)], [.int (if wK tx s (tE tx c s) then 1 else 0)]) (HH I J R T) _
      refine Z_eqI (if_pos hKk) ?_
      show Zs _ _ (am_P 7).2 (32, [(0, .ref 20), (1, .ref 1)], [.int (1 : Int32)]) (HH I J R T) _
      refine Z_jump 2 rfl ?_
      show Zs _ _ (am_P 7).2 (36, [(0, .ref 20), (1, .ref 1)], [.ref 1]) (HH I J R T) _
      refine Z_cQ rfl rfl rfl (Ze_deep (d := 2) (by omega) (c_stepQ (d := 0) hK)) (fun v h1 hq => ?_)
      obtain ⟨rfl, I1, rfl, K1, u1, f1⟩ := hq
      show Zs _ _ (am_P 7).2 (39, [(0, .ref 20), (1, .ref 1)], []) (HH I1 J R T) _
      refine Z_jump 7 rfl ?_
      show Zs _ _ (am_P 7).2 (48, [(0, .ref 20), (1, .ref 1)], [.int ((I1 20 1) - (1 : Int32)), .int (0 : Int32), .int (2 : Int32), .ref 1]) (HH I1 J R T) _
      have em : (I1 20 1 - 1).toInt = (D.1 : Int) - 1 := by rw [u1 20 (by decide), hD.1]; exact nIm1 h6
      refine Z_cQ rfl rfl rfl (Ze_deep (d := 3) (by omega) (c_takeI (d := 0) (md := 2) K1 (f1.trans h2) rfl (by omega) e0 em)) (fun v h1 hq => ?_)
      unfold fStuck
      rcases hq with ⟨hT1, rfl, I2, rfl, K2, u2, f2⟩ | ⟨hT1, rfl, rfl⟩
      · rw [if_pos hT1]
        refine Z_jump 5 rfl ?_
        show Zs _ _ (am_P 7).2 (56, [(0, .ref 20), (1, .ref 1), (2, .int (nI (nv tx (tS tx c (tE tx c s)) (tE tx c (tS tx c (tE tx c s))))))], [.int (1 : Int32), .int (0 : Int32), .int (2 : Int32), .ref 1]) (HH I2 J R T) _
        refine Z_cQ rfl rfl rfl (Ze_deep (d := 3) (by omega) (c_takeI (d := 0) (md := 2) K2 f2 rfl (by omega) e0 e1)) (fun v h1 hq => ?_)
        rcases hq with ⟨hT2, rfl, I3, rfl, K3, u3, f3⟩ | ⟨hT2, rfl, rfl⟩
        · rw [if_pos hT2]
          have u : ∀ a, a ≠ 1 → I3 a = I a := fun a ha => (u3 a ha).trans ((u2 a ha).trans (u1 a ha))
          refine Z_jump 2 rfl ?_
          show Zs _ _ (am_P 7).2 (61, [(0, .ref 20), (1, .ref 1), (2, .int (nI (nv tx (tS tx c (tE tx c s)) (tE tx c (tS tx c (tE tx c s)))))), (3, .int (nI (nv tx (tS tx c (tE tx c (tS tx c (tE tx c s)))) (tE tx c (tS tx c (tE tx c (tS tx c (tE tx c s))))))))], [.ref 1]) (HH I3 J R T) _
          refine Z_c1 rfl rfl rfl (c_soundY f3) ?_
          show Zs _ _ (am_P 7).2 (64, [(0, .ref 20), (1, .ref 1), (2, .int (nI (nv tx (tS tx c (tE tx c s)) (tE tx c (tS tx c (tE tx c s)))))), (3, .int (nI (nv tx (tS tx c (tE tx c (tS tx c (tE tx c s)))) (tE tx c (tS tx c (tE tx c (tS tx c (tE tx c s))))))))], [.int (1 : Int32)]) (HH I3 J R T) _
          refine Z_jump 6 rfl ?_
          show Zs _ _ (am_P 7).2 (74, [(0, .ref 20), (1, .ref 1), (2, .int (nI (nv tx (tS tx c (tE tx c s)) (tE tx c (tS tx c (tE tx c s)))))), (3, .int (nI (nv tx (tS tx c (tE tx c (tS tx c (tE tx c s)))) (tE tx c (tS tx c (tE tx c (tS tx c (tE tx c s))))))))], [.int (nI (nv tx (tS tx c (tE tx c (tS tx c (tE tx c s)))) (tE tx c (tS tx c (tE tx c (tS tx c (tE tx c s))))))), .int (nI (nv tx (tS tx c (tE tx c s)) (tE tx c (tS tx c (tE tx c s))))), .int (I3 20 2), .ref 20]) (HH I3 J R T) _
          refine Z_c1 rfl rfl rfl (c_partBit) ?_
          show Zs _ _ (am_P 7).2 (77, [(0, .ref 20), (1, .ref 1), (2, .int (nI (nv tx (tS tx c (tE tx c s)) (tE tx c (tS tx c (tE tx c s)))))), (3, .int (nI (nv tx (tS tx c (tE tx c (tS tx c (tE tx c s)))) (tE tx c (tS tx c (tE tx c (tS tx c (tE tx c s))))))))], [.int (1 <<< ((2 * (nI (nv tx (tS tx c (tE tx c s)) (tE tx c (tS tx c (tE tx c s))))) + (nI (nv tx (tS tx c (tE tx c (tS tx c (tE tx c s)))) (tE tx c (tS tx c (tE tx c (tS tx c (tE tx c s)))))))) &&& 31)), .int (I3 20 2), .ref 20]) (HH I3 J R T) _
          refine Z_jump 2 rfl ?_
          show Zs _ _ (am_P 7).2 (81, [(0, .ref 20), (1, .ref 1), (2, .int (nI (nv tx (tS tx c (tE tx c s)) (tE tx c (tS tx c (tE tx c s)))))), (3, .int (nI (nv tx (tS tx c (tE tx c (tS tx c (tE tx c s)))) (tE tx c (tS tx c (tE tx c (tS tx c (tE tx c s))))))))], []) (HH (sf I3 20 2 ((I3 20 2) ||| (1 <<< ((2 * (nI (nv tx (tS tx c (tE tx c s)) (tE tx c (tS tx c (tE tx c s))))) + (nI (nv tx (tS tx c (tE tx c (tS tx c (tE tx c s)))) (tE tx c (tS tx c (tE tx c (tS tx c (tE tx c s)))))))) &&& 31)))) J R T) _
          refine Z_jump 1 rfl ?_
          show Zs _ _ (am_P 7).2 (93, [(0, .ref 20), (1, .ref 1), (2, .int (nI (nv tx (tS tx c (tE tx c s)) (tE tx c (tS tx c (tE tx c s)))))), (3, .int (nI (nv tx (tS tx c (tE tx c (tS tx c (tE tx c s)))) (tE tx c (tS tx c (tE tx c (tS tx c (tE tx c s))))))))], []) (HH (sf I3 20 2 ((I3 20 2) ||| (1 <<< ((2 * (nI (nv tx (tS tx c (tE tx c s)) (tE tx c (tS tx c (tE tx c s))))) + (nI (nv tx (tS tx c (tE tx c (tS tx c (tE tx c s)))) (tE tx c (tS tx c (tE tx c (tS tx c (tE tx c s)))))))) &&& 31)))) J R T) _
          refine Z_ret rfl rfl rfl ?_
          refine ⟨rfl, _, R, T, rfl, fun a h1 h3 => by rw [sf_c h3]; exact u a h1, fun _ _ => rfl, TX_w (TX_0 T) (by omega), CT_of K3.1 rfl rfl, (tE_c K2.2.1).2, f3, K3, ?_, h6, ?_, fun k hk => hD.2.2.2 k hk⟩
          · show I3 20 1 = nI D.1
            rw [u 20 (by decide)]; exact hD.1
          · show I3 20 2 ||| _ = _
            rw [u 20 (by decide), hD.2.2.1]; rfl
        · rw [if_neg hT2]
          exact Zs_mono (c_st_59 (d := d + 4) (C_fc K2.2.1 hc)) (fun r h' q => ⟨q.1, by rw [q.2]; exact FC_f K2 (fun a ha => (u2 a ha).trans (u1 a ha))⟩)
      · rw [if_neg hT1]
        exact Zs_mono (c_st_51 (d := d + 4) (s := (tS tx c (tE tx c s))) K1.2.2.1 (C_fc K1.2.1 hc)) (fun r h' q => ⟨q.1, by rw [q.2]; exact FC_f K1 u1⟩)
    · rw [if_neg hKk]
      by_cases hP : wP tx s (tE tx c s)
      · rw [if_pos hP]
        refine Z_jump 2 rfl ?_
        show Zs _ _ (am_P 7).2 (3, [(0, .ref 20), (1, .ref 1)], [.retAddr 1, .ref 1]) (HH I J R T) _
        refine Z_c1 rfl rfl rfl (c_wF hK) ?_
        show Zs _ _ (am_P 7).2 (6, [(0, .ref 20), (1, .ref 1)], [.int (if wF tx s (tE tx c s) then 1 else 0)]) (HH I J R T) _
        show Zs _ _ (am_P 7).2 (6, [(0, .ref 20), (1, .ref 1)], [.int (if wF tx s (tE tx c s) then 1 else 0)]) (HH I J R T) _
        refine Z_eqI (if_neg hF) ?_
        show Zs _ _ (am_P 7).2 (6, [(0, .ref 20), (1, .ref 1)], [.int (0 : Int32)]) (HH I J R T) _
        refine Z_jump 3 rfl ?_
        show Zs _ _ (am_P 7).2 (29, [(0, .ref 20), (1, .ref 1)], [.retAddr 2, .ref 1]) (HH I J R T) _
        refine Z_c1 rfl rfl rfl (c_wK hK) ?_
        show Zs _ _ (am_P 7).2 (32, [(0, .ref 20), (1, .ref 1)], [.int (if wK tx s (tE tx c s) then 1 else 0)]) (HH I J R T) _
        show Zs _ _ (am_P 7).2 (32, [(0, .ref 20), (1, .ref 1)], [.int (if wK tx s (tE tx c s) then 1 else 0)]) (HH I J R T) _
        refine Z_eqI (if_neg hKk) ?_
        show Zs _ _ (am_P 7).2 (32, [(0, .ref 20), (1, .ref 1)], [.int (0 : Int32)]) (HH I J R T) _
        refine Z_jump 4 rfl ?_
        show Zs _ _ (am_P 7).2 (87, [(0, .ref 20), (1, .ref 1)], [.ref 1, .ref 1, .ref 20]) (HH I J R T) _
        refine Z_c1 rfl rfl rfl (c_kindTold hK) ?_
        show Zs _ _ (am_P 7).2 (90, [(0, .ref 20), (1, .ref 1)], [.int (if wP tx s (tE tx c s) then 0 else if wV tx s (tE tx c s) then 1 else if wW tx s (tE tx c s) then 2 else if wH tx s (tE tx c s) then 3 else -1), .ref 1, .ref 20]) (HH I J R T) _
        show Zs _ _ (am_P 7).2 (90, [(0, .ref 20), (1, .ref 1)], [.int (if wP tx s (tE tx c s) then 0 else if wV tx s (tE tx c s) then 1 else if wW tx s (tE tx c s) then 2 else if wH tx s (tE tx c s) then 3 else -1), .ref 1, .ref 20]) (HH I J R T) _
        refine Z_eqI (by rw [if_pos hP]) ?_
        show Zs _ _ (am_P 7).2 (90, [(0, .ref 20), (1, .ref 1)], [.int (0 : Int32), .ref 1, .ref 20]) (HH I J R T) _
        show Zs _ _ (am_P 7).2 (90, [(0, .ref 20), (1, .ref 1)], [.int (0 : Int32), .ref 1, .ref 20]) (HH I J R T) _
        refine Z_cQ rfl rfl rfl (Ze_deep (d := 5) (by omega) (c_readRod0 (d := 0) hK h2 hD)) (fun v h1 hq => ?_)
        obtain ⟨rfl, I', R', T', rfl, hq⟩ := hq
        show Zs _ _ (am_P 7).2 (93, [(0, .ref 20), (1, .ref 1)], []) (HH I' J R' T') _
        show Zs _ _ (am_P 7).2 (93, [(0, .ref 20), (1, .ref 1)], []) (HH I' J R' T') _
        refine Z_ret rfl rfl rfl ?_
        exact ⟨rfl, I', R', T', rfl, hq⟩
      · rw [if_neg hP]
        by_cases hV : wV tx s (tE tx c s)
        · rw [if_pos hV]
          refine Z_jump 2 rfl ?_
          show Zs _ _ (am_P 7).2 (3, [(0, .ref 20), (1, .ref 1)], [.retAddr 1, .ref 1]) (HH I J R T) _
          refine Z_c1 rfl rfl rfl (c_wF hK) ?_
          show Zs _ _ (am_P 7).2 (6, [(0, .ref 20), (1, .ref 1)], [.int (if wF tx s (tE tx c s) then 1 else 0)]) (HH I J R T) _
          show Zs _ _ (am_P 7).2 (6, [(0, .ref 20), (1, .ref 1)], [.int (if wF tx s (tE tx c s) then 1 else 0)]) (HH I J R T) _
          refine Z_eqI (if_neg hF) ?_
          show Zs _ _ (am_P 7).2 (6, [(0, .ref 20), (1, .ref 1)], [.int (0 : Int32)]) (HH I J R T) _
          refine Z_jump 3 rfl ?_
          show Zs _ _ (am_P 7).2 (29, [(0, .ref 20), (1, .ref 1)], [.retAddr 2, .ref 1]) (HH I J R T) _
          refine Z_c1 rfl rfl rfl (c_wK hK) ?_
          show Zs _ _ (am_P 7).2 (32, [(0, .ref 20), (1, .ref 1)], [.int (if wK tx s (tE tx c s) then 1 else 0)]) (HH I J R T) _
          show Zs _ _ (am_P 7).2 (32, [(0, .ref 20), (1, .ref 1)], [.int (if wK tx s (tE tx c s) then 1 else 0)]) (HH I J R T) _
          refine Z_eqI (if_neg hKk) ?_
          show Zs _ _ (am_P 7).2 (32, [(0, .ref 20), (1, .ref 1)], [.int (0 : Int32)]) (HH I J R T) _
          refine Z_jump 4 rfl ?_
          show Zs _ _ (am_P 7).2 (87, [(0, .ref 20), (1, .ref 1)], [.ref 1, .ref 1, .ref 20]) (HH I J R T) _
          refine Z_c1 rfl rfl rfl (c_kindTold hK) ?_
          show Zs _ _ (am_P 7).2 (90, [(0, .ref 20), (1, .ref 1)], [.int (if wP tx s (tE tx c s) then 0 else if wV tx s (tE tx c s) then 1 else if wW tx s (tE tx c s) then 2 else if wH tx s (tE tx c s) then 3 else -1), .ref 1, .ref 20]) (HH I J R T) _
          show Zs _ _ (am_P 7).2 (90, [(0, .ref 20), (1, .ref 1)], [.int (if wP tx s (tE tx c s) then 0 else if wV tx s (tE tx c s) then 1 else if wW tx s (tE tx c s) then 2 else if wH tx s (tE tx c s) then 3 else -1), .ref 1, .ref 20]) (HH I J R T) _
          refine Z_eqI (by rw [if_neg hP, if_pos hV]) ?_
          show Zs _ _ (am_P 7).2 (90, [(0, .ref 20), (1, .ref 1)], [.int (1 : Int32), .ref 1, .ref 20]) (HH I J R T) _
          show Zs _ _ (am_P 7).2 (90, [(0, .ref 20), (1, .ref 1)], [.int (1 : Int32), .ref 1, .ref 20]) (HH I J R T) _
          refine Z_cQ rfl rfl rfl (Ze_deep (d := 5) (by omega) (c_readRod1 (d := 0) hK h2 hD)) (fun v h1 hq => ?_)
          obtain ⟨rfl, I', R', T', rfl, hq⟩ := hq
          show Zs _ _ (am_P 7).2 (93, [(0, .ref 20), (1, .ref 1)], []) (HH I' J R' T') _
          show Zs _ _ (am_P 7).2 (93, [(0, .ref 20), (1, .ref 1)], []) (HH I' J R' T') _
          refine Z_ret rfl rfl rfl ?_
          exact ⟨rfl, I', R', T', rfl, hq⟩
        · rw [if_neg hV]
          by_cases hW : wW tx s (tE tx c s)
          · rw [if_pos hW]
            refine Z_jump 2 rfl ?_
            show Zs _ _ (am_P 7).2 (3, [(0, .ref 20), (1, .ref 1)], [.retAddr 1, .ref 1]) (HH I J R T) _
            refine Z_c1 rfl rfl rfl (c_wF hK) ?_
            show Zs _ _ (am_P 7).2 (6, [(0, .ref 20), (1, .ref 1)], [.int (if wF tx s (tE tx c s) then 1 else 0)]) (HH I J R T) _
            show Zs _ _ (am_P 7).2 (6, [(0, .ref 20), (1, .ref 1)], [.int (if wF tx s (tE tx c s) then 1 else 0)]) (HH I J R T) _
            refine Z_eqI (if_neg hF) ?_
            show Zs _ _ (am_P 7).2 (6, [(0, .ref 20), (1, .ref 1)], [.int (0 : Int32)]) (HH I J R T) _
            refine Z_jump 3 rfl ?_
            show Zs _ _ (am_P 7).2 (29, [(0, .ref 20), (1, .ref 1)], [.retAddr 2, .ref 1]) (HH I J R T) _
            refine Z_c1 rfl rfl rfl (c_wK hK) ?_
            show Zs _ _ (am_P 7).2 (32, [(0, .ref 20), (1, .ref 1)], [.int (if wK tx s (tE tx c s) then 1 else 0)]) (HH I J R T) _
            show Zs _ _ (am_P 7).2 (32, [(0, .ref 20), (1, .ref 1)], [.int (if wK tx s (tE tx c s) then 1 else 0)]) (HH I J R T) _
            refine Z_eqI (if_neg hKk) ?_
            show Zs _ _ (am_P 7).2 (32, [(0, .ref 20), (1, .ref 1)], [.int (0 : Int32)]) (HH I J R T) _
            refine Z_jump 4 rfl ?_
            show Zs _ _ (am_P 7).2 (87, [(0, .ref 20), (1, .ref 1)], [.ref 1, .ref 1, .ref 20]) (HH I J R T) _
            refine Z_c1 rfl rfl rfl (c_kindTold hK) ?_
            show Zs _ _ (am_P 7).2 (90, [(0, .ref 20), (1, .ref 1)], [.int (if wP tx s (tE tx c s) then 0 else if wV tx s (tE tx c s) then 1 else if wW tx s (tE tx c s) then 2 else if wH tx s (tE tx c s) then 3 else -1), .ref 1, .ref 20]) (HH I J R T) _
            show Zs _ _ (am_P 7).2 (90, [(0, .ref 20), (1, .ref 1)], [.int (if wP tx s (tE tx c s) then 0 else if wV tx s (tE tx c s) then 1 else if wW tx s (tE tx c s) then 2 else if wH tx s (tE tx c s) then 3 else -1), .ref 1, .ref 20]) (HH I J R T) _
            refine Z_eqI (by rw [if_neg hP, if_neg hV, if_pos hW]) ?_
            show Zs _ _ (am_P 7).2 (90, [(0, .ref 20), (1, .ref 1)], [.int (2 : Int32), .ref 1, .ref 20]) (HH I J R T) _
            show Zs _ _ (am_P 7).2 (90, [(0, .ref 20), (1, .ref 1)], [.int (2 : Int32), .ref 1, .ref 20]) (HH I J R T) _
            refine Z_cQ rfl rfl rfl (Ze_deep (d := 5) (by omega) (c_readRod2 (d := 0) hK h2 hD)) (fun v h1 hq => ?_)
            obtain ⟨rfl, I', R', T', rfl, hq⟩ := hq
            show Zs _ _ (am_P 7).2 (93, [(0, .ref 20), (1, .ref 1)], []) (HH I' J R' T') _
            show Zs _ _ (am_P 7).2 (93, [(0, .ref 20), (1, .ref 1)], []) (HH I' J R' T') _
            refine Z_ret rfl rfl rfl ?_
            exact ⟨rfl, I', R', T', rfl, hq⟩
          · rw [if_neg hW]
            by_cases hH : wH tx s (tE tx c s)
            · rw [if_pos hH]
              refine Z_jump 2 rfl ?_
              show Zs _ _ (am_P 7).2 (3, [(0, .ref 20), (1, .ref 1)], [.retAddr 1, .ref 1]) (HH I J R T) _
              refine Z_c1 rfl rfl rfl (c_wF hK) ?_
              show Zs _ _ (am_P 7).2 (6, [(0, .ref 20), (1, .ref 1)], [.int (if wF tx s (tE tx c s) then 1 else 0)]) (HH I J R T) _
              show Zs _ _ (am_P 7).2 (6, [(0, .ref 20), (1, .ref 1)], [.int (if wF tx s (tE tx c s) then 1 else 0)]) (HH I J R T) _
              refine Z_eqI (if_neg hF) ?_
              show Zs _ _ (am_P 7).2 (6, [(0, .ref 20), (1, .ref 1)], [.int (0 : Int32)]) (HH I J R T) _
              refine Z_jump 3 rfl ?_
              show Zs _ _ (am_P 7).2 (29, [(0, .ref 20), (1, .ref 1)], [.retAddr 2, .ref 1]) (HH I J R T) _
              refine Z_c1 rfl rfl rfl (c_wK hK) ?_
              show Zs _ _ (am_P 7).2 (32, [(0, .ref 20), (1, .ref 1)], [.int (if wK tx s (tE tx c s) then 1 else 0)]) (HH I J R T) _
              show Zs _ _ (am_P 7).2 (32, [(0, .ref 20), (1, .ref 1)], [.int (if wK tx s (tE tx c s) then 1 else 0)]) (HH I J R T) _
              refine Z_eqI (if_neg hKk) ?_
              show Zs _ _ (am_P 7).2 (32, [(0, .ref 20), (1, .ref 1)], [.int (0 : Int32)]) (HH I J R T) _
              refine Z_jump 4 rfl ?_
              show Zs _ _ (am_P 7).2 (87, [(0, .ref 20), (1, .ref 1)], [.ref 1, .ref 1, .ref 20]) (HH I J R T) _
              refine Z_c1 rfl rfl rfl (c_kindTold hK) ?_
              show Zs _ _ (am_P 7).2 (90, [(0, .ref 20), (1, .ref 1)], [.int (if wP tx s (tE tx c s) then 0 else if wV tx s (tE tx c s) then 1 else if wW tx s (tE tx c s) then 2 else if wH tx s (tE tx c s) then 3 else -1), .ref 1, .ref 20]) (HH I J R T) _
              show Zs _ _ (am_P 7).2 (90, [(0, .ref 20), (1, .ref 1)], [.int (if wP tx s (tE tx c s) then 0 else if wV tx s (tE tx c s) then 1 else if wW tx s (tE tx c s) then 2 else if wH tx s (tE tx c s) then 3 else -1), .ref 1, .ref 20]) (HH I J R T) _
              refine Z_eqI (by rw [if_neg hP, if_neg hV, if_neg hW, if_pos hH]) ?_
              show Zs _ _ (am_P 7).2 (90, [(0, .ref 20), (1, .ref 1)], [.int (3 : Int32), .ref 1, .ref 20]) (HH I J R T) _
              show Zs _ _ (am_P 7).2 (90, [(0, .ref 20), (1, .ref 1)], [.int (3 : Int32), .ref 1, .ref 20]) (HH I J R T) _
              refine Z_cQ rfl rfl rfl (Ze_deep (d := 5) (by omega) (c_readRod3 (d := 0) hK h2 hD)) (fun v h1 hq => ?_)
              obtain ⟨rfl, I', R', T', rfl, hq⟩ := hq
              show Zs _ _ (am_P 7).2 (93, [(0, .ref 20), (1, .ref 1)], []) (HH I' J R' T') _
              show Zs _ _ (am_P 7).2 (93, [(0, .ref 20), (1, .ref 1)], []) (HH I' J R' T') _
              refine Z_ret rfl rfl rfl ?_
              exact ⟨rfl, I', R', T', rfl, hq⟩
            · rw [if_neg hH]
              refine Z_jump 2 rfl ?_
              show Zs _ _ (am_P 7).2 (3, [(0, .ref 20), (1, .ref 1)], [.retAddr 1, .ref 1]) (HH I J R T) _
              refine Z_c1 rfl rfl rfl (c_wF hK) ?_
              show Zs _ _ (am_P 7).2 (6, [(0, .ref 20), (1, .ref 1)], [.int (if wF tx s (tE tx c s) then 1 else 0)]) (HH I J R T) _
              show Zs _ _ (am_P 7).2 (6, [(0, .ref 20), (1, .ref 1)], [.int (if wF tx s (tE tx c s) then 1 else 0)]) (HH I J R T) _
              refine Z_eqI (if_neg hF) ?_
              show Zs _ _ (am_P 7).2 (6, [(0, .ref 20), (1, .ref 1)], [.int (0 : Int32)]) (HH I J R T) _
              refine Z_jump 3 rfl ?_
              show Zs _ _ (am_P 7).2 (29, [(0, .ref 20), (1, .ref 1)], [.retAddr 2, .ref 1]) (HH I J R T) _
              refine Z_c1 rfl rfl rfl (c_wK hK) ?_
              show Zs _ _ (am_P 7).2 (32, [(0, .ref 20), (1, .ref 1)], [.int (if wK tx s (tE tx c s) then 1 else 0)]) (HH I J R T) _
              show Zs _ _ (am_P 7).2 (32, [(0, .ref 20), (1, .ref 1)], [.int (if wK tx s (tE tx c s) then 1 else 0)]) (HH I J R T) _
              refine Z_eqI (if_neg hKk) ?_
              show Zs _ _ (am_P 7).2 (32, [(0, .ref 20), (1, .ref 1)], [.int (0 : Int32)]) (HH I J R T) _
              refine Z_jump 4 rfl ?_
              show Zs _ _ (am_P 7).2 (87, [(0, .ref 20), (1, .ref 1)], [.ref 1, .ref 1, .ref 20]) (HH I J R T) _
              refine Z_c1 rfl rfl rfl (c_kindTold hK) ?_
              show Zs _ _ (am_P 7).2 (90, [(0, .ref 20), (1, .ref 1)], [.int (if wP tx s (tE tx c s) then 0 else if wV tx s (tE tx c s) then 1 else if wW tx s (tE tx c s) then 2 else if wH tx s (tE tx c s) then 3 else -1), .ref 1, .ref 20]) (HH I J R T) _
              show Zs _ _ (am_P 7).2 (90, [(0, .ref 20), (1, .ref 1)], [.int (if wP tx s (tE tx c s) then 0 else if wV tx s (tE tx c s) then 1 else if wW tx s (tE tx c s) then 2 else if wH tx s (tE tx c s) then 3 else -1), .ref 1, .ref 20]) (HH I J R T) _
              refine Z_eqI (by rw [if_neg hP, if_neg hV, if_neg hW, if_neg hH]) ?_
              show Zs _ _ (am_P 7).2 (90, [(0, .ref 20), (1, .ref 1)], [.int (-1 : Int32), .ref 1, .ref 20]) (HH I J R T) _
              show Zs _ _ (am_P 7).2 (90, [(0, .ref 20), (1, .ref 1)], [.int (-1 : Int32), .ref 1, .ref 20]) (HH I J R T) _
              refine Z_c0 rfl rfl rfl (c_readRodN hK h2) ?_
              show Zs _ _ (am_P 7).2 (93, [(0, .ref 20), (1, .ref 1)], []) (HH (sf I 1 2 (nI s)) J R T) _
              show Zs _ _ (am_P 7).2 (93, [(0, .ref 20), (1, .ref 1)], []) (HH (sf I 1 2 (nI s)) J R T) _
              refine Z_ret rfl rfl rfl ?_
              exact ⟨rfl, FC_f hK (fun _ _ => rfl)⟩
end CF2

