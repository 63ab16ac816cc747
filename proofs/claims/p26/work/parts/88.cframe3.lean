/-! The class reads a frame's text: copies, the loop, frame(). -/
theorem may_cls {kd : Nat} (h : kd ≤ 3) : am_may 3 (clsOf kd) = true := by
  rcases (show kd = 0 ∨ kd = 1 ∨ kd = 2 ∨ kd = 3 by omega) with rfl | rfl | rfl | rfl <;> rfl
def FBi (f g m i : Nat) (R0 R : hR) : Prop := (∀ a, a ≠ f + 1 → R a = R0 a) ∧ ∀ k, k < i → k < m → R (f + 1) k = R0 (g + 1) k
theorem FBi_s {f g m i : Nat} {R0 R : hR} {v : Option Nat} (H : FBi f g m i R0 R) (hv : i < m → v = R0 (g + 1) i) : FBi f g m (i + 1) R0 (sr R (f + 1) i v) := by
  refine ⟨fun a ha => by unfold sr; rw [up_ne ha]; exact H.1 a ha, fun k h1 h2 => ?_⟩
  unfold sr
  rw [up_same]
  by_cases e : k = i
  · subst e; rw [up_same]; exact hv h2
  · rw [up_ne e]; exact H.2 k (by omega) h2
section CF3
variable {sc : Nat × (Nat → Int32)} {d : Nat} {I : hI} {J : hJ} {R : hR} {T : am_H} {Q : Option Value → am_H → Prop} {tx : Nat → Nat} {c : Nat}
theorem c_rodAt18 {k a : Nat} {x : Int32} {D : FD} (hD : DC 18 D I R T) (hx : x = nI k) (hk : k < D.1) (hR : R 19 k = some a) : am_E sc (d + 1) 4 [.ref 18, .int x] (HH I J R T) (some (.ref a)) (HH I J R T) := by
  refine E_Z (Ze_of (Nat.le_of_ble_eq_true rfl) ?_)
  have h6 := hD.2.1
  refine Z_jump 2 rfl ?_
  refine Z_bd (fun c1 => absurd c1 ((show ¬ x < 0 by rw [hx]; exact nI_pos (by omega)))) (fun c1 => ?_)
  refine Z_jump 4 rfl ?_
  refine Z_bd (fun c9 => absurd c9 ((show ¬ I 18 1 ≤ x by rw [hD.1, hx]; exact nI_ge hk (by omega)))) (fun c9 => ?_)
  refine Z_jump 4 rfl ?_
  show Zs _ _ (am_P 4).2 (18, [(0, .ref 18), (1, .int x)], [.int (6 : Int32), .int x]) (HH I J R T) _
  refine Z_jump 1 rfl ?_
  refine Z_bd (fun c18 => absurd c18 ((show ¬ (6 : Int32) ≤ x by rw [hx]; exact nI_ge (b := 6) (by omega) (by omega)))) (fun c18 => ?_)
  refine Z_jump 3 rfl ?_
  show Zs _ _ (am_P 4).2 (26, [(0, .ref 18), (1, .int x)], [.int x, .ref 19]) (HH I J R T) _
  refine Z_aalK (k) rfl rfl (by decide) (hx) (by omega) (by decide) ?_
  rw [hR]
  show Zs _ _ (am_P 4).2 (27, [(0, .ref 18), (1, .int x)], [.ref a]) (HH I J R T) _
  refine Z_jump 1 rfl ?_
  show Zs _ _ (am_P 4).2 (31, [(0, .ref 18), (1, .int x)], [.ref a]) (HH I J R T) _
  refine Z_ret rfl rfl rfl ?_
  exact ⟨rfl, rfl⟩
theorem c_rodAt18n {x : Int32} {D : FD} (hD : DC 18 D I R T) (hx : ¬ M_rod D.1 x) : am_E sc (d + 1) 4 [.ref 18, .int x] (HH I J R T) (some .null) (HH I J R T) := by
  refine E_Z (Ze_of (Nat.le_of_ble_eq_true rfl) ?_)
  have h6 := hD.2.1
  refine Z_jump 2 rfl ?_
  refine Z_bd (fun (c1 : x < (0 : Int32)) => ?_) (fun (c1 : ¬ (x < (0 : Int32))) => ?_)
  · refine Z_jump 1 rfl ?_
    show Zs _ _ (am_P 4).2 (31, [(0, .ref 18), (1, .int x)], [.null]) (HH I J R T) _
    refine Z_ret rfl rfl rfl ?_
    exact ⟨rfl, rfl⟩
  · refine Z_jump 4 rfl ?_
    refine Z_bd (fun c9 => ?_) (fun c9 => absurd ((show I 18 1 ≤ x by rw [hD.1, fi_le, nI_toInt (by omega)]; rw [fi_lt] at c1; have z0 : (0 : Int32).toInt = 0 := rfl; omega)) c9)
    refine Z_jump 1 rfl ?_
    show Zs _ _ (am_P 4).2 (31, [(0, .ref 18), (1, .int x)], [.null]) (HH I J R T) _
    refine Z_ret rfl rfl rfl ?_
    exact ⟨rfl, rfl⟩
theorem c_rodAt20 {k a : Nat} {x : Int32} {D : FD} (hD : DC 20 D I R T) (hx : x = nI k) (hk : k < D.1) (hR : R 21 k = some a) : am_E sc (d + 1) 4 [.ref 20, .int x] (HH I J R T) (some (.ref a)) (HH I J R T) := by
  refine E_Z (Ze_of (Nat.le_of_ble_eq_true rfl) ?_)
  have h6 := hD.2.1
  refine Z_jump 2 rfl ?_
  refine Z_bd (fun c1 => absurd c1 ((show ¬ x < 0 by rw [hx]; exact nI_pos (by omega)))) (fun c1 => ?_)
  refine Z_jump 4 rfl ?_
  refine Z_bd (fun c9 => absurd c9 ((show ¬ I 20 1 ≤ x by rw [hD.1, hx]; exact nI_ge hk (by omega)))) (fun c9 => ?_)
  refine Z_jump 4 rfl ?_
  show Zs _ _ (am_P 4).2 (18, [(0, .ref 20), (1, .int x)], [.int (6 : Int32), .int x]) (HH I J R T) _
  refine Z_jump 1 rfl ?_
  refine Z_bd (fun c18 => absurd c18 ((show ¬ (6 : Int32) ≤ x by rw [hx]; exact nI_ge (b := 6) (by omega) (by omega)))) (fun c18 => ?_)
  refine Z_jump 3 rfl ?_
  show Zs _ _ (am_P 4).2 (26, [(0, .ref 20), (1, .int x)], [.int x, .ref 21]) (HH I J R T) _
  refine Z_aalK (k) rfl rfl (by decide) (hx) (by omega) (by decide) ?_
  rw [hR]
  show Zs _ _ (am_P 4).2 (27, [(0, .ref 20), (1, .int x)], [.ref a]) (HH I J R T) _
  refine Z_jump 1 rfl ?_
  show Zs _ _ (am_P 4).2 (31, [(0, .ref 20), (1, .int x)], [.ref a]) (HH I J R T) _
  refine Z_ret rfl rfl rfl ?_
  exact ⟨rfl, rfl⟩
theorem c_rodAt20n {x : Int32} {D : FD} (hD : DC 20 D I R T) (hx : ¬ M_rod D.1 x) : am_E sc (d + 1) 4 [.ref 20, .int x] (HH I J R T) (some .null) (HH I J R T) := by
  refine E_Z (Ze_of (Nat.le_of_ble_eq_true rfl) ?_)
  have h6 := hD.2.1
  refine Z_jump 2 rfl ?_
  refine Z_bd (fun (c1 : x < (0 : Int32)) => ?_) (fun (c1 : ¬ (x < (0 : Int32))) => ?_)
  · refine Z_jump 1 rfl ?_
    show Zs _ _ (am_P 4).2 (31, [(0, .ref 20), (1, .int x)], [.null]) (HH I J R T) _
    refine Z_ret rfl rfl rfl ?_
    exact ⟨rfl, rfl⟩
  · refine Z_jump 4 rfl ?_
    refine Z_bd (fun c9 => ?_) (fun c9 => absurd ((show I 20 1 ≤ x by rw [hD.1, fi_le, nI_toInt (by omega)]; rw [fi_lt] at c1; have z0 : (0 : Int32).toInt = 0 := rfl; omega)) c9)
    refine Z_jump 1 rfl ?_
    show Zs _ _ (am_P 4).2 (31, [(0, .ref 20), (1, .int x)], [.null]) (HH I J R T) _
    refine Z_ret rfl rfl rfl ?_
    exact ⟨rfl, rfl⟩
theorem c_fcopy20_l {D : FD} {R0 : hR} (hD : DC 18 D I R0 T) (H : ∀ R, FBi 20 18 D.1 6 R0 R → Zs sc (d + 1) (am_P 5).2 (28, [(0, .ref 20), (1, .ref 18), (2, .int (nI 6))], []) (HH I J R T) Q) : ∀ (k i : Nat) (R : hR) (x : Int32), i + k = 6 → x = nI i → FBi 20 18 D.1 i R0 R → Zs sc (d + 1) (am_P 5).2 (2, [(0, .ref 20), (1, .ref 18), (2, .int x)], []) (HH I J R T) Q
  | 0, i, R, x, hi, hx, hB => by
    have e : i = 6 := by omega
    subst e
    subst hx
    refine Z_jump 4 rfl ?_
    show Zs _ _ (am_P 5).2 (8, [(0, .ref 20), (1, .ref 18), (2, .int (nI 6))], [.int (6 : Int32), .int (nI 6)]) (HH I J R T) _
    refine Z_jump 1 rfl ?_
    refine Z_bd (fun c8 => ?_) (fun c8 => absurd ((show (6 : Int32) ≤ nI 6 by decide)) c8)
    show Zs _ _ (am_P 5).2 (28, [(0, .ref 20), (1, .ref 18), (2, .int (nI 6))], []) (HH I J R T) _
    exact H R hB
  | k + 1, i, R, x, hi, hx, hB => by
    have hD' : DC 18 D I R T := DC_of hD rfl (hB.1 19 (by decide))
    by_cases hk : i < D.1
    · obtain ⟨hq, a, hR, hT⟩ := hD.2.2.2 i hk
      have hR' : R 19 i = some (99 + a) := by rw [hB.1 19 (by decide)]; exact hR
      refine Z_jump 4 rfl ?_
      show Zs _ _ (am_P 5).2 (8, [(0, .ref 20), (1, .ref 18), (2, .int x)], [.int (6 : Int32), .int x]) (HH I J R T) _
      refine Z_jump 1 rfl ?_
      refine Z_bd (fun c8 => absurd c8 ((show ¬ (6 : Int32) ≤ x by rw [hx]; exact nI_ge (b := 6) (by omega) (by omega)))) (fun c8 => ?_)
      refine Z_jump 5 rfl ?_
      show Zs _ _ (am_P 5).2 (18, [(0, .ref 20), (1, .ref 18), (2, .int x)], [.int x, .ref 18, .int x, .ref 21]) (HH I J R T) _
      refine Z_c1 rfl rfl rfl (c_rodAt18 hD' hx hk hR') ?_
      show Zs _ _ (am_P 5).2 (21, [(0, .ref 20), (1, .ref 18), (2, .int x)], [.ref (99 + a), .int x, .ref 21]) (HH I J R T) _
      show Zs _ _ (am_P 5).2 (21, [(0, .ref 20), (1, .ref 18), (2, .int x)], [.ref (99 + a), .int x, .ref 21]) (HH I J R T) _
      refine Z_aasR (i) rfl rfl (HH_at a hT) (may_cls hq.1) (hx) (by omega) (by decide) ?_
      show Zs _ _ (am_P 5).2 (22, [(0, .ref 20), (1, .ref 18), (2, .int x)], []) (HH I J (sr R 21 i (some (99 + a))) T) _
      refine Z_jump 2 rfl ?_
      show Zs _ _ (am_P 5).2 (2, [(0, .ref 20), (1, .ref 18), (2, .int (x + 1))], []) (HH I J (sr R 21 i (some (99 + a))) T) _
      exact c_fcopy20_l hD H k (i + 1) _ _ (by omega) (by rw [hx]; exact nI_1 i) (FBi_s hB (fun _ => hR.symm))
    · refine Z_jump 4 rfl ?_
      show Zs _ _ (am_P 5).2 (8, [(0, .ref 20), (1, .ref 18), (2, .int x)], [.int (6 : Int32), .int x]) (HH I J R T) _
      refine Z_jump 1 rfl ?_
      refine Z_bd (fun c8 => absurd c8 ((show ¬ (6 : Int32) ≤ x by rw [hx]; exact nI_ge (b := 6) (by omega) (by omega)))) (fun c8 => ?_)
      refine Z_jump 5 rfl ?_
      show Zs _ _ (am_P 5).2 (18, [(0, .ref 20), (1, .ref 18), (2, .int x)], [.int x, .ref 18, .int x, .ref 21]) (HH I J R T) _
      refine Z_c1 rfl rfl rfl (c_rodAt18n hD' (by rw [hx]; intro z; have z2 := z.2; rw [nI_toInt (by omega)] at z2; omega)) ?_
      show Zs _ _ (am_P 5).2 (21, [(0, .ref 20), (1, .ref 18), (2, .int x)], [.null, .int x, .ref 21]) (HH I J R T) _
      show Zs _ _ (am_P 5).2 (21, [(0, .ref 20), (1, .ref 18), (2, .int x)], [.null, .int x, .ref 21]) (HH I J R T) _
      refine Z_aasN (i) rfl rfl (by decide) (hx) (by omega) (by decide) ?_
      show Zs _ _ (am_P 5).2 (22, [(0, .ref 20), (1, .ref 18), (2, .int x)], []) (HH I J (sr R 21 i none) T) _
      refine Z_jump 2 rfl ?_
      show Zs _ _ (am_P 5).2 (2, [(0, .ref 20), (1, .ref 18), (2, .int (x + 1))], []) (HH I J (sr R 21 i none) T) _
      exact c_fcopy20_l hD H k (i + 1) _ _ (by omega) (by rw [hx]; exact nI_1 i) (FBi_s hB (fun z => absurd z hk))
theorem c_fcopy20 {D : FD} (hD : DC 18 D I R T) : Ze sc (d + 2) 5 [.ref 20, .ref 18] (HH I J R T) (fun r h => r = none ∧ ∃ R', h = HH (sf (sf I 20 1 (I 18 1)) 20 2 (I 18 2)) J R' T ∧ (∀ a, a ≠ 21 → R' a = R a) ∧ DC 20 D (sf (sf I 20 1 (I 18 1)) 20 2 (I 18 2)) R' T) := by
  refine Ze_of (Nat.le_of_ble_eq_true rfl) ?_
  refine Z_jump 2 rfl ?_
  show Zs _ _ (am_P 5).2 (2, [(0, .ref 20), (1, .ref 18), (2, .int (0 : Int32))], []) (HH I J R T) _
  refine c_fcopy20_l hD (fun R' hB => ?_) 6 0 _ _ (by omega) rfl ⟨fun _ _ => rfl, fun k h1 => absurd h1 (Nat.not_lt_zero k)⟩
  refine Z_jump 4 rfl ?_
  show Zs _ _ (am_P 5).2 (36, [(0, .ref 20), (1, .ref 18), (2, .int (nI 6))], []) (HH (sf I 20 1 (I 18 1)) J R' T) _
  refine Z_jump 4 rfl ?_
  show Zs _ _ (am_P 5).2 (44, [(0, .ref 20), (1, .ref 18), (2, .int (nI 6))], []) (HH (sf (sf I 20 1 (I 18 1)) 20 2 (I 18 2)) J R' T) _
  show Zs _ _ (am_P 5).2 (44, [(0, .ref 20), (1, .ref 18), (2, .int (nI 6))], []) (HH (sf (sf I 20 1 (I 18 1)) 20 2 (I 18 2)) J R' T) _
  refine Z_ret rfl rfl rfl ?_
  refine ⟨rfl, R', rfl, hB.1, hD.1, hD.2.1, hD.2.2.1, fun k hk => ?_⟩
  have h6 := hD.2.1
  rw [hB.2 k (by omega) hk]
  exact hD.2.2.2 k hk
theorem c_fcopy18_l {D : FD} {R0 : hR} (hD : DC 20 D I R0 T) (H : ∀ R, FBi 18 20 D.1 6 R0 R → Zs sc (d + 1) (am_P 5).2 (28, [(0, .ref 18), (1, .ref 20), (2, .int (nI 6))], []) (HH I J R T) Q) : ∀ (k i : Nat) (R : hR) (x : Int32), i + k = 6 → x = nI i → FBi 18 20 D.1 i R0 R → Zs sc (d + 1) (am_P 5).2 (2, [(0, .ref 18), (1, .ref 20), (2, .int x)], []) (HH I J R T) Q
  | 0, i, R, x, hi, hx, hB => by
    have e : i = 6 := by omega
    subst e
    subst hx
    refine Z_jump 4 rfl ?_
    show Zs _ _ (am_P 5).2 (8, [(0, .ref 18), (1, .ref 20), (2, .int (nI 6))], [.int (6 : Int32), .int (nI 6)]) (HH I J R T) _
    refine Z_jump 1 rfl ?_
    refine Z_bd (fun c8 => ?_) (fun c8 => absurd ((show (6 : Int32) ≤ nI 6 by decide)) c8)
    show Zs _ _ (am_P 5).2 (28, [(0, .ref 18), (1, .ref 20), (2, .int (nI 6))], []) (HH I J R T) _
    exact H R hB
  | k + 1, i, R, x, hi, hx, hB => by
    have hD' : DC 20 D I R T := DC_of hD rfl (hB.1 21 (by decide))
    by_cases hk : i < D.1
    · obtain ⟨hq, a, hR, hT⟩ := hD.2.2.2 i hk
      have hR' : R 21 i = some (99 + a) := by rw [hB.1 21 (by decide)]; exact hR
      refine Z_jump 4 rfl ?_
      show Zs _ _ (am_P 5).2 (8, [(0, .ref 18), (1, .ref 20), (2, .int x)], [.int (6 : Int32), .int x]) (HH I J R T) _
      refine Z_jump 1 rfl ?_
      refine Z_bd (fun c8 => absurd c8 ((show ¬ (6 : Int32) ≤ x by rw [hx]; exact nI_ge (b := 6) (by omega) (by omega)))) (fun c8 => ?_)
      refine Z_jump 5 rfl ?_
      show Zs _ _ (am_P 5).2 (18, [(0, .ref 18), (1, .ref 20), (2, .int x)], [.int x, .ref 20, .int x, .ref 19]) (HH I J R T) _
      refine Z_c1 rfl rfl rfl (c_rodAt20 hD' hx hk hR') ?_
      show Zs _ _ (am_P 5).2 (21, [(0, .ref 18), (1, .ref 20), (2, .int x)], [.ref (99 + a), .int x, .ref 19]) (HH I J R T) _
      show Zs _ _ (am_P 5).2 (21, [(0, .ref 18), (1, .ref 20), (2, .int x)], [.ref (99 + a), .int x, .ref 19]) (HH I J R T) _
      refine Z_aasR (i) rfl rfl (HH_at a hT) (may_cls hq.1) (hx) (by omega) (by decide) ?_
      show Zs _ _ (am_P 5).2 (22, [(0, .ref 18), (1, .ref 20), (2, .int x)], []) (HH I J (sr R 19 i (some (99 + a))) T) _
      refine Z_jump 2 rfl ?_
      show Zs _ _ (am_P 5).2 (2, [(0, .ref 18), (1, .ref 20), (2, .int (x + 1))], []) (HH I J (sr R 19 i (some (99 + a))) T) _
      exact c_fcopy18_l hD H k (i + 1) _ _ (by omega) (by rw [hx]; exact nI_1 i) (FBi_s hB (fun _ => hR.symm))
    · refine Z_jump 4 rfl ?_
      show Zs _ _ (am_P 5).2 (8, [(0, .ref 18), (1, .ref 20), (2, .int x)], [.int (6 : Int32), .int x]) (HH I J R T) _
      refine Z_jump 1 rfl ?_
      refine Z_bd (fun c8 => absurd c8 ((show ¬ (6 : Int32) ≤ x by rw [hx]; exact nI_ge (b := 6) (by omega) (by omega)))) (fun c8 => ?_)
      refine Z_jump 5 rfl ?_
      show Zs _ _ (am_P 5).2 (18, [(0, .ref 18), (1, .ref 20), (2, .int x)], [.int x, .ref 20, .int x, .ref 19]) (HH I J R T) _
      refine Z_c1 rfl rfl rfl (c_rodAt20n hD' (by rw [hx]; intro z; have z2 := z.2; rw [nI_toInt (by omega)] at z2; omega)) ?_
      show Zs _ _ (am_P 5).2 (21, [(0, .ref 18), (1, .ref 20), (2, .int x)], [.null, .int x, .ref 19]) (HH I J R T) _
      show Zs _ _ (am_P 5).2 (21, [(0, .ref 18), (1, .ref 20), (2, .int x)], [.null, .int x, .ref 19]) (HH I J R T) _
      refine Z_aasN (i) rfl rfl (by decide) (hx) (by omega) (by decide) ?_
      show Zs _ _ (am_P 5).2 (22, [(0, .ref 18), (1, .ref 20), (2, .int x)], []) (HH I J (sr R 19 i none) T) _
      refine Z_jump 2 rfl ?_
      show Zs _ _ (am_P 5).2 (2, [(0, .ref 18), (1, .ref 20), (2, .int (x + 1))], []) (HH I J (sr R 19 i none) T) _
      exact c_fcopy18_l hD H k (i + 1) _ _ (by omega) (by rw [hx]; exact nI_1 i) (FBi_s hB (fun z => absurd z hk))
theorem c_fcopy18 {D : FD} (hD : DC 20 D I R T) : Ze sc (d + 2) 5 [.ref 18, .ref 20] (HH I J R T) (fun r h => r = none ∧ ∃ R', h = HH (sf (sf I 18 1 (I 20 1)) 18 2 (I 20 2)) J R' T ∧ (∀ a, a ≠ 19 → R' a = R a) ∧ DC 18 D (sf (sf I 18 1 (I 20 1)) 18 2 (I 20 2)) R' T) := by
  refine Ze_of (Nat.le_of_ble_eq_true rfl) ?_
  refine Z_jump 2 rfl ?_
  show Zs _ _ (am_P 5).2 (2, [(0, .ref 18), (1, .ref 20), (2, .int (0 : Int32))], []) (HH I J R T) _
  refine c_fcopy18_l hD (fun R' hB => ?_) 6 0 _ _ (by omega) rfl ⟨fun _ _ => rfl, fun k h1 => absurd h1 (Nat.not_lt_zero k)⟩
  refine Z_jump 4 rfl ?_
  show Zs _ _ (am_P 5).2 (36, [(0, .ref 18), (1, .ref 20), (2, .int (nI 6))], []) (HH (sf I 18 1 (I 20 1)) J R' T) _
  refine Z_jump 4 rfl ?_
  show Zs _ _ (am_P 5).2 (44, [(0, .ref 18), (1, .ref 20), (2, .int (nI 6))], []) (HH (sf (sf I 18 1 (I 20 1)) 18 2 (I 20 2)) J R' T) _
  show Zs _ _ (am_P 5).2 (44, [(0, .ref 18), (1, .ref 20), (2, .int (nI 6))], []) (HH (sf (sf I 18 1 (I 20 1)) 18 2 (I 20 2)) J R' T) _
  refine Z_ret rfl rfl rfl ?_
  refine ⟨rfl, R', rfl, hB.1, hD.1, hD.2.1, hD.2.2.1, fun k hk => ?_⟩
  have h6 := hD.2.1
  rw [hB.2 k (by omega) hk]
  exact hD.2.2.2 k hk
def FRq (tx : Nat → Nat) (c k : Nat) (res : Nat ⊕ (Nat × FD)) (I : hI) (J : hJ) (R : hR) (T : am_H) (r : Option Value) (h : am_H) : Prop := ∃ I' R' T', h = HH I' J R' T' ∧ (∀ a, a ≠ 1 → a ≠ 20 → I' a = I a) ∧ (∀ a, a ≠ 21 → R' a = R a) ∧ TX k T T' ∧ CT tx c I' ∧ ∃ v, r = some (.int v) ∧ (match res with
  | .inl p => p ≤ c ∧ I' 1 2 = nI p
  | .inr (n, D') => I' 1 2 = -1 ∧ v = nI n ∧ n ≤ 12 ∧ DC 20 D' I' R' T')
theorem fRead_l {k n s p : Nat} {D : FD} (h : fClause tx c s D = .inl p) : fRead tx c (k + 1) n s D = .inl p := by
  simp only [fRead, h]
theorem fRead_r {k n s e : Nat} {D D' : FD} (h : fClause tx c s D = .inr (e, D')) : fRead tx c (k + 1) n s D = if tS tx c e = c then .inr (n + 1, D') else if tx (tS tx c e) = 59 ∧ n + 1 < 12 then fRead tx c k (n + 1) (tS tx c (tE tx c (tS tx c e))) D' else .inl (tS tx c e) := by
  simp only [fRead, h]
theorem c_read_l : ∀ (k n s : Nat) (I : hI) (R : hR) (T : am_H) (D : FD) (x : Int32), n + (k + 1) = 12 → x = nI n → CTK tx c s I → I 1 2 = -1 → DC 20 D I R T → Zs sc (d + 9) (am_P 6).2 (8, [(0, .ref 20), (1, .ref 1), (2, .int x), (3, .int 1)], []) (HH I J R T) (FRq tx c (k + 1) (fRead tx c (k + 1) n s D) I J R T)
  | k, n, s, I, R, T, D, x, hn, hx, hK, h2, hD => by
    have hc := hK.1.2.1
    refine Z_jump 5 rfl ?_
    refine Z_bd (fun c15 => absurd c15 ((show ¬ (12 : Int32) ≤ x by rw [hx]; exact nI_ge (b := 12) (by omega) (by omega)))) (fun c15 => ?_)
    refine Z_jump 2 rfl ?_
    show Zs _ _ (am_P 6).2 (20, [(0, .ref 20), (1, .ref 1), (2, .int x), (3, .int (1 : Int32))], [.ref 1, .ref 20]) (HH I J R T) _
    refine Z_cQ rfl rfl rfl (c_readClause hK h2 hD) (fun v h1 hq => ?_)
    obtain ⟨rfl, I1, R1, T1, rfl, u1, w1, x1, C1, hq⟩ := hq
    show Zs _ _ (am_P 6).2 (23, [(0, .ref 20), (1, .ref 1), (2, .int x), (3, .int (1 : Int32))], []) (HH I1 J R1 T1) _
    refine Z_jump 1 rfl ?_
    show Zs _ _ (am_P 6).2 (26, [(0, .ref 20), (1, .ref 1), (2, .int (x + 1)), (3, .int (1 : Int32))], []) (HH I1 J R1 T1) _
    have hx1 : x + 1 = nI (n + 1) := by rw [hx]; exact nI_1 n
    refine Z_jump 2 rfl ?_
    show Zs _ _ (am_P 6).2 (28, [(0, .ref 20), (1, .ref 1), (2, .int (x + 1)), (3, .int (1 : Int32))], [.int (x + 1), .ref 1]) (HH I1 J R1 T1) _
    cases hf : fClause tx c s D with
    | inl p =>
      rw [hf] at hq
      rw [fRead_l hf]
      have hs1 : ¬ I1 1 2 = -1 := by rw [hq.2]; exact nI_m1 hq.1 hc
      refine Z_c1 rfl rfl rfl (c_another_u (d := d + 5) hs1) ?_
      refine Z_jump 5 rfl ?_
      exact Z_rI rfl (am_nw0 _) ⟨I1, R1, T1, rfl, u1, w1, TX_w x1 (by omega), C1, _, rfl, hq⟩
    | inr q =>
      obtain ⟨e, D'⟩ := q
      rw [hf] at hq
      rw [fRead_r hf]
      obtain ⟨he, g2, gK, gD⟩ := hq
      refine Z_cQ rfl rfl rfl (Ze_deep (d := 4) (by omega) (c_another (d := 0) gK g2 hx1 (by omega))) (fun v h1 hq => ?_)
      rcases hq with ⟨ec, rfl, rfl⟩ | ⟨hlt, h59, h12, rfl, I2, rfl, K2, u2, f2⟩ | ⟨hlt, hno, rfl, rfl⟩
      · rw [if_pos ec]
        refine Z_jump 5 rfl ?_
        exact Z_rI rfl (am_nw0 _) ⟨I1, R1, T1, rfl, u1, w1, TX_w x1 (by omega), C1, _, rfl, g2, hx1, by omega, gD⟩
      · rw [if_neg (by omega), if_pos ⟨h59, h12⟩]
        obtain ⟨k', rfl⟩ : ∃ k', k = k' + 1 := ⟨k - 1, by omega⟩
        refine Z_jump 2 rfl ?_
        refine Zs_mono (c_read_l k' (n + 1) _ I2 R1 T1 D' (x + 1) (by omega) hx1 K2 f2 (DC_of gD (u2 20 (by decide)) rfl)) (fun r h' q => ?_)
        obtain ⟨I3, R3, T3, rfl, u3, w3, x3, C3, v, hv, hm⟩ := q
        exact ⟨I3, R3, T3, rfl, fun a h1 h4 => (u3 a h1 h4).trans ((u2 a h1).trans (u1 a h1 h4)), fun a h1 => (w3 a h1).trans (w1 a h1), TX_w (TX_t x1 x3) (by omega), C3, v, hv, hm⟩
      · rw [if_neg (by omega), if_neg hno]
        refine Z_jump 5 rfl ?_
        exact Z_rI rfl (am_nw0 _) ⟨_, R1, T1, rfl, fun a h1 h4 => by rw [sf_c h1]; exact u1 a h1 h4, w1, TX_w x1 (by omega), CT_of C1 rfl rfl, _, rfl, by omega, rfl⟩
theorem c_read {D : FD} (hC : CT tx c I) (hD : DC 20 D I R T) : Ze sc (d + 10) 6 [.ref 20, .ref 1] (HH I J R T) (FRq tx c 12 (fRead tx c 12 0 (tS tx c 0) D) I J R T) := by
  refine Ze_of (Nat.le_of_ble_eq_true rfl) ?_
  refine Z_jump 1 rfl ?_
  show Zs _ _ (am_P 6).2 (1, [(0, .ref 20), (1, .ref 1)], [.ref 1]) (HH I J R T) _
  refine Z_cQ rfl rfl rfl (Ze_deep (d := 3) (by omega) (c_beginQ (d := 0) hC)) (fun v h1 hq => ?_)
  obtain ⟨rfl, I1, rfl, K1, u1, f1⟩ := hq
  show Zs _ _ (am_P 6).2 (4, [(0, .ref 20), (1, .ref 1)], []) (HH I1 J R T) _
  refine Z_jump 4 rfl ?_
  show Zs _ _ (am_P 6).2 (8, [(0, .ref 20), (1, .ref 1), (2, .int (0 : Int32)), (3, .int (1 : Int32))], []) (HH I1 J R T) _
  refine Zs_mono (c_read_l 11 0 _ I1 R T D _ (by omega) rfl K1 f1 (DC_of hD (u1 20 (by decide)) rfl)) (fun r h' q => ?_)
  obtain ⟨I3, R3, T3, rfl, u3, w3, x3, C3, v, hv, hm⟩ := q
  exact ⟨I3, R3, T3, rfl, fun a h1 h4 => (u3 a h1 h4).trans (u1 a h1), w3, x3, C3, v, hv, hm⟩
theorem c_readDraft {D : FD} (hC : CT tx c I) (hD : DC 18 D I R T) : Ze sc (d + 11) 124 [.ref 0] (HH I J R T) (FRq tx c 12 (fRead tx c 12 0 (tS tx c 0) D) I J R T) := by
  refine Ze_of (Nat.le_of_ble_eq_true rfl) ?_
  refine Z_jump 4 rfl ?_
  show Zs _ _ (am_P 124).2 (8, [(0, .ref 0)], [.ref 18, .ref 20]) (HH I J R T) _
  refine Z_cQ rfl rfl rfl (Ze_deep (d := 2) (by omega) (c_fcopy20 (d := 0) hD)) (fun v h1 hq => ?_)
  obtain ⟨rfl, R1, rfl, w1, D1⟩ := hq
  show Zs _ _ (am_P 124).2 (11, [(0, .ref 0)], []) (HH (sf (sf I 20 1 (I 18 1)) 20 2 (I 18 2)) J R1 T) _
  refine Z_jump 4 rfl ?_
  show Zs _ _ (am_P 124).2 (19, [(0, .ref 0)], [.ref 1, .ref 20]) (HH (sf (sf I 20 1 (I 18 1)) 20 2 (I 18 2)) J R1 T) _
  refine Z_cQ rfl rfl rfl (c_read (CT_of hC rfl rfl) D1) (fun v h1 hq => ?_)
  obtain ⟨I3, R3, T3, rfl, u3, w3, x3, C3, v, rfl, hm⟩ := hq
  show Zs _ _ (am_P 124).2 (22, [(0, .ref 0)], [.int v]) (HH I3 J R3 T3) _
  show Zs _ _ (am_P 124).2 (22, [(0, .ref 0)], [.int v]) (HH I3 J R3 T3) _
  refine Z_rI rfl (by first | exact am_nw0 _ | exact am_nw01 | rfl | assumption) ?_
  exact ⟨I3, R3, T3, rfl, fun a h1 h4 => by rw [u3 a h1 h4, sf_c h4, sf_c h4], fun a h1 => (w3 a h1).trans (w1 a h1), x3, C3, v, rfl, hm⟩
theorem c_sbegin {t : Int32} : am_E sc (d + 2) 32 [.ref 22, .int t] (HH I J R T) none (HH (sf (sf (va_up (va_up I 23 (am_fill 6 (I 23) 0 6)) 24 (am_fill 6 (I 24) 0 6)) 22 2 t) 22 3 0) J R T) := by
  refine E_Z (Ze_of (Nat.le_of_ble_eq_true rfl) ?_)
  refine Z_jump 3 rfl ?_
  show Zs _ _ (am_P 32).2 (5, [(0, .ref 22), (1, .int t)], [.int (0 : Int32), .ref 23]) (HH I J R T) _
  refine Z_c0 rfl rfl rfl (k_fill (a := 23) (n := 6) (f := I 23) (by decide) rfl) ?_
  show Zs _ _ (am_P 32).2 (8, [(0, .ref 22), (1, .int t)], []) (HH (va_up I 23 (am_fill 6 (I 23) 0 6)) J R T) _
  refine Z_jump 3 rfl ?_
  show Zs _ _ (am_P 32).2 (13, [(0, .ref 22), (1, .int t)], [.int (0 : Int32), .ref 24]) (HH (va_up I 23 (am_fill 6 (I 23) 0 6)) J R T) _
  refine Z_c0 rfl rfl rfl (k_fill (a := 24) (n := 6) (f := (va_up I 23 (am_fill 6 (I 23) 0 6)) 24) (by decide) rfl) ?_
  show Zs _ _ (am_P 32).2 (16, [(0, .ref 22), (1, .int t)], []) (HH (va_up (va_up I 23 (am_fill 6 (I 23) 0 6)) 24 (am_fill 6 (I 24) 0 6)) J R T) _
  refine Z_jump 3 rfl ?_
  show Zs _ _ (am_P 32).2 (21, [(0, .ref 22), (1, .int t)], []) (HH (sf (va_up (va_up I 23 (am_fill 6 (I 23) 0 6)) 24 (am_fill 6 (I 24) 0 6)) 22 2 t) J R T) _
  refine Z_jump 3 rfl ?_
  show Zs _ _ (am_P 32).2 (26, [(0, .ref 22), (1, .int t)], []) (HH (sf (sf (va_up (va_up I 23 (am_fill 6 (I 23) 0 6)) 24 (am_fill 6 (I 24) 0 6)) 22 2 t) 22 3 (0 : Int32)) J R T) _
  show Zs _ _ (am_P 32).2 (26, [(0, .ref 22), (1, .int t)], []) (HH (sf (sf (va_up (va_up I 23 (am_fill 6 (I 23) 0 6)) 24 (am_fill 6 (I 24) 0 6)) 22 2 t) 22 3 (0 : Int32)) J R T) _
  refine Z_ret rfl rfl rfl ?_
  exact ⟨rfl, rfl⟩
/-- what frame() leaves of the class -/
def FrQ (tx : Nat → Nat) (c : Nat) (D : FD) (I : hI) (J : hJ) (R : hR) (T : am_H) (r : Option Value) (h : am_H) : Prop := ∃ I' R' T', h = HH I' J R' T' ∧ (∀ a, 25 ≤ a → I' a = I a) ∧ (∀ a, a ≠ 19 → a ≠ 21 → R' a = R a) ∧ TX 12 T T' ∧ (match fRead tx c 12 0 (tS tx c 0) D with
  | .inl _ => r = some (.int (-4)) ∧ CT tx c I' ∧ DC 18 D I' R' T' ∧ I' 0 = I 0
  | .inr (n, D') => r = some (.int (nI n)) ∧ CT tx 0 I' ∧ DC 18 D' I' R' T' ∧ I' 0 9 = 0 ∧ I' 0 11 = 0 ∧ I' 0 15 = 0 ∧ (∀ k, k < 6 → I' 23 k = 0 ∧ I' 24 k = 0) ∧ I' 22 2 = D'.2.2 ∧ I' 22 3 = 0)
theorem c_frame {D : FD} (hC : CT tx c I) (hD : DC 18 D I R T) : Ze sc (d + 12) 94 [.ref 0] (HH I J R T) (FrQ tx c D I J R T) := by
  refine Ze_of (Nat.le_of_ble_eq_true rfl) ?_
  have hc := hC.2.1
  refine Z_jump 1 rfl ?_
  show Zs _ _ (am_P 94).2 (1, [(0, .ref 0)], [.ref 0]) (HH I J R T) _
  refine Z_cQ rfl rfl rfl (c_readDraft hC hD) (fun v h1 hq => ?_)
  obtain ⟨I1, R1, T1, rfl, u1, w1, x1, C1, v, rfl, hm⟩ := hq
  show Zs _ _ (am_P 94).2 (4, [(0, .ref 0)], [.int v]) (HH I1 J R1 T1) _
  refine Z_jump 3 rfl ?_
  show Zs _ _ (am_P 94).2 (9, [(0, .ref 0), (1, .int v)], [.ref 1]) (HH I1 J R1 T1) _
  have D1 : DC 18 D I1 R1 T1 := DC_T (DC_of hD (u1 18 (by decide) (by decide)) (w1 19 (by decide))) x1
  unfold FrQ
  rcases hf : fRead tx c 12 0 (tS tx c 0) D with p | ⟨n, D'⟩
  · rw [hf] at hm
    refine Z_jump 1 rfl ?_
    refine Z_eqI hm.2 ?_
    refine Z_jump 2 rfl ?_
    refine Z_bd (fun z => absurd z (nI_m1 hm.1 hc)) (fun z => ?_)
    refine Z_jump 1 rfl ?_
    exact Z_rI rfl (am_nw0 _) ⟨I1, R1, T1, rfl, fun a ha => u1 a (by omega) (by omega), fun a h1 h2 => w1 a h2, x1, rfl, C1, D1, u1 0 (by decide) (by decide)⟩
  rw [hf] at hm
  obtain ⟨g2, gv, gn, gD⟩ := hm
  refine Z_jump 1 rfl ?_
  refine Z_eqI g2 ?_
  refine Z_jump 2 rfl ?_
  refine Z_bd (fun z => ?_) (fun z => absurd rfl z)
  subst gv
  refine Z_jump 4 rfl ?_
  show Zs _ _ (am_P 94).2 (27, [(0, .ref 0), (1, .int (nI n))], [.ref 20, .ref 18]) (HH I1 J R1 T1) _
  refine Z_cQ rfl rfl rfl (Ze_deep (d := 2) (by omega) (c_fcopy18 (d := 0) gD)) (fun v h1 hq => ?_)
  obtain ⟨rfl, R2, rfl, w2, D2⟩ := hq
  show Zs _ _ (am_P 94).2 (30, [(0, .ref 0), (1, .int (nI n))], []) (HH (sf (sf I1 18 1 (I1 20 1)) 18 2 (I1 20 2)) J R2 T1) _
  refine Z_jump 5 rfl ?_
  show Zs _ _ (am_P 94).2 (41, [(0, .ref 0), (1, .int (nI n))], [.int ((sf (sf I1 18 1 (I1 20 1)) 18 2 (I1 20 2)) 18 2), .ref 22]) (HH (sf (sf I1 18 1 (I1 20 1)) 18 2 (I1 20 2)) J R2 T1) _
  refine Z_c0 rfl rfl rfl (c_sbegin) ?_
  show Zs _ _ (am_P 94).2 (44, [(0, .ref 0), (1, .int (nI n))], []) (HH (sf (sf (va_up (va_up (sf (sf I1 18 1 (I1 20 1)) 18 2 (I1 20 2)) 23 (am_fill 6 ((sf (sf I1 18 1 (I1 20 1)) 18 2 (I1 20 2)) 23) 0 6)) 24 (am_fill 6 ((sf (sf I1 18 1 (I1 20 1)) 18 2 (I1 20 2)) 24) 0 6)) 22 2 ((sf (sf I1 18 1 (I1 20 1)) 18 2 (I1 20 2)) 18 2)) 22 3 0) J R2 T1) _
  refine Z_jump 3 rfl ?_
  show Zs _ _ (am_P 94).2 (49, [(0, .ref 0), (1, .int (nI n))], []) (HH (sf (sf (sf (va_up (va_up (sf (sf I1 18 1 (I1 20 1)) 18 2 (I1 20 2)) 23 (am_fill 6 ((sf (sf I1 18 1 (I1 20 1)) 18 2 (I1 20 2)) 23) 0 6)) 24 (am_fill 6 ((sf (sf I1 18 1 (I1 20 1)) 18 2 (I1 20 2)) 24) 0 6)) 22 2 ((sf (sf I1 18 1 (I1 20 1)) 18 2 (I1 20 2)) 18 2)) 22 3 0) 0 9 (0 : Int32)) J R2 T1) _
  refine Z_jump 3 rfl ?_
  show Zs _ _ (am_P 94).2 (54, [(0, .ref 0), (1, .int (nI n))], []) (HH (sf (sf (sf (sf (va_up (va_up (sf (sf I1 18 1 (I1 20 1)) 18 2 (I1 20 2)) 23 (am_fill 6 ((sf (sf I1 18 1 (I1 20 1)) 18 2 (I1 20 2)) 23) 0 6)) 24 (am_fill 6 ((sf (sf I1 18 1 (I1 20 1)) 18 2 (I1 20 2)) 24) 0 6)) 22 2 ((sf (sf I1 18 1 (I1 20 1)) 18 2 (I1 20 2)) 18 2)) 22 3 0) 0 9 (0 : Int32)) 0 11 (0 : Int32)) J R2 T1) _
  refine Z_jump 3 rfl ?_
  show Zs _ _ (am_P 94).2 (59, [(0, .ref 0), (1, .int (nI n))], []) (HH (sf (sf (sf (sf (sf (va_up (va_up (sf (sf I1 18 1 (I1 20 1)) 18 2 (I1 20 2)) 23 (am_fill 6 ((sf (sf I1 18 1 (I1 20 1)) 18 2 (I1 20 2)) 23) 0 6)) 24 (am_fill 6 ((sf (sf I1 18 1 (I1 20 1)) 18 2 (I1 20 2)) 24) 0 6)) 22 2 ((sf (sf I1 18 1 (I1 20 1)) 18 2 (I1 20 2)) 18 2)) 22 3 0) 0 9 (0 : Int32)) 0 11 (0 : Int32)) 0 15 (0 : Int32)) J R2 T1) _
  refine Z_jump 4 rfl ?_
  show Zs _ _ (am_P 94).2 (67, [(0, .ref 0), (1, .int (nI n))], []) (HH (sf (sf (sf (sf (sf (sf (va_up (va_up (sf (sf I1 18 1 (I1 20 1)) 18 2 (I1 20 2)) 23 (am_fill 6 ((sf (sf I1 18 1 (I1 20 1)) 18 2 (I1 20 2)) 23) 0 6)) 24 (am_fill 6 ((sf (sf I1 18 1 (I1 20 1)) 18 2 (I1 20 2)) 24) 0 6)) 22 2 ((sf (sf I1 18 1 (I1 20 1)) 18 2 (I1 20 2)) 18 2)) 22 3 0) 0 9 (0 : Int32)) 0 11 (0 : Int32)) 0 15 (0 : Int32)) 1 1 (0 : Int32)) J R2 T1) _
  refine Z_jump 1 rfl ?_
  show Zs _ _ (am_P 94).2 (68, [(0, .ref 0), (1, .int (nI n))], [.int (nI n)]) (HH (sf (sf (sf (sf (sf (sf (va_up (va_up (sf (sf I1 18 1 (I1 20 1)) 18 2 (I1 20 2)) 23 (am_fill 6 ((sf (sf I1 18 1 (I1 20 1)) 18 2 (I1 20 2)) 23) 0 6)) 24 (am_fill 6 ((sf (sf I1 18 1 (I1 20 1)) 18 2 (I1 20 2)) 24) 0 6)) 22 2 ((sf (sf I1 18 1 (I1 20 1)) 18 2 (I1 20 2)) 18 2)) 22 3 0) 0 9 (0 : Int32)) 0 11 (0 : Int32)) 0 15 (0 : Int32)) 1 1 (0 : Int32)) J R2 T1) _
  refine Z_rI rfl (by first | exact am_nw0 _ | exact am_nw01 | rfl | assumption) ?_
  refine ⟨_, R2, T1, rfl, fun a ha => ?_, fun a h1 h2 => (w2 a h1).trans (w1 a h2), x1, rfl, ⟨rfl, Nat.zero_le _, fun k hk => absurd hk (Nat.not_lt_zero k), fun k hk => absurd hk (Nat.not_lt_zero k)⟩, D2, rfl, rfl, rfl, fun k hk => ⟨if_pos hk, if_pos hk⟩, gD.2.2.1, rfl⟩
  rw [sf_c (by omega), sf_c (by omega), sf_c (by omega), sf_c (by omega), sf_c (by omega), sf_c (by omega), up_ne (by omega), up_ne (by omega), sf_c (by omega), sf_c (by omega)]
  exact u1 a (by omega) (by omega)
/-- fault(0) -/
theorem c_faultF {D : FD} (hC : CT tx c I) (hD : DC 18 D I R T) : Ze sc (d + 12) 93 [.ref 0, .int 0] (HH I J R T) (fun r h => ∃ I' R' T', h = HH I' J R' T' ∧ (∀ a, a ≠ 1 → a ≠ 20 → I' a = I a) ∧ (∀ a, a ≠ 21 → R' a = R a) ∧ TX 12 T T' ∧ CT tx c I' ∧ r = some (.int (match fRead tx c 12 0 (tS tx c 0) D with
  | .inl p => nI p
  | .inr _ => -1))) := by
  refine Ze_of (Nat.le_of_ble_eq_true rfl) ?_
  refine Z_jump 3 rfl ?_
  show Zs _ _ (am_P 93).2 (5, [(0, .ref 0), (1, .int (0 : Int32))], [.ref 0]) (HH I J R T) _
  refine Z_cQ rfl rfl rfl (c_readDraft hC hD) (fun v h1 hq => ?_)
  obtain ⟨I1, R1, T1, rfl, u1, w1, x1, C1, v, rfl, hm⟩ := hq
  show Zs _ _ (am_P 93).2 (8, [(0, .ref 0), (1, .int (0 : Int32))], [.int v]) (HH I1 J R1 T1) _
  refine Z_jump 4 rfl ?_
  show Zs _ _ (am_P 93).2 (16, [(0, .ref 0), (1, .int (0 : Int32))], [.int (I1 1 2)]) (HH I1 J R1 T1) _
  refine Z_rI rfl (by first | exact am_nw0 _ | exact am_nw01 | rfl | assumption) ?_
  refine ⟨I1, R1, T1, rfl, u1, w1, x1, C1, am_ii ?_⟩
  cases hf : fRead tx c 12 0 (tS tx c 0) D with
  | inl p => rw [hf] at hm; exact hm.2
  | inr q => rw [hf] at hm; exact hm.1
end CF3

