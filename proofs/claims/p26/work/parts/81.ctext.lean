/-! The class's text: letters, tokens. -/
abbrev dg (tx : Nat → Nat) (c s : Nat) : Prop := s < c ∧ pD (tx s)
def CT (tx : Nat → Nat) (c : Nat) (I : hI) : Prop := I 1 1 = nI c ∧ c ≤ 160 ∧ (∀ k, k < c → I 2 k = nI (tx k)) ∧ (∀ k, k < c → tx k ≤ 255)
theorem CT_of {tx : Nat → Nat} {c : Nat} {I I' : hI} (h : CT tx c I) (h1 : I' 1 1 = I 1 1) (h2 : I' 2 = I 2) : CT tx c I' := ⟨h1.trans h.1, h.2.1, fun k hk => by rw [h2]; exact h.2.2.1 k hk, h.2.2.2⟩
/-- the token at s is the one that is being read -/
def CTK (tx : Nat → Nat) (c s : Nat) (I : hI) : Prop := CT tx c I ∧ s ≤ c ∧ I 1 3 = nI s ∧ I 1 4 = nI (tE tx c s) ∧ I 1 5 = if dg tx c s then 1 else 0
theorem if10i {c : Prop} [Decidable c] {x : Int32} (h : x = 1 ∨ x = 0) (h1 : c ↔ x = 1) : x = if c then 1 else 0 := by
  by_cases hc : c
  · rw [if_pos hc]; exact h1.mp hc
  · rw [if_neg hc]; exact h.elim (fun z => absurd (h1.mpr z) hc) id
section CTX
variable {sc : Nat × (Nat → Int32)} {d : Nat} {I : hI} {J : hJ} {R : hR} {T : am_H} {Q : Option Value → am_H → Prop} {tx : Nat → Nat} {c : Nat}
theorem c_letterAt {x : Int32} {i : Nat} (hx : x = nI i) (hi : i < 160) : am_E sc (d + 1) 54 [.ref 1, .int x] (HH I J R T) (some (.int (I 2 i))) (HH I J R T) := by
  refine E_Z (Ze_of (Nat.le_of_ble_eq_true rfl) ?_)
  refine Z_jump 2 rfl ?_
  refine Z_bd (fun c1 => absurd c1 ((show ¬ x < 0 by rw [hx]; exact nI_pos (by omega)))) (fun c1 => ?_)
  refine Z_jump 4 rfl ?_
  show Zs _ _ (am_P 54).2 (10, [(0, .ref 1), (1, .int x)], [.int (160 : Int32), .int x]) (HH I J R T) _
  refine Z_jump 1 rfl ?_
  refine Z_bd (fun c10 => absurd c10 ((show ¬ (160 : Int32) ≤ x by rw [hx]; exact nI_ge (b := 160) (by omega) (by omega)))) (fun c10 => ?_)
  refine Z_jump 3 rfl ?_
  show Zs _ _ (am_P 54).2 (18, [(0, .ref 1), (1, .int x)], [.int x, .ref 2]) (HH I J R T) _
  refine Z_ialK (i) rfl rfl (hx) (by omega) (by decide) ?_
  show Zs _ _ (am_P 54).2 (19, [(0, .ref 1), (1, .int x)], [.int (I 2 i)]) (HH I J R T) _
  refine Z_jump 1 rfl ?_
  show Zs _ _ (am_P 54).2 (23, [(0, .ref 1), (1, .int x)], [.int (I 2 i)]) (HH I J R T) _
  refine Z_rI rfl (by first | exact am_nw0 _ | exact am_nw01 | rfl | assumption) ?_
  exact ⟨rfl, rfl⟩
theorem c_isSmall {v : Int32} {t : Nat} (hv : v = nI t) (ht : t ≤ 255) : am_E sc (d + 1) 55 [.int v] (HH I J R T) (some (.int (if pL t then 1 else 0))) (HH I J R T) := by
  refine E_Z (Ze_of (Nat.le_of_ble_eq_true rfl) ?_)
  have e1 : v < 97 ↔ t < 97 := by rw [hv]; exact nI_ltI (b := 97) (by omega) (by omega)
  have e2 : (122 : Int32) < v ↔ 122 < t := by rw [hv]; exact nI_ltI (a := 122) (by omega) (by omega)
  refine Z_jump 3 rfl ?_
  refine Z_bd (fun (c3 : v < (97 : Int32)) => ?_) (fun (c3 : ¬ (v < (97 : Int32))) => ?_)
  · refine Z_jump 1 rfl ?_
    show Zs _ _ (am_P 55).2 (17, [(0, .int v)], [.int (0 : Int32)]) (HH I J R T) _
    refine Z_rI rfl (by first | exact am_nw0 _ | exact am_nw01 | rfl | assumption) ?_
    rw [e1] at c3
    exact ⟨am_ii (if_neg (by omega)).symm, rfl⟩
  · refine Z_jump 3 rfl ?_
    refine Z_bd (fun (c9 : (122 : Int32) < v) => ?_) (fun (c9 : ¬ ((122 : Int32) < v)) => ?_)
    · refine Z_jump 1 rfl ?_
      show Zs _ _ (am_P 55).2 (17, [(0, .int v)], [.int (0 : Int32)]) (HH I J R T) _
      refine Z_rI rfl (by first | exact am_nw0 _ | exact am_nw01 | rfl | assumption) ?_
      rw [e2] at c9
      exact ⟨am_ii (if_neg (by omega)).symm, rfl⟩
    · refine Z_jump 2 rfl ?_
      show Zs _ _ (am_P 55).2 (17, [(0, .int v)], [.int (1 : Int32)]) (HH I J R T) _
      refine Z_rI rfl (by first | exact am_nw0 _ | exact am_nw01 | rfl | assumption) ?_
      rw [e1] at c3
      rw [e2] at c9
      exact ⟨am_ii (if_pos (by omega)).symm, rfl⟩
theorem c_isDigit {v : Int32} {t : Nat} (hv : v = nI t) (ht : t ≤ 255) : am_E sc (d + 1) 56 [.int v] (HH I J R T) (some (.int (if pD t then 1 else 0))) (HH I J R T) := by
  refine E_Z (Ze_of (Nat.le_of_ble_eq_true rfl) ?_)
  have e1 : v < 48 ↔ t < 48 := by rw [hv]; exact nI_ltI (b := 48) (by omega) (by omega)
  have e2 : (57 : Int32) < v ↔ 57 < t := by rw [hv]; exact nI_ltI (a := 57) (by omega) (by omega)
  refine Z_jump 3 rfl ?_
  refine Z_bd (fun (c3 : v < (48 : Int32)) => ?_) (fun (c3 : ¬ (v < (48 : Int32))) => ?_)
  · refine Z_jump 1 rfl ?_
    show Zs _ _ (am_P 56).2 (17, [(0, .int v)], [.int (0 : Int32)]) (HH I J R T) _
    refine Z_rI rfl (by first | exact am_nw0 _ | exact am_nw01 | rfl | assumption) ?_
    rw [e1] at c3
    exact ⟨am_ii (if_neg (by omega)).symm, rfl⟩
  · refine Z_jump 3 rfl ?_
    refine Z_bd (fun (c9 : (57 : Int32) < v) => ?_) (fun (c9 : ¬ ((57 : Int32) < v)) => ?_)
    · refine Z_jump 1 rfl ?_
      show Zs _ _ (am_P 56).2 (17, [(0, .int v)], [.int (0 : Int32)]) (HH I J R T) _
      refine Z_rI rfl (by first | exact am_nw0 _ | exact am_nw01 | rfl | assumption) ?_
      rw [e2] at c9
      exact ⟨am_ii (if_neg (by omega)).symm, rfl⟩
    · refine Z_jump 2 rfl ?_
      show Zs _ _ (am_P 56).2 (17, [(0, .int v)], [.int (1 : Int32)]) (HH I J R T) _
      refine Z_rI rfl (by first | exact am_nw0 _ | exact am_nw01 | rfl | assumption) ?_
      rw [e1] at c3
      rw [e2] at c9
      exact ⟨am_ii (if_pos (by omega)).symm, rfl⟩
/-- spaces are passed over -/
theorem c_step_a (hC : CT tx c I) : ∀ (k i : Nat) (x : Int32), c - i = k → i ≤ c → x = nI i → Zs sc (d + 1) (am_P 53).2 (29, [(0, .ref 1), (1, .int (nI (tS tx c i)))], []) (HH I J R T) Q → Zs sc (d + 1) (am_P 53).2 (5, [(0, .ref 1), (1, .int x)], []) (HH I J R T) Q
  | 0, i, x, hk, hi, hx, K => by
    have e : tS tx c i = i := ru_out (by omega)
    rw [e, ← hx] at K
    have hc := hC.2.1
    refine Z_jump 4 rfl ?_
    refine Z_bd (fun c10 => ?_) (fun c10 => absurd ((show I 1 1 ≤ x by rw [hC.1, hx]; exact nI_le (by omega) (by omega))) c10)
    show Zs _ _ (am_P 53).2 (29, [(0, .ref 1), (1, .int x)], []) (HH I J R T) _
    exact K
  | k + 1, i, x, hk, hi, hx, K => by
    have hc := hC.2.1
    have hic : i < c := by omega
    have hl := hC.2.2.1 i hic
    have h255 := hC.2.2.2 i hic
    have e : I 2 i = 32 ↔ tx i = 32 := by rw [hl]; exact nI_eq (b := 32) (by omega) (by omega)
    refine Z_jump 4 rfl ?_
    refine Z_bd (fun c10 => absurd c10 ((show ¬ I 1 1 ≤ x by rw [hC.1, hx]; exact nI_ge hic (by omega)))) (fun c10 => ?_)
    refine Z_jump 2 rfl ?_
    show Zs _ _ (am_P 53).2 (15, [(0, .ref 1), (1, .int x)], [.int x, .ref 1]) (HH I J R T) _
    refine Z_c1 rfl rfl rfl (c_letterAt hx (by omega)) ?_
    show Zs _ _ (am_P 53).2 (18, [(0, .ref 1), (1, .int x)], [.int (I 2 i)]) (HH I J R T) _
    refine Z_jump 2 rfl ?_
    refine Z_bn (fun (c20 : ¬ ((I 2 i) = (32 : Int32))) => ?_) (fun (c20 : (I 2 i) = (32 : Int32)) => ?_)
    · show Zs _ _ (am_P 53).2 (29, [(0, .ref 1), (1, .int x)], []) (HH I J R T) _
      have e1 : tS tx c i = i := ru_out (fun z => c20 (e.mpr (of_decide_eq_true z.2)))
      rw [e1, ← hx] at K
      exact K
    · refine Z_jump 2 rfl ?_
      show Zs _ _ (am_P 53).2 (5, [(0, .ref 1), (1, .int (x + 1))], []) (HH I J R T) _
      have e1 : tS tx c i = tS tx c (i + 1) := ru_in hic (decide_eq_true (e.mp c20))
      rw [e1] at K
      exact c_step_a hC k (i + 1) _ (by omega) (by omega) (by rw [hx]; exact nI_1 i) K
theorem c_step_d (hC : CT tx c I) (h5 : I 1 5 = 1) : ∀ (k i : Nat) (x : Int32), c - i = k → i ≤ c → x = nI i → Zs sc (d + 1) (am_P 53).2 (145, [(0, .ref 1), (1, .int (nI (ru pDb tx c i))), (2, .int 0)], []) (HH I J R T) Q → Zs sc (d + 1) (am_P 53).2 (98, [(0, .ref 1), (1, .int x), (2, .int 0)], []) (HH I J R T) Q
  | 0, i, x, hk, hi, hx, K => by
    have e : ru pDb tx c i = i := ru_out (by omega)
    rw [e, ← hx] at K
    have hc := hC.2.1
    refine Z_jump 4 rfl ?_
    refine Z_bd (fun c103 => ?_) (fun c103 => absurd ((show I 1 1 ≤ x by rw [hC.1, hx]; exact nI_le (by omega) (by omega))) c103)
    show Zs _ _ (am_P 53).2 (145, [(0, .ref 1), (1, .int x), (2, .int (0 : Int32))], []) (HH I J R T) _
    exact K
  | k + 1, i, x, hk, hi, hx, K => by
    have hc := hC.2.1
    have hic : i < c := by omega
    have hl := hC.2.2.1 i hic
    have h255 := hC.2.2.2 i hic
    refine Z_jump 4 rfl ?_
    refine Z_bd (fun c103 => absurd c103 ((show ¬ I 1 1 ≤ x by rw [hC.1, hx]; exact nI_ge hic (by omega)))) (fun c103 => ?_)
    refine Z_jump 2 rfl ?_
    show Zs _ _ (am_P 53).2 (110, [(0, .ref 1), (1, .int x), (2, .int (0 : Int32))], [.int (I 1 5)]) (HH I J R T) _
    refine Z_eqI (h5) ?_
    show Zs _ _ (am_P 53).2 (110, [(0, .ref 1), (1, .int x), (2, .int (0 : Int32))], [.int (1 : Int32)]) (HH I J R T) _
    refine Z_jump 3 rfl ?_
    show Zs _ _ (am_P 53).2 (115, [(0, .ref 1), (1, .int x), (2, .int (0 : Int32))], [.int x, .ref 1]) (HH I J R T) _
    refine Z_c1 rfl rfl rfl (c_letterAt hx (by omega)) ?_
    show Zs _ _ (am_P 53).2 (118, [(0, .ref 1), (1, .int x), (2, .int (0 : Int32))], [.int (I 2 i)]) (HH I J R T) _
    show Zs _ _ (am_P 53).2 (118, [(0, .ref 1), (1, .int x), (2, .int (0 : Int32))], [.int (I 2 i)]) (HH I J R T) _
    refine Z_c1 rfl rfl rfl (c_isDigit hl h255) ?_
    show Zs _ _ (am_P 53).2 (121, [(0, .ref 1), (1, .int x), (2, .int (0 : Int32))], [.int (if pD (tx i) then 1 else 0)]) (HH I J R T) _
    refine Z_jump 1 rfl ?_
    refine Z_bn (fun (c121 : ¬ ((if pD (tx i) then 1 else 0) = (0 : Int32))) => ?_) (fun (c121 : (if pD (tx i) then 1 else 0) = (0 : Int32)) => ?_)
    · refine Z_jump 2 rfl ?_
      show Zs _ _ (am_P 53).2 (98, [(0, .ref 1), (1, .int (x + 1)), (2, .int (0 : Int32))], []) (HH I J R T) _
      have e1 : ru pDb tx c i = ru pDb tx c (i + 1) := ru_in hic (decide_eq_true (if10n c121))
      rw [e1] at K
      exact c_step_d hC h5 k (i + 1) _ (by omega) (by omega) (by rw [hx]; exact nI_1 i) K
    · refine Z_jump 2 rfl ?_
      show Zs _ _ (am_P 53).2 (145, [(0, .ref 1), (1, .int x), (2, .int (0 : Int32))], []) (HH I J R T) _
      have e1 : ru pDb tx c i = i := ru_out (fun z => if10.mp c121 (of_decide_eq_true z.2))
      rw [e1, ← hx] at K
      exact K
theorem c_step_w (hC : CT tx c I) (h5 : I 1 5 = 0) : ∀ (k i : Nat) (x : Int32), c - i = k → i ≤ c → x = nI i → Zs sc (d + 1) (am_P 53).2 (145, [(0, .ref 1), (1, .int (nI (ru pLb tx c i))), (2, .int 1)], []) (HH I J R T) Q → Zs sc (d + 1) (am_P 53).2 (98, [(0, .ref 1), (1, .int x), (2, .int 1)], []) (HH I J R T) Q
  | 0, i, x, hk, hi, hx, K => by
    have e : ru pLb tx c i = i := ru_out (by omega)
    rw [e, ← hx] at K
    have hc := hC.2.1
    refine Z_jump 4 rfl ?_
    refine Z_bd (fun c103 => ?_) (fun c103 => absurd ((show I 1 1 ≤ x by rw [hC.1, hx]; exact nI_le (by omega) (by omega))) c103)
    show Zs _ _ (am_P 53).2 (145, [(0, .ref 1), (1, .int x), (2, .int (1 : Int32))], []) (HH I J R T) _
    exact K
  | k + 1, i, x, hk, hi, hx, K => by
    have hc := hC.2.1
    have hic : i < c := by omega
    have hl := hC.2.2.1 i hic
    have h255 := hC.2.2.2 i hic
    refine Z_jump 4 rfl ?_
    refine Z_bd (fun c103 => absurd c103 ((show ¬ I 1 1 ≤ x by rw [hC.1, hx]; exact nI_ge hic (by omega)))) (fun c103 => ?_)
    refine Z_jump 2 rfl ?_
    show Zs _ _ (am_P 53).2 (110, [(0, .ref 1), (1, .int x), (2, .int (1 : Int32))], [.int (I 1 5)]) (HH I J R T) _
    refine Z_eqI (h5) ?_
    show Zs _ _ (am_P 53).2 (110, [(0, .ref 1), (1, .int x), (2, .int (1 : Int32))], [.int (0 : Int32)]) (HH I J R T) _
    refine Z_jump 5 rfl ?_
    show Zs _ _ (am_P 53).2 (130, [(0, .ref 1), (1, .int x), (2, .int (1 : Int32))], [.int x, .ref 1]) (HH I J R T) _
    refine Z_c1 rfl rfl rfl (c_letterAt hx (by omega)) ?_
    show Zs _ _ (am_P 53).2 (133, [(0, .ref 1), (1, .int x), (2, .int (1 : Int32))], [.int (I 2 i)]) (HH I J R T) _
    show Zs _ _ (am_P 53).2 (133, [(0, .ref 1), (1, .int x), (2, .int (1 : Int32))], [.int (I 2 i)]) (HH I J R T) _
    refine Z_c1 rfl rfl rfl (c_isSmall hl h255) ?_
    show Zs _ _ (am_P 53).2 (136, [(0, .ref 1), (1, .int x), (2, .int (1 : Int32))], [.int (if pL (tx i) then 1 else 0)]) (HH I J R T) _
    refine Z_jump 1 rfl ?_
    refine Z_bd (fun (c136 : (if pL (tx i) then 1 else 0) = (0 : Int32)) => ?_) (fun (c136 : ¬ ((if pL (tx i) then 1 else 0) = (0 : Int32))) => ?_)
    · show Zs _ _ (am_P 53).2 (145, [(0, .ref 1), (1, .int x), (2, .int (1 : Int32))], []) (HH I J R T) _
      have e1 : ru pLb tx c i = i := ru_out (fun z => if10.mp c136 (of_decide_eq_true z.2))
      rw [e1, ← hx] at K
      exact K
    · refine Z_jump 2 rfl ?_
      show Zs _ _ (am_P 53).2 (98, [(0, .ref 1), (1, .int (x + 1)), (2, .int (1 : Int32))], []) (HH I J R T) _
      have e1 : ru pLb tx c i = ru pLb tx c (i + 1) := ru_in hic (decide_eq_true (if10n c136))
      rw [e1] at K
      exact c_step_w hC h5 k (i + 1) _ (by omega) (by omega) (by rw [hx]; exact nI_1 i) K
theorem min1 {s c : Nat} (h : s < c) (hc : c ≤ 160) {y : Int32} (hy : y = nI c) : (if y < nI s + 1 then y else nI s + 1) = nI (s + 1) := by
  rw [nI_1, hy]
  exact if_neg (nI_nlt (by omega) (by omega))
theorem min2 {c : Nat} (hc : c ≤ 160) {y : Int32} (hy : y = nI c) : (if y < nI c + 1 then y else nI c + 1) = nI c := by
  rw [nI_1, hy]
  exact if_pos (nI_lt (by omega) (by omega))
def C_st (tx : Nat → Nat) (c s : Nat) (I : hI) : hI := sf (sf (sf I 1 3 (nI s)) 1 5 (if dg tx c s then 1 else 0)) 1 4 (nI (tE tx c s))
theorem c_step_b {s : Nat} (hC : CT tx c I) (hs : s ≤ c) : Zs sc (d + 1) (am_P 53).2 (29, [(0, .ref 1), (1, .int (nI s))], []) (HH I J R T) (fun r h => r = none ∧ h = HH (C_st tx c s I) J R T) := by
  have hc := hC.2.1
  by_cases hsc : s < c
  · have hl := hC.2.2.1 s hsc
    have h255 := hC.2.2.2 s hsc
    have hge : ¬ I 1 1 ≤ nI s := by rw [hC.1]; exact nI_ge hsc (by omega)
    by_cases hd : pD (tx s)
    · have hnl : ¬ pL (tx s) := by omega
      have eE : tE tx c s = ru pDb tx c (s + 1) := by unfold tE; rw [if_pos hsc, if_neg hnl, if_pos hd]
      refine Z_jump 3 rfl ?_
      show Zs _ _ (am_P 53).2 (34, [(0, .ref 1), (1, .int (nI s))], []) (HH (sf I 1 3 (nI s)) J R T) _
      refine Z_jump 5 rfl ?_
      refine Z_bd (fun c40 => absurd c40 (hge)) (fun c40 => ?_)
      refine Z_jump 2 rfl ?_
      show Zs _ _ (am_P 53).2 (45, [(0, .ref 1), (1, .int (nI s))], [.int (nI s), .ref 1, .ref 1]) (HH (sf I 1 3 (nI s)) J R T) _
      refine Z_c1 rfl rfl rfl (c_letterAt rfl (by omega)) ?_
      show Zs _ _ (am_P 53).2 (48, [(0, .ref 1), (1, .int (nI s))], [.int (I 2 s), .ref 1]) (HH (sf I 1 3 (nI s)) J R T) _
      show Zs _ _ (am_P 53).2 (48, [(0, .ref 1), (1, .int (nI s))], [.int (I 2 s), .ref 1]) (HH (sf I 1 3 (nI s)) J R T) _
      refine Z_c1 rfl rfl rfl (c_isDigit hl h255) ?_
      show Zs _ _ (am_P 53).2 (51, [(0, .ref 1), (1, .int (nI s))], [.int (if pD (tx s) then 1 else 0), .ref 1]) (HH (sf I 1 3 (nI s)) J R T) _
      show Zs _ _ (am_P 53).2 (51, [(0, .ref 1), (1, .int (nI s))], [.int (if pD (tx s) then 1 else 0), .ref 1]) (HH (sf I 1 3 (nI s)) J R T) _
      refine Z_eqI (if_pos hd) ?_
      show Zs _ _ (am_P 53).2 (51, [(0, .ref 1), (1, .int (nI s))], [.int (1 : Int32), .ref 1]) (HH (sf I 1 3 (nI s)) J R T) _
      refine Z_jump 4 rfl ?_
      show Zs _ _ (am_P 53).2 (62, [(0, .ref 1), (1, .int (nI s))], []) (HH (sf (sf I 1 3 (nI s)) 1 5 (1 : Int32)) J R T) _
      refine Z_jump 4 rfl ?_
      refine Z_bd (fun c67 => absurd c67 (hge)) (fun c67 => ?_)
      refine Z_jump 2 rfl ?_
      show Zs _ _ (am_P 53).2 (72, [(0, .ref 1), (1, .int (nI s))], [.int (nI s), .ref 1]) (HH (sf (sf I 1 3 (nI s)) 1 5 (1 : Int32)) J R T) _
      refine Z_c1 rfl rfl rfl (c_letterAt rfl (by omega)) ?_
      show Zs _ _ (am_P 53).2 (75, [(0, .ref 1), (1, .int (nI s))], [.int (I 2 s)]) (HH (sf (sf I 1 3 (nI s)) 1 5 (1 : Int32)) J R T) _
      show Zs _ _ (am_P 53).2 (75, [(0, .ref 1), (1, .int (nI s))], [.int (I 2 s)]) (HH (sf (sf I 1 3 (nI s)) 1 5 (1 : Int32)) J R T) _
      refine Z_c1 rfl rfl rfl (c_isSmall hl h255) ?_
      show Zs _ _ (am_P 53).2 (78, [(0, .ref 1), (1, .int (nI s))], [.int (if pL (tx s) then 1 else 0)]) (HH (sf (sf I 1 3 (nI s)) 1 5 (1 : Int32)) J R T) _
      show Zs _ _ (am_P 53).2 (78, [(0, .ref 1), (1, .int (nI s))], [.int (if pL (tx s) then 1 else 0)]) (HH (sf (sf I 1 3 (nI s)) 1 5 (1 : Int32)) J R T) _
      refine Z_eqI (if_neg hnl) ?_
      show Zs _ _ (am_P 53).2 (78, [(0, .ref 1), (1, .int (nI s))], [.int (0 : Int32)]) (HH (sf (sf I 1 3 (nI s)) 1 5 (1 : Int32)) J R T) _
      refine Z_jump 9 rfl ?_
      show Zs _ _ (am_P 53).2 (97, [(0, .ref 1), (1, .int (nI s)), (2, .int (0 : Int32))], [.int (if (I 1 1) < ((nI s) + (1 : Int32)) then (I 1 1) else ((nI s) + (1 : Int32)))]) (HH (sf (sf I 1 3 (nI s)) 1 5 (1 : Int32)) J R T) _
      refine Z_eqI (min1 hsc hc hC.1) ?_
      show Zs _ _ (am_P 53).2 (97, [(0, .ref 1), (1, .int (nI s)), (2, .int (0 : Int32))], [.int (nI (s + 1))]) (HH (sf (sf I 1 3 (nI s)) 1 5 (1 : Int32)) J R T) _
      refine Z_jump 1 rfl ?_
      show Zs _ _ (am_P 53).2 (98, [(0, .ref 1), (1, .int (nI (s + 1))), (2, .int (0 : Int32))], []) (HH (sf (sf I 1 3 (nI s)) 1 5 (1 : Int32)) J R T) _
      refine c_step_d (I := sf (sf I 1 3 (nI s)) 1 5 1) (CT_of hC rfl rfl) rfl (c - (s + 1)) (s + 1) _ rfl (by omega) rfl ?_
      rw [← eE]
      refine Z_jump 3 rfl ?_
      show Zs _ _ (am_P 53).2 (150, [(0, .ref 1), (1, .int (nI (tE tx c s))), (2, .int (0 : Int32))], []) (HH (sf (sf (sf I 1 3 (nI s)) 1 5 1) 1 4 (nI (tE tx c s))) J R T) _
      show Zs _ _ (am_P 53).2 (150, [(0, .ref 1), (1, .int (nI (tE tx c s))), (2, .int (0 : Int32))], []) (HH (sf (sf (sf I 1 3 (nI s)) 1 5 1) 1 4 (nI (tE tx c s))) J R T) _
      refine Z_ret rfl rfl rfl ?_
      refine ⟨rfl, ?_⟩
      unfold C_st
      rw [if_pos ⟨hsc, hd⟩]
    · by_cases hw : pL (tx s)
      · have eE : tE tx c s = ru pLb tx c (s + 1) := by unfold tE; rw [if_pos hsc, if_pos hw]
        refine Z_jump 3 rfl ?_
        show Zs _ _ (am_P 53).2 (34, [(0, .ref 1), (1, .int (nI s))], []) (HH (sf I 1 3 (nI s)) J R T) _
        refine Z_jump 5 rfl ?_
        refine Z_bd (fun c40 => absurd c40 (hge)) (fun c40 => ?_)
        refine Z_jump 2 rfl ?_
        show Zs _ _ (am_P 53).2 (45, [(0, .ref 1), (1, .int (nI s))], [.int (nI s), .ref 1, .ref 1]) (HH (sf I 1 3 (nI s)) J R T) _
        refine Z_c1 rfl rfl rfl (c_letterAt rfl (by omega)) ?_
        show Zs _ _ (am_P 53).2 (48, [(0, .ref 1), (1, .int (nI s))], [.int (I 2 s), .ref 1]) (HH (sf I 1 3 (nI s)) J R T) _
        show Zs _ _ (am_P 53).2 (48, [(0, .ref 1), (1, .int (nI s))], [.int (I 2 s), .ref 1]) (HH (sf I 1 3 (nI s)) J R T) _
        refine Z_c1 rfl rfl rfl (c_isDigit hl h255) ?_
        show Zs _ _ (am_P 53).2 (51, [(0, .ref 1), (1, .int (nI s))], [.int (if pD (tx s) then 1 else 0), .ref 1]) (HH (sf I 1 3 (nI s)) J R T) _
        show Zs _ _ (am_P 53).2 (51, [(0, .ref 1), (1, .int (nI s))], [.int (if pD (tx s) then 1 else 0), .ref 1]) (HH (sf I 1 3 (nI s)) J R T) _
        refine Z_eqI (if_neg hd) ?_
        show Zs _ _ (am_P 53).2 (51, [(0, .ref 1), (1, .int (nI s))], [.int (0 : Int32), .ref 1]) (HH (sf I 1 3 (nI s)) J R T) _
        refine Z_jump 3 rfl ?_
        show Zs _ _ (am_P 53).2 (62, [(0, .ref 1), (1, .int (nI s))], []) (HH (sf (sf I 1 3 (nI s)) 1 5 (0 : Int32)) J R T) _
        refine Z_jump 4 rfl ?_
        refine Z_bd (fun c67 => absurd c67 (hge)) (fun c67 => ?_)
        refine Z_jump 2 rfl ?_
        show Zs _ _ (am_P 53).2 (72, [(0, .ref 1), (1, .int (nI s))], [.int (nI s), .ref 1]) (HH (sf (sf I 1 3 (nI s)) 1 5 (0 : Int32)) J R T) _
        refine Z_c1 rfl rfl rfl (c_letterAt rfl (by omega)) ?_
        show Zs _ _ (am_P 53).2 (75, [(0, .ref 1), (1, .int (nI s))], [.int (I 2 s)]) (HH (sf (sf I 1 3 (nI s)) 1 5 (0 : Int32)) J R T) _
        show Zs _ _ (am_P 53).2 (75, [(0, .ref 1), (1, .int (nI s))], [.int (I 2 s)]) (HH (sf (sf I 1 3 (nI s)) 1 5 (0 : Int32)) J R T) _
        refine Z_c1 rfl rfl rfl (c_isSmall hl h255) ?_
        show Zs _ _ (am_P 53).2 (78, [(0, .ref 1), (1, .int (nI s))], [.int (if pL (tx s) then 1 else 0)]) (HH (sf (sf I 1 3 (nI s)) 1 5 (0 : Int32)) J R T) _
        show Zs _ _ (am_P 53).2 (78, [(0, .ref 1), (1, .int (nI s))], [.int (if pL (tx s) then 1 else 0)]) (HH (sf (sf I 1 3 (nI s)) 1 5 (0 : Int32)) J R T) _
        refine Z_eqI (if_pos hw) ?_
        show Zs _ _ (am_P 53).2 (78, [(0, .ref 1), (1, .int (nI s))], [.int (1 : Int32)]) (HH (sf (sf I 1 3 (nI s)) 1 5 (0 : Int32)) J R T) _
        refine Z_jump 10 rfl ?_
        show Zs _ _ (am_P 53).2 (97, [(0, .ref 1), (1, .int (nI s)), (2, .int (1 : Int32))], [.int (if (I 1 1) < ((nI s) + (1 : Int32)) then (I 1 1) else ((nI s) + (1 : Int32)))]) (HH (sf (sf I 1 3 (nI s)) 1 5 (0 : Int32)) J R T) _
        refine Z_eqI (min1 hsc hc hC.1) ?_
        show Zs _ _ (am_P 53).2 (97, [(0, .ref 1), (1, .int (nI s)), (2, .int (1 : Int32))], [.int (nI (s + 1))]) (HH (sf (sf I 1 3 (nI s)) 1 5 (0 : Int32)) J R T) _
        refine Z_jump 1 rfl ?_
        show Zs _ _ (am_P 53).2 (98, [(0, .ref 1), (1, .int (nI (s + 1))), (2, .int (1 : Int32))], []) (HH (sf (sf I 1 3 (nI s)) 1 5 (0 : Int32)) J R T) _
        refine c_step_w (I := sf (sf I 1 3 (nI s)) 1 5 0) (CT_of hC rfl rfl) rfl (c - (s + 1)) (s + 1) _ rfl (by omega) rfl ?_
        rw [← eE]
        refine Z_jump 3 rfl ?_
        show Zs _ _ (am_P 53).2 (150, [(0, .ref 1), (1, .int (nI (tE tx c s))), (2, .int (1 : Int32))], []) (HH (sf (sf (sf I 1 3 (nI s)) 1 5 0) 1 4 (nI (tE tx c s))) J R T) _
        show Zs _ _ (am_P 53).2 (150, [(0, .ref 1), (1, .int (nI (tE tx c s))), (2, .int (1 : Int32))], []) (HH (sf (sf (sf I 1 3 (nI s)) 1 5 0) 1 4 (nI (tE tx c s))) J R T) _
        refine Z_ret rfl rfl rfl ?_
        refine ⟨rfl, ?_⟩
        unfold C_st
        rw [if_neg (fun z => hd z.2)]
      · have eE : tE tx c s = s + 1 := by unfold tE; rw [if_pos hsc, if_neg hw, if_neg hd]
        refine Z_jump 3 rfl ?_
        show Zs _ _ (am_P 53).2 (34, [(0, .ref 1), (1, .int (nI s))], []) (HH (sf I 1 3 (nI s)) J R T) _
        refine Z_jump 5 rfl ?_
        refine Z_bd (fun c40 => absurd c40 (hge)) (fun c40 => ?_)
        refine Z_jump 2 rfl ?_
        show Zs _ _ (am_P 53).2 (45, [(0, .ref 1), (1, .int (nI s))], [.int (nI s), .ref 1, .ref 1]) (HH (sf I 1 3 (nI s)) J R T) _
        refine Z_c1 rfl rfl rfl (c_letterAt rfl (by omega)) ?_
        show Zs _ _ (am_P 53).2 (48, [(0, .ref 1), (1, .int (nI s))], [.int (I 2 s), .ref 1]) (HH (sf I 1 3 (nI s)) J R T) _
        show Zs _ _ (am_P 53).2 (48, [(0, .ref 1), (1, .int (nI s))], [.int (I 2 s), .ref 1]) (HH (sf I 1 3 (nI s)) J R T) _
        refine Z_c1 rfl rfl rfl (c_isDigit hl h255) ?_
        show Zs _ _ (am_P 53).2 (51, [(0, .ref 1), (1, .int (nI s))], [.int (if pD (tx s) then 1 else 0), .ref 1]) (HH (sf I 1 3 (nI s)) J R T) _
        show Zs _ _ (am_P 53).2 (51, [(0, .ref 1), (1, .int (nI s))], [.int (if pD (tx s) then 1 else 0), .ref 1]) (HH (sf I 1 3 (nI s)) J R T) _
        refine Z_eqI (if_neg hd) ?_
        show Zs _ _ (am_P 53).2 (51, [(0, .ref 1), (1, .int (nI s))], [.int (0 : Int32), .ref 1]) (HH (sf I 1 3 (nI s)) J R T) _
        refine Z_jump 3 rfl ?_
        show Zs _ _ (am_P 53).2 (62, [(0, .ref 1), (1, .int (nI s))], []) (HH (sf (sf I 1 3 (nI s)) 1 5 (0 : Int32)) J R T) _
        refine Z_jump 4 rfl ?_
        refine Z_bd (fun c67 => absurd c67 (hge)) (fun c67 => ?_)
        refine Z_jump 2 rfl ?_
        show Zs _ _ (am_P 53).2 (72, [(0, .ref 1), (1, .int (nI s))], [.int (nI s), .ref 1]) (HH (sf (sf I 1 3 (nI s)) 1 5 (0 : Int32)) J R T) _
        refine Z_c1 rfl rfl rfl (c_letterAt rfl (by omega)) ?_
        show Zs _ _ (am_P 53).2 (75, [(0, .ref 1), (1, .int (nI s))], [.int (I 2 s)]) (HH (sf (sf I 1 3 (nI s)) 1 5 (0 : Int32)) J R T) _
        show Zs _ _ (am_P 53).2 (75, [(0, .ref 1), (1, .int (nI s))], [.int (I 2 s)]) (HH (sf (sf I 1 3 (nI s)) 1 5 (0 : Int32)) J R T) _
        refine Z_c1 rfl rfl rfl (c_isSmall hl h255) ?_
        show Zs _ _ (am_P 53).2 (78, [(0, .ref 1), (1, .int (nI s))], [.int (if pL (tx s) then 1 else 0)]) (HH (sf (sf I 1 3 (nI s)) 1 5 (0 : Int32)) J R T) _
        show Zs _ _ (am_P 53).2 (78, [(0, .ref 1), (1, .int (nI s))], [.int (if pL (tx s) then 1 else 0)]) (HH (sf (sf I 1 3 (nI s)) 1 5 (0 : Int32)) J R T) _
        refine Z_eqI (if_neg hw) ?_
        show Zs _ _ (am_P 53).2 (78, [(0, .ref 1), (1, .int (nI s))], [.int (0 : Int32)]) (HH (sf (sf I 1 3 (nI s)) 1 5 (0 : Int32)) J R T) _
        refine Z_jump 9 rfl ?_
        show Zs _ _ (am_P 53).2 (97, [(0, .ref 1), (1, .int (nI s)), (2, .int (0 : Int32))], [.int (if (I 1 1) < ((nI s) + (1 : Int32)) then (I 1 1) else ((nI s) + (1 : Int32)))]) (HH (sf (sf I 1 3 (nI s)) 1 5 (0 : Int32)) J R T) _
        refine Z_eqI (min1 hsc hc hC.1) ?_
        show Zs _ _ (am_P 53).2 (97, [(0, .ref 1), (1, .int (nI s)), (2, .int (0 : Int32))], [.int (nI (s + 1))]) (HH (sf (sf I 1 3 (nI s)) 1 5 (0 : Int32)) J R T) _
        refine Z_jump 5 rfl ?_
        refine Z_bd (fun (c103 : (I 1 1) ≤ (nI (s + 1))) => ?_) (fun (c103 : ¬ ((I 1 1) ≤ (nI (s + 1)))) => ?_)
        · refine Z_jump 3 rfl ?_
          show Zs _ _ (am_P 53).2 (150, [(0, .ref 1), (1, .int (nI (s + 1))), (2, .int (0 : Int32))], []) (HH (sf (sf (sf I 1 3 (nI s)) 1 5 (0 : Int32)) 1 4 (nI (s + 1))) J R T) _
          show Zs _ _ (am_P 53).2 (150, [(0, .ref 1), (1, .int (nI (s + 1))), (2, .int (0 : Int32))], []) (HH (sf (sf (sf I 1 3 (nI s)) 1 5 (0 : Int32)) 1 4 (nI (s + 1))) J R T) _
          refine Z_ret rfl rfl rfl ?_
          refine ⟨rfl, ?_⟩
          unfold C_st
          rw [if_neg (fun z => hd z.2), eE]
        · refine Z_jump 8 rfl ?_
          show Zs _ _ (am_P 53).2 (150, [(0, .ref 1), (1, .int (nI (s + 1))), (2, .int (0 : Int32))], []) (HH (sf (sf (sf I 1 3 (nI s)) 1 5 (0 : Int32)) 1 4 (nI (s + 1))) J R T) _
          show Zs _ _ (am_P 53).2 (150, [(0, .ref 1), (1, .int (nI (s + 1))), (2, .int (0 : Int32))], []) (HH (sf (sf (sf I 1 3 (nI s)) 1 5 (0 : Int32)) 1 4 (nI (s + 1))) J R T) _
          refine Z_ret rfl rfl rfl ?_
          refine ⟨rfl, ?_⟩
          unfold C_st
          rw [if_neg (fun z => hd z.2), eE]
  · have e : s = c := by omega
    subst e
    have hge : I 1 1 ≤ nI s := by rw [hC.1]; exact nI_le (by omega) (by omega)
    have eE : tE tx s s = s := by unfold tE; rw [if_neg hsc]
    refine Z_jump 3 rfl ?_
    show Zs _ _ (am_P 53).2 (34, [(0, .ref 1), (1, .int (nI s))], []) (HH (sf I 1 3 (nI s)) J R T) _
    refine Z_jump 5 rfl ?_
    refine Z_bd (fun c40 => ?_) (fun c40 => absurd (hge) c40)
    refine Z_jump 2 rfl ?_
    show Zs _ _ (am_P 53).2 (62, [(0, .ref 1), (1, .int (nI s))], []) (HH (sf (sf I 1 3 (nI s)) 1 5 (0 : Int32)) J R T) _
    refine Z_jump 4 rfl ?_
    refine Z_bd (fun c67 => ?_) (fun c67 => absurd (hge) c67)
    refine Z_jump 8 rfl ?_
    show Zs _ _ (am_P 53).2 (97, [(0, .ref 1), (1, .int (nI s)), (2, .int (0 : Int32))], [.int (if (I 1 1) < ((nI s) + (1 : Int32)) then (I 1 1) else ((nI s) + (1 : Int32)))]) (HH (sf (sf I 1 3 (nI s)) 1 5 (0 : Int32)) J R T) _
    refine Z_eqI (min2 hc hC.1) ?_
    show Zs _ _ (am_P 53).2 (97, [(0, .ref 1), (1, .int (nI s)), (2, .int (0 : Int32))], [.int (nI s)]) (HH (sf (sf I 1 3 (nI s)) 1 5 (0 : Int32)) J R T) _
    refine Z_jump 5 rfl ?_
    refine Z_bd (fun c103 => ?_) (fun c103 => absurd (hge) c103)
    refine Z_jump 3 rfl ?_
    show Zs _ _ (am_P 53).2 (150, [(0, .ref 1), (1, .int (nI s)), (2, .int (0 : Int32))], []) (HH (sf (sf (sf I 1 3 (nI s)) 1 5 (0 : Int32)) 1 4 (nI s)) J R T) _
    show Zs _ _ (am_P 53).2 (150, [(0, .ref 1), (1, .int (nI s)), (2, .int (0 : Int32))], []) (HH (sf (sf (sf I 1 3 (nI s)) 1 5 (0 : Int32)) 1 4 (nI s)) J R T) _
    refine Z_ret rfl rfl rfl ?_
    refine ⟨rfl, ?_⟩
    unfold C_st
    rw [if_neg (fun z => hsc z.1), eE]
theorem c_step {i : Nat} (hC : CT tx c I) (h4 : I 1 4 = nI i) (hi : i ≤ c) : am_E sc (d + 2) 53 [.ref 1] (HH I J R T) none (HH (C_st tx c (tS tx c i) I) J R T) := by
  refine E_Z (Ze_of (Nat.le_of_ble_eq_true rfl) ?_)
  refine Z_jump 3 rfl ?_
  show Zs _ _ (am_P 53).2 (5, [(0, .ref 1), (1, .int (I 1 4))], []) (HH I J R T) _
  exact c_step_a hC (c - i) i _ rfl hi h4 (c_step_b hC (tS_c hi))
theorem C_st_K {s : Nat} (hC : CT tx c I) (hs : s ≤ c) : CTK tx c s (C_st tx c s I) := ⟨CT_of hC rfl rfl, hs, rfl, rfl, rfl⟩
theorem C_st_a {s a : Nat} (h : a ≠ 1) : C_st tx c s I a = I a := by
  unfold C_st
  rw [sf_c h, sf_c h, sf_c h]
/-- step and begin, by what they leave -/
def CTo (I I' : hI) : Prop := ∀ a, a ≠ 1 → I' a = I a
theorem c_stepQ {s : Nat} (hK : CTK tx c s I) : Ze sc (d + 2) 53 [.ref 1] (HH I J R T) (fun r h => r = none ∧ ∃ I', h = HH I' J R T ∧ CTK tx c (tS tx c (tE tx c s)) I' ∧ CTo I I' ∧ I' 1 2 = I 1 2) := by
  have hE := tE_c (tx := tx) hK.2.1
  exact Ze_E (c_step hK.1 hK.2.2.2.1 hE.2) ⟨rfl, _, rfl, C_st_K hK.1 (tS_c hE.2), fun a ha => C_st_a ha, rfl⟩
theorem c_beginQ (hC : CT tx c I) : Ze sc (d + 3) 52 [.ref 1] (HH I J R T) (fun r h => r = none ∧ ∃ I', h = HH I' J R T ∧ CTK tx c (tS tx c 0) I' ∧ CTo I I' ∧ I' 1 2 = -1) := by
  refine Ze_of (Nat.le_of_ble_eq_true rfl) ?_
  refine Z_jump 3 rfl ?_
  show Zs _ _ (am_P 52).2 (5, [(0, .ref 1)], []) (HH (sf I 1 2 (-1 : Int32)) J R T) _
  refine Z_jump 3 rfl ?_
  show Zs _ _ (am_P 52).2 (10, [(0, .ref 1)], []) (HH (sf (sf I 1 2 (-1 : Int32)) 1 4 (0 : Int32)) J R T) _
  refine Z_jump 1 rfl ?_
  show Zs _ _ (am_P 52).2 (11, [(0, .ref 1)], [.ref 1]) (HH (sf (sf I 1 2 (-1 : Int32)) 1 4 (0 : Int32)) J R T) _
  refine Z_c0 rfl rfl rfl (c_step (i := 0) (I := (sf (sf I 1 2 (-1 : Int32)) 1 4 (0 : Int32))) (CT_of hC rfl rfl) rfl (Nat.zero_le _)) ?_
  show Zs _ _ (am_P 52).2 (14, [(0, .ref 1)], []) (HH (C_st tx c (tS tx c 0) (sf (sf I 1 2 (-1 : Int32)) 1 4 (0 : Int32))) J R T) _
  show Zs _ _ (am_P 52).2 (14, [(0, .ref 1)], []) (HH (C_st tx c (tS tx c 0) (sf (sf I 1 2 (-1 : Int32)) 1 4 (0 : Int32))) J R T) _
  refine Z_ret rfl rfl rfl ?_
  exact ⟨rfl, _, rfl, C_st_K (CT_of hC rfl rfl) (tS_c (Nat.zero_le _)), fun a ha => by rw [C_st_a ha, sf_c ha, sf_c ha], rfl⟩
theorem c_isSound : am_E sc (d + 1) 57 [.ref 1] (HH I J R T) (some (.int (if I 1 2 = -1 then 1 else 0))) (HH I J R T) := by
  refine E_Z (Ze_of (Nat.le_of_ble_eq_true rfl) ?_)
  refine Z_jump 4 rfl ?_
  refine Z_bn (fun (c5 : ¬ ((I 1 2) = (-1 : Int32))) => ?_) (fun (c5 : (I 1 2) = (-1 : Int32)) => ?_)
  · refine Z_jump 1 rfl ?_
    show Zs _ _ (am_P 57).2 (13, [(0, .ref 1)], [.int (0 : Int32)]) (HH I J R T) _
    refine Z_rI rfl (by first | exact am_nw0 _ | exact am_nw01 | rfl | assumption) ?_
    exact ⟨am_ii (if_neg c5).symm, rfl⟩
  · refine Z_jump 2 rfl ?_
    show Zs _ _ (am_P 57).2 (13, [(0, .ref 1)], [.int (1 : Int32)]) (HH I J R T) _
    refine Z_rI rfl (by first | exact am_nw0 _ | exact am_nw01 | rfl | assumption) ?_
    exact ⟨am_ii (if_pos c5).symm, rfl⟩
theorem c_fail {s : Nat} (hs : I 1 3 = nI s) : am_E sc (d + 1) 58 [.ref 1] (HH I J R T) none (HH (if I 1 2 = -1 then sf I 1 2 (nI s) else I) J R T) := by
  refine E_Z (Ze_of (Nat.le_of_ble_eq_true rfl) ?_)
  refine Z_jump 4 rfl ?_
  refine Z_bn (fun (c5 : ¬ ((I 1 2) = (-1 : Int32))) => ?_) (fun (c5 : (I 1 2) = (-1 : Int32)) => ?_)
  · show Zs _ _ (am_P 58).2 (16, [(0, .ref 1)], []) (HH I J R T) _
    refine Z_ret rfl rfl rfl ?_
    exact ⟨rfl, by rw [if_neg c5]⟩
  · refine Z_jump 4 rfl ?_
    show Zs _ _ (am_P 58).2 (16, [(0, .ref 1)], []) (HH (sf I 1 2 (I 1 3)) J R T) _
    show Zs _ _ (am_P 58).2 (16, [(0, .ref 1)], []) (HH (sf I 1 2 (I 1 3)) J R T) _
    refine Z_ret rfl rfl rfl ?_
    exact ⟨rfl, by rw [if_pos c5, ← hs]⟩
theorem c_isAtEnd {s : Nat} (hK : CTK tx c s I) : am_E sc (d + 1) 59 [.ref 1] (HH I J R T) (some (.int (if s < c then 0 else 1))) (HH I J R T) := by
  refine E_Z (Ze_of (Nat.le_of_ble_eq_true rfl) ?_)
  have hc := hK.1.2.1
  have hs := hK.2.1
  have e : I 1 3 < I 1 1 ↔ s < c := by rw [hK.2.2.1, hK.1.1]; exact nI_ltI (by omega) (by omega)
  refine Z_jump 5 rfl ?_
  refine Z_bd (fun (c8 : (I 1 3) < (I 1 1)) => ?_) (fun (c8 : ¬ ((I 1 3) < (I 1 1))) => ?_)
  · refine Z_jump 1 rfl ?_
    show Zs _ _ (am_P 59).2 (16, [(0, .ref 1)], [.int (0 : Int32)]) (HH I J R T) _
    refine Z_rI rfl (by first | exact am_nw0 _ | exact am_nw01 | rfl | assumption) ?_
    exact ⟨am_ii (if_pos (e.mp c8)).symm, rfl⟩
  · refine Z_jump 2 rfl ?_
    show Zs _ _ (am_P 59).2 (16, [(0, .ref 1)], [.int (1 : Int32)]) (HH I J R T) _
    refine Z_rI rfl (by first | exact am_nw0 _ | exact am_nw01 | rfl | assumption) ?_
    exact ⟨am_ii (if_neg (fun z => c8 (e.mpr z))).symm, rfl⟩
theorem c_isSign {s t : Nat} {v : Int32} (hK : CTK tx c s I) (hv : v = nI t) (ht : t ≤ 255) : am_E sc (d + 2) 60 [.ref 1, .int v] (HH I J R T) (some (.int (if s < c ∧ tx s = t then 1 else 0))) (HH I J R T) := by
  refine E_Z (Ze_of (Nat.le_of_ble_eq_true rfl) ?_)
  have hc := hK.1.2.1
  have hs := hK.2.1
  have e : I 1 1 ≤ I 1 3 ↔ c ≤ s := by rw [hK.2.2.1, hK.1.1]; exact nI_leI (by omega) (by omega)
  by_cases hsc : s < c
  · have hl := hK.1.2.2.1 s hsc
    have h255 := hK.1.2.2.2 s hsc
    have e2 : I 2 s = v ↔ tx s = t := by rw [hl, hv]; exact nI_eq (by omega) (by omega)
    refine Z_jump 5 rfl ?_
    refine Z_bd (fun c8 => absurd c8 ((fun z => absurd (e.mp z) (by omega)))) (fun c8 => ?_)
    refine Z_jump 3 rfl ?_
    show Zs _ _ (am_P 60).2 (16, [(0, .ref 1), (1, .int v)], [.int (I 1 3), .ref 1]) (HH I J R T) _
    refine Z_c1 rfl rfl rfl (c_letterAt hK.2.2.1 (by omega)) ?_
    show Zs _ _ (am_P 60).2 (19, [(0, .ref 1), (1, .int v)], [.int (I 2 s)]) (HH I J R T) _
    refine Z_jump 2 rfl ?_
    refine Z_bn (fun (c20 : ¬ ((I 2 s) = v)) => ?_) (fun (c20 : (I 2 s) = v) => ?_)
    · refine Z_jump 1 rfl ?_
      show Zs _ _ (am_P 60).2 (28, [(0, .ref 1), (1, .int v)], [.int (0 : Int32)]) (HH I J R T) _
      refine Z_rI rfl (by first | exact am_nw0 _ | exact am_nw01 | rfl | assumption) ?_
      exact ⟨am_ii (if_neg (fun z => c20 (e2.mpr z.2))).symm, rfl⟩
    · refine Z_jump 2 rfl ?_
      show Zs _ _ (am_P 60).2 (28, [(0, .ref 1), (1, .int v)], [.int (1 : Int32)]) (HH I J R T) _
      refine Z_rI rfl (by first | exact am_nw0 _ | exact am_nw01 | rfl | assumption) ?_
      exact ⟨am_ii (if_pos ⟨hsc, e2.mp c20⟩).symm, rfl⟩
  · refine Z_jump 5 rfl ?_
    refine Z_bd (fun c8 => ?_) (fun c8 => absurd ((e.mpr (by omega))) c8)
    refine Z_jump 1 rfl ?_
    show Zs _ _ (am_P 60).2 (28, [(0, .ref 1), (1, .int v)], [.int (0 : Int32)]) (HH I J R T) _
    refine Z_rI rfl (by first | exact am_nw0 _ | exact am_nw01 | rfl | assumption) ?_
    exact ⟨am_ii (if_neg (fun z => hsc z.1)).symm, rfl⟩
end CTX

