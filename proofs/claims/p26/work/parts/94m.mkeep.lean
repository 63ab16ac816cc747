/-! keep, back, push (reference): any state. -/
section ML2
variable {sc : Nat × (Nat → Int32)} {d : Nat} {I : hI} {J : hJ} {R : hR} {T : am_H} {Q : Option Value → am_H → Prop}
theorem bit_n {v : Int32} (h : M_01 v) : ∃ c, c < 2 ∧ v = nI c := by
  rcases bit_c h with rfl | rfl
  · exact ⟨0, by omega, rfl⟩
  · exact ⟨1, by omega, rfl⟩
theorem M_ap_c {I I' : hI} (h : ∀ j, I' 78 j = I 78 j) : ∀ (k i : Nat) (s : Int32), M_ap I' i s k = M_ap I i s k
  | 0, _, _ => rfl
  | k + 1, i, s => by
    unfold M_ap
    rw [h, h]
    exact M_ap_c h k _ _
theorem m_keep {n : Nat} {k : Int32} (hn : I 73 0 = nI n) (h6 : n ≤ 6) : Ze sc (d + 2) 210 [.ref 73, .int k] (HH I J R T) (fun r h => (¬ M_01 k ∧ r = some (.int (-2)) ∧ h = HH I J R T) ∨ ∃ c, c < 2 ∧ k = nI c ∧ r = some (.int (M_ap I 0 0 n)) ∧ ∃ I1, h = HH I1 J R T ∧ CB 95 (14 * c) (sf I 94 c 1) 14 I1) := by
  refine Ze_of (Nat.le_of_ble_eq_true rfl) ?_
  by_cases hb : M_01 k
  · rcases bit_c hb with rfl | rfl
    · refine Z_jump 4 rfl ?_
      show Zs _ _ (am_P 210).2 (4, [(0, .ref 73), (1, .int (0 : Int32))], [.long (1 : Int64), .long (0 : Int64), .long (0 : Int64)]) (HH I J R T) _
      refine Z_c1 rfl rfl rfl (m_inI (v := 0) (a := 0) (b := 1) rfl rfl) ?_
      show Zs _ _ (am_P 210).2 (7, [(0, .ref 73), (1, .int (0 : Int32))], [.int (1 : Int32)]) (HH I J R T) _
      refine Z_jump 6 rfl ?_
      show Zs _ _ (am_P 210).2 (20, [(0, .ref 73), (1, .int (0 : Int32))], []) (HH (sf I 94 0 (1 : Int32)) J R T) _
      refine Z_jump 2 rfl ?_
      show Zs _ _ (am_P 210).2 (22, [(0, .ref 73), (1, .int (0 : Int32)), (2, .int (0 : Int32))], []) (HH (sf I 94 0 (1 : Int32)) J R T) _
      refine m_keep_l (u := 0) rfl (by omega) (fun I' hC => ?_) 14 0 _ _ (by omega) rfl (CB_0 _ _ _)
      have hn2 : I' 73 0 = nI n := (congrFun (hC.1 73 (by decide)) 0).trans hn
      have ea : M_ap I' 0 0 n = M_ap I 0 0 n := M_ap_c (fun j => (congrFun (hC.1 78 (by decide)) j).trans (congrFun (sf_c (by decide)) j)) n 0 0
      refine Z_jump 1 rfl ?_
      show Zs _ _ (am_P 210).2 (52, [(0, .ref 73), (1, .int (0 : Int32)), (2, .int (nI 14))], [.ref 73]) (HH I' J R T) _
      refine Z_c1 rfl rfl rfl (m_allPushed (n := n) hn2 h6) ?_
      show Zs _ _ (am_P 210).2 (55, [(0, .ref 73), (1, .int (0 : Int32)), (2, .int (nI 14))], [.int (M_ap I' 0 0 n)]) (HH I' J R T) _
      show Zs _ _ (am_P 210).2 (55, [(0, .ref 73), (1, .int (0 : Int32)), (2, .int (nI 14))], [.int (M_ap I' 0 0 n)]) (HH I' J R T) _
      refine Z_rI rfl (by first | exact am_nw0 _ | exact am_nw01 | rfl | assumption) ?_
      exact Or.inr ⟨0, by omega, rfl, am_ii ea, I', rfl, hC⟩
    · refine Z_jump 4 rfl ?_
      show Zs _ _ (am_P 210).2 (4, [(0, .ref 73), (1, .int (1 : Int32))], [.long (1 : Int64), .long (0 : Int64), .long (1 : Int64)]) (HH I J R T) _
      refine Z_c1 rfl rfl rfl (m_inI (v := 1) (a := 0) (b := 1) rfl rfl) ?_
      show Zs _ _ (am_P 210).2 (7, [(0, .ref 73), (1, .int (1 : Int32))], [.int (1 : Int32)]) (HH I J R T) _
      refine Z_jump 6 rfl ?_
      show Zs _ _ (am_P 210).2 (20, [(0, .ref 73), (1, .int (1 : Int32))], []) (HH (sf I 94 1 (1 : Int32)) J R T) _
      refine Z_jump 2 rfl ?_
      show Zs _ _ (am_P 210).2 (22, [(0, .ref 73), (1, .int (1 : Int32)), (2, .int (0 : Int32))], []) (HH (sf I 94 1 (1 : Int32)) J R T) _
      refine m_keep_l (u := 1) rfl (by omega) (fun I' hC => ?_) 14 0 _ _ (by omega) rfl (CB_0 _ _ _)
      have hn2 : I' 73 0 = nI n := (congrFun (hC.1 73 (by decide)) 0).trans hn
      have ea : M_ap I' 0 0 n = M_ap I 0 0 n := M_ap_c (fun j => (congrFun (hC.1 78 (by decide)) j).trans (congrFun (sf_c (by decide)) j)) n 0 0
      refine Z_jump 1 rfl ?_
      show Zs _ _ (am_P 210).2 (52, [(0, .ref 73), (1, .int (1 : Int32)), (2, .int (nI 14))], [.ref 73]) (HH I' J R T) _
      refine Z_c1 rfl rfl rfl (m_allPushed (n := n) hn2 h6) ?_
      show Zs _ _ (am_P 210).2 (55, [(0, .ref 73), (1, .int (1 : Int32)), (2, .int (nI 14))], [.int (M_ap I' 0 0 n)]) (HH I' J R T) _
      show Zs _ _ (am_P 210).2 (55, [(0, .ref 73), (1, .int (1 : Int32)), (2, .int (nI 14))], [.int (M_ap I' 0 0 n)]) (HH I' J R T) _
      refine Z_rI rfl (by first | exact am_nw0 _ | exact am_nw01 | rfl | assumption) ?_
      exact Or.inr ⟨1, by omega, rfl, am_ii ea, I', rfl, hC⟩
  · refine Z_jump 4 rfl ?_
    show Zs _ _ (am_P 210).2 (4, [(0, .ref 73), (1, .int k)], [.long (1 : Int64), .long (0 : Int64), .long (Int32.toInt64 k)]) (HH I J R T) _
    refine Z_c1 rfl rfl rfl (m_inI (a := 0) (b := 1) rfl rfl) ?_
    show Zs _ _ (am_P 210).2 (7, [(0, .ref 73), (1, .int k)], [.int (if 0 ≤ k.toInt ∧ k.toInt ≤ 1 then 1 else 0)]) (HH I J R T) _
    refine Z_jump 1 rfl ?_
    refine Z_bn (fun c7 => absurd (if10.mpr hb) c7) (fun c7 => ?_)
    refine Z_jump 1 rfl ?_
    show Zs _ _ (am_P 210).2 (12, [(0, .ref 73), (1, .int k)], [.int (-2 : Int32)]) (HH I J R T) _
    refine Z_rI rfl (by first | exact am_nw0 _ | exact am_nw01 | rfl | assumption) ?_
    exact Or.inl ⟨hb, rfl, rfl⟩
theorem m_back_l {u : Nat} {y : Int32} {I0 : hI} (hy : y = nI u) (h8 : u < 2) (H : ∀ I, BW 95 (14 * u) I0 14 I → Zs sc d (am_P 211).2 (61, [(0, .ref 73), (1, .int y), (2, .int (nI 14))], []) (HH I J R T) Q) : ∀ (k i : Nat) (I : hI) (x : Int32), i + k = 14 → x = nI i → BW 95 (14 * u) I0 i I → Zs sc d (am_P 211).2 (32, [(0, .ref 73), (1, .int y), (2, .int x)], []) (HH I J R T) Q
  | 0, i, I, x, hi, hx, hR => by
    have e : i = 14 := by omega
    subst e
    subst hx
    refine Z_jump 3 rfl ?_
    refine Z_bd (fun c35 => ?_) (fun c35 => absurd ((show (14 : Int32) ≤ nI 14 by decide)) c35)
    show Zs _ _ (am_P 211).2 (61, [(0, .ref 73), (1, .int y), (2, .int (nI 14))], []) (HH I J R T) _
    exact H I hR
  | k + 1, i, I, x, hi, hx, hR => by
    have hu2 : (14 : Int32) * y + x = nI (14 * u + i) := by rw [hy, hx]; exact n14
    refine Z_jump 3 rfl ?_
    refine Z_bd (fun c35 => absurd c35 ((show ¬ (14 : Int32) ≤ x by rw [hx]; exact nI_ge (b := 14) (by omega) (by omega)))) (fun c35 => ?_)
    refine Z_jump 10 rfl ?_
    show Zs _ _ (am_P 211).2 (53, [(0, .ref 73), (1, .int y), (2, .int x)], [.int (((14 : Int32) * y) + x), .ref 95, .int x, .ref 78]) (HH I J R T) _
    refine Z_ialK (14 * u + i) rfl rfl (hu2) (by omega) (by decide) ?_
    show Zs _ _ (am_P 211).2 (54, [(0, .ref 73), (1, .int y), (2, .int x)], [.int (I 95 (14 * u + i)), .int x, .ref 78]) (HH I J R T) _
    show Zs _ _ (am_P 211).2 (54, [(0, .ref 73), (1, .int y), (2, .int x)], [.int (I 95 (14 * u + i)), .int x, .ref 78]) (HH I J R T) _
    refine Z_iasK (i) rfl rfl (hx) (by omega) (by decide) ?_
    show Zs _ _ (am_P 211).2 (55, [(0, .ref 73), (1, .int y), (2, .int x)], []) (HH (sf I 78 i (I 95 (14 * u + i))) J R T) _
    refine Z_jump 2 rfl ?_
    show Zs _ _ (am_P 211).2 (32, [(0, .ref 73), (1, .int y), (2, .int (x + 1))], []) (HH (sf I 78 i (I 95 (14 * u + i))) J R T) _
    exact m_back_l hy h8 H k (i + 1) _ _ (by omega) (by rw [hx]; exact nI_1 i) (BW_s (by decide) hR)
theorem m_back {n : Nat} {k : Int32} (hn : I 73 0 = nI n) (h6 : n ≤ 6) : Ze sc (d + 2) 211 [.ref 73, .int k] (HH I J R T) (fun r h => (¬ M_01 k ∧ r = some (.int (-2)) ∧ h = HH I J R T) ∨ ∃ c, c < 2 ∧ k = nI c ∧ ((I 94 c = 0 ∧ r = some (.int (-4)) ∧ h = HH I J R T) ∨ (¬ I 94 c = 0 ∧ ∃ I1, r = some (.int (M_ap I1 0 0 n)) ∧ h = HH I1 J R T ∧ BW 95 (14 * c) (sf I 73 35 0) 14 I1))) := by
  refine Ze_of (Nat.le_of_ble_eq_true rfl) ?_
  by_cases hb : M_01 k
  · rcases bit_c hb with rfl | rfl
    · by_cases hz : I 94 0 = 0
      · refine Z_jump 4 rfl ?_
        show Zs _ _ (am_P 211).2 (4, [(0, .ref 73), (1, .int (0 : Int32))], [.long (1 : Int64), .long (0 : Int64), .long (0 : Int64)]) (HH I J R T) _
        refine Z_c1 rfl rfl rfl (m_inI (v := 0) (a := 0) (b := 1) rfl rfl) ?_
        show Zs _ _ (am_P 211).2 (7, [(0, .ref 73), (1, .int (0 : Int32))], [.int (1 : Int32)]) (HH I J R T) _
        refine Z_jump 6 rfl ?_
        refine Z_bn (fun c19 => absurd (hz) c19) (fun c19 => ?_)
        refine Z_jump 1 rfl ?_
        show Zs _ _ (am_P 211).2 (24, [(0, .ref 73), (1, .int (0 : Int32))], [.int (-4 : Int32)]) (HH I J R T) _
        refine Z_rI rfl (by first | exact am_nw0 _ | exact am_nw01 | rfl | assumption) ?_
        exact Or.inr ⟨0, by omega, rfl, Or.inl ⟨hz, rfl, rfl⟩⟩
      · refine Z_jump 4 rfl ?_
        show Zs _ _ (am_P 211).2 (4, [(0, .ref 73), (1, .int (0 : Int32))], [.long (1 : Int64), .long (0 : Int64), .long (0 : Int64)]) (HH I J R T) _
        refine Z_c1 rfl rfl rfl (m_inI (v := 0) (a := 0) (b := 1) rfl rfl) ?_
        show Zs _ _ (am_P 211).2 (7, [(0, .ref 73), (1, .int (0 : Int32))], [.int (1 : Int32)]) (HH I J R T) _
        refine Z_jump 6 rfl ?_
        refine Z_bn (fun c19 => ?_) (fun c19 => absurd c19 (hz))
        refine Z_jump 3 rfl ?_
        show Zs _ _ (am_P 211).2 (30, [(0, .ref 73), (1, .int (0 : Int32))], []) (HH (sf I 73 35 (0 : Int32)) J R T) _
        refine Z_jump 2 rfl ?_
        show Zs _ _ (am_P 211).2 (32, [(0, .ref 73), (1, .int (0 : Int32)), (2, .int (0 : Int32))], []) (HH (sf I 73 35 (0 : Int32)) J R T) _
        refine m_back_l (u := 0) (I0 := sf I 73 35 0) rfl (by omega) (fun I' hC => ?_) 14 0 _ _ (by omega) rfl (BW_0 _ _ _)
        have hn2 : I' 73 0 = nI n := (congrFun (hC.1 73 (by decide)) 0).trans hn
        refine Z_jump 1 rfl ?_
        show Zs _ _ (am_P 211).2 (62, [(0, .ref 73), (1, .int (0 : Int32)), (2, .int (nI 14))], [.ref 73]) (HH I' J R T) _
        refine Z_c1 rfl rfl rfl (m_allPushed (n := n) hn2 h6) ?_
        show Zs _ _ (am_P 211).2 (65, [(0, .ref 73), (1, .int (0 : Int32)), (2, .int (nI 14))], [.int (M_ap I' 0 0 n)]) (HH I' J R T) _
        show Zs _ _ (am_P 211).2 (65, [(0, .ref 73), (1, .int (0 : Int32)), (2, .int (nI 14))], [.int (M_ap I' 0 0 n)]) (HH I' J R T) _
        refine Z_rI rfl (by first | exact am_nw0 _ | exact am_nw01 | rfl | assumption) ?_
        exact Or.inr ⟨0, by omega, rfl, Or.inr ⟨hz, I', rfl, rfl, hC⟩⟩
    · by_cases hz : I 94 1 = 0
      · refine Z_jump 4 rfl ?_
        show Zs _ _ (am_P 211).2 (4, [(0, .ref 73), (1, .int (1 : Int32))], [.long (1 : Int64), .long (0 : Int64), .long (1 : Int64)]) (HH I J R T) _
        refine Z_c1 rfl rfl rfl (m_inI (v := 1) (a := 0) (b := 1) rfl rfl) ?_
        show Zs _ _ (am_P 211).2 (7, [(0, .ref 73), (1, .int (1 : Int32))], [.int (1 : Int32)]) (HH I J R T) _
        refine Z_jump 6 rfl ?_
        refine Z_bn (fun c19 => absurd (hz) c19) (fun c19 => ?_)
        refine Z_jump 1 rfl ?_
        show Zs _ _ (am_P 211).2 (24, [(0, .ref 73), (1, .int (1 : Int32))], [.int (-4 : Int32)]) (HH I J R T) _
        refine Z_rI rfl (by first | exact am_nw0 _ | exact am_nw01 | rfl | assumption) ?_
        exact Or.inr ⟨1, by omega, rfl, Or.inl ⟨hz, rfl, rfl⟩⟩
      · refine Z_jump 4 rfl ?_
        show Zs _ _ (am_P 211).2 (4, [(0, .ref 73), (1, .int (1 : Int32))], [.long (1 : Int64), .long (0 : Int64), .long (1 : Int64)]) (HH I J R T) _
        refine Z_c1 rfl rfl rfl (m_inI (v := 1) (a := 0) (b := 1) rfl rfl) ?_
        show Zs _ _ (am_P 211).2 (7, [(0, .ref 73), (1, .int (1 : Int32))], [.int (1 : Int32)]) (HH I J R T) _
        refine Z_jump 6 rfl ?_
        refine Z_bn (fun c19 => ?_) (fun c19 => absurd c19 (hz))
        refine Z_jump 3 rfl ?_
        show Zs _ _ (am_P 211).2 (30, [(0, .ref 73), (1, .int (1 : Int32))], []) (HH (sf I 73 35 (0 : Int32)) J R T) _
        refine Z_jump 2 rfl ?_
        show Zs _ _ (am_P 211).2 (32, [(0, .ref 73), (1, .int (1 : Int32)), (2, .int (0 : Int32))], []) (HH (sf I 73 35 (0 : Int32)) J R T) _
        refine m_back_l (u := 1) (I0 := sf I 73 35 0) rfl (by omega) (fun I' hC => ?_) 14 0 _ _ (by omega) rfl (BW_0 _ _ _)
        have hn2 : I' 73 0 = nI n := (congrFun (hC.1 73 (by decide)) 0).trans hn
        refine Z_jump 1 rfl ?_
        show Zs _ _ (am_P 211).2 (62, [(0, .ref 73), (1, .int (1 : Int32)), (2, .int (nI 14))], [.ref 73]) (HH I' J R T) _
        refine Z_c1 rfl rfl rfl (m_allPushed (n := n) hn2 h6) ?_
        show Zs _ _ (am_P 211).2 (65, [(0, .ref 73), (1, .int (1 : Int32)), (2, .int (nI 14))], [.int (M_ap I' 0 0 n)]) (HH I' J R T) _
        show Zs _ _ (am_P 211).2 (65, [(0, .ref 73), (1, .int (1 : Int32)), (2, .int (nI 14))], [.int (M_ap I' 0 0 n)]) (HH I' J R T) _
        refine Z_rI rfl (by first | exact am_nw0 _ | exact am_nw01 | rfl | assumption) ?_
        exact Or.inr ⟨1, by omega, rfl, Or.inr ⟨hz, I', rfl, rfl, hC⟩⟩
  · refine Z_jump 4 rfl ?_
    show Zs _ _ (am_P 211).2 (4, [(0, .ref 73), (1, .int k)], [.long (1 : Int64), .long (0 : Int64), .long (Int32.toInt64 k)]) (HH I J R T) _
    refine Z_c1 rfl rfl rfl (m_inI (a := 0) (b := 1) rfl rfl) ?_
    show Zs _ _ (am_P 211).2 (7, [(0, .ref 73), (1, .int k)], [.int (if 0 ≤ k.toInt ∧ k.toInt ≤ 1 then 1 else 0)]) (HH I J R T) _
    refine Z_jump 1 rfl ?_
    refine Z_bn (fun c7 => absurd (if10.mpr hb) c7) (fun c7 => ?_)
    refine Z_jump 1 rfl ?_
    show Zs _ _ (am_P 211).2 (12, [(0, .ref 73), (1, .int k)], [.int (-2 : Int32)]) (HH I J R T) _
    refine Z_rI rfl (by first | exact am_nw0 _ | exact am_nw01 | rfl | assumption) ?_
    exact Or.inl ⟨hb, rfl, rfl⟩
end ML2

