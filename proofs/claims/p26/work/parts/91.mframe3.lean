/-! The reference: readsFrame(), frame(), fault(0). -/
def CR (d0 s0 i : Nat) (I0 I : hI) : Prop := (∀ a, a ≠ d0 → a ≠ d0 + 1 → a ≠ d0 + 2 → a ≠ d0 + 3 → I a = I0 a) ∧ ∀ k, k < i → I d0 k = I0 s0 k ∧ I (d0 + 1) k = I0 (s0 + 1) k ∧ I (d0 + 2) k = I0 (s0 + 2) k ∧ I (d0 + 3) k = I0 (s0 + 3) k
theorem CR_0 (d0 s0 : Nat) (I : hI) : CR d0 s0 0 I I := ⟨fun _ _ _ _ _ => rfl, fun k hk => absurd hk (Nat.not_lt_zero k)⟩
theorem CR_s {d0 s0 i : Nat} {I0 I : hI} (hd : d0 + 4 ≤ s0 ∨ s0 + 4 ≤ d0) (H : CR d0 s0 i I0 I) : CR d0 s0 (i + 1) I0 (sf (sf (sf (sf I d0 i (I s0 i)) (d0 + 1) i (I (s0 + 1) i)) (d0 + 2) i (I (s0 + 2) i)) (d0 + 3) i (I (s0 + 3) i)) := by
  refine ⟨fun a h1 h2 h3 h4 => by rw [sf_c h4, sf_c h3, sf_c h2, sf_c h1]; exact H.1 a h1 h2 h3 h4, fun k hk => ?_⟩
  have e0 := H.1 s0 (by omega) (by omega) (by omega) (by omega)
  have e1 := H.1 (s0 + 1) (by omega) (by omega) (by omega) (by omega)
  have e2 := H.1 (s0 + 2) (by omega) (by omega) (by omega) (by omega)
  have e3 := H.1 (s0 + 3) (by omega) (by omega) (by omega) (by omega)
  rw [e0, e1, e2, e3]
  by_cases e : k = i
  · subst e
    refine ⟨?_, ?_, ?_, ?_⟩
    · rw [sf_c (by omega), sf_c (by omega), sf_c (by omega), sf_s]
    · rw [sf_c (by omega), sf_c (by omega), sf_s]
    · rw [sf_c (by omega), sf_s]
    · rw [sf_s]
  · obtain ⟨g0, g1, g2, g3⟩ := H.2 k (by omega)
    refine ⟨?_, ?_, ?_, ?_⟩
    · rw [sf_c (by omega), sf_c (by omega), sf_c (by omega), sf_k e]; exact g0
    · rw [sf_c (by omega), sf_c (by omega), sf_k e, sf_c (by omega)]; exact g1
    · rw [sf_c (by omega), sf_k e, sf_c (by omega), sf_c (by omega)]; exact g2
    · rw [sf_k e, sf_c (by omega), sf_c (by omega), sf_c (by omega)]; exact g3
section MF3
variable {sc : Nat × (Nat → Int32)} {d : Nat} {I : hI} {J : hJ} {R : hR} {T : am_H} {Q : Option Value → am_H → Prop} {tx : Nat → Nat} {c : Nat}
theorem m_rf_c {n : Nat} {I0 : hI} (hn : I0 73 0 = nI n) (h6 : n ≤ 6) (H : ∀ I, CR 85 74 n I0 I → Zs sc d (am_P 187).2 (90, [(0, .ref 73), (1, .int (nI n))], []) (HH I J R T) Q) : ∀ (k i : Nat) (I : hI) (x : Int32), i + k = n → x = nI i → CR 85 74 i I0 I → Zs sc d (am_P 187).2 (28, [(0, .ref 73), (1, .int x)], []) (HH I J R T) Q
  | 0, i, I, x, hi, hx, hR => by
    have e : i = n := by omega
    subst e
    subst hx
    have hn' : I 73 0 = nI i := (congrFun (hR.1 73 (by decide) (by decide) (by decide) (by decide)) 0).trans hn
    refine Z_jump 4 rfl ?_
    refine Z_bd (fun c33 => ?_) (fun c33 => absurd ((show I 73 0 ≤ nI i by rw [hn']; exact nI_le (Nat.le_refl i) (by omega))) c33)
    show Zs _ _ (am_P 187).2 (90, [(0, .ref 73), (1, .int (nI i))], []) (HH I J R T) _
    exact H I hR
  | k + 1, i, I, x, hi, hx, hR => by
    have hn' : I 73 0 = nI n := (congrFun (hR.1 73 (by decide) (by decide) (by decide) (by decide)) 0).trans hn
    refine Z_jump 4 rfl ?_
    refine Z_bd (fun c33 => absurd c33 ((show ¬ I 73 0 ≤ x by rw [hn', hx]; exact nI_ge (by omega) (by omega)))) (fun c33 => ?_)
    refine Z_jump 6 rfl ?_
    show Zs _ _ (am_P 187).2 (46, [(0, .ref 73), (1, .int x)], [.int x, .ref 74, .int x, .ref 85]) (HH I J R T) _
    refine Z_ialK (i) rfl rfl (hx) (by omega) (by decide) ?_
    show Zs _ _ (am_P 187).2 (47, [(0, .ref 73), (1, .int x)], [.int (I 74 i), .int x, .ref 85]) (HH I J R T) _
    show Zs _ _ (am_P 187).2 (47, [(0, .ref 73), (1, .int x)], [.int (I 74 i), .int x, .ref 85]) (HH I J R T) _
    refine Z_iasK (i) rfl rfl (hx) (by omega) (by decide) ?_
    show Zs _ _ (am_P 187).2 (48, [(0, .ref 73), (1, .int x)], []) (HH (sf I 85 i (I 74 i)) J R T) _
    refine Z_jump 6 rfl ?_
    show Zs _ _ (am_P 187).2 (58, [(0, .ref 73), (1, .int x)], [.int x, .ref 75, .int x, .ref 86]) (HH (sf I 85 i (I 74 i)) J R T) _
    refine Z_ialK (i) rfl rfl (hx) (by omega) (by decide) ?_
    show Zs _ _ (am_P 187).2 (59, [(0, .ref 73), (1, .int x)], [.int (I 75 i), .int x, .ref 86]) (HH (sf I 85 i (I 74 i)) J R T) _
    show Zs _ _ (am_P 187).2 (59, [(0, .ref 73), (1, .int x)], [.int (I 75 i), .int x, .ref 86]) (HH (sf I 85 i (I 74 i)) J R T) _
    refine Z_iasK (i) rfl rfl (hx) (by omega) (by decide) ?_
    show Zs _ _ (am_P 187).2 (60, [(0, .ref 73), (1, .int x)], []) (HH (sf (sf I 85 i (I 74 i)) 86 i (I 75 i)) J R T) _
    refine Z_jump 6 rfl ?_
    show Zs _ _ (am_P 187).2 (70, [(0, .ref 73), (1, .int x)], [.int x, .ref 76, .int x, .ref 87]) (HH (sf (sf I 85 i (I 74 i)) 86 i (I 75 i)) J R T) _
    refine Z_ialK (i) rfl rfl (hx) (by omega) (by decide) ?_
    show Zs _ _ (am_P 187).2 (71, [(0, .ref 73), (1, .int x)], [.int (I 76 i), .int x, .ref 87]) (HH (sf (sf I 85 i (I 74 i)) 86 i (I 75 i)) J R T) _
    show Zs _ _ (am_P 187).2 (71, [(0, .ref 73), (1, .int x)], [.int (I 76 i), .int x, .ref 87]) (HH (sf (sf I 85 i (I 74 i)) 86 i (I 75 i)) J R T) _
    refine Z_iasK (i) rfl rfl (hx) (by omega) (by decide) ?_
    show Zs _ _ (am_P 187).2 (72, [(0, .ref 73), (1, .int x)], []) (HH (sf (sf (sf I 85 i (I 74 i)) 86 i (I 75 i)) 87 i (I 76 i)) J R T) _
    refine Z_jump 6 rfl ?_
    show Zs _ _ (am_P 187).2 (82, [(0, .ref 73), (1, .int x)], [.int x, .ref 77, .int x, .ref 88]) (HH (sf (sf (sf I 85 i (I 74 i)) 86 i (I 75 i)) 87 i (I 76 i)) J R T) _
    refine Z_ialK (i) rfl rfl (hx) (by omega) (by decide) ?_
    show Zs _ _ (am_P 187).2 (83, [(0, .ref 73), (1, .int x)], [.int (I 77 i), .int x, .ref 88]) (HH (sf (sf (sf I 85 i (I 74 i)) 86 i (I 75 i)) 87 i (I 76 i)) J R T) _
    show Zs _ _ (am_P 187).2 (83, [(0, .ref 73), (1, .int x)], [.int (I 77 i), .int x, .ref 88]) (HH (sf (sf (sf I 85 i (I 74 i)) 86 i (I 75 i)) 87 i (I 76 i)) J R T) _
    refine Z_iasK (i) rfl rfl (hx) (by omega) (by decide) ?_
    show Zs _ _ (am_P 187).2 (84, [(0, .ref 73), (1, .int x)], []) (HH (sf (sf (sf (sf I 85 i (I 74 i)) 86 i (I 75 i)) 87 i (I 76 i)) 88 i (I 77 i)) J R T) _
    refine Z_jump 2 rfl ?_
    show Zs _ _ (am_P 187).2 (28, [(0, .ref 73), (1, .int (x + 1))], []) (HH (sf (sf (sf (sf I 85 i (I 74 i)) 86 i (I 75 i)) 87 i (I 76 i)) 88 i (I 77 i)) J R T) _
    exact m_rf_c hn h6 H k (i + 1) _ _ (by omega) (by rw [hx]; exact nI_1 i) (CR_s (by decide) hR)
theorem m_fr_c {n : Nat} {I0 : hI} (hn : I0 73 0 = nI n) (h6 : n ≤ 6) (H : ∀ I, CR 74 85 n I0 I → Zs sc d (am_P 198).2 (95, [(0, .ref 73), (1, .int (nI n))], []) (HH I J R T) Q) : ∀ (k i : Nat) (I : hI) (x : Int32), i + k = n → x = nI i → CR 74 85 i I0 I → Zs sc d (am_P 198).2 (33, [(0, .ref 73), (1, .int x)], []) (HH I J R T) Q
  | 0, i, I, x, hi, hx, hR => by
    have e : i = n := by omega
    subst e
    subst hx
    have hn' : I 73 0 = nI i := (congrFun (hR.1 73 (by decide) (by decide) (by decide) (by decide)) 0).trans hn
    refine Z_jump 4 rfl ?_
    refine Z_bd (fun c38 => ?_) (fun c38 => absurd ((show I 73 0 ≤ nI i by rw [hn']; exact nI_le (Nat.le_refl i) (by omega))) c38)
    show Zs _ _ (am_P 198).2 (95, [(0, .ref 73), (1, .int (nI i))], []) (HH I J R T) _
    exact H I hR
  | k + 1, i, I, x, hi, hx, hR => by
    have hn' : I 73 0 = nI n := (congrFun (hR.1 73 (by decide) (by decide) (by decide) (by decide)) 0).trans hn
    refine Z_jump 4 rfl ?_
    refine Z_bd (fun c38 => absurd c38 ((show ¬ I 73 0 ≤ x by rw [hn', hx]; exact nI_ge (by omega) (by omega)))) (fun c38 => ?_)
    refine Z_jump 6 rfl ?_
    show Zs _ _ (am_P 198).2 (51, [(0, .ref 73), (1, .int x)], [.int x, .ref 85, .int x, .ref 74]) (HH I J R T) _
    refine Z_ialK (i) rfl rfl (hx) (by omega) (by decide) ?_
    show Zs _ _ (am_P 198).2 (52, [(0, .ref 73), (1, .int x)], [.int (I 85 i), .int x, .ref 74]) (HH I J R T) _
    show Zs _ _ (am_P 198).2 (52, [(0, .ref 73), (1, .int x)], [.int (I 85 i), .int x, .ref 74]) (HH I J R T) _
    refine Z_iasK (i) rfl rfl (hx) (by omega) (by decide) ?_
    show Zs _ _ (am_P 198).2 (53, [(0, .ref 73), (1, .int x)], []) (HH (sf I 74 i (I 85 i)) J R T) _
    refine Z_jump 6 rfl ?_
    show Zs _ _ (am_P 198).2 (63, [(0, .ref 73), (1, .int x)], [.int x, .ref 86, .int x, .ref 75]) (HH (sf I 74 i (I 85 i)) J R T) _
    refine Z_ialK (i) rfl rfl (hx) (by omega) (by decide) ?_
    show Zs _ _ (am_P 198).2 (64, [(0, .ref 73), (1, .int x)], [.int (I 86 i), .int x, .ref 75]) (HH (sf I 74 i (I 85 i)) J R T) _
    show Zs _ _ (am_P 198).2 (64, [(0, .ref 73), (1, .int x)], [.int (I 86 i), .int x, .ref 75]) (HH (sf I 74 i (I 85 i)) J R T) _
    refine Z_iasK (i) rfl rfl (hx) (by omega) (by decide) ?_
    show Zs _ _ (am_P 198).2 (65, [(0, .ref 73), (1, .int x)], []) (HH (sf (sf I 74 i (I 85 i)) 75 i (I 86 i)) J R T) _
    refine Z_jump 6 rfl ?_
    show Zs _ _ (am_P 198).2 (75, [(0, .ref 73), (1, .int x)], [.int x, .ref 87, .int x, .ref 76]) (HH (sf (sf I 74 i (I 85 i)) 75 i (I 86 i)) J R T) _
    refine Z_ialK (i) rfl rfl (hx) (by omega) (by decide) ?_
    show Zs _ _ (am_P 198).2 (76, [(0, .ref 73), (1, .int x)], [.int (I 87 i), .int x, .ref 76]) (HH (sf (sf I 74 i (I 85 i)) 75 i (I 86 i)) J R T) _
    show Zs _ _ (am_P 198).2 (76, [(0, .ref 73), (1, .int x)], [.int (I 87 i), .int x, .ref 76]) (HH (sf (sf I 74 i (I 85 i)) 75 i (I 86 i)) J R T) _
    refine Z_iasK (i) rfl rfl (hx) (by omega) (by decide) ?_
    show Zs _ _ (am_P 198).2 (77, [(0, .ref 73), (1, .int x)], []) (HH (sf (sf (sf I 74 i (I 85 i)) 75 i (I 86 i)) 76 i (I 87 i)) J R T) _
    refine Z_jump 6 rfl ?_
    show Zs _ _ (am_P 198).2 (87, [(0, .ref 73), (1, .int x)], [.int x, .ref 88, .int x, .ref 77]) (HH (sf (sf (sf I 74 i (I 85 i)) 75 i (I 86 i)) 76 i (I 87 i)) J R T) _
    refine Z_ialK (i) rfl rfl (hx) (by omega) (by decide) ?_
    show Zs _ _ (am_P 198).2 (88, [(0, .ref 73), (1, .int x)], [.int (I 88 i), .int x, .ref 77]) (HH (sf (sf (sf I 74 i (I 85 i)) 75 i (I 86 i)) 76 i (I 87 i)) J R T) _
    show Zs _ _ (am_P 198).2 (88, [(0, .ref 73), (1, .int x)], [.int (I 88 i), .int x, .ref 77]) (HH (sf (sf (sf I 74 i (I 85 i)) 75 i (I 86 i)) 76 i (I 87 i)) J R T) _
    refine Z_iasK (i) rfl rfl (hx) (by omega) (by decide) ?_
    show Zs _ _ (am_P 198).2 (89, [(0, .ref 73), (1, .int x)], []) (HH (sf (sf (sf (sf I 74 i (I 85 i)) 75 i (I 86 i)) 76 i (I 87 i)) 77 i (I 88 i)) J R T) _
    refine Z_jump 2 rfl ?_
    show Zs _ _ (am_P 198).2 (33, [(0, .ref 73), (1, .int (x + 1))], []) (HH (sf (sf (sf (sf I 74 i (I 85 i)) 75 i (I 86 i)) 76 i (I 87 i)) 77 i (I 88 i)) J R T) _
    exact m_fr_c hn h6 H k (i + 1) _ _ (by omega) (by rw [hx]; exact nI_1 i) (CR_s (by decide) hR)
theorem UM_CR {n : Nat} {I I' : hI} (h : CR 85 74 n I I') : UM I J I' J := ⟨fun a _ a2 a3 a4 a5 => h.1 a a2 a3 a4 a5, fun k _ _ _ _ _ _ _ _ => congrFun (h.1 73 (by decide) (by decide) (by decide) (by decide)) k, fun _ _ => rfl, fun _ _ => rfl⟩
theorem m_readsFrame {D : FD} (hM : MT tx c I) (hD : DM 0 7 74 D I) : Ze sc (d + 8) 187 [.ref 73] (HH I J R T) (MFq tx c (fRead tx c 12 0 (tS tx c 0) D) I J R T) := by
  refine Ze_of (Nat.le_of_ble_eq_true rfl) ?_
  refine Z_jump 3 rfl ?_
  show Zs _ _ (am_P 187).2 (5, [(0, .ref 73)], []) (HH (sf I 73 14 (0 : Int32)) J R T) _
  refine Z_jump 3 rfl ?_
  show Zs _ _ (am_P 187).2 (10, [(0, .ref 73)], []) (HH (sf (sf I 73 14 (0 : Int32)) 73 22 (0 : Int32)) J R T) _
  refine Z_jump 4 rfl ?_
  show Zs _ _ (am_P 187).2 (18, [(0, .ref 73)], []) (HH (sf (sf (sf I 73 14 (0 : Int32)) 73 22 (0 : Int32)) 73 20 (I 73 0)) J R T) _
  refine Z_jump 4 rfl ?_
  show Zs _ _ (am_P 187).2 (26, [(0, .ref 73)], []) (HH (sf (sf (sf (sf I 73 14 (0 : Int32)) 73 22 (0 : Int32)) 73 20 (I 73 0)) 73 21 (I 73 7)) J R T) _
  refine Z_jump 2 rfl ?_
  show Zs _ _ (am_P 187).2 (28, [(0, .ref 73), (1, .int (0 : Int32))], []) (HH (sf (sf (sf (sf I 73 14 (0 : Int32)) 73 22 (0 : Int32)) 73 20 (I 73 0)) 73 21 (I 73 7)) J R T) _
  have U0 : UM I J (sf (sf (sf (sf I 73 14 0) 73 22 0) 73 20 (I 73 0)) 73 21 (I 73 7)) J := UM_t (UM_t (UM_t (UM_f (by omega)) (UM_f (by omega))) (UM_f (by omega))) (UM_f (by omega))
  refine m_rf_c (n := D.1) (I0 := sf (sf (sf (sf I 73 14 0) 73 22 0) 73 20 (I 73 0)) 73 21 (I 73 7)) hD.1 hD.2.1 (fun I1 hR => ?_) D.1 0 _ _ (by omega) rfl (CR_0 _ _ _)
  have U1 : UM I J I1 J := UM_t U0 (UM_CR hR)
  have e73 := hR.1 73 (by decide) (by decide) (by decide) (by decide)
  have D1 : DM 20 21 85 D I1 := ⟨(congrFun e73 20).trans hD.1, hD.2.1, (congrFun e73 21).trans hD.2.2.1, fun k hk => by
    obtain ⟨g0, g1, g2, g3⟩ := hR.2 k hk
    rw [g0, g1, g2, g3]
    exact hD.2.2.2 k hk⟩
  refine Z_jump 2 rfl ?_
  show Zs _ _ (am_P 187).2 (92, [(0, .ref 73), (1, .int (1 : Int32))], []) (HH I1 J R T) _
  refine Zs_mono (m_rf_l 11 0 0 I1 J D (by omega) (Nat.zero_le _) (MT_M hM U1) (congrFun e73 14) (congrFun e73 22) D1) (fun r h' q => ?_)
  obtain ⟨I4, J4, rfl, u4, hq⟩ := q
  exact ⟨I4, J4, rfl, UM_t U1 u4, hq⟩
theorem m_faultF {D : FD} (hM : MT tx c I) (hD : DM 0 7 74 D I) : Ze sc (d + 9) 197 [.ref 73, .int 0] (HH I J R T) (fun r h => ∃ I' J', h = HH I' J' R T ∧ UM I J I' J' ∧ r = some (.int (match fRead tx c 12 0 (tS tx c 0) D with
  | .inl p => nI p
  | .inr _ => -1))) := by
  refine Ze_of (Nat.le_of_ble_eq_true rfl) ?_
  refine Z_jump 4 rfl ?_
  show Zs _ _ (am_P 197).2 (4, [(0, .ref 73), (1, .int (0 : Int32))], [.long (1 : Int64), .long (0 : Int64), .long (0 : Int64)]) (HH I J R T) _
  refine Z_c1 rfl rfl rfl (m_inI (v := 0) (a := 0) (b := 1) rfl rfl) ?_
  show Zs _ _ (am_P 197).2 (7, [(0, .ref 73), (1, .int (0 : Int32))], [.int (1 : Int32)]) (HH I J R T) _
  refine Z_jump 4 rfl ?_
  show Zs _ _ (am_P 197).2 (18, [(0, .ref 73), (1, .int (0 : Int32))], [.ref 73]) (HH I J R T) _
  refine Z_cQ rfl rfl rfl (m_readsFrame hM hD) (fun v h1 hq => ?_)
  obtain ⟨I1, J1, rfl, u1, hq⟩ := hq
  rcases hf : fRead tx c 12 0 (tS tx c 0) D with p | ⟨n, D'⟩
  · rw [hf] at hq
    obtain ⟨q1, rfl, q3⟩ := hq
    refine Z_jump 6 rfl ?_
    exact Z_rI rfl (am_nw0 _) ⟨I1, J1, rfl, u1, am_ii q3⟩
  rw [hf] at hq
  obtain ⟨q1, rfl, q3, q4⟩ := hq
  refine Z_jump 6 rfl ?_
  exact Z_rI rfl (am_nw0 _) ⟨I1, J1, rfl, u1, rfl⟩
/-- what frame() leaves of the reference -/
def FrM (tx : Nat → Nat) (c : Nat) (D : FD) (I : hI) (J : hJ) (R : hR) (T : am_H) (r : Option Value) (h : am_H) : Prop := ∃ I' J', h = HH I' J' R T ∧ (∀ a, a ≠ 73 → J' a = J a) ∧ (match fRead tx c 12 0 (tS tx c 0) D with
  | .inl _ => r = some (.int (-4)) ∧ UM I J I' J'
  | .inr (n, D') => r = some (.int (nI n)) ∧ MT tx 0 I' ∧ DM 0 7 74 D' I' ∧ I' 73 40 = 0 ∧ I' 73 35 = 0 ∧ I' 73 36 = I 73 36 ∧ (∀ k, k < 14 → k ≠ 12 → I' 78 k = 0) ∧ I' 78 12 = D'.2.2 ∧ I' 94 0 = 0 ∧ I' 94 1 = 0 ∧ (∀ a, a < 73 ∨ a = 93 ∨ a = 95 ∨ (96 ≤ a) → I' a = I a))
theorem m_fr_z {I0 : hI} (H : ∀ I, ((∀ a, a ≠ 78 → I a = I0 a) ∧ ∀ k, k < 14 → I 78 k = 0) → Zs sc d (am_P 198).2 (116, [(0, .ref 73), (1, .int (nI 14))], []) (HH I J R T) Q) : ∀ (k i : Nat) (I : hI) (x : Int32), i + k = 14 → x = nI i → ((∀ a, a ≠ 78 → I a = I0 a) ∧ ∀ k, k < i → I 78 k = 0) → Zs sc d (am_P 198).2 (97, [(0, .ref 73), (1, .int x)], []) (HH I J R T) Q
  | 0, i, I, x, hi, hx, hR => by
    have e : i = 14 := by omega
    subst e
    subst hx
    refine Z_jump 3 rfl ?_
    refine Z_bd (fun c100 => ?_) (fun c100 => absurd ((show (14 : Int32) ≤ nI 14 by decide)) c100)
    show Zs _ _ (am_P 198).2 (116, [(0, .ref 73), (1, .int (nI 14))], []) (HH I J R T) _
    exact H I hR
  | k + 1, i, I, x, hi, hx, hR => by
    refine Z_jump 3 rfl ?_
    refine Z_bd (fun c100 => absurd c100 ((show ¬ (14 : Int32) ≤ x by rw [hx]; exact nI_ge (b := 14) (by omega) (by omega)))) (fun c100 => ?_)
    refine Z_jump 4 rfl ?_
    show Zs _ _ (am_P 198).2 (109, [(0, .ref 73), (1, .int x)], [.int (0 : Int32), .int x, .ref 78]) (HH I J R T) _
    refine Z_iasK (i) rfl rfl (hx) (by omega) (by decide) ?_
    show Zs _ _ (am_P 198).2 (110, [(0, .ref 73), (1, .int x)], []) (HH (sf I 78 i (0 : Int32)) J R T) _
    refine Z_jump 2 rfl ?_
    show Zs _ _ (am_P 198).2 (97, [(0, .ref 73), (1, .int (x + 1))], []) (HH (sf I 78 i (0 : Int32)) J R T) _
    refine m_fr_z H k (i + 1) _ _ (by omega) (by rw [hx]; exact nI_1 i) ⟨fun a ha => by rw [sf_c ha]; exact hR.1 a ha, fun j hj => ?_⟩
    by_cases e : j = i
    · rw [e, sf_s]
    · rw [sf_k e]; exact hR.2 j (by omega)
theorem m_frame {D : FD} (hM : MT tx c I) (hD : DM 0 7 74 D I) : Ze sc (d + 9) 198 [.ref 73] (HH I J R T) (FrM tx c D I J R T) := by
  refine Ze_of (Nat.le_of_ble_eq_true rfl) ?_
  unfold FrM
  refine Z_jump 1 rfl ?_
  show Zs _ _ (am_P 198).2 (1, [(0, .ref 73)], [.ref 73]) (HH I J R T) _
  refine Z_cQ rfl rfl rfl (m_readsFrame hM hD) (fun v h1 hq => ?_)
  obtain ⟨I1, J1, rfl, u1, hq⟩ := hq
  rcases hf : fRead tx c 12 0 (tS tx c 0) D with p | ⟨n, D'⟩
  · rw [hf] at hq
    obtain ⟨q1, rfl, q3⟩ := hq
    refine Z_jump 2 rfl ?_
    exact Z_rI rfl (am_nw0 _) ⟨I1, J1, rfl, u1.2.2.1, rfl, u1⟩
  rw [hf] at hq
  obtain ⟨q1, rfl, q22, qD⟩ := hq
  have h6 := qD.2.1
  refine Z_jump 4 rfl ?_
  show Zs _ _ (am_P 198).2 (15, [(0, .ref 73)], []) (HH (sf I1 73 12 (0 : Int32)) J1 R T) _
  refine Z_jump 4 rfl ?_
  show Zs _ _ (am_P 198).2 (23, [(0, .ref 73)], []) (HH (sf (sf I1 73 12 (0 : Int32)) 73 0 (I1 73 20)) J1 R T) _
  refine Z_jump 4 rfl ?_
  show Zs _ _ (am_P 198).2 (31, [(0, .ref 73)], []) (HH (sf (sf (sf I1 73 12 (0 : Int32)) 73 0 (I1 73 20)) 73 7 (I1 73 21)) J1 R T) _
  refine Z_jump 2 rfl ?_
  show Zs _ _ (am_P 198).2 (33, [(0, .ref 73), (1, .int (0 : Int32))], []) (HH (sf (sf (sf I1 73 12 (0 : Int32)) 73 0 (I1 73 20)) 73 7 (I1 73 21)) J1 R T) _
  refine m_fr_c (n := D'.1) qD.1 h6 (fun I2 hR => ?_) D'.1 0 _ _ (by omega) rfl (CR_0 _ _ _)
  have e73 := hR.1 73 (by decide) (by decide) (by decide) (by decide)
  refine Z_jump 2 rfl ?_
  show Zs _ _ (am_P 198).2 (97, [(0, .ref 73), (1, .int (0 : Int32))], []) (HH I2 J1 R T) _
  refine m_fr_z (I0 := I2) (fun I3 hZ => ?_) 14 0 _ _ (by omega) rfl ⟨fun _ _ => rfl, fun k hk => absurd hk (Nat.not_lt_zero k)⟩
  have f73 := (hZ.1 73 (by decide)).trans e73
  have f7 : I3 73 7 = D'.2.2 := (congrFun f73 7).trans qD.2.2.1
  refine Z_jump 6 rfl ?_
  show Zs _ _ (am_P 198).2 (127, [(0, .ref 73), (1, .int (nI 14))], []) (HH (sf I3 78 12 (I3 73 7)) J1 R T) _
  refine Z_jump 3 rfl ?_
  show Zs _ _ (am_P 198).2 (132, [(0, .ref 73), (1, .int (nI 14))], []) (HH (sf (sf I3 78 12 (I3 73 7)) 73 40 (0 : Int32)) J1 R T) _
  refine Z_jump 3 rfl ?_
  show Zs _ _ (am_P 198).2 (137, [(0, .ref 73), (1, .int (nI 14))], []) (HH (sf (sf (sf I3 78 12 (I3 73 7)) 73 40 (0 : Int32)) 73 35 (0 : Int32)) J1 R T) _
  refine Z_jump 5 rfl ?_
  show Zs _ _ (am_P 198).2 (144, [(0, .ref 73), (1, .int (nI 14))], []) (HH (sf (sf (sf (sf I3 78 12 (I3 73 7)) 73 40 (0 : Int32)) 73 35 (0 : Int32)) 94 0 (0 : Int32)) J1 R T) _
  refine Z_jump 5 rfl ?_
  show Zs _ _ (am_P 198).2 (151, [(0, .ref 73), (1, .int (nI 14))], []) (HH (sf (sf (sf (sf (sf I3 78 12 (I3 73 7)) 73 40 (0 : Int32)) 73 35 (0 : Int32)) 94 0 (0 : Int32)) 94 1 (0 : Int32)) J1 R T) _
  refine Z_jump 2 rfl ?_
  show Zs _ _ (am_P 198).2 (155, [(0, .ref 73), (1, .int (nI 14))], [.int (I3 73 22)]) (HH (sf (sf (sf (sf (sf I3 78 12 (I3 73 7)) 73 40 (0 : Int32)) 73 35 (0 : Int32)) 94 0 (0 : Int32)) 94 1 (0 : Int32)) J1 R T) _
  refine Z_rI rfl (by first | exact am_nw0 _ | exact am_nw01 | rfl | assumption) ?_
  refine ⟨_, J1, rfl, u1.2.2.1, am_ii ((congrFun f73 22).trans q22), ⟨congrFun f73 12, Nat.zero_le _, fun k hk => absurd hk (Nat.not_lt_zero k), fun k hk => absurd hk (Nat.not_lt_zero k)⟩, ⟨(congrFun f73 0).trans qD.1, h6, f7, fun k hk => ?_⟩, rfl, rfl, (congrFun f73 36).trans (u1.2.1 36 (by decide) (by decide) (by decide) (by decide) (by decide) (by decide) (by decide) (by decide)), fun k h1 h2 => ?_, ?_, rfl, rfl, fun a ha => ?_⟩
  · obtain ⟨g0, g1, g2, g3⟩ := hR.2 k hk
    obtain ⟨o1, o2, o3, o4, o5⟩ := qD.2.2.2 k hk
    refine ⟨o1, ?_, ?_, ?_, ?_⟩
    · exact (congrFun (hZ.1 74 (by decide)) k).trans (g0.trans o2)
    · exact (congrFun (hZ.1 75 (by decide)) k).trans (g1.trans o3)
    · exact (congrFun (hZ.1 76 (by decide)) k).trans (g2.trans o4)
    · exact (congrFun (hZ.1 77 (by decide)) k).trans (g3.trans o5)
  · rw [sf_c (by decide), sf_c (by decide), sf_c (by decide), sf_c (by decide), sf_k h2]; exact hZ.2 k h1
  · exact f7
  · rw [sf_c (by omega), sf_c (by omega), sf_c (by omega), sf_c (by omega), sf_c (by omega), hZ.1 a (by omega), hR.1 a (by omega) (by omega) (by omega) (by omega), sf_c (by omega), sf_c (by omega), sf_c (by omega)]
    exact u1.1 a (by omega) (by omega) (by omega) (by omega) (by omega)
end MF3

