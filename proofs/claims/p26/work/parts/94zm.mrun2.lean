/-! The reference: run. -/
section MR2
variable {sc : Nat × (Nat → Int32)} {d : Nat} {R : hR} {T : am_H} {Q : Option Value → am_H → Prop} {tx : Nat → Nat} {c : Nat}
def ZQ (I0 : hI) (J0 : hJ) (R : hR) (T : am_H) (r : Option Value) (h : am_H) : Prop := ∃ I J v, h = HH I J R T ∧ UW I0 J0 I J ∧ r = some (.int v)
theorem ZQ_t {I I1 : hI} {J J1 : hJ} {r : Option Value} {h : am_H} (u : UW I J I1 J1) (q : ZQ I1 J1 R T r h) : ZQ I J R T r h := by
  obtain ⟨I2, J2, v, rfl, u2, rfl⟩ := q
  exact ⟨I2, J2, v, rfl, UW_t u u2, rfl⟩
theorem m_rd_l {D : FD} {nn : Nat} : ∀ (k j i : Nat) (I : hI) (J : hJ), j + k = 12 → i ≤ c → MT tx c I → DMf D I → I 73 27 = 1 → I 73 28 = 0 → I 73 14 = nI i → I 73 22 = nI j → sQ tx c D.1 k j (tS tx c i) = .inr nn → Zs sc (d + 8) (am_P 196).2 (22, [(0, .ref 73), (1, .ref 78), (2, .int 1), (3, .int 1)], []) (HH I J R T) (ZQ I J R T)
  | 0, j, i, I, J, hj, hi, hM, hD, hd, ht, h14, h22, hs => by cases hs
  | k + 1, j, i, I, J, hj, hi, hM, hD, hd, ht, h14, h22, hs => by
    have hS := tS_c (tx := tx) hi
    have h255 := hM.2.2.2
    obtain ⟨s2, hp, hs2⟩ := sQ_i hs
    refine Z_jump 3 rfl ?_
    show Zs _ _ (am_P 196).2 (27, [(0, .ref 73), (1, .ref 78), (2, .int (1 : Int32)), (3, .int (1 : Int32))], [.ref 73]) (HH I J R T) _
    refine Z_cQ rfl rfl rfl (m_reads (d := d + 4) hM h14 hi) (fun v h1 hq => ?_)
    obtain ⟨rfl, I1, J1, rfl, u1, g15, g14, gK⟩ := hq
    show Zs _ _ (am_P 196).2 (30, [(0, .ref 73), (1, .ref 78), (2, .int (1 : Int32)), (3, .int (1 : Int32))], []) (HH I1 J1 R T) _
    refine Z_jump 2 rfl ?_
    show Zs _ _ (am_P 196).2 (32, [(0, .ref 73), (1, .ref 78), (2, .int (1 : Int32)), (3, .int (1 : Int32))], [.ref 78, .ref 73]) (HH I1 J1 R T) _
    have hd1 : I1 73 27 = 1 := (u1.2.1 27 (by decide) (by decide) (by decide) (by decide) (by decide)).trans hd
    have ht1 : I1 73 28 = 0 := (u1.2.1 28 (by decide) (by decide) (by decide) (by decide) (by decide)).trans ht
    have h221 : I1 73 22 = nI j := (u1.2.1 22 (by decide) (by decide) (by decide) (by decide) (by decide)).trans h22
    refine Z_cQ rfl rfl rfl (m_rsD (d := d) (MT_R hM u1) (DM_W hD (UW_R u1)) hd1 ht1 ⟨hS, g15, g14, gK⟩ hp) (fun v h1 hq => ?_)
    obtain ⟨I2, J2, rfl, u2, t2, e27, e22, rfl, hT⟩ := hq
    have U2 : UW I J I2 J2 := UW_t (UW_R u1) u2
    have hd2 : I2 73 27 = 1 := e27.trans hd1
    have n22 : I2 73 22 + 1 = nI (j + 1) := by rw [e22, h221]; exact nI_1 j
    obtain ⟨q1, q15, q14, qK⟩ := id hT
    have k59 := RD_c (t := 59) h255 qK (by omega) (by omega) (by omega)
    by_cases hb : I2 73 28 = 0
    · refine Z_jump 4 rfl ?_
      refine Z_bd (fun c44 => ?_) (fun c44 => absurd (hb) c44)
      refine Z_jump 6 rfl ?_
      show Zs _ _ (am_P 196).2 (59, [(0, .ref 73), (1, .ref 78), (2, .int (1 : Int32)), (3, .int (1 : Int32))], []) (HH (sf I2 73 22 ((I2 73 22) + (1 : Int32))) J2 R T) _
      refine Z_jump 4 rfl ?_
      refine Z_bn (fun (c65 : ¬ ((I2 73 16) = (59 : Int32))) => ?_) (fun (c65 : (I2 73 16) = (59 : Int32)) => ?_)
      · refine Z_jump 9 rfl ?_
        refine Z_bn (fun (c91 : ¬ ((I2 73 16) = (-1 : Int32))) => ?_) (fun (c91 : (I2 73 16) = (-1 : Int32)) => ?_)
        · refine Z_jump 1 rfl ?_
          show Zs _ _ (am_P 196).2 (99, [(0, .ref 73), (1, .ref 78), (2, .int (1 : Int32)), (3, .int (0 : Int32))], [.int (0 : Int32)]) (HH (sf I2 73 22 ((I2 73 22) + (1 : Int32))) J2 R T) _
          refine Z_rI rfl (by first | exact am_nw0 _ | exact am_nw01 | rfl | assumption) ?_
          exact ⟨_, J2, _, rfl, UW_t U2 (UW_f (by omega)), rfl⟩
        · refine Z_jump 2 rfl ?_
          show Zs _ _ (am_P 196).2 (99, [(0, .ref 73), (1, .ref 78), (2, .int (1 : Int32)), (3, .int (0 : Int32))], [.int (1 : Int32)]) (HH (sf I2 73 22 ((I2 73 22) + (1 : Int32))) J2 R T) _
          refine Z_rI rfl (by first | exact am_nw0 _ | exact am_nw01 | rfl | assumption) ?_
          exact ⟨_, J2, _, rfl, UW_t U2 (UW_f (by omega)), rfl⟩
      · refine Z_jump 4 rfl ?_
        refine Z_bd (fun (c74 : (12 : Int32) ≤ ((I2 73 22) + (1 : Int32))) => ?_) (fun (c74 : ¬ ((12 : Int32) ≤ ((I2 73 22) + (1 : Int32)))) => ?_)
        · refine Z_jump 9 rfl ?_
          refine Z_bn (fun (c91 : ¬ ((I2 73 16) = (-1 : Int32))) => ?_) (fun (c91 : (I2 73 16) = (-1 : Int32)) => ?_)
          · refine Z_jump 1 rfl ?_
            show Zs _ _ (am_P 196).2 (99, [(0, .ref 73), (1, .ref 78), (2, .int (1 : Int32)), (3, .int (0 : Int32))], [.int (0 : Int32)]) (HH (sf I2 73 22 ((I2 73 22) + (1 : Int32))) J2 R T) _
            refine Z_rI rfl (by first | exact am_nw0 _ | exact am_nw01 | rfl | assumption) ?_
            exact ⟨_, J2, _, rfl, UW_t U2 (UW_f (by omega)), rfl⟩
          · refine Z_jump 2 rfl ?_
            show Zs _ _ (am_P 196).2 (99, [(0, .ref 73), (1, .ref 78), (2, .int (1 : Int32)), (3, .int (0 : Int32))], [.int (1 : Int32)]) (HH (sf I2 73 22 ((I2 73 22) + (1 : Int32))) J2 R T) _
            refine Z_rI rfl (by first | exact am_nw0 _ | exact am_nw01 | rfl | assumption) ?_
            exact ⟨_, J2, _, rfl, UW_t U2 (UW_f (by omega)), rfl⟩
        · refine Z_jump 4 rfl ?_
          show Zs _ _ (am_P 196).2 (22, [(0, .ref 73), (1, .ref 78), (2, .int (1 : Int32)), (3, .int (1 : Int32))], []) (HH (sf I2 73 22 ((I2 73 22) + (1 : Int32))) J2 R T) _
          have h12 : j + 1 < 12 := by have c2 : ¬ (12 : Int32) ≤ I2 73 22 + 1 := c74; rw [n22] at c2; have := mt (nI_leI (a := 12) (by omega) (by omega)).mpr c2; omega
          have h9 := k59.mp c65
          rcases hs2 with z | ⟨z1, z2, z3, z4⟩
          · exact absurd z (by omega)
          have U3 : UW I J (sf I2 73 22 (I2 73 22 + 1)) J2 := UW_t U2 (UW_f (by omega))
          refine Zs_mono (m_rd_l k (j + 1) (tE tx c s2) (sf I2 73 22 (I2 73 22 + 1)) J2 (by omega) (tE_c q1).2 (MT_W hM U3) (DM_W hD U3) hd2 hb q14 n22 z4) (fun r h' qq => ZQ_t U3 qq)
    · refine Z_jump 4 rfl ?_
      refine Z_bd (fun c44 => absurd c44 (hb)) (fun c44 => ?_)
      refine Z_jump 1 rfl ?_
      show Zs _ _ (am_P 196).2 (48, [(0, .ref 73), (1, .ref 78), (2, .int (1 : Int32)), (3, .int (1 : Int32))], [.int (1 : Int32)]) (HH I2 J2 R T) _
      refine Z_rI rfl (by first | exact am_nw0 _ | exact am_nw01 | rfl | assumption) ?_
      exact ⟨I2, J2, _, rfl, U2, rfl⟩
theorem m_readsSumsD {D : FD} {nn : Nat} {I : hI} {J : hJ} (hM : MT tx c I) (hD : DMf D I) (hs : sQ tx c D.1 12 0 (tS tx c 0) = .inr nn) : Ze sc (d + 9) 196 [.ref 73, .ref 78, .int 1] (HH I J R T) (ZQ I J R T) := by
  refine Ze_of (Nat.le_of_ble_eq_true rfl) ?_
  refine Z_jump 3 rfl ?_
  show Zs _ _ (am_P 196).2 (5, [(0, .ref 73), (1, .ref 78), (2, .int (1 : Int32))], []) (HH (sf I 73 27 (1 : Int32)) J R T) _
  refine Z_jump 3 rfl ?_
  show Zs _ _ (am_P 196).2 (10, [(0, .ref 73), (1, .ref 78), (2, .int (1 : Int32))], []) (HH (sf (sf I 73 27 (1 : Int32)) 73 28 (0 : Int32)) J R T) _
  refine Z_jump 3 rfl ?_
  show Zs _ _ (am_P 196).2 (15, [(0, .ref 73), (1, .ref 78), (2, .int (1 : Int32))], []) (HH (sf (sf (sf I 73 27 (1 : Int32)) 73 28 (0 : Int32)) 73 14 (0 : Int32)) J R T) _
  refine Z_jump 3 rfl ?_
  show Zs _ _ (am_P 196).2 (20, [(0, .ref 73), (1, .ref 78), (2, .int (1 : Int32))], []) (HH (sf (sf (sf (sf I 73 27 (1 : Int32)) 73 28 (0 : Int32)) 73 14 (0 : Int32)) 73 22 (0 : Int32)) J R T) _
  refine Z_jump 2 rfl ?_
  show Zs _ _ (am_P 196).2 (22, [(0, .ref 73), (1, .ref 78), (2, .int (1 : Int32)), (3, .int (1 : Int32))], []) (HH (sf (sf (sf (sf I 73 27 (1 : Int32)) 73 28 (0 : Int32)) 73 14 (0 : Int32)) 73 22 (0 : Int32)) J R T) _
  have U0 : UW I J (sf (sf (sf (sf I 73 27 1) 73 28 0) 73 14 0) 73 22 0) J := UW_t (UW_t (UW_f (J := J) (by omega)) (UW_f (J := J) (by omega))) (UW_t (UW_f (J := J) (by omega)) (UW_f (by omega)))
  exact Zs_mono (m_rd_l 12 0 0 _ J (by omega) (Nat.zero_le _) (MT_W hM U0) (DM_W hD U0) rfl rfl rfl rfl hs) (fun r h' qq => ZQ_t U0 qq)
/-- run -/
def RUm (tx : Nat → Nat) (c : Nat) (D : FD) (u m : Nat) (I : hI) (J : hJ) (R : hR) (T : am_H) (r : Option Value) (h : am_H) : Prop :=
  (∃ p I1 J1, sQ tx c D.1 12 0 (tS tx c 0) = .inl p ∧ UC I J I1 J1 ∧ r = some (.int (-4)) ∧ h = HH I1 J1 R T) ∨
  (∃ nn I1 J1 I2 I3 J3 v, sQ tx c D.1 12 0 (tS tx c 0) = .inr nn ∧ UC I J I1 J1 ∧ RMm u m I1 I2 ∧ UW I2 J1 I3 J3 ∧ r = some (.int v) ∧ h = HH (sf I3 73 12 0) J3 R T)
theorem MT_rm {I I2 : hI} {u m : Nat} (hM : MT tx c I) (h : RMm u m I I2) : MT tx c I2 := MT_of hM (h.2.2.1 12 (by decide) (by decide)) (h.1 _ (by decide) (by decide))
theorem m_run {D : FD} {u m : Nat} {I : hI} {J : hJ} (hM : MT tx c I) (hD : DMf D I) (hu : I 73 36 = nI u) (h8 : u < 8) (hm : I 73 35 = nI m) (hm8 : m ≤ 8) : Ze sc (d + 10) 199 [.ref 73] (HH I J R T) (RUm tx c D u m I J R T) := by
  refine Ze_of (Nat.le_of_ble_eq_true rfl) ?_
  refine Z_jump 4 rfl ?_
  refine Z_cQ rfl rfl rfl (Ze_deep (d := d + 7) (by omega) (m_readsSumsC (d := d) hM hD.1 hD.2.1)) (fun v h1 hq => ?_)
  obtain ⟨I1, J1, rfl, u1, t1, hq⟩ := hq
  rcases hs : sQ tx c D.1 12 0 (tS tx c 0) with p | nn
  · rw [hs] at hq
    obtain ⟨q1, rfl, q3⟩ := hq
    refine Z_jump 2 rfl ?_
    exact Z_rI rfl rfl (Or.inl ⟨p, I1, J1, hs, u1, rfl, rfl⟩)
  · rw [hs] at hq
    obtain ⟨rfl, q3⟩ := hq
    have hu1 : I1 73 36 = nI u := (u1.2.1 36 (by decide) (by decide) (by decide) (by decide) (by decide) (by decide) (by decide) (by decide) (by decide)).trans hu
    have hm1 : I1 73 35 = nI m := (u1.2.1 35 (by decide) (by decide) (by decide) (by decide) (by decide) (by decide) (by decide) (by decide) (by decide)).trans hm
    show Zs _ _ _ (9, [(0, .ref 73)], [.int 1]) _ _
    refine Z_jump 2 rfl ?_
    show Zs _ _ (am_P 199).2 (16, [(0, .ref 73)], [.ref 73]) (HH I1 J1 R T) _
    refine Z_cQ rfl rfl rfl (Ze_deep (d := 1) (by omega) (m_remember (d := 0) hu1 h8 hm1 hm8)) (fun v h1 hq => ?_)
    obtain ⟨rfl, I2, rfl, hq⟩ := hq
    have hD2 : DMf D I2 := DM_rm (DM_W hD (UW_C u1)) hq
    have hM2 : MT tx c I2 := MT_rm (MT_C hM u1) hq
    show Zs _ _ (am_P 199).2 (19, [(0, .ref 73)], []) (HH I2 J1 R T) _
    refine Z_jump 4 rfl ?_
    show Zs _ _ (am_P 199).2 (25, [(0, .ref 73)], [.int (1 : Int32), .ref 78, .ref 73]) (HH I2 J1 R T) _
    refine Z_cQ rfl rfl rfl (m_readsSumsD (d := d) hM2 hD2 hs) (fun v h1 hq => ?_)
    obtain ⟨I3, J3, v3, rfl, u3, rfl⟩ := hq
    show Zs _ _ (am_P 199).2 (28, [(0, .ref 73)], [.int v3]) (HH I3 J3 R T) _
    refine Z_jump 4 rfl ?_
    show Zs _ _ (am_P 199).2 (34, [(0, .ref 73)], []) (HH (sf I3 73 12 (0 : Int32)) J3 R T) _
    refine Z_jump 2 rfl ?_
    show Zs _ _ (am_P 199).2 (38, [(0, .ref 73)], [.int (I3 73 22)]) (HH (sf I3 73 12 (0 : Int32)) J3 R T) _
    refine Z_rI rfl (by first | exact am_nw0 _ | exact am_nw01 | rfl | assumption) ?_
    exact Or.inr ⟨nn, I1, J1, I2, I3, J3, _, hs, u1, hq, u3, rfl, rfl⟩
end MR2

