/-! run: both sides do the same statements. -/
section RVN
variable {sc : Nat × (Nat → Int32)} {d : Nat} {R : hR} {T : am_H} {Q : Option Value → am_H → Prop} {tx : Nat → Nat} {c : Nat}
/-- a standing of the class made of a row -/
def fic (r : Nat → Int32) : hI := fun a j => if a = 23 then r j else if a = 24 then r (6 + j) else if j = 2 then r 12 else r 13
theorem fic_r (r : Nat → Int32) : ∀ j, j < 14 → Cr 22 (fic r) j = r j := row14 (fun i hi => by rw [Cr_l hi]; rfl) (fun i hi => by rw [Cr_h hi]; rfl) (by rw [Cr_s]; rfl) (by rw [Cr_t]; rfl)
theorem num_LB {D : FD} {I : hI} (hD : DMf D I) (hW : WR D (I 78)) : LBd (M_nl I 78 D.1 0) := by
  obtain ⟨_, e, b⟩ := num_eq (o := 78) hD.2.1 hD hW (fic_r _) (fun j _ => rfl)
  rw [e]
  exact LBd_n (by omega)
theorem rs_WR {D : FD} {I : hI} {J : hJ} {num vl : Int64} {vb : Nat} (hD : DMf D I) (hW : WR D (I 78)) (h4 : vb = 4 → ∃ k, k < D.1 ∧ vl.toInt32 = nI k) (hb : vb ≤ 4) : WR D (rsF I J D num vb vl).2 := by
  have h6 := hD.2.1
  have S : ∀ V, WR D ((seF I J D 78 V).2.1 78) := fun V => by
    obtain ⟨_, _, r', w, _, e⟩ := set_row (a := 22) (J1 := J) (V := V) (by decide) (Or.inl rfl) h6 hD hW (fic_r _) (fun j _ => rfl)
    exact WR_of w e
  unfold rsF
  by_cases c0 : vb = 0
  · rw [if_pos c0]; exact S _
  · rw [if_neg c0]
    by_cases c1 : vb = 1
    · rw [if_pos c1]; exact S _
    · rw [if_neg c1]
      by_cases c2 : vb = 2
      · rw [if_pos c2]; exact S _
      · rw [if_neg c2]
        by_cases c3 : vb = 3
        · rw [if_pos c3]
          obtain ⟨r', w, _, e⟩ := clear_row (Or.inl rfl) h6 hD hW (fic_r _) (fun j _ => rfl)
          exact WR_of w e
        · rw [if_neg c3]
          obtain ⟨k, hk, e⟩ := h4 (by omega)
          rw [e, nI_clamp (by omega)]
          obtain ⟨_, _, r', w, _, e⟩ := carry_row (a := 22) (o := 78) (by decide) h6 hD hW hk (fic_r _) (fun j _ => rfl)
          exact WR_of w e
def ZV (tx : Nat → Nat) (c : Nat) (D : FD) (k j s : Nat) (I0 : hI) (J0 : hJ) (R : hR) (T : am_H) (r : Option Value) (h : am_H) : Prop := ∃ I J jj v, h = HH I J R T ∧ UW I0 J0 I J ∧ r = some (.int v) ∧ I 73 22 = nI jj ∧ jj ≤ 12 ∧ RM2 tx c D k j s I0 jj (I 78)
theorem m_rdV {D : FD} {nn : Nat} : ∀ (k j i : Nat) (I : hI) (J : hJ), j + k = 12 → i ≤ c → MT tx c I → DMf D I → WR D (I 78) → I 73 27 = 1 → I 73 28 = 0 → I 73 14 = nI i → I 73 22 = nI j → sQ tx c D.1 k j (tS tx c i) = .inr nn → Zs sc (d + 8) (am_P 196).2 (22, [(0, .ref 73), (1, .ref 78), (2, .int 1), (3, .int 1)], []) (HH I J R T) (ZV tx c D k j (tS tx c i) I J R T)
  | 0, j, i, I, J, hj, hi, hM, hD, hW, hd, ht, h14, h22, hs => by cases hs
  | k + 1, j, i, I, J, hj, hi, hM, hD, hW, hd, ht, h14, h22, hs => by
    have hS := tS_c (tx := tx) hi
    have h255 := hM.2.2.2
    have hnb := num_LB hD hW
    obtain ⟨s2, hp, hs2⟩ := sQ_i hs
    have hst := sStmt_sP (tx := tx) (c := c) (n := D.1) (num := M_nl I 78 D.1 0) (s := tS tx c i)
    rw [hp] at hst
    rcases hq0 : sStmt tx c D.1 (M_nl I 78 D.1 0) (tS tx c i) with p | q
    · rw [hq0] at hst; cases hst
    rw [hq0] at hst
    have es : q.1 = s2 := by cases hst; rfl
    have hvb := sStmt_vb hD.2.1 hq0
    refine Z_jump 3 rfl ?_
    show Zs _ _ (am_P 196).2 (27, [(0, .ref 73), (1, .ref 78), (2, .int (1 : Int32)), (3, .int (1 : Int32))], [.ref 73]) (HH I J R T) _
    refine Z_cQ rfl rfl rfl (m_reads (d := d + 4) hM h14 hi) (fun v h1 hq => ?_)
    obtain ⟨rfl, I1, J1, rfl, u1, g15, g14, gK⟩ := hq
    show Zs _ _ (am_P 196).2 (30, [(0, .ref 73), (1, .ref 78), (2, .int (1 : Int32)), (3, .int (1 : Int32))], []) (HH I1 J1 R T) _
    refine Z_jump 2 rfl ?_
    show Zs _ _ (am_P 196).2 (32, [(0, .ref 73), (1, .ref 78), (2, .int (1 : Int32)), (3, .int (1 : Int32))], [.ref 78, .ref 73]) (HH I1 J1 R T) _
    have hd1 : I1 73 27 = 1 := (u1.2.1 27 (by decide) (by decide) (by decide) (by decide) (by decide)).trans hd
    have ht1 : I1 73 28 = 0 := (u1.2.1 28 (by decide) (by decide) (by decide) (by decide) (by decide)).trans ht
    have h221 : I1 73 22 = nI j := (u1.2.1 22 (by decide) (by decide) (by decide) (by decide) (by decide)).trans h22
    have e5 : I1 78 = I 78 := u1.1 78 (by decide)
    have enum : M_nl I1 78 D.1 0 = M_nl I 78 D.1 0 := M_nl_c e5 (u1.1 _ (by decide)) (u1.1 _ (by decide)) (u1.1 _ (by decide)) D.1 0
    refine Z_cQ rfl rfl rfl (m_rsV (d := d) (MT_R hM u1) (DM_W hD (UW_R u1)) enum hnb hd1 ht1 ⟨hS, g15, g14, gK⟩ hq0) (fun v h1 hq => ?_)
    obtain ⟨I2, J2, rfl, u2, t2, e27, e22, rfl, hT, hDO⟩ := hq
    rw [e5] at hDO
    rw [es] at hT
    have U2 : UW I J I2 J2 := UW_t (UW_R u1) u2
    have hd2 : I2 73 27 = 1 := e27.trans hd1
    have n22 : I2 73 22 + 1 = nI (j + 1) := by rw [e22, h221]; exact nI_1 j
    obtain ⟨q1, q15, q14, qK⟩ := id hT
    have k59 := RD_c (t := 59) h255 qK (by omega) (by omega) (by omega)
    by_cases hb : I2 73 28 = 0
    · have hW2 : WR D (I2 78) := by
        rcases hDO with ⟨_, z, _⟩ | ⟨_, Ia, Ja, ea, hDa, eb, _⟩
        · rw [hb] at z; exact absurd z (by decide)
        · rw [eb]
          exact rs_WR hDa (by rw [ea]; exact hW) hvb.2 hvb.1
      have fin : s2 = c ∨ (I2 73 16 = 59 ∧ ¬ (12 : Int32) ≤ I2 73 22 + 1) := by
        rcases hs2 with z | ⟨z1, z2, z3, z4⟩
        · exact Or.inl z
        · refine Or.inr ⟨k59.mpr ⟨by omega, z2⟩, ?_⟩
          rw [n22]
          exact nI_ge (b := 12) (by omega) (by omega)
      have E : s2 = c → ∀ v : Int32, ZV tx c D (k + 1) j (tS tx c i) I J R T (some (.int v)) (HH (sf I2 73 22 (I2 73 22 + 1)) J2 R T) := fun z v => ⟨_, J2, j + 1, v, rfl, UW_t U2 (UW_f (by omega)), rfl, by rw [sf_s]; exact n22, by omega, I2, q, hD, hq0, hDO, Or.inr ⟨hb, Or.inl ⟨es.trans z, rfl, sf_c (by decide)⟩⟩⟩
      refine Z_jump 4 rfl ?_
      refine Z_bd (fun c44 => ?_) (fun c44 => absurd (hb) c44)
      refine Z_jump 6 rfl ?_
      show Zs _ _ (am_P 196).2 (59, [(0, .ref 73), (1, .ref 78), (2, .int (1 : Int32)), (3, .int (1 : Int32))], []) (HH (sf I2 73 22 ((I2 73 22) + (1 : Int32))) J2 R T) _
      refine Z_jump 4 rfl ?_
      refine Z_bn (fun (c65 : ¬ ((I2 73 16) = (59 : Int32))) => ?_) (fun (c65 : (I2 73 16) = (59 : Int32)) => ?_)
      · refine Z_jump 9 rfl ?_
        refine Z_bn (fun (c91 : ¬ ((I2 73 16) = (-1 : Int32))) => ?_) (fun (c91 : (I2 73 16) = (-1 : Int32)) => ?_)
        · refine Z_jump 1 rfl ?_
          show Zs _ _ (am_P 196).2 (99, [(0, .ref 73), (1, .ref 78), (2, .int (1 : Int32)), (3, .int (0 : Int32))], [.int (0 : Int32)]) (HH (sf I2 73 22 ((I2 73 22) + (1 : Int32))) J2 R T) _
          refine Z_rI rfl (by first | exact am_nw0 _ | exact am_nw01 | rfl | assumption) ?_
          exact E (fin.resolve_right (fun z => by first | exact absurd z.1 c65 | exact absurd c74 z.2)) _
        · refine Z_jump 2 rfl ?_
          show Zs _ _ (am_P 196).2 (99, [(0, .ref 73), (1, .ref 78), (2, .int (1 : Int32)), (3, .int (0 : Int32))], [.int (1 : Int32)]) (HH (sf I2 73 22 ((I2 73 22) + (1 : Int32))) J2 R T) _
          refine Z_rI rfl (by first | exact am_nw0 _ | exact am_nw01 | rfl | assumption) ?_
          exact E (fin.resolve_right (fun z => by first | exact absurd z.1 c65 | exact absurd c74 z.2)) _
      · refine Z_jump 4 rfl ?_
        refine Z_bd (fun (c74 : (12 : Int32) ≤ ((I2 73 22) + (1 : Int32))) => ?_) (fun (c74 : ¬ ((12 : Int32) ≤ ((I2 73 22) + (1 : Int32)))) => ?_)
        · refine Z_jump 9 rfl ?_
          refine Z_bn (fun (c91 : ¬ ((I2 73 16) = (-1 : Int32))) => ?_) (fun (c91 : (I2 73 16) = (-1 : Int32)) => ?_)
          · refine Z_jump 1 rfl ?_
            show Zs _ _ (am_P 196).2 (99, [(0, .ref 73), (1, .ref 78), (2, .int (1 : Int32)), (3, .int (0 : Int32))], [.int (0 : Int32)]) (HH (sf I2 73 22 ((I2 73 22) + (1 : Int32))) J2 R T) _
            refine Z_rI rfl (by first | exact am_nw0 _ | exact am_nw01 | rfl | assumption) ?_
            exact E (fin.resolve_right (fun z => by first | exact absurd z.1 c65 | exact absurd c74 z.2)) _
          · refine Z_jump 2 rfl ?_
            show Zs _ _ (am_P 196).2 (99, [(0, .ref 73), (1, .ref 78), (2, .int (1 : Int32)), (3, .int (0 : Int32))], [.int (1 : Int32)]) (HH (sf I2 73 22 ((I2 73 22) + (1 : Int32))) J2 R T) _
            refine Z_rI rfl (by first | exact am_nw0 _ | exact am_nw01 | rfl | assumption) ?_
            exact E (fin.resolve_right (fun z => by first | exact absurd z.1 c65 | exact absurd c74 z.2)) _
        · refine Z_jump 4 rfl ?_
          show Zs _ _ (am_P 196).2 (22, [(0, .ref 73), (1, .ref 78), (2, .int (1 : Int32)), (3, .int (1 : Int32))], []) (HH (sf I2 73 22 ((I2 73 22) + (1 : Int32))) J2 R T) _
          have h12 : j + 1 < 12 := by have c2 : ¬ (12 : Int32) ≤ I2 73 22 + 1 := c74; rw [n22] at c2; have := mt (nI_leI (a := 12) (by omega) (by omega)).mpr c2; omega
          have h9 := k59.mp c65
          rcases hs2 with z | ⟨z1, z2, z3, z4⟩
          · exact absurd z (by omega)
          have U3 : UW I J (sf I2 73 22 (I2 73 22 + 1)) J2 := UW_t U2 (UW_f (by omega))
          refine Zs_mono (m_rdV k (j + 1) (tE tx c s2) (sf I2 73 22 (I2 73 22 + 1)) J2 (by omega) (tE_c q1).2 (MT_W hM U3) (DM_W hD U3) hW2 hd2 hb q14 n22 z4) (fun r h' qq => ?_)
          obtain ⟨I4, J4, jj, v4, rfl, u4, rfl, e4, l4, r4⟩ := qq
          exact ⟨I4, J4, jj, v4, rfl, UW_t U3 u4, rfl, e4, l4, I2, q, hD, hq0, hDO, Or.inr ⟨hb, Or.inr ⟨by rw [es]; exact h9.1, by rw [es]; exact h9.2, h12, sf I2 73 22 (I2 73 22 + 1), sf_c (by decide), by rw [es]; exact r4⟩⟩⟩
    · have hb1 : I2 73 28 = 1 := t2.1.resolve_left hb
      refine Z_jump 4 rfl ?_
      refine Z_bd (fun c44 => absurd c44 (hb)) (fun c44 => ?_)
      refine Z_jump 1 rfl ?_
      show Zs _ _ (am_P 196).2 (48, [(0, .ref 73), (1, .ref 78), (2, .int (1 : Int32)), (3, .int (1 : Int32))], [.int (1 : Int32)]) (HH I2 J2 R T) _
      refine Z_rI rfl (by first | exact am_nw0 _ | exact am_nw01 | rfl | assumption) ?_
      exact ⟨I2, J2, j, _, rfl, U2, rfl, e22.trans h221, by omega, I2, q, hD, hq0, hDO, Or.inl ⟨hb1, rfl, rfl⟩⟩
theorem m_readsSumsV {D : FD} {nn : Nat} {I : hI} {J : hJ} (hM : MT tx c I) (hD : DMf D I) (hW : WR D (I 78)) (hs : sQ tx c D.1 12 0 (tS tx c 0) = .inr nn) : Ze sc (d + 9) 196 [.ref 73, .ref 78, .int 1] (HH I J R T) (fun r h => ∃ I0, I0 78 = I 78 ∧ UW I J I0 J ∧ ZV tx c D 12 0 (tS tx c 0) I0 J R T r h) := by
  refine Ze_of (Nat.le_of_ble_eq_true rfl) ?_
  refine Z_jump 3 rfl ?_
  show Zs _ _ (am_P 196).2 (5, [(0, .ref 73), (1, .ref 78), (2, .int (1 : Int32))], []) (HH (sf I 73 27 (1 : Int32)) J R T) _
  refine Z_jump 3 rfl ?_
  show Zs _ _ (am_P 196).2 (10, [(0, .ref 73), (1, .ref 78), (2, .int (1 : Int32))], []) (HH (sf (sf I 73 27 (1 : Int32)) 73 28 (0 : Int32)) J R T) _
  refine Z_jump 3 rfl ?_
  show Zs _ _ (am_P 196).2 (15, [(0, .ref 73), (1, .ref 78), (2, .int (1 : Int32))], []) (HH (sf (sf (sf I 73 27 (1 : Int32)) 73 28 (0 : Int32)) 73 14 (0 : Int32)) J R T) _
  refine Z_jump 3 rfl ?_
  show Zs _ _ (am_P 196).2 (20, [(0, .ref 73), (1, .ref 78), (2, .int (1 : Int32))], []) (HH (sf (sf (sf (sf I 73 27 (1 : Int32)) 73 28 (0 : Int32)) 73 14 (0 : Int32)) 73 22 (0 : Int32)) J R T) _
  refine Z_jump 2 rfl ?_
  show Zs _ _ (am_P 196).2 (22, [(0, .ref 73), (1, .ref 78), (2, .int (1 : Int32)), (3, .int (1 : Int32))], []) (HH (sf (sf (sf (sf I 73 27 (1 : Int32)) 73 28 (0 : Int32)) 73 14 (0 : Int32)) 73 22 (0 : Int32)) J R T) _
  have U0 : UW I J (sf (sf (sf (sf I 73 27 1) 73 28 0) 73 14 0) 73 22 0) J := UW_t (UW_t (UW_f (J := J) (by omega)) (UW_f (J := J) (by omega))) (UW_t (UW_f (J := J) (by omega)) (UW_f (by omega)))
  have e5 : sf (sf (sf (sf I 73 27 1) 73 28 0) 73 14 0) 73 22 0 78 = I 78 := by rw [sf_c (by decide), sf_c (by decide), sf_c (by decide), sf_c (by decide)]
  exact Zs_mono (m_rdV 12 0 0 _ J (by omega) (Nat.zero_le _) (MT_W hM U0) (DM_W hD U0) (by rw [e5]; exact hW) rfl rfl rfl rfl hs) (fun r h' qq => ⟨_, e5, U0, qq⟩)
/-- run -/
def RUv (tx : Nat → Nat) (c : Nat) (D : FD) (u m : Nat) (I : hI) (J : hJ) (R : hR) (T : am_H) (r : Option Value) (h : am_H) : Prop :=
  (∃ p I1 J1, sQ tx c D.1 12 0 (tS tx c 0) = .inl p ∧ UC I J I1 J1 ∧ r = some (.int (-4)) ∧ h = HH I1 J1 R T) ∨
  (∃ nn I1 J1 I2 I0 I3 J3 jj, sQ tx c D.1 12 0 (tS tx c 0) = .inr nn ∧ UC I J I1 J1 ∧ RMm u m I1 I2 ∧ I0 78 = I2 78 ∧ UW I2 J1 I3 J3 ∧ RM2 tx c D 12 0 (tS tx c 0) I0 jj (I3 78) ∧ jj ≤ 12 ∧ r = some (.int (nI jj)) ∧ h = HH (sf I3 73 12 0) J3 R T)
theorem m_runV {D : FD} {u m : Nat} {I : hI} {J : hJ} (hM : MT tx c I) (hD : DMf D I) (hW : WR D (I 78)) (hu : I 73 36 = nI u) (h8 : u < 8) (hm : I 73 35 = nI m) (hm8 : m ≤ 8) : Ze sc (d + 10) 199 [.ref 73] (HH I J R T) (RUv tx c D u m I J R T) := by
  refine Ze_of (Nat.le_of_ble_eq_true rfl) ?_
  refine Z_jump 4 rfl ?_
  refine Z_cQ rfl rfl rfl (Ze_deep (d := d + 7) (by omega) (m_readsSumsC (d := d) hM hD.1 hD.2.1)) (fun v h1 hq => ?_)
  obtain ⟨I1, J1, rfl, u1, t1, hq⟩ := hq
  rcases hs : sQ tx c D.1 12 0 (tS tx c 0) with p | nn
  · rw [hs] at hq
    obtain ⟨q1, rfl, q3⟩ := hq
    refine Z_jump 2 rfl ?_
    exact Z_rI rfl rfl (Or.inl ⟨p, I1, J1, hs, u1, rfl, rfl⟩)
  · rw [hs] at hq
    obtain ⟨rfl, q3⟩ := hq
    have hu1 : I1 73 36 = nI u := (u1.2.1 36 (by decide) (by decide) (by decide) (by decide) (by decide) (by decide) (by decide) (by decide) (by decide)).trans hu
    have hm1 : I1 73 35 = nI m := (u1.2.1 35 (by decide) (by decide) (by decide) (by decide) (by decide) (by decide) (by decide) (by decide) (by decide)).trans hm
    have e51 : I1 78 = I 78 := u1.1 78 (by decide) (by decide) (by decide)
    show Zs _ _ _ (9, [(0, .ref 73)], [.int 1]) _ _
    refine Z_jump 2 rfl ?_
    show Zs _ _ (am_P 199).2 (16, [(0, .ref 73)], [.ref 73]) (HH I1 J1 R T) _
    refine Z_cQ rfl rfl rfl (Ze_deep (d := 1) (by omega) (m_remember (d := 0) hu1 h8 hm1 hm8)) (fun v h1 hq => ?_)
    obtain ⟨rfl, I2, rfl, hq⟩ := hq
    have hD2 : DMf D I2 := DM_rm (DM_W hD (UW_C u1)) hq
    have hM2 : MT tx c I2 := MT_rm (MT_C hM u1) hq
    have hW2 : WR D (I2 78) := by rw [hq.1 78 (by decide) (by decide), e51]; exact hW
    show Zs _ _ (am_P 199).2 (19, [(0, .ref 73)], []) (HH I2 J1 R T) _
    refine Z_jump 4 rfl ?_
    show Zs _ _ (am_P 199).2 (25, [(0, .ref 73)], [.int (1 : Int32), .ref 78, .ref 73]) (HH I2 J1 R T) _
    refine Z_cQ rfl rfl rfl (m_readsSumsV (d := d) hM2 hD2 hW2 hs) (fun v h1 hq => ?_)
    obtain ⟨I0, e0, U0, I3, J3, jj, v3, rfl, u3, rfl, e22, l12, hr⟩ := hq
    show Zs _ _ (am_P 199).2 (28, [(0, .ref 73)], [.int v3]) (HH I3 J3 R T) _
    refine Z_jump 4 rfl ?_
    show Zs _ _ (am_P 199).2 (34, [(0, .ref 73)], []) (HH (sf I3 73 12 (0 : Int32)) J3 R T) _
    refine Z_jump 2 rfl ?_
    show Zs _ _ (am_P 199).2 (38, [(0, .ref 73)], [.int (I3 73 22)]) (HH (sf I3 73 12 (0 : Int32)) J3 R T) _
    refine Z_rI rfl (by first | exact am_nw0 _ | exact am_nw01 | rfl | assumption) ?_
    exact Or.inr ⟨nn, I1, J1, I2, I0, I3, J3, jj, hs, u1, hq, e0, UW_t U0 u3, hr, l12, by rw [← e22], rfl⟩
/-- one statement -/
theorem ds_row {D : FD} {r : Nat → Int32} {I1 I2 : hI} {num : Int64} {q : Nat × Nat × Int64 × Int32} (h6 : D.1 ≤ 6) (hW : WR D r) (hc : ∀ j, j < 14 → Cr 22 I1 j = r j) (hnum : cnl I1 D D.1 0 0 1 = num) (hb : q.2.1 ≤ 4) (h4 : q.2.1 = 4 → ∃ k, k < D.1 ∧ q.2.2.1.toInt32 = nI k) (r0 : Nat → Int32) (hr0 : ∀ j, j < 14 → r0 j = r j) (h : DOm D num q r0 I2) : ∃ r', WR D r' ∧ (∀ j, j < 14 → Cr 22 (dsF I1 D q.2.1 q.2.2.1 q.2.2.2).2 j = r' j) ∧ (∀ j, j < 14 → I2 78 j = r' j) ∧ (((dsF I1 D q.2.1 q.2.2.1 q.2.2.2).1 = 0 ∧ I2 73 28 = 1) ∨ ((dsF I1 D q.2.1 q.2.2.1 q.2.2.2).1 = 1 ∧ I2 73 28 = 0)) := by
  obtain ⟨s2, vb, vl, fl⟩ := q
  dsimp only at hb h4 h ⊢
  rcases h with ⟨e0, e28, e5⟩ | ⟨e1, Ia, Ja, ea, hD, e5, e28⟩
  · dsimp only at e0
    rw [e0]
    refine ⟨r, hW, hc, fun j hj => by rw [e5]; exact hr0 j hj, Or.inl ⟨rfl, e28⟩⟩
  · dsimp only at e1 e5 e28
    rw [e1]
    have hm : ∀ j, j < 14 → Ia 78 j = r j := fun j hj => by rw [ea]; exact hr0 j hj
    have fin : ∀ (w : Int32 × hI) (x : Int32) (rr : Nat → Int32), w.1 = x → (x = -1 ∨ 0 ≤ x) → (∃ r', WR D r' ∧ (∀ j, j < 14 → Cr 22 w.2 j = r' j) ∧ (∀ j, j < 14 → rr j = r' j)) → rsF Ia Ja D num vb vl = (x, rr) → ∃ r', WR D r' ∧ (∀ j, j < 14 → Cr 22 (bo w).2 j = r' j) ∧ (∀ j, j < 14 → I2 78 j = r' j) ∧ (((bo w).1 = 0 ∧ I2 73 28 = 1) ∨ ((bo w).1 = 1 ∧ I2 73 28 = 0)) := fun w x rr ew hx ⟨r', a1, a2, a3⟩ er => by
      rw [er] at e5 e28
      refine ⟨r', a1, a2, fun j hj => by rw [e5]; exact a3 j hj, ?_⟩
      unfold bo
      dsimp only
      rw [ew]
      dsimp only at e28
      rcases hx with z | z
      · rw [z] at e28
        exact Or.inl ⟨if_pos z, e28.trans (if_neg (by decide))⟩
      · have zn : ¬ x = -1 := fun y => by rw [y] at z; exact absurd z (by decide)
        exact Or.inr ⟨if_neg zn, e28.trans (if_pos z)⟩
    have S : ∀ V, rsF Ia Ja D num vb vl = ((seF Ia Ja D 78 V).1, (seF Ia Ja D 78 V).2.1 78) → _ := fun V er => by
      obtain ⟨b1, b2, b3⟩ := set_row (a := 22) (J1 := Ja) (V := V) (by decide) (Or.inl rfl) h6 hD hW hc hm
      exact fin (stF I1 D 22 V) _ _ b1 b2 b3 er
    unfold dsF
    rw [if_neg (show ¬ (1 : Int32) = 0 by decide)]
    rcases (show vb = 0 ∨ vb = 1 ∨ vb = 2 ∨ vb = 3 ∨ vb = 4 by omega) with rfl | rfl | rfl | rfl | rfl
    · rw [if_pos rfl]
      exact S _ (if_pos rfl)
    · rw [if_neg (by decide), if_pos rfl, hnum]
      exact S _ (by unfold rsF; rw [if_neg (by decide), if_pos rfl])
    · rw [if_neg (by decide), if_neg (by decide), if_pos rfl, hnum]
      exact S _ (by unfold rsF; rw [if_neg (by decide), if_neg (by decide), if_pos rfl])
    · rw [if_neg (by decide), if_neg (by decide), if_neg (by decide), if_pos rfl]
      have er : rsF Ia Ja D num 3 vl = (0, clF Ia 78 D.1 78) := by unfold rsF; rw [if_neg (by decide), if_neg (by decide), if_neg (by decide), if_pos rfl]
      rw [er] at e5 e28
      obtain ⟨r', a1, a2, a3⟩ := clear_row (Or.inl rfl) h6 hD hW hc hm
      exact ⟨r', a1, a2, fun j hj => by rw [e5]; exact a3 j hj, Or.inr ⟨rfl, e28⟩⟩
    · rw [if_neg (by decide), if_neg (by decide), if_neg (by decide), if_neg (by decide)]
      obtain ⟨k, hk, e⟩ := h4 rfl
      have ek : vl.toInt32.toNatClampNeg = k := by rw [e, nI_clamp (by omega)]
      obtain ⟨b1, b2, b3⟩ := carry_row (a := 22) (o := 78) (by decide) h6 hD hW hk hc hm
      rw [ek]
      exact fin (coF I1 D 22 k) _ _ b1 b2 b3 (by unfold rsF; rw [if_neg (by decide), if_neg (by decide), if_neg (by decide), if_neg (by decide), ek])
/-- the statements one by one -/
theorem run_row {D : FD} (h6 : D.1 ≤ 6) : ∀ (k j s : Nat) (Ic Im If : hI) (r rf : Nat → Int32) (jj jm : Nat), WR D r → (∀ j, j < 14 → Cr 22 Ic j = r j) → (∀ j, j < 14 → Im 78 j = r j) → RN tx c D k j s Ic jj If → RM2 tx c D k j s Im jm rf → jj = jm ∧ ∃ r', WR D r' ∧ (∀ j, j < 14 → Cr 22 If j = r' j) ∧ (∀ j, j < 14 → rf j = r' j)
  | 0, j, s, Ic, Im, If, r, rf, jj, jm, hW, hc, hm, h1, h2 => h1.elim
  | k + 1, j, s, Ic, Im, If, r, rf, jj, jm, hW, hc, hm, h1, h2 => by
    obtain ⟨I1, q, u1, hq, h1⟩ := h1
    obtain ⟨I2, q', hD, hq', hDO, h2⟩ := h2
    obtain ⟨n1, n2, nb⟩ := num_eq (o := 78) h6 hD hW hc hm
    rw [n1] at hq
    rw [n2] at hq' hDO
    rw [hq] at hq'
    cases hq'
    have hc1 : ∀ j, j < 14 → Cr 22 I1 j = r j := fun j hj => by
      rw [Cr_of (u1 22 (by decide) (by decide)) (u1 23 (by decide) (by decide)) (u1 24 (by decide) (by decide))]
      exact hc j hj
    obtain ⟨n3, _, _⟩ := num_eq (o := 78) h6 hD hW hc1 hm
    have hvb := sStmt_vb h6 hq
    obtain ⟨r', w', a1, a2, a3⟩ := ds_row h6 hW hc1 n3 hvb.1 hvb.2 (Im 78) hm hDO
    rcases h1 with ⟨b1, b2, b3⟩ | ⟨b1, h1⟩
    · have t1 : I2 73 28 = 1 := a3.elim (fun z => z.2) (fun z => by rw [b1] at z; exact absurd z.1 (by decide))
      rcases h2 with ⟨_, g2, g3⟩ | ⟨g1, _⟩
      · exact ⟨b2.trans g2.symm, r', w', by rw [b3]; exact a1, by rw [g3]; exact a2⟩
      · rw [t1] at g1; exact absurd g1 (by decide)
    · have t0 : I2 73 28 = 0 := a3.elim (fun z => by rw [b1] at z; exact absurd z.1 (by decide)) (fun z => z.2)
      rcases h2 with ⟨g1, _⟩ | ⟨_, h2⟩
      · rw [t0] at g1; exact absurd g1 (by decide)
      · rcases h1 with ⟨b2, b3, b4⟩ | ⟨b2, b3, b4, I3, u3, h1⟩
        · rcases h2 with ⟨g2, g3, g4⟩ | ⟨g2, _⟩
          · exact ⟨b3.trans g3.symm, r', w', by rw [b4]; exact a1, by rw [g4]; exact a2⟩
          · omega
        · rcases h2 with ⟨g2, _⟩ | ⟨g2, g3, g4, I4, u4, h2⟩
          · omega
          · refine run_row h6 k (j + 1) _ I3 I4 If r' rf jj jm w' (fun j hj => ?_) (fun j hj => ?_) h1 h2
            · rw [Cr_of (u3 22 (by decide) (by decide)) (u3 23 (by decide) (by decide)) (u3 24 (by decide) (by decide))]
              exact a1 j hj
            · rw [u4]; exact a2 j hj
end RVN

