/-! Pairs of calls (2): the text, what was seen; frame, stick, push, undo, keep, back. -/
section PR2
variable {sc : Nat × (Nat → Int32)} {d d1 d2 M1 M2 : Nat} {as1 as2 : List Value} {I I1 I2 : hI} {J J1 J2 : hJ} {R R1 : hR} {T T1 : am_H} {tx : Nat → Nat} {c : Nat} {D : FD} {m : Nat} {sn : Nat → Nat → Int32} {s : AS}
theorem ML_m0 {k0 : Nat} {I' : hI} (h : ML s I) (ea : ∀ a, a ≠ 73 → a ≠ 84 → a ≠ 96 → a ≠ 97 → a ≠ 98 → I' a = I a) (e0 : ∀ k, k ≠ k0 → I' 73 k = I 73 k) (hk : k0 = 12 ∨ k0 = 40) : ML s I' := ML_q h (ea _ (by decide) (by decide) (by decide) (by decide) (by decide)) (ea _ (by decide) (by decide) (by decide) (by decide) (by decide)) (ea _ (by decide) (by decide) (by decide) (by decide) (by decide)) (ea _ (by decide) (by decide) (by decide) (by decide) (by decide)) (e0 _ (by omega)) (e0 _ (by omega))
theorem p_erase (h : LI I R T) : Ze sc (d1 + 1) 92 [.ref 0] (HH I J R T) (PI True sc (d2 + 1) 175 [.ref 73] T) := by
  obtain ⟨tx, c, D, m, sn, s, hC, hM, hW, hS⟩ := h
  have e1 := c_erase (sc := sc) (d := d1) (I := I) (J := J) (R := R) (T := T)
  obtain ⟨_, xT, hI, hP⟩ := cs_at (cs_erase hC.1) e1
  have e2 := m_erase (sc := sc) (d := d2) (I := sf I 1 1 0) (J := J) (R := R) (T := T)
  obtain ⟨_, hN⟩ := ms_at (ms_erase (hP _ _ _ _ _ hM.1)) e2
  refine PI_mk e1 e2 xT (fun _ => ?_) (LI_mk hI (CL_0 hC.2 (fun a ha => sf_c (by omega)) (by rw [sf_c (by decide)]) (by rw [sf_c (by decide)])) (fun a ha => up_ne (by omega)) hN (ML_m0 (k0 := 12) (ML_k hM.2 (I' := sf I 1 1 0) (fun a ha => sf_c (by omega))) (fun a x _ _ _ _ => up_ne x) (fun k hk => by rw [up_same, up_ne hk]) (Or.inl rfl)) hW hS)
  rw [hC.1.1.1, sf_c (by decide), hM.1.1.1]
theorem p_forget (h : LI I R T) : Ze sc (d1 + 1) 114 [.ref 0] (HH I J R T) (PI True sc (d2 + 1) 222 [.ref 73] T) := by
  obtain ⟨tx, c, D, m, sn, s, hC, hM, hW, hS⟩ := h
  have e1 := c_forget (sc := sc) (d := d1) (I := I) (J := J) (R := R) (T := T)
  obtain ⟨_, xT, hI, hP⟩ := cs_at (cs_forget hC.1) e1
  have e2 := m_forget (sc := sc) (d := d2) (I := sf I 0 15 0) (J := J) (R := R) (T := T)
  obtain ⟨_, hN⟩ := ms_at (ms_forget (hP _ _ _ _ _ hM.1)) e2
  refine PI_mk e1 e2 xT (fun _ => ?_) (LI_mk hI (CL_0 hC.2 (fun a ha => sf_c (by omega)) (by rw [sf_k (by decide)]) (by rw [sf_k (by decide)])) (fun a ha => up_ne (by omega)) hN (ML_m0 (k0 := 40) (ML_k hM.2 (I' := sf I 0 15 0) (fun a ha => sf_c (by omega))) (fun a x _ _ _ _ => up_ne x) (fun k hk => by rw [up_same, up_ne hk]) (Or.inr rfl)) hW ⟨SO_0 sn, hS.2⟩)
  rw [hC.1.2.2.1.1, sf_c (by decide), hM.1.2.2.1.1]
theorem p_write {v : Int32} (h : LI I R T) : Ze sc (d1 + 3) 91 [.ref 0, .int v] (HH I J R T) (PI True sc (d2 + 2) 174 [.ref 73, .int v] T) := by
  obtain ⟨tx, c, D, m, sn, s, hC, hM, hW, hS⟩ := h
  have e1 := c_write (sc := sc) (d := d1) (J := J) (R := R) (T := T) (v := v) hC.1.1.1 hC.1.1.2.1
  by_cases hw : aWc c v
  · rw [if_pos (show M_let v ∧ c ≠ 160 from hw)] at e1
    obtain ⟨_, xT, hI, hP⟩ := cs_at (Ze_ip (cs_write hC.1) hw) e1
    have k1 : ∀ a, 73 ≤ a → sf (sf I 2 c v) 1 1 (nI (c + 1)) a = I a := fun a ha => by rw [sf_c (by omega), sf_c (by omega)]
    have hM1 := hP _ _ _ _ _ hM.1
    have e2 := m_write (sc := sc) (d := d2) (J := J) (R := R) (T := T) (v := v) hM1.1.1 hM1.1.2.1
    rw [if_pos (show M_let v ∧ c ≠ 160 from hw)] at e2
    obtain ⟨_, hN⟩ := ms_at (Ze_ip (ms_write hM1) hw) e2
    refine PI_mk e1 e2 xT (fun _ => rfl) (LI_mk hI (CL_0 hC.2 (fun a ha => by rw [sf_c (by omega), sf_c (by omega)]) (by rw [sf_c (by decide), sf_c (by decide)]) (by rw [sf_c (by decide), sf_c (by decide)])) (fun a ha => by rw [up_ne (by omega), up_ne (by omega)]) hN (ML_m0 (k0 := 12) (ML_k hM.2 k1) (fun a x y _ _ _ => by rw [up_ne x, up_ne y]) (fun k hk => by rw [up_same, up_ne hk]) (Or.inl rfl)) hW hS)
  · rw [if_neg (show ¬ (M_let v ∧ c ≠ 160) from hw)] at e1
    have e2 := m_write (sc := sc) (d := d2) (J := J) (R := R) (T := T) (v := v) hM.1.1.1 hM.1.1.2.1
    rw [if_neg (show ¬ (M_let v ∧ c ≠ 160) from hw)] at e2
    exact pq_i hC hM hW hS (Ze_in (cs_write hC.1) hw) e1 (kQ_0 I) (fun z => Ze_in (ms_write z) hw) e2 (kR_0 I) (fun _ => rfl)
theorem p_seen {x v t : Int32} (h : LI I R T) : Ze sc (d1 + 2) 113 [.ref 0, .int x, .int v, .int t] (HH I J R T) (PI True sc (d2 + 3) 221 [.ref 73, .int x, .int v, .int t] T) := by
  obtain ⟨tx, c, D, m, sn, s, hC, hM, hW, hS⟩ := h
  have e1 := c_seen (sc := sc) (d := d1) (J := J) (x := x) (v := v) (t := t) hC.1.2.1 hC.1.2.2.1.1 hC.1.2.2.1.2.1
  by_cases hs : snP D m x v t
  · rw [if_pos (show M_rod D.1 x ∧ seenOk v t ∧ m ≠ 6 from hs)] at e1
    obtain ⟨_, xT, hI, hP⟩ := cs_at (Ze_ip (cs_seen hC.1) hs) e1
    have k1 : ∀ a, 73 ≤ a → sf (sf (sf (sf I 70 m x) 71 m v) 72 m t) 0 15 (nI (m + 1)) a = I a := fun a ha => by rw [sf_c (by omega), sf_c (by omega), sf_c (by omega), sf_c (by omega)]
    have hM1 := hP _ _ _ _ _ hM.1
    have e2 := m_seen (sc := sc) (d := d2) (J := J) (R := R) (T := T) (x := x) (v := v) (t := t) hM1.2.1.1 hM1.2.1.2.1 hM1.2.2.1.1 hM1.2.2.1.2.1
    rw [if_pos (show M_rod D.1 x ∧ seenOk v t ∧ m ≠ 6 from hs)] at e2
    obtain ⟨_, hN⟩ := ms_at (Ze_ip (ms_seen hM1) hs) e2
    refine PI_mk e1 e2 xT (fun _ => rfl) (LI_mk hI (CL_0 hC.2 (fun a ha => by rw [sf_c (by omega), sf_c (by omega), sf_c (by omega), sf_c (by omega)]) (by rw [sf_k (by decide), sf_c (by decide), sf_c (by decide), sf_c (by decide)]) (by rw [sf_k (by decide), sf_c (by decide), sf_c (by decide), sf_c (by decide)])) (fun a ha => by rw [sf_c (by omega), sf_c (by omega), sf_c (by omega), sf_c (by omega)]) hN (ML_m0 (k0 := 40) (ML_k hM.2 k1) (fun a x y z1 z2 z3 => by rw [sf_c x, sf_c z3, sf_c z2, sf_c z1]) (fun k hk => by rw [sf_k hk, sf_c (by decide), sf_c (by decide), sf_c (by decide)]) (Or.inr rfl)) hW ⟨SO_s hs hS.1, hS.2⟩)
  · rw [if_neg (show ¬ (M_rod D.1 x ∧ seenOk v t ∧ m ≠ 6) from hs)] at e1
    have e2 := m_seen (sc := sc) (d := d2) (J := J) (R := R) (T := T) (x := x) (v := v) (t := t) hM.1.2.1.1 hM.1.2.1.2.1 hM.1.2.2.1.1 hM.1.2.2.1.2.1
    rw [if_neg (show ¬ (M_rod D.1 x ∧ seenOk v t ∧ m ≠ 6) from hs)] at e2
    exact pq_i hC hM hW hS (Ze_in (cs_seen hC.1) hs) e1 (kQ_0 I) (fun z => Ze_in (ms_seen z) hs) e2 (kR_0 I) (fun _ => rfl)
theorem ML_um {I' : hI} {J' : hJ} (h : ML s I) (u : UM I J I' J') : ML s I' := ML_q h (u.1 _ (by decide) (by decide) (by decide) (by decide) (by decide)) (u.1 _ (by decide) (by decide) (by decide) (by decide) (by decide)) (u.1 _ (by decide) (by decide) (by decide) (by decide) (by decide)) (u.1 _ (by decide) (by decide) (by decide) (by decide) (by decide)) (u.2.1 _ (by decide) (by decide) (by decide) (by decide) (by decide) (by decide) (by decide) (by decide)) (u.2.1 _ (by decide) (by decide) (by decide) (by decide) (by decide) (by decide) (by decide) (by decide))
theorem ML_uc {I' : hI} {J' : hJ} (h : ML s I) (u : UC I J I' J') : ML s I' := ML_q h (u.1 _ (by decide) (by decide) (by decide)) (u.1 _ (by decide) (by decide) (by decide)) (u.1 _ (by decide) (by decide) (by decide)) (u.1 _ (by decide) (by decide) (by decide)) (u.2.1 _ (by decide) (by decide) (by decide) (by decide) (by decide) (by decide) (by decide) (by decide) (by decide)) (u.2.1 _ (by decide) (by decide) (by decide) (by decide) (by decide) (by decide) (by decide) (by decide) (by decide))
theorem p_fault {w : Int32} (h : LI I R T) : Ze sc (d1 + 522) 93 [.ref 0, .int w] (HH I J R T) (PI True sc (d2 + 9) 197 [.ref 73, .int w] T) := by
  obtain ⟨tx, c, D, m, sn, s, hC, hM, hW, hS⟩ := h
  have X : ∃ I1 J1 R1 T1, am_E sc (d1 + 522) 93 [.ref 0, .int w] (HH I J R T) (some (.int (flV tx c D w))) (HH I1 J1 R1 T1) ∧ (∀ a, a = 0 ∨ (20 < a) → I1 a = I a) ∧ R1 38 = R 38 := by
    by_cases h0 : w = 0
    · subst h0
      obtain ⟨r, h', e, I', R', T', rfl, u, w1, x1, C1, rfl⟩ := Ze_deep (d := 12) (d2 := d1 + 522) (by omega) (c_faultF (sc := sc) (d := 0) (J := J) hC.1.1 hC.1.2.1)
      exact ⟨I', J, R', T', e, fun a ha => u a (by omega) (by omega), w1 38 (by decide)⟩
    · by_cases h1 : w = 1
      · subst h1
        obtain ⟨r, h', e, I', J', rfl, u, w1, C1, rfl⟩ := c_faultS (sc := sc) (d := d1) (J := J) hC.1.1 hC.1.2.1
        exact ⟨I', J', R, T, e, fun a ha => u a (by omega) (by omega), rfl⟩
      · have e := E_deep (d := 1) (d2 := d1 + 522) (by omega) (c_faultO (sc := sc) (d := 0) (I := I) (J := J) (R := R) (T := T) h0 h1)
        have ev : flV tx c D w = -3 := by unfold flV; rw [if_neg h0, if_neg h1]
        rw [ev]
        exact ⟨I, J, R, T, e, fun _ _ => rfl, rfl⟩
  obtain ⟨I1, J1, R1, T1, e1, k1, kR38⟩ := X
  obtain ⟨_, xT, hI, hP⟩ := cs_at (cs_fault hC.1) e1
  have hM1 := hP _ _ _ _ _ hM.1
  have N1 : ML s I1 := ML_k hM.2 (fun a ha => k1 a (by omega))
  have Y : ∃ I2 J2, am_E sc (d2 + 9) 197 [.ref 73, .int w] (HH I1 J1 R1 T1) (some (.int (flV tx c D w))) (HH I2 J2 R1 T1) ∧ (∀ a, a < 73 → I2 a = I1 a) ∧ ML s I2 := by
    by_cases h0 : w = 0
    · subst h0
      obtain ⟨r, h', e, I', J', rfl, u, rfl⟩ := m_faultF (sc := sc) (d := d2) (J := J1) (R := R1) (T := T1) hM1.1 hM1.2.1
      exact ⟨I', J', e, fun a ha => u.1 a (by omega) (by omega) (by omega) (by omega) (by omega), ML_um N1 u⟩
    · by_cases h1 : w = 1
      · subst h1
        obtain ⟨r, h', e, I', J', rfl, u, rfl⟩ := Ze_deep (d := d2 + 8) (d2 := d2 + 9) (by omega) (m_faultS (sc := sc) (d := d2) (J := J1) (R := R1) (T := T1) hM1.1 hM1.2.1.1 hM1.2.1.2.1)
        exact ⟨I', J', e, fun a ha => u.1 a (by omega) (by omega) (by omega), ML_uc N1 u⟩
      · have e := E_deep (d := d2 + 2) (d2 := d2 + 9) (by omega) (m_faultO (sc := sc) (d := d2) (I := I1) (J := J1) (R := R1) (T := T1) h0 h1)
        have ev : flV tx c D w = -3 := by unfold flV; rw [if_neg h0, if_neg h1]
        rw [ev]
        exact ⟨I1, J1, e, fun _ _ => rfl, N1⟩
  obtain ⟨I2, J2, e2, k2, N2⟩ := Y
  obtain ⟨_, hN⟩ := ms_at (ms_fault hM1) e2
  exact PI_mk e1 e2 xT (fun _ => rfl) (LI_mk hI (CL_R (CL_q hC.2 (fun a ha => k1 a (by omega))) kR38) k2 hN N2 hW hS)
theorem zb_00 (k : Nat) : zb 0 k = false := zb_0 k
theorem fCl_12 {D D' : FD} {tx : Nat → Nat} {c s e : Nat} (h : fClause tx c s D = .inr (e, D')) (h6 : D.1 ≤ 6) (hb : B12 D.2.2) : D'.1 ≤ 6 ∧ B12 D'.2.2 := by
  have rod : ∀ kd, fRod tx c s (tE tx c s) kd D = .inr (e, D') → D'.1 ≤ 6 ∧ B12 D'.2.2 := fun kd h => by
    unfold fRod at h
    split at h
    · cases h
    · rename_i h6'
      split at h
      · split at h
        · split at h
          · cases h; exact ⟨show D.1 + 1 ≤ 6 by omega, hb⟩
          · split at h
            · cases h; exact ⟨show D.1 + 1 ≤ 6 by omega, hb⟩
            · cases h
        · cases h
      · cases h
  unfold fClause at h
  split at h
  · cases h; exact ⟨Nat.zero_le _, B12_0⟩
  · split at h
    · unfold fStuck at h
      split at h
      · rename_i t1
        split at h
        · rename_i t2
          cases h
          refine ⟨h6, B12_or hb ?_⟩
          have a1 := t1.2.2.2
          have a2 := t2.2.2.2
          unfold fBit
          rw [two_n]
          exact B12_bit (by omega)
        · cases h
      · cases h
    · split at h
      · exact rod 0 h
      · split at h
        · exact rod 1 h
        · split at h
          · exact rod 2 h
          · split at h
            · exact rod 3 h
            · cases h
theorem fRd_12 {tx : Nat → Nat} {c : Nat} : ∀ (k n s : Nat) (D : FD) (q : Nat × FD), D.1 ≤ 6 → B12 D.2.2 → fRead tx c k n s D = .inr q → B12 q.2.2.2
  | 0, n, s, D, q, h6, hb, h => by cases h
  | k + 1, n, s, D, q, h6, hb, h => by
    unfold fRead at h
    split at h
    · cases h
    · rename_i e D' hc
      have w := fCl_12 hc h6 hb
      split at h
      · cases h; exact w.2
      · split at h
        · exact fRd_12 k (n + 1) _ D' q w.1 w.2 h
        · cases h
theorem WR_fr (D' : FD) (h12 : B12 D'.2.2) : WR D' (fun j => if j = 12 then D'.2.2 else 0) := by
  refine ⟨⟨⟨0, rfl, by omega⟩, h12⟩, fun i hi => ⟨fun _ => ⟨0, 0, ?_, ?_, Nat.zero_le _, Nat.zero_le _⟩, fun _ => ⟨?_, ?_⟩⟩⟩
  · exact if_neg (by omega)
  · exact if_neg (by omega)
  · exact if_neg (by omega)
  · exact if_neg (by omega)
theorem p_frame (h : LI I R T) : Ze sc (d1 + 12) 94 [.ref 0] (HH I J R T) (PI True sc (d2 + 9) 198 [.ref 73] T) := by
  obtain ⟨tx, c, D, m, sn, s, hC, hM, hW, hS⟩ := h
  obtain ⟨r, h', e1, I1, R1, T1, rfl, u, w1, x1, hq⟩ := c_frameW (sc := sc) (d := d1) (J := J) hC.1.1 hC.1.2.1
  obtain ⟨r2, h2, e2, I2, J2, rfl, _, hq2⟩ := m_frame (sc := sc) (d := d2) (J := J) (R := R1) (T := T1) (tx := tx) (c := c) (D := D) (I := I1) (MT_of hM.1.1 (by rw [u _ (by omega)]) (u _ (by omega))) (DMf_of hM.1.2.1 (u _ (by omega)) (u _ (by omega)) (u _ (by omega)) (u _ (by omega)) (u _ (by omega)))
  have k38 : R1 38 = R 38 := w1 38 (by decide) (by decide)
  have N1 : ML s I1 := ML_k hM.2 (fun a ha => u a (by omega))
  have hcs := cs_frame (sc := sc) (d := d1) (J := J) hC.1
  have hms := fun z => ms_frame (sc := sc) (d := d2) (J := J) (R := R1) (T := T1) (tx := tx) (c := c) (D := D) (m := m) (sn := sn) (I := I1) z
  unfold frC frD frM frV at hcs hms
  rcases hf : fRead tx c 12 0 (tS tx c 0) D with p | ⟨n, D'⟩
  · rw [hf] at hq hq2 hcs hms
    obtain ⟨rfl, C1, D1, g0, g22, g23, g24⟩ := hq
    obtain ⟨rfl, um⟩ := hq2
    obtain ⟨_, xT, hI, hP⟩ := cs_at hcs e1
    obtain ⟨_, hN⟩ := ms_at (hms (hP _ _ _ _ _ hM.1)) e2
    refine PI_mk e1 e2 xT (fun _ => rfl) (LI_mk hI (CL_R (CL_q hC.2 (fun a ha => ?_)) k38) (fun a ha => um.1 a (by omega) (by omega) (by omega) (by omega) (by omega)) hN (ML_um N1 um) hW hS)
    rcases ha with rfl | ⟨a1, a2⟩ | ⟨a1, a2⟩
    · exact g0
    · rcases (show a = 22 ∨ a = 23 ∨ a = 24 by omega) with rfl | rfl | rfl
      · exact g22
      · exact g23
      · exact g24
    · exact u a (by omega)
  · rw [hf] at hq hq2 hcs hms
    obtain ⟨rfl, C1, D1, g9, g11, g15, z, f2, f3⟩ := hq
    obtain ⟨rfl, M1, DM1, e40, e35, e36, zz, z12, z21, z22, ee⟩ := hq2
    obtain ⟨_, xT, hI, hP⟩ := cs_at hcs e1
    obtain ⟨_, hN⟩ := ms_at (hms (hP _ _ _ _ _ hM.1)) e2
    refine PI_mk e1 e2 xT (fun _ => rfl) (LI_mk (s := fra s D') hI ?_ (fun a ha => ee a (by omega)) hN ?_ ⟨WR_fr D' (fRd_12 _ _ _ _ _ hC.1.2.1.2.1 hS.2 hf), fun k hk => absurd hk (Nat.not_lt_zero k), fun k _ hk => Bool.noConfusion hk⟩ ⟨SO_0 sn, fRd_12 _ _ _ _ _ hC.1.2.1.2.1 hS.2 hf⟩)
    · refine ⟨row14 (fun i hi => ?_) (fun i hi => ?_) ?_ ?_, ⟨g9, Nat.zero_le _⟩, fun k hk => absurd hk (Nat.not_lt_zero k), fun k hk => ⟨by rw [g11]; exact zb_0 k, fun hk => Bool.noConfusion hk⟩⟩
      · rw [Cr_l hi]; exact (z i hi).1.trans (if_neg (by omega)).symm
      · rw [Cr_h hi]; exact (z i hi).2.trans (if_neg (by omega)).symm
      · rw [Cr_s]; exact f2
      · rw [Cr_t]; exact f3
    · obtain ⟨uu, t1, t2, t3, t4, t5⟩ := N1.2.1
      refine ⟨fun j hj => ?_, ⟨uu, e36.trans t1, t2, e35, Nat.zero_le _, fun k hk => absurd hk (Nat.not_lt_zero k)⟩, fun k hk => ⟨⟨fun _ y => Bool.noConfusion y, fun _ => ?_⟩, fun hk => Bool.noConfusion hk⟩⟩
      · show I2 78 j = if j = 12 then D'.2.2 else 0
        by_cases y : j = 12
        · rw [if_pos y, y]; exact z12
        · rw [if_neg y]; exact zz j hj y
      · rcases (show k = 0 ∨ k = 1 by omega) with rfl | rfl
        · exact z21
        · exact z22
theorem b01 {p : Int32} : bit01 p ↔ M_01 p := ⟨fun z => by rcases z with rfl | rfl <;> decide, bit_c⟩
theorem rod_i {k : Nat} {n : Nat} (hk : k < n) (h6 : n ≤ 6) : M_rod n (nI k) := by
  refine ⟨?_, ?_⟩ <;> (rw [nI_toInt (by omega)]; omega)
theorem st_x {x p s : Int32} {k : Nat} (hx : x = nI k) (hk : k < 6) (hp : bit01 p) : stuckC s x p ↔ stuckM s x p := by
  rw [hx]
  rcases hp with rfl | rfl
  · have := st_iff (s := s) (i := k) (q := 0) (p := 0) hk (by decide) rfl
    exact (not_congr this).trans Classical.not_not
  · have := st_iff (s := s) (i := k) (q := 1) (p := 1) hk (by decide) rfl
    exact (not_congr this).trans Classical.not_not
theorem p_stick {x p : Int32} (h : LI I R T) : Ze sc (d1 + 4) 100 [.ref 0, .int x, .int p] (HH I J R T) (PI True sc (d2 + 4) 203 [.ref 73, .int x, .int p] T) := by
  obtain ⟨tx, c, D, m, sn, s, hC, hM, hW, hS⟩ := h
  have h6 := hC.1.2.1.2.1
  have hP8 := hC.2.2.1
  obtain ⟨u, g1, g2, g3, g4, g5⟩ := hM.2.2.1
  obtain ⟨r, h', e1, q1⟩ := c_stick (sc := sc) (d := d1) (J := J) (x := x) (p := p) hC.1.2.1 hP8.1 hP8.2 hC.1.2.2.2.2.2.1
  rcases q1 with ⟨n1, rfl, rfl⟩ | ⟨y1, rfl, I1, R1, rq, a2, rfl⟩
  · obtain ⟨r2, h2, e2, q2⟩ := m_stick (sc := sc) (d := d2) (J := J) (R := R) (T := T) (x := x) (p := p) hM.1.2.1.1 h6 g1 g2 g3 g4
    rcases q2 with ⟨n2, rfl, rfl⟩ | ⟨y2, _, _⟩
    · exact pq_i hC hM hW hS (cs_stick hC.1) e1 (kQ_0 I) (fun z => ms_stick z) e2 (kR_0 I) (fun _ => rfl)
    · exact absurd ⟨y2.1, b01.mpr y2.2⟩ n1
  · obtain ⟨_, xT, hI, hP⟩ := cs_at (cs_stick hC.1) e1
    have hC1 := CX_rm hC rq
    have hM1 := MX_rmc hM rq
    have k1 : ∀ a, 73 ≤ a → sf I1 22 2 (I 22 2 ^^^ bitOf x p) a = I1 a := fun a ha => sf_c (by omega)
    have hM2 := MX_k hM1 k1
    obtain ⟨u', t1, t2, t3, t4, t5⟩ := hM2.2.2.1
    obtain ⟨r2, h2, e2, q2⟩ := m_stick (sc := sc) (d := d2) (J := J) (R := R1) (T := T) (x := x) (p := p) hM2.1.2.1.1 h6 t1 t2 t3 t4
    rcases q2 with ⟨n2, rfl, rfl⟩ | ⟨y2, rfl, I2, rm, rfl⟩
    · exact absurd ⟨y1.1, b01.mp y1.2⟩ n2
    · obtain ⟨_, hN⟩ := ms_at (ms_stick hM2.1) e2
      obtain ⟨k, hk, hx⟩ := rod_n y1.1
      have es : sf I1 22 2 (I 22 2 ^^^ bitOf x p) 78 12 = I 22 2 := by
        rw [hM2.2.1 12 (by omega), ← hC.2.1 12 (by omega), Cr_s]
      have hM3 := MX_rm hM2 t1 t2 rm
      refine PI_mk e1 e2 xT (fun _ => ?_) (LI_mk (s := wN (rem s) (fun j => if j = 12 then I 22 2 ^^^ bitOf x p else s.1 j)) hI (CL_n hC1.2 (fun a ha => sf_c (by omega)) (row14 (fun i hi => ?_) (fun i hi => ?_) ?_ ?_)) (fun a ha => by rw [sf_c (by omega)]; exact rm.1 a (by omega) (by omega)) hN (ML_n hM3.2 (fun j hj => ?_) (sf_c (by decide)) (sf_c (by decide)) (sf_c (by decide)) (by rw [sf_c (by decide)]) (by rw [sf_c (by decide)])) (WS_n (WS_rem hW hP8.2) ⟨⟨?_, ?_⟩, fun i hi => ?_⟩) hS)
      · rw [es]
        have w := st_x (s := I 22 2 ^^^ bitOf x p) hx (by omega) y1.2
        by_cases z : (I 22 2 ^^^ bitOf x p) &&& bitOf x p = 0
        · rw [if_pos z, if_neg (fun y => w.mpr y z)]
        · rw [if_neg z, if_pos (w.mp z)]
      · rw [Cr_l hi, sf_c (by decide), if_neg (by omega)]
        exact (Cr_l (a := 22) hi).symm.trans (hC1.2.1 i (by omega))
      · rw [Cr_h hi, sf_c (by decide), if_neg (by omega)]
        exact (Cr_h (a := 22) hi).symm.trans (hC1.2.1 (6 + i) (by omega))
      · rw [Cr_s, sf_s, if_pos rfl]
      · rw [Cr_t, sf_k (by decide), if_neg (by decide)]
        exact Cr_t.symm.trans (hC1.2.1 13 (by omega))
      · by_cases y : j = 12
        · rw [if_pos y, y, sf_s, es]
        · rw [if_neg y, sf_k y]; exact hM3.2.1 j hj
      · show ∃ q, (if (13 : Nat) = 12 then I 22 2 ^^^ bitOf x p else s.1 13) = nI q ∧ q ≤ 1000000
        rw [if_neg (by decide)]
        exact hW.1.1.1
      · show B12 (if (12 : Nat) = 12 then I 22 2 ^^^ bitOf x p else s.1 12)
        rw [if_pos rfl]
        have e12 : I 22 2 = s.1 12 := Cr_s.symm.trans (hC.2.1 12 (by omega))
        rw [e12]
        refine B12_xor hW.1.1.2 ?_
        unfold bitOf
        rw [hx]
        rcases y1.2 with rfl | rfl
        · rw [show (2 : Int32) * nI k + 0 = nI (2 * k + 0) from two_n k 0]
          exact B12_bit (by omega)
        · rw [show (2 : Int32) * nI k + 1 = nI (2 * k + 1) from two_n k 1]
          exact B12_bit (by omega)
      · show (i < D.1 → ∃ l h, (if i = 12 then I 22 2 ^^^ bitOf x p else s.1 i) = nI l ∧ (if 6 + i = 12 then I 22 2 ^^^ bitOf x p else s.1 (6 + i)) = nI h ∧ _) ∧ (D.1 ≤ i → (if i = 12 then I 22 2 ^^^ bitOf x p else s.1 i) = 0 ∧ (if 6 + i = 12 then I 22 2 ^^^ bitOf x p else s.1 (6 + i)) = 0)
        rw [if_neg (by omega), if_neg (by omega)]
        exact hW.1.2 i hi
end PR2

