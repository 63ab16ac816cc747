/-! Pairs of calls (5): pushed, run; the state at first. -/
section PR5
variable {sc : Nat × (Nat → Int32)} {d d1 d2 M1 M2 : Nat} {as1 as2 : List Value} {I I1 I2 : hI} {J J1 J2 : hJ} {R R1 : hR} {T T1 : am_H} {tx : Nat → Nat} {c : Nat} {D : FD} {m : Nat} {sn : Nat → Nat → Int32} {s : AS}
theorem pu_se {V : Int64} {q : Nat} (h6 : D.1 ≤ 6) (z : ¬ (isP I J D 78 (I 78 12) V).1 = 0) (hq : q < D.1) : puW (isP I J D 78 (I 78 12) V).2.2 D (isP I J D 78 (I 78 12) V).2.1 83 q = (seF I J D 78 V).2.1 78 q ∧ puW (isP I J D 78 (I 78 12) V).2.2 D (isP I J D 78 (I 78 12) V).2.1 83 (6 + q) = (seF I J D 78 V).2.1 78 (6 + q) := by
  have hs := (sel_w (o := 78) (by decide) D.1 0 (puW (isP I J D 78 (I 78 12) V).2.2 D (isP I J D 78 (I 78 12) V).2.1) (by omega)).1 q (Nat.zero_le q) (by omega)
  unfold seF
  rw [if_neg z]
  dsimp only
  rw [sf_k (by omega), sf_k (by omega)]
  exact ⟨hs.1.symm, hs.2.symm⟩
theorem p_pushed {v x p : Int32} (h : LI I R T) : Ze sc (d1 + 14) 108 [.ref 0, .int v, .int x, .int p] (HH I J R T) (PI True sc (d2 + 7) 214 [.ref 73, .int v, .int x, .int p] T) := by
  obtain ⟨tx, c, D, m, sn, s, hC, hM, hW, hS⟩ := h
  have h6 := hC.1.2.1.2.1
  have ho := DC_ok hC.1.2.1
  obtain ⟨r, h', e1, q1⟩ := c_pushed (sc := sc) (d := d1) (J := J) (v := v) (x := x) (p := p) hC.1.2.1 hC.1.2.2.2.1.1
  rcases q1 with ⟨n1, rfl, rfl⟩ | ⟨y1, n1, rfl, rfl⟩ | ⟨i, hi, hx, hp, y1, I1, cp, rfl, rfl⟩
  · obtain ⟨r2, h2, e2, q2⟩ := m_pushed (sc := sc) (d := d2) (J := J) (R := R) (T := T) (v := v) (x := x) (p := p) hM.1.2.1
    rcases q2 with ⟨_, rfl, rfl⟩ | ⟨y2, _⟩ | ⟨k, hk, hx, hp, _⟩ | ⟨k, hk, hx, hp, _⟩
    · exact pq_i hC hM hW hS (cs_pushed hC.1) e1 (kQ_0 I) (fun z => ms_pushed z) e2 (kR_0 I) (fun _ => rfl)
    · exact absurd ⟨y2.1, b01.mpr y2.2⟩ n1
    · exact absurd ⟨by rw [hx]; exact rod_i hk h6, b01.mpr hp⟩ n1
    · exact absurd ⟨by rw [hx]; exact rod_i hk h6, b01.mpr hp⟩ n1
  · obtain ⟨r2, h2, e2, q2⟩ := m_pushed (sc := sc) (d := d2) (J := J) (R := R) (T := T) (v := v) (x := x) (p := p) hM.1.2.1
    rcases q2 with ⟨n2, _⟩ | ⟨y2, _, rfl, rfl⟩ | ⟨k, hk, hx, hp, y2, _⟩ | ⟨k, hk, hx, hp, y2, _⟩
    · exact absurd ⟨y1.1, b01.mp y1.2⟩ n2
    · exact pq_i hC hM hW hS (cs_pushed hC.1) e1 (kQ_0 I) (fun z => ms_pushed z) e2 (kR_0 I) (fun _ => rfl)
    · exact absurd y2 n1
    · exact absurd y2 n1
  · have k25 : ∀ a, a < 25 ∨ 27 < a → I1 a = I a := fun a ha => cp.1 a (by omega) (by omega) (by omega)
    have kw : kQ I (stF I1 D 25 v.toInt64).2 := fun a ha => by
      rw [stF_c (by omega) (by omega) (by omega) (by omega)]; exact k25 a (by omega)
    have r1 : ∀ j, j < 14 → Cr 25 I1 j = s.1 j := CP_r cp hC.2.1
    have hMw := MX_Q hM kw
    have hR := RV_s hMw hW
    obtain ⟨s1, s2, r', s3, s4, s5⟩ := set_row (a := 25) (I := I1) (I1 := (stF I1 D 25 v.toInt64).2) (J1 := J) (V := v.toInt64) (by decide) (Or.inl rfl) h6 hMw.1.2.1 hW.1 r1 hMw.2.1
    have same := se_isP (J := J) (V := v.toInt64) hMw.1.2.1 hR
    rw [← s1] at same
    obtain ⟨r2, h2, e2, q2⟩ := m_pushed (sc := sc) (d := d2) (J := J) (R := R) (T := T) (v := v) (x := x) (p := p) hMw.1.2.1
    rcases q2 with ⟨n2, _⟩ | ⟨y2, n2, _⟩ | ⟨k, hk, hx2, hp2, y2, z2, rfl, rfl⟩ | ⟨k, hk, hx2, hp2, y2, z2, rfl, rfl⟩
    · exact absurd ⟨by rw [hx]; exact rod_i hi h6, b01.mp hp⟩ n2
    · exact absurd y1 n2
    · exact pq_i hC hM hW hS (cs_pushed hC.1) e1 kw (fun z => ms_pushed z) e2 isP_R (fun _ => if_pos (same.mp z2))
    · have ek : k = i := (nI_eq (by omega) (by omega)).mp (hx2.symm.trans hx)
      subst ek
      have kp : kR (stF I1 D 25 v.toInt64).2 (puW (isP (stF I1 D 25 v.toInt64).2 J D 78 ((stF I1 D 25 v.toInt64).2 78 12) v.toInt64).2.2 D (isP (stF I1 D 25 v.toInt64).2 J D 78 ((stF I1 D 25 v.toInt64).2 78 12) v.toInt64).2.1) := fun a _ h9 h10 => by
        unfold puW
        rw [duF_c h10]; exact isP_I h9
      refine pq_i hC hM hW hS (cs_pushed hC.1) e1 kw (fun z => ms_pushed z) e2 kp (fun _ => ?_)
      have pp := pu_se (q := k) h6 z2 hk
      rw [if_neg (fun y => z2 (same.mpr y)), pp.1, pp.2, s5 k (by omega), s5 (6 + k) (by omega), ← s4 k (by omega), ← s4 (6 + k) (by omega), Cr_l (by omega), Cr_h (by omega)]
      unfold bdF
      rcases hp with rfl | rfl
      · rw [if_neg (by decide), if_pos rfl]
      · rw [if_pos rfl, if_neg (by decide)]
theorem p_run (h : LI I R T) : Ze sc (d1 + 522) 95 [.ref 0] (HH I J R T) (PI True sc (d2 + 10) 199 [.ref 73] T) := by
  obtain ⟨tx, c, D, m, sn, s, hC, hM, hW, hS⟩ := h
  have h6 := hC.1.2.1.2.1
  have hP8 := hC.2.2.1
  obtain ⟨r, h', e1, q1⟩ := c_run (sc := sc) (d := d1) (J := J) hC.1.1 hC.1.2.1 hC.1.2.2.2.1.1 hP8.1 hP8.2 hC.1.2.2.2.2.2.1
  have hcs := cs_run (sc := sc) (d := d1) (J := J) hC.1
  unfold rnC at hcs
  rcases q1 with ⟨p, I1, J1, hs, u1, w1, C1, rfl, rfl⟩ | ⟨nn, I1, J1, I2, R2, I3, jj, If, Jf, hs, u1, w1, rq, u2, hr, l12, w2, rfl, rfl⟩
  · rw [hs] at hcs
    obtain ⟨_, xT, hI, hP⟩ := cs_at hcs e1
    have hMa := MX_k hM (I' := I1) (fun a ha => u1 a (by omega) (by omega))
    obtain ⟨u, g1, g2, g3, g4, g5⟩ := hMa.2.2.1
    have hms := ms_run (sc := sc) (d := d2) (J := J1) (R := R) (T := T) hMa.1
    unfold rnC at hms
    rw [hs] at hms
    obtain ⟨r2, h2, e2, q2⟩ := m_runV (sc := sc) (d := d2) (J := J1) (R := R) (T := T) hMa.1.1 hMa.1.2.1 (WR_of hW.1 hMa.2.1) g1 g2 g3 g4
    rcases q2 with ⟨p2, I2, J2, hs2, uc, rfl, rfl⟩ | ⟨nn, _, _, _, _, _, _, _, hs2, _⟩
    · obtain ⟨_, hN⟩ := ms_at hms e2
      exact PI_mk e1 e2 xT (fun _ => rfl) (LI_mk hI (CL_q hC.2 (fun a ha => u1 a (by omega) (by omega))) (fun a ha => uc.1 a (by omega) (by omega) (by omega)) hN (ML_uc hMa.2 uc) hW hS)
    · rw [hs] at hs2; cases hs2
  · rw [hs] at hcs
    obtain ⟨_, xT, hI, hP⟩ := cs_at hcs e1
    have L1 : CL s I1 R := CL_q hC.2 (fun a ha => u1 a (by omega) (by omega))
    have L2 : CL (rem s) I2 R2 := CL_rm hC.1.2.2.2.2.2.1 L1 rq
    have hM1 := MX_k hM (I' := I1) (fun a ha => u1 a (by omega) (by omega))
    have hM2 := MX_rmc hM1 rq
    have ef : ∀ a, a = 0 ∨ 24 < a → sf If 1 1 0 a = I2 a := fun a ha => by
      rw [sf_c (by omega), RN_c (by omega) _ _ _ _ _ _ hr]
      exact u2 a (by omega)
    have hM3 := MX_k hM2 (I' := sf If 1 1 0) (fun a ha => ef a (by omega))
    obtain ⟨u, g1, g2, g3, g4, g5⟩ := hM3.2.2.1
    have hms := ms_run (sc := sc) (d := d2) (J := Jf) (R := R2) (T := T) hM3.1
    unfold rnC at hms
    rw [hs] at hms
    obtain ⟨r2, h2, e2, q2⟩ := m_runV (sc := sc) (d := d2) (J := Jf) (R := R2) (T := T) hM3.1.1 hM3.1.2.1 (WR_of hW.1 hM3.2.1) g1 g2 g3 g4
    rcases q2 with ⟨p2, _, _, hs2, _⟩ | ⟨nn2, I4, J4, I5, I0, I6, J6, jm, hs2, uc, rm, e0, uw, hr2, _, rfl, rfl⟩
    · rw [hs] at hs2; cases hs2
    · obtain ⟨_, hN⟩ := ms_at hms e2
      have N4 : ML s I4 := ML_uc hM3.2 uc
      have N5 : ML (rem s) I5 := ML_rm N4 ((uc.2.1 36 (by decide) (by decide) (by decide) (by decide) (by decide) (by decide) (by decide) (by decide) (by decide)).trans g1) g2 rm
      obtain ⟨ej, r', a1, a2, a3⟩ := run_row h6 12 0 (tS tx c 0) I3 I0 If s.1 (I6 78) jj jm hW.1 (fun j hj => by rw [Cr_of (u2 22 (by decide)) (u2 23 (by decide)) (u2 24 (by decide))]; exact L2.1 j hj) (fun j hj => by rw [e0]; exact N5.1 j hj) hr hr2
      refine PI_mk e1 e2 xT (fun _ => by rw [ej]) (LI_mk (s := wN (rem s) r') hI (CL_n L2 (fun a ha => ef a (by omega)) (fun j hj => by rw [Cr_of (sf_c (by decide)) (sf_c (by decide)) (sf_c (by decide))]; exact a2 j hj)) (fun a ha => by rw [sf_c (by omega), uw.1 a (by omega) (by omega) (by omega) (by omega) (by omega) (by omega), rm.1 a (by omega) (by omega)]; exact uc.1 a (by omega) (by omega) (by omega)) hN (ML_n N5 (fun j hj => by rw [sf_c (by decide)]; exact a3 j hj) (by rw [sf_c (by decide)]; exact uw.1 _ (by decide) (by decide) (by decide) (by decide) (by decide) (by decide)) (by rw [sf_c (by decide)]; exact uw.1 _ (by decide) (by decide) (by decide) (by decide) (by decide) (by decide)) (by rw [sf_c (by decide)]; exact uw.1 _ (by decide) (by decide) (by decide) (by decide) (by decide) (by decide)) (by rw [sf_k (by decide)]; exact uw.2.1 _ (by decide) (by decide) (by decide) (by decide) (by decide) (by decide) (by decide) (by decide) (by decide)) (by rw [sf_k (by decide)]; exact uw.2.1 _ (by decide) (by decide) (by decide) (by decide) (by decide) (by decide) (by decide) (by decide) (by decide))) (WS_n (WS_rem hW hP8.2) a1) hS)
def s_0 : AS := (fun _ => 0, 0, fun _ _ => 0, fun _ => false, fun _ _ => 0)
theorem LI_0 : LI I_0 R_1 [] := by
  refine ⟨fun _ => 0, 0, D_0, 0, fun _ _ => 0, s_0, ⟨CI_0, row14 (fun i hi => ?_) (fun i hi => ?_) ?_ ?_, ⟨rfl, Nat.zero_le _⟩, fun k hk => absurd hk (Nat.not_lt_zero k), fun k hk => ⟨?_, fun z => Bool.noConfusion z⟩⟩, ⟨MI_00, fun j hj => ?_, ⟨0, rfl, by omega, rfl, Nat.zero_le _, fun k hk => absurd hk (Nat.not_lt_zero k)⟩, fun k hk => ⟨⟨fun _ z => Bool.noConfusion z, fun _ => I0_z (by decide) (by decide)⟩, fun z => Bool.noConfusion z⟩⟩, ⟨⟨⟨⟨0, rfl, by omega⟩, B12_0⟩, fun i hi => ⟨fun hd => absurd hd (Nat.not_lt_zero i), fun _ => ⟨rfl, rfl⟩⟩⟩, fun k hk => absurd hk (Nat.not_lt_zero k), fun k _ z => Bool.noConfusion z⟩, SO_0 _, B12_0⟩
  · rw [Cr_l hi]; exact I0_z (by decide) (by decide)
  · rw [Cr_h hi]; exact I0_z (by decide) (by decide)
  · rw [Cr_s]; exact I0_z (by decide) (by decide)
  · rw [Cr_t]; exact I0_z (by decide) (by decide)
  · rw [show I_0 0 11 = 0 from I0_z (by decide) (by decide)]; exact zb_0 k
  · exact I0_z (by decide) (by decide)
end PR5

