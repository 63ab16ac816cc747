/-! Pairs of calls (1): nothing of the standings changes. -/
section PRS
variable {sc : Nat × (Nat → Int32)} {d d1 d2 M1 M2 : Nat} {as1 as2 : List Value} {I I1 I2 : hI} {J J1 J2 : hJ} {R R1 : hR} {T T1 : am_H} {tx : Nat → Nat} {c : Nat} {D : FD} {m : Nat} {sn : Nat → Nat → Int32} {s : AS}
theorem HH_T {R2 : hR} {T2 : am_H} (e : HH I J R T = HH I2 J2 R2 T2) : T = T2 := congrArg (List.drop 99) e
theorem E_det {h h1 h2 : am_H} {r1 r2 : Option Value} (e1 : am_E sc d1 M1 as1 h r1 h1) (e2 : am_E sc d1 M1 as1 h r2 h2) : r1 = r2 ∧ h1 = h2 := by
  obtain ⟨n0, k0⟩ := e1
  obtain ⟨n1, k1⟩ := e2
  have a := k0 (max n0 n1) (Nat.le_max_left _ _)
  rw [k1 (max n0 n1) (Nat.le_max_right _ _)] at a
  cases a
  exact ⟨rfl, rfl⟩
theorem cs_at {V : Value → Prop} {x : Value} (cs : Ze sc d1 M1 as1 (HH I J R T) (CSq tx c D m sn V I T)) (e : am_E sc d1 M1 as1 (HH I J R T) (some x) (HH I1 J1 R1 T1)) : V x ∧ TX 16 T T1 ∧ CI tx c D m sn I1 R1 T1 ∧ MP I I1 := by
  obtain ⟨r, h, e', v, Ia, Ja, Ra, Ta, rfl, hv, rfl, kM, xT, hC⟩ := cs
  obtain ⟨q1, q2⟩ := E_det e e'
  cases q1
  have hT := HH_T q2
  subst hT
  exact ⟨hv, xT, CI_h q2 hC, fun tx c D m sn z => MI_h q2 (kM tx c D m sn z)⟩
theorem ms_at {V : Value → Prop} {x : Value} (ms : Ze sc d1 M1 as1 (HH I J R T) (MSq2 tx c D m sn V I R T)) (e : am_E sc d1 M1 as1 (HH I J R T) (some x) (HH I1 J1 R1 T1)) : V x ∧ MI tx c D m sn I1 := by
  obtain ⟨r, h, e', v, Ia, Ja, rfl, hv, rfl, kM, hC⟩ := ms
  obtain ⟨q1, q2⟩ := E_det e e'
  cases q1
  exact ⟨hv, MI_h q2 hC⟩
theorem PI_mk {E : Prop} {h0 : am_H} {x1 x2 : Int32} (e1 : am_E sc d1 M1 as1 h0 (some (.int x1)) (HH I1 J1 R1 T1)) (e2 : am_E sc d2 M2 as2 (HH I1 J1 R1 T1) (some (.int x2)) (HH I2 J2 R1 T1)) (xT : TX 16 T T1) (he : E → x1 = x2) (hL : LI I2 R1 T1) : Ze sc d1 M1 as1 h0 (PI E sc d2 M2 as2 T) := ⟨_, _, e1, x1, I1, J1, R1, T1, rfl, rfl, xT, _, _, e2, x2, I2, J2, rfl, he, rfl, hL⟩
theorem PL_mk {E : Prop} {h0 : am_H} {x1 x2 : Int64} (e1 : am_E sc d1 M1 as1 h0 (some (.long x1)) (HH I1 J1 R1 T1)) (e2 : am_E sc d2 M2 as2 (HH I1 J1 R1 T1) (some (.long x2)) (HH I2 J2 R1 T1)) (xT : TX 16 T T1) (he : E → x1 = x2) (hL : LI I2 R1 T1) : Ze sc d1 M1 as1 h0 (PL E sc d2 M2 as2 T) := ⟨_, _, e1, x1, I1, J1, R1, T1, rfl, rfl, xT, _, _, e2, x2, I2, J2, rfl, he, rfl, hL⟩
theorem LI_mk (hI : CI tx c D m sn I1 R1 T1) (hL : CL s I1 R1) (kC : ∀ a, a < 73 → I2 a = I1 a) (hM : MI tx c D m sn I2) (hN : ML s I2) (hW : WS D s) (hS : SO m sn ∧ B12 D.2.2) : LI I2 R1 T1 := ⟨tx, c, D, m, sn, s, ⟨CI_k hI kC, CL_k hL kC⟩, ⟨hM, hN⟩, hW, hS⟩
abbrev kQ (I I1 : hI) : Prop := ∀ a, a = 0 ∨ (21 < a ∧ a < 25) ∨ 37 < a → I1 a = I a
abbrev kR (I I1 : hI) : Prop := ∀ a, a ≠ 79 → a ≠ 82 → a ≠ 83 → I1 a = I a
theorem CL_Q (h : CL s I R) (k : kQ I I1) : CL s I1 R := CL_q h (fun a ha => k a (by omega))
theorem ML_Q (h : ML s I) (k : kQ I I1) : ML s I1 := ML_k h (fun a ha => k a (by omega))
theorem ML_R (h : ML s I) (k : kR I I1) : ML s I1 := ML_q h (k _ (by decide) (by decide) (by decide)) (k _ (by decide) (by decide) (by decide)) (k _ (by decide) (by decide) (by decide)) (k _ (by decide) (by decide) (by decide)) (congrFun (k _ (by decide) (by decide) (by decide)) _) (congrFun (k _ (by decide) (by decide) (by decide)) _)
theorem pq_i {E : Prop} {V1 V2 : Value → Prop} {x1 x2 : Int32} (hC : CX tx c D m sn s I R T) (hM : MX tx c D m sn s I) (hW : WS D s) (hS : SO m sn ∧ B12 D.2.2) (cs : Ze sc d1 M1 as1 (HH I J R T) (CSq tx c D m sn V1 I T)) (e1 : am_E sc d1 M1 as1 (HH I J R T) (some (.int x1)) (HH I1 J1 R T)) (k1 : kQ I I1) (ms : MI tx c D m sn I1 → Ze sc d2 M2 as2 (HH I1 J1 R T) (MSq2 tx c D m sn V2 I1 R T)) (e2 : am_E sc d2 M2 as2 (HH I1 J1 R T) (some (.int x2)) (HH I2 J2 R T)) (k2 : kR I1 I2) (he : E → x1 = x2) : Ze sc d1 M1 as1 (HH I J R T) (PI E sc d2 M2 as2 T) := by
  obtain ⟨_, xT, hI, hP⟩ := cs_at cs e1
  obtain ⟨_, hN⟩ := ms_at (ms (hP _ _ _ _ _ hM.1)) e2
  exact PI_mk e1 e2 xT he (LI_mk hI (CL_Q hC.2 k1) (fun a ha => k2 a (by omega) (by omega) (by omega)) hN (ML_R (ML_Q hM.2 k1) k2) hW hS)
theorem pq_l {E : Prop} {V1 V2 : Value → Prop} {x1 x2 : Int64} (hC : CX tx c D m sn s I R T) (hM : MX tx c D m sn s I) (hW : WS D s) (hS : SO m sn ∧ B12 D.2.2) (cs : Ze sc d1 M1 as1 (HH I J R T) (CSq tx c D m sn V1 I T)) (e1 : am_E sc d1 M1 as1 (HH I J R T) (some (.long x1)) (HH I1 J1 R T)) (k1 : kQ I I1) (ms : MI tx c D m sn I1 → Ze sc d2 M2 as2 (HH I1 J1 R T) (MSq2 tx c D m sn V2 I1 R T)) (e2 : am_E sc d2 M2 as2 (HH I1 J1 R T) (some (.long x2)) (HH I2 J2 R T)) (k2 : kR I1 I2) (he : E → x1 = x2) : Ze sc d1 M1 as1 (HH I J R T) (PL E sc d2 M2 as2 T) := by
  obtain ⟨_, xT, hI, hP⟩ := cs_at cs e1
  obtain ⟨_, hN⟩ := ms_at (ms (hP _ _ _ _ _ hM.1)) e2
  exact PL_mk e1 e2 xT he (LI_mk hI (CL_Q hC.2 k1) (fun a ha => k2 a (by omega) (by omega) (by omega)) hN (ML_R (ML_Q hM.2 k1) k2) hW hS)
theorem kQ_0 (I : hI) : kQ I I := fun _ _ => rfl
theorem kR_0 (I : hI) : kR I I := fun _ _ _ _ => rfl
theorem ld_Q {a : Nat} {lo : Int32} : kQ I (ldF I D a lo) := fun b hb => ldF_c (by omega) (by omega) (by omega) (by omega) (by omega) (by omega) (by omega) (by omega)
theorem lc_Q {v lo : Int32} : kQ I (lcF I D v lo).2 := fun b hb => by
  unfold lcF
  dsimp only
  rw [leF_cc (by omega) (by omega)]
  exact ld_Q b hb
theorem CV_s (hC : CX tx c D m sn s I R T) (hW : WS D s) : CV D (Rv s.1) 22 I := CV_r hC.1.2.1.2.1 (DC_ok hC.1.2.1) hW.1 hC.2.1
theorem RV_s (hM : MX tx c D m sn s I) (hW : WS D s) : RV D (Rv s.1) 78 (I 78 12) I := RV_r hM.1.2.1.2.1 (fun k hk => (hM.1.2.1.2.2.2 k hk).1) hW.1 hM.2.1
theorem MX_Q (hM : MX tx c D m sn s I) (k : kQ I I1) : MX tx c D m sn s I1 := MX_k hM (fun a ha => k a (by omega))
theorem p_ways {v : Int32} (h : LI I R T) : Ze sc (d1 + 12) 106 [.ref 0, .int v] (HH I J R T) (PI True sc (d2 + 7) 212 [.ref 73, .int v] T) := by
  obtain ⟨tx, c, D, m, sn, s, hC, hM, hW, hS⟩ := h
  have k1 : kQ I (wyF I D v).2 := fun a ha => by
    unfold wyF
    split
    · rw [hoF_c (by omega) (by omega)]; exact ld_Q a ha
    · rfl
  have hM1 := MX_Q hM k1
  have k2 : kR (wyF I D v).2 (wyM (wyF I D v).2 J D v).2.1 := fun a _ h9 _ => by
    unfold wyM
    split
    · exact isP_I h9
    · rfl
  exact pq_i hC hM hW hS (cs_ways hC.1) (c_ways hC.1.2.1 hC.1.2.2.2.1.1) k1 (fun z => ms_ways z) (m_ways hM1.1.2.1) k2 (fun _ => ways_eq hC.1.2.1.2.1 hM1.1.2.1 (CV_s hC hW) (RV_s hM1 hW))
theorem p_time {v : Int32} (h : LI I R T) : Ze sc (d1 + 13) 107 [.ref 0, .int v] (HH I J R T) (PI True sc (d2 + 7) 213 [.ref 73, .int v] T) := by
  obtain ⟨tx, c, D, m, sn, s, hC, hM, hW, hS⟩ := h
  have k1 : kQ I (tiF I D v).2 := fun a ha => by
    unfold tiF
    split
    · exact lc_Q a ha
    · rfl
  have hM1 := MX_Q hM k1
  have k2 : kR (tiF I D v).2 (tiM (tiF I D v).2 J D v).2.1 := fun a _ h9 _ => by
    unfold tiM
    split
    · exact isP_I h9
    · rfl
  exact pq_i hC hM hW hS (cs_time hC.1) (c_time hC.1.2.1 hC.1.2.2.2.1.1) k1 (fun z => ms_time z) (m_time hM1.1.2.1) k2 (fun _ => time_eq hC.1.2.1.2.1 hM1.1.2.1 (CV_s hC hW) (RV_s hM1 hW))
theorem p_loosen {v : Int32} (h : LI I R T) : Ze sc (d1 + 13) 111 [.ref 0, .int v] (HH I J R T) (PI False sc (d2 + 7) 218 [.ref 73, .int v] T) := by
  obtain ⟨tx, c, D, m, sn, s, hC, hM, hW, hS⟩ := h
  have k1 : kQ I (loF I D v).2 := fun a ha => by
    unfold loF
    split
    · exact lc_Q a ha
    · rfl
  have hM1 := MX_Q hM k1
  have k2 : kR (loF I D v).2 (loM (loF I D v).2 J D v).2.1 := fun a _ h9 _ => by
    unfold loM
    split
    · exact lsl_I h9 _ _ _ _ _
    · rfl
  exact pq_i hC hM hW hS (cs_loosen hC.1) (c_loosen hC.1.2.1 hC.1.2.2.2.1.1) k1 (fun z => ms_loosen z) (m_loosen hM1.1.2.1) k2 (fun z => z.elim)
theorem sit_Q {n : Nat} {fr up : Int32} : kQ I (sitF I n fr up) := fun a ha => sitF_c (by omega) (by omega) (by omega) (by omega)
theorem kQ_t (h : kQ I I1) (g : kQ I1 I2) : kQ I I2 := fun a ha => (g a ha).trans (h a ha)
theorem le_Q {n : Nat} {V : Int64} : kQ I (leF I n V).2 := fun a ha => leF_cc (by omega) (by omega)
theorem p_span {w : Int32} (h : LI I R T) : Ze sc (d1 + 8) 109 [.ref 0, .int w] (HH I J R T) (PL False sc (d2 + 7) 216 [.ref 73, .int w] T) := by
  obtain ⟨tx, c, D, m, sn, s, hC, hM, hW, hS⟩ := h
  have k1 : kQ I (spaF I D w).2 := by
    unfold spaF
    split
    · exact kQ_0 I
    · split
      · split
        · exact ld_Q
        · split
          · exact ld_Q
          · exact kQ_t ld_Q sit_Q
      · exact kQ_0 I
  have hM1 := MX_Q hM k1
  have k2 : kR (spaF I D w).2 (spM (spaF I D w).2 J D w).2.1 := fun a _ h9 _ => by
    unfold spM
    split
    · split
      · exact spn_I h9 _ _ _ _
      · split <;> rfl
    · rfl
  exact pq_l hC hM hW hS (cs_span hC.1) (c_span hC.1.2.1 hC.1.2.2.2.1.1 hC.1.2.2.2.1.2.2.2) k1 (fun z => ms_span z) (m_span hM1.1.2.1) k2 (fun z => z.elim)
theorem p_nearest {v : Int32} (h : LI I R T) : Ze sc (d1 + 12) 110 [.ref 0, .int v] (HH I J R T) (PI False sc (d2 + 7) 217 [.ref 73, .int v] T) := by
  obtain ⟨tx, c, D, m, sn, s, hC, hM, hW, hS⟩ := h
  have k1 : kQ I (neF I D v).2 := by
    unfold neF
    split
    · unfold nsF
      split
      · split
        · exact kQ_t ld_Q (kQ_t le_Q sit_Q)
        · exact kQ_t ld_Q le_Q
      · exact ld_Q
    · exact kQ_0 I
  have hM1 := MX_Q hM k1
  have k2 : kR (neF I D v).2 (neM (neF I D v).2 J D v).2.1 := fun a _ h9 _ => by
    unfold neM
    split
    · exact ner_I h9 _ _ _ _
    · rfl
  exact pq_i hC hM hW hS (cs_nearest hC.1) (c_nearest hC.1.2.1 hC.1.2.2.2.1.1 hC.1.2.2.2.1.2.2.2) k1 (fun z => ms_nearest z) (m_nearest hM1.1.2.1) k2 (fun z => z.elim)
theorem p_tour {a b e w : Int32} (h : LI I R T) : Ze sc (d1 + 14) 112 [.ref 0, .int a, .int b, .int e, .int w] (HH I J R T) (PI False sc (d2 + 8) 220 [.ref 73, .int a, .int b, .int e, .int w] T) := by
  obtain ⟨tx, c, D, m, sn, s, hC, hM, hW, hS⟩ := h
  have t := tourF_t (I := I) (a := a) (b := b) (e := e) (w := w) (DC_ok hC.1.2.1)
  have k1 : kQ I (tourF I D a b e w).2 := fun x hx => gK_q t.1 x (by omega)
  have hM1 := MX_Q hM k1
  have k2 : kR (tourF I D a b e w).2 (tourM (tourF I D a b e w).2 J D a b e w).2.1 := fun x h6 h9 h10 => tourM_t x h9 h10 h6
  exact pq_i hC hM hW hS (cs_tour hC.1) (c_tour hC.1.2.2.2.2.2.2.2.1 hC.1.2.1 hC.1.2.2.2.1.1) k1 (fun z => ms_tour z) (m_tour hM1.1.2.1) k2 (fun z => z.elim)
theorem p_number (h : LI I R T) : Ze sc (d1 + 5) 97 [.ref 0] (HH I J R T) (PL True sc (d2 + 5) 160 [.ref 73] T) := by
  obtain ⟨tx, c, D, m, sn, s, hC, hM, hW, hS⟩ := h
  have e := num_eq (o := 78) hC.1.2.1.2.1 hM.1.2.1 hW.1 hC.2.1 hM.2.1
  exact pq_l hC hM hW hS (cs_number hC.1) (c_number hC.1.2.1) (kQ_0 I) (fun z => ms_number z) (m_number hM.1.2.1.1 hM.1.2.1.2.1) (kR_0 I) (fun _ => e.1.trans e.2.1.symm)
theorem p_as {x k : Int32} (h : LI I R T) : Ze sc (d1 + 3) 98 [.ref 0, .int x, .int k] (HH I J R T) (PI True sc (d2 + 3) 162 [.ref 73, .int x, .int k] T) := by
  obtain ⟨tx, c, D, m, sn, s, hC, hM, hW, hS⟩ := h
  exact pq_i hC hM hW hS (cs_as hC.1) (c_as hC.1.2.1) (kQ_0 I) (fun z => ms_as z) (m_as hM.1.2.1) (kR_0 I) (fun _ => rfl)
/-- sums of beads -/
theorem C_ap_r {a : Nat} {r : Nat → Int32} {I : hI} (h : ∀ j, j < 14 → Cr a I j = r j) : ∀ (k i : Nat) (x : Int32), i + k ≤ 6 → C_ap I a i x k = M_ap (fun b j => if b = 78 then r j else 0) i x k
  | 0, i, x, hi => by cases i <;> rfl
  | k + 1, i, x, hi => by
    have e1 : I (a + 1) i = r i := (Cr_l (by omega)).symm.trans (h i (by omega))
    have e2 : I (a + 2) i = r (6 + i) := (Cr_h (by omega)).symm.trans (h (6 + i) (by omega))
    unfold C_ap M_ap
    rw [e1, e2]
    exact C_ap_r h k (i + 1) _ (by omega)
theorem M_ap_r {r : Nat → Int32} {I : hI} (h : ∀ j, j < 14 → I 78 j = r j) : ∀ (k i : Nat) (x : Int32), i + k ≤ 6 → M_ap I i x k = M_ap (fun b j => if b = 78 then r j else 0) i x k
  | 0, i, x, hi => by cases i <;> rfl
  | k + 1, i, x, hi => by
    unfold M_ap
    rw [h i (by omega), h (6 + i) (by omega)]
    exact M_ap_r h k (i + 1) _ (by omega)
theorem M_ap_0 {r : Nat → Int32} {n : Nat} (hz : ∀ i, i < 6 → n ≤ i → r i = 0 ∧ r (6 + i) = 0) : ∀ (k i : Nat) (x : Int32), n ≤ i → i + k ≤ 6 → M_ap (fun b j => if b = 78 then r j else 0) i x k = x
  | 0, i, x, hn, hi => by cases i <;> rfl
  | k + 1, i, x, hn, hi => by
    have z := hz i (by omega) hn
    unfold M_ap
    show M_ap _ (i + 1) (x + (r i + r (6 + i))) k = x
    rw [z.1, z.2, Int32.add_zero, Int32.add_zero]
    exact M_ap_0 hz k (i + 1) x (by omega) (by omega)
theorem M_ap_6 {r : Nat → Int32} {n : Nat} (hz : ∀ i, i < 6 → n ≤ i → r i = 0 ∧ r (6 + i) = 0) : ∀ (k i : Nat) (x : Int32), i + k = n → n ≤ 6 → M_ap (fun b j => if b = 78 then r j else 0) i x (6 - i) = M_ap (fun b j => if b = 78 then r j else 0) i x k
  | 0, i, x, hi, hn => by
    rw [M_ap_0 hz (6 - i) i x (by omega) (by omega)]
    cases i <;> rfl
  | k + 1, i, x, hi, hn => by
    obtain ⟨j, hj⟩ : ∃ j, 6 - i = j + 1 := ⟨5 - i, by omega⟩
    have ih := M_ap_6 hz k (i + 1) (x + (r i + r (6 + i))) (by omega) hn
    rw [show 6 - (i + 1) = j by omega] at ih
    rw [hj]
    exact ih
theorem ap_eq {a : Nat} {r : Nat → Int32} {I I1 : hI} (hW : WR D r) (h6 : D.1 ≤ 6) (hc : ∀ j, j < 14 → Cr a I j = r j) (hm : ∀ j, j < 14 → I1 78 j = r j) : C_ap I a 0 0 6 = M_ap I1 0 0 D.1 := by
  rw [C_ap_r hc 6 0 0 (by omega), M_ap_r hm D.1 0 0 (by omega)]
  exact M_ap_6 (n := D.1) (fun i h1 h2 => (hW.2 i h1).2 h2) D.1 0 0 (by omega) h6
theorem fr_eq {v : StV} {I I1 : hI} {st : Int32} (hC : CV D v 22 I) (hD : DMf D I1) (hR : RV D v 78 st I1) : ∀ (k i : Nat) (x : Int32), i + k = D.1 → cfr I D k i x = mfr I1 k i x
  | 0, i, x, hi => rfl
  | k + 1, i, x, hi => by
    have e2 : I1 75 i = nI (D.2.1 i).2.1 := (hD.2.2.2 i (by omega)).2.2.1
    unfold cfr mfr
    rw [shw_v hC (show i < D.1 by omega), M_sh_v hD hR (show i < D.1 by omega), e2, fr_eq hC hD hR k (i + 1) _ (by omega)]
    congr 1
    by_cases z : nI (vl D i (v.1 i) (v.2.1 i)) < nI (D.2.1 i).2.1
    · rw [if_pos z, if_pos z, Int32.or_zero]
    · rw [if_neg z, if_neg z]
theorem p_count {w : Int32} (h : LI I R T) : Ze sc (d1 + 5) 117 [.ref 0, .int w] (HH I J R T) (PI True sc (d2 + 4) 228 [.ref 73, .int w] T) := by
  obtain ⟨tx, c, D, m, sn, s, hC, hM, hW, hS⟩ := h
  have h6 := hC.1.2.1.2.1
  refine pq_i hC hM hW hS (cs_count hC.1) (c_count hC.1.2.1) (kQ_0 I) (fun z => ms_count z) (m_count hM.1.2.1.1 hM.1.2.1.2.1) (kR_0 I) (fun _ => ?_)
  obtain ⟨u, g1, g2, g3, g4, g5⟩ := hM.2.2.1
  unfold cntC cntM
  rw [hC.1.2.1.1, hM.1.2.1.1, ap_eq hW.1 h6 hC.2.1 hM.2.1, show I 22 2 = I 78 12 from Cr_s.symm.trans ((hC.2.1 12 (by omega)).trans (hM.2.1 12 (by omega)).symm), show I 22 3 = I 78 13 from Cr_t.symm.trans ((hC.2.1 13 (by omega)).trans (hM.2.1 13 (by omega)).symm), hC.1.2.2.1.1, hM.1.2.2.1.1, hC.2.2.1.1, g3, hC.1.1.1, hM.1.1.1, fr_eq (CV_s hC hW) hM.1.2.1 (RV_s hM hW) D.1 0 0 (by omega)]
theorem p_rod {x w : Int32} (h : LI I R T) : Ze sc (d1 + 4) 96 [.ref 0, .int x, .int w] (HH I J R T) (PI True sc (d2 + 4) 161 [.ref 73, .int x, .int w] T) := by
  obtain ⟨tx, c, D, m, sn, s, hC, hM, hW, hS⟩ := h
  have h6 := hC.1.2.1.2.1
  obtain ⟨r, h', e1, rfl, q1⟩ := c_rod (sc := sc) (d := d1) (J := J) (x := x) (w := w) hC.1.2.1
  obtain ⟨r2, h2, e2, rfl, q2⟩ := m_rod (sc := sc) (d := d2) (J := J) (R := R) (T := T) (x := x) (w := w) hM.1.2.1.1 hM.1.2.1.2.1
  rcases q1 with ⟨n1, rfl⟩ | ⟨k, hk, hx, rfl⟩
  · rcases q2 with ⟨n2, rfl⟩ | ⟨k2, hk2, hx2, rfl⟩
    · exact pq_i hC hM hW hS (cs_rod hC.1) e1 (kQ_0 I) (fun z => ms_rod z) e2 (kR_0 I) (fun _ => rfl)
    · refine absurd ?_ n1
      rw [hx2]
      refine ⟨?_, ?_⟩ <;> (rw [nI_toInt (by omega)]; omega)
  · rcases q2 with ⟨n2, rfl⟩ | ⟨k2, hk2, hx2, rfl⟩
    · refine absurd ?_ n2
      rw [hx]
      refine ⟨?_, ?_⟩ <;> (rw [nI_toInt (by omega)]; omega)
    · have ek : k = k2 := (nI_eq (by omega) (by omega)).mp (hx.symm.trans hx2)
      subst ek
      refine pq_i hC hM hW hS (cs_rod hC.1) e1 (kQ_0 I) (fun z => ms_rod z) e2 (kR_0 I) (fun _ => ?_)
      obtain ⟨ok, k1, k2, k3, k4⟩ := hM.1.2.1.2.2.2 k hk
      have hCV := CV_s hC hW
      have hRV := RV_s hM hW
      have es : I 22 2 = I 78 12 := Cr_s.symm.trans ((hC.2.1 12 (by omega)).trans (hM.2.1 12 (by omega)).symm)
      have st : ∀ q, q < 2 → (stuckC (I 22 2) x (nI q) ↔ stuckM (I 78 12) x (nI q)) := fun q hq => by
        rw [es, hx]
        have := st_iff (s := I 78 12) (i := k) (q := q) (p := nI q) (by omega) hq rfl
        exact (not_congr this).trans Classical.not_not
      have e4 : I 23 k = I 78 k := (Cr_l (a := 22) (by omega)).symm.trans ((hC.2.1 k (by omega)).trans (hM.2.1 k (by omega)).symm)
      have e5 : I 24 k = I 78 (6 + k) := (Cr_h (a := 22) (by omega)).symm.trans ((hC.2.1 (6 + k) (by omega)).trans (hM.2.1 (6 + k) (by omega)).symm)
      have e6 : (if stuckC (I 22 2) x 0 then (1 : Int32) else 0) = if stuckM (I 78 12) x 0 then 1 else 0 := by
        by_cases z : stuckM (I 78 12) x 0
        · rw [if_pos z, if_pos (show stuckC (I 22 2) x 0 from (st 0 (by decide)).mpr z)]
        · rw [if_neg z, if_neg (show ¬ stuckC (I 22 2) x 0 from fun y => z ((st 0 (by decide)).mp y))]
      have e7 : (if stuckC (I 22 2) x 1 then (1 : Int32) else 0) = if stuckM (I 78 12) x 1 then 1 else 0 := by
        by_cases z : stuckM (I 78 12) x 1
        · rw [if_pos z, if_pos (show stuckC (I 22 2) x 1 from (st 1 (by decide)).mpr z)]
        · rw [if_neg z, if_neg (show ¬ stuckC (I 22 2) x 1 from fun y => z ((st 1 (by decide)).mp y))]
      unfold rodC9 rodM
      rw [k1, show I 75 k = nI (D.2.1 k).2.1 from k2, show I 76 k = nI (D.2.1 k).2.2.1 from k3, show I 77 k = nI (D.2.1 k).2.2.2 from k4, e4, e5, e6, e7, shw_v hCV hk, M_sh_v hM.1.2.1 hRV hk, M_wo_v hM.1.2.1 hk]
theorem p_kinds {x : Int32} (h : LI I R T) : Ze sc (d1 + 5) 115 [.ref 0, .int x] (HH I J R T) (PI True sc (d2 + 4) 224 [.ref 73, .int x] T) := by
  obtain ⟨tx, c, D, m, sn, s, hC, hM, hW, hS⟩ := h
  obtain ⟨r, h', e1, v1, I1, J1, R1, T1, rfl, hv1, rfl, kM, xT, hI⟩ := cs_kinds (sc := sc) (d := d1) (J := J) (x := x) hC.1
  obtain ⟨x1, rfl, hw1⟩ : ∃ x1, v1 = Value.int x1 ∧ ((¬ M_rod D.1 x ∧ x1 = -2) ∨ ∃ k, k < D.1 ∧ x = nI k ∧ x1 = kdF I (D.2.1 k) x m) := hv1.elim (fun z => ⟨_, z.2, Or.inl ⟨z.1, rfl⟩⟩) (fun ⟨k, z1, z2, z3⟩ => ⟨_, z3, Or.inr ⟨k, z1, z2, rfl⟩⟩)
  have hE : ∃ T2, am_E sc (d1 + 5) 115 [.ref 0, .int x] (HH I J R T) (some (.int x1)) (HH I J R T2) := by
    by_cases hr : M_rod D.1 x
    · obtain ⟨k, hk, hx⟩ := rod_n hr
      subst hx
      have e := c_kinds (sc := sc) (d := d1) (J := J) hC.1.2.1 hk hC.1.2.2.1.1 hC.1.2.2.1.2.1
      obtain ⟨q1, q2⟩ := E_det e1 e
      rw [← q1] at e
      exact ⟨_, e⟩
    · rcases hw1 with ⟨_, rfl⟩ | ⟨k, hk, hx, _⟩
      · have e := c_kinds_no (sc := sc) (d := d1 + 3) (I := I) (J := J) (R := R) (T := T) (a0 := x) hC.1.2.1.1 hC.1.2.1.2.1 hr
        exact ⟨T, e⟩
      · refine absurd ?_ hr
        have h6 := hC.1.2.1.2.1
        rw [hx]
        refine ⟨?_, ?_⟩ <;> (rw [nI_toInt (by omega)]; omega)
  obtain ⟨T2, e⟩ := hE
  obtain ⟨_, xT2, hI2, hP⟩ := cs_at (cs_kinds hC.1) e
  have hMi := hM.1
  obtain ⟨r2, h2, e2, rfl, q2⟩ := m_kinds (sc := sc) (d := d2) (J := J) (R := R) (T := T2) (x := x) hM.1.2.1 hM.1.2.2.1.1 hM.1.2.2.1.2.1
  obtain ⟨x2, rfl, hv2⟩ : ∃ x2, r2 = some (Value.int x2) ∧ ((¬ M_rod D.1 x ∧ x2 = -2) ∨ ∃ k, k < D.1 ∧ x = nI k ∧ x2 = kdM I (D.2.1 k) x m) := q2.elim (fun z => ⟨_, z.2, Or.inl ⟨z.1, rfl⟩⟩) (fun ⟨k, z1, z2, z3⟩ => ⟨_, z3, Or.inr ⟨k, z1, z2, rfl⟩⟩)
  exact PI_mk e e2 xT2 (fun _ => kd12 hC.1 hM.1 hS.1 hw1 hv2) (LI_mk hI2 hC.2 (fun _ _ => rfl) hM.1 hM.2 hW hS)
theorem p_slips {x q v p : Int32} (h : LI I R T) : Ze sc (d1 + 4) 116 [.ref 0, .int x, .int q, .int v, .int p] (HH I J R T) (PL False sc (d2 + 4) 227 [.ref 73, .int x, .int q, .int v, .int p] T) := by
  obtain ⟨tx, c, D, m, sn, s, hC, hM, hW, hS⟩ := h
  have hb : ∀ k, k < 6 → (I 23 k).toInt < 2147483647 ∧ (I 24 k).toInt < 2147483647 := fun k hk => by
    have := hC.1.2.2.2.2.2.2.2.2 22 (by decide) k hk
    have h1 : (I 23 k).toInt ≤ 100 := this.1.2
    have h2 : (I 24 k).toInt ≤ 100 := this.2.2
    exact ⟨by omega, by omega⟩
  have hb2 : ∀ k, k < 6 → (I 78 k).toInt ≤ 9 ∧ (I 78 (6 + k)).toInt ≤ 9 ∧ -9 ≤ (I 78 k).toInt ∧ -9 ≤ (I 78 (6 + k)).toInt := fun k hk => by
    have b1 := hM.1.2.2.2.2.2.1 k (by omega)
    have b2 := hM.1.2.2.2.2.2.1 (6 + k) (by omega)
    exact ⟨b1.2, b2.2, b1.1, b2.1⟩
  obtain ⟨r, h', e1, x1, rfl, rfl⟩ := c_slips (sc := sc) (d := d1) (J := J) (x := x) (q := q) (v := v) (p := p) hC.1.2.1 hb
  obtain ⟨r2, h2, e2, x2, rfl, rfl⟩ := m_slips (sc := sc) (d := d2) (J := J) (R := R) (T := T) (x := x) (q := q) (v := v) (p := p) hM.1.2.1 hb2
  exact pq_l hC hM hW hS (cs_slips hC.1) e1 (kQ_0 I) (fun z => ms_slips z) e2 (kR_0 I) (fun z => z.elim)
end PRS

