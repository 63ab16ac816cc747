/-! Pairs of calls (3): undo, keep, back, push. -/
section PR3
variable {sc : Nat × (Nat → Int32)} {d d1 d2 M1 M2 : Nat} {as1 as2 : List Value} {I I1 I2 : hI} {J J1 J2 : hJ} {R R1 : hR} {T T1 : am_H} {tx : Nat → Nat} {c : Nat} {D : FD} {m : Nat} {sn : Nat → Nat → Int32} {s : AS}
theorem CP_r {a b : Nat} {r : Nat → Int32} (q : CP a b I I1) (h : ∀ j, j < 14 → Cr b I j = r j) : ∀ j, j < 14 → Cr a I1 j = r j := fun j hj => by
  rw [← h j hj]
  refine row14 (f := Cr a I1) (g := Cr b I) (fun i hi => ?_) (fun i hi => ?_) ?_ ?_ j hj
  · rw [Cr_l hi, Cr_l hi]; exact (q.2.1 i hi).1
  · rw [Cr_h hi, Cr_h hi]; exact (q.2.1 i hi).2
  · rw [Cr_s, Cr_s]; exact q.2.2.1
  · rw [Cr_t, Cr_t]; exact q.2.2.2
theorem p_undo (h : LI I R T) : Ze sc (d1 + 3) 103 [.ref 0] (HH I J R T) (PI True sc (d2 + 1) 208 [.ref 73] T) := by
  obtain ⟨tx, c, D, m, sn, s, hC, hM, hW, hS⟩ := h
  have hP8 := hC.2.2.1
  obtain ⟨r, h', e1, q1⟩ := c_undo (sc := sc) (d := d1) (J := J) (T := T) hP8.1 hP8.2 hC.1.2.2.2.2.2.1
  rcases q1 with ⟨n1, rfl, rfl⟩ | ⟨y1, rfl, a, I1, ha, hpa, rfl, cp⟩
  · obtain ⟨u, g1, g2, g3, g4, g5⟩ := hM.2.2.1
    obtain ⟨r2, h2, e2, q2⟩ := m_undo (sc := sc) (d := d2) (J := J) (R := R) (T := T) g1 g2 g3 g4
    rcases q2 with ⟨n2, rfl, rfl⟩ | ⟨y2, _, _⟩
    · exact pq_i hC hM hW hS (cs_undo hC.1) e1 (kQ_0 I) (fun z => ms_undo z) e2 (kR_0 I) (fun _ => rfl)
    · omega
  · obtain ⟨_, xT, hI, hP⟩ := cs_at (cs_undo hC.1) e1
    have hst := past_st hpa
    have k1 : ∀ b, b ≠ 0 → b ≠ 22 → b ≠ 23 → b ≠ 24 → I1 b = I b := fun b h0 h1 h2 h3 => by rw [cp.1 b h1 h2 h3, sf_c h0]
    have hM1 := MX_k hM (I' := I1) (fun b hb => k1 b (by omega) (by omega) (by omega) (by omega))
    obtain ⟨u, g1, g2, g3, g4, g5⟩ := hM1.2.2.1
    obtain ⟨r2, h2, e2, q2⟩ := m_undo (sc := sc) (d := d2) (J := J) (R := R) (T := T) g1 g2 g3 g4
    rcases q2 with ⟨n2, _, _⟩ | ⟨y2, rfl, I2, rfl, bw⟩
    · omega
    · obtain ⟨_, hN⟩ := ms_at (ms_undo hM1.1) e2
      obtain ⟨b, b1, b2, b3⟩ := hC.2.2.2.1 (s.2.1 - 1) (by omega)
      have eab : b = a := by rw [ha] at b1; exact (Option.some.inj b1).symm
      subst eab
      have f0 : ∀ k, I2 73 k = sf (sf I1 73 36 (nI ((u + 7) % 8))) 73 35 (nI (s.2.1 - 1)) 73 k := fun k => congrFun (bw.1 73 (by decide)) k
      have fa : ∀ a, a ≠ 73 → a ≠ 78 → I2 a = I1 a := fun a x y => by rw [bw.1 a y, sf_c x, sf_c x]
      refine PI_mk e1 e2 xT (fun _ => rfl) (LI_mk (s := undo1 s) hI ?_ (fun a ha => fa a (by omega) (by omega)) hN ?_ ⟨hW.2.1 _ (by omega), fun k hk => hW.2.1 k (by have : k < s.2.1 - 1 := hk; omega), hW.2.2⟩ hS)
      · refine ⟨CP_r cp (fun j hj => ?_), ⟨?_, ?_⟩, fun k hk => ?_, fun k hk => ⟨?_, fun z j hj => ?_⟩⟩
        · rw [Cr_of (sf_c (by omega)) (sf_c (by omega)) (sf_c (by omega))]; exact b3 j hj
        · rw [cp.1 0 (by decide) (by decide) (by decide), sf_s]; rfl
        · show s.2.1 - 1 ≤ 8
          omega
        · have hk' : k < s.2.1 - 1 := hk
          obtain ⟨b', c1, c2, c3⟩ := hC.2.2.2.1 k (by omega)
          have hs := past_st c2
          exact ⟨b', c1, c2, fun j hj => by rw [Cr_of (k1 _ (by omega) (by omega) (by omega) (by omega)) (k1 _ (by omega) (by omega) (by omega) (by omega)) (k1 _ (by omega) (by omega) (by omega) (by omega))]; exact c3 j hj⟩
        · rw [cp.1 0 (by decide) (by decide) (by decide), sf_k (by decide)]; exact (hC.2.2.2.2 k hk).1
        · rw [Cr_of (k1 _ (by omega) (by omega) (by omega) (by omega)) (k1 _ (by omega) (by omega) (by omega) (by omega)) (k1 _ (by omega) (by omega) (by omega) (by omega))]; exact (hC.2.2.2.2 k hk).2 z j hj
      · refine ⟨fun j hj => ?_, ⟨(u + 7) % 8, by rw [f0, sf_k (by decide), sf_s], by omega, by rw [f0, sf_s]; rfl, ?_, fun k hk j hj => ?_⟩, ?_⟩
        · rw [bw.2 j, if_pos hj, sf_c (by decide), sf_c (by decide)]
          have := g5 (s.2.1 - 1) (by omega) j hj
          rw [show (u + 8 - s.2.1 + (s.2.1 - 1)) % 8 = (u + 7) % 8 by omega] at this
          exact this
        · show s.2.1 - 1 ≤ 8
          omega
        · have hk' : k < s.2.1 - 1 := hk
          rw [fa _ (by decide) (by decide)]
          have := g5 k (by omega) j hj
          show I1 93 (14 * (((u + 7) % 8 + 8 - (s.2.1 - 1) + k) % 8) + j) = s.2.2.1 k j
          rw [show ((u + 7) % 8 + 8 - (s.2.1 - 1) + k) % 8 = (u + 8 - s.2.1 + k) % 8 by omega]
          exact this
        · rw [fa _ (by decide) (by decide), fa _ (by decide) (by decide)]
          exact hM1.2.2.2
theorem kept_z {k : Nat} (hk : k < 2) {v : Int32} (hv : v = nI k) : keptIs I v ↔ zb (I 0 11) k = true := by
  subst hv
  show ¬ I 0 11 &&& (1 <<< (nI k &&& 31)) = 0 ↔ _
  rw [zb_shl0 (show k < 32 by omega)]
  cases zb (I 0 11) k <;> simp
theorem p_back {k : Int32} (h : LI I R T) : Ze sc (d1 + 4) 105 [.ref 0, .int k] (HH I J R T) (PI True sc (d2 + 2) 211 [.ref 73, .int k] T) := by
  obtain ⟨tx, c, D, m, sn, s, hC, hM, hW, hS⟩ := h
  have h6 := hC.1.2.1.2.1
  obtain ⟨r, h', e1, q1⟩ := c_back (sc := sc) (d := d1) (I := I) (J := J) (T := T) (k := k) hC.1.2.2.2.2.2.2.1.1 hC.1.2.2.2.2.2.2.1.2
  rcases q1 with ⟨n1, rfl, rfl⟩ | ⟨y1, nk, rfl, rfl⟩ | ⟨cc, a, ha, hk, kk, I1, rfl, rfl, cp⟩
  · obtain ⟨r2, h2, e2, q2⟩ := m_back (sc := sc) (d := d2) (J := J) (R := R) (T := T) (k := k) hM.1.2.1.1 h6
    rcases q2 with ⟨n2, rfl, rfl⟩ | ⟨cc, hc2, hk, _⟩
    · exact pq_i hC hM hW hS (cs_back hC.1) e1 (kQ_0 I) (fun z => ms_back z) e2 (kR_0 I) (fun _ => rfl)
    · refine absurd ?_ n1
      rw [hk]
      rcases (show cc = 0 ∨ cc = 1 by omega) with rfl | rfl <;> decide
  · obtain ⟨r2, h2, e2, q2⟩ := m_back (sc := sc) (d := d2) (J := J) (R := R) (T := T) (k := k) hM.1.2.1.1 h6
    rcases q2 with ⟨n2, _, _⟩ | ⟨cc, hc2, hk, ⟨z0, rfl, rfl⟩ | ⟨z0, _⟩⟩
    · exact absurd y1 n2
    · exact pq_i hC hM hW hS (cs_back hC.1) e1 (kQ_0 I) (fun z => ms_back z) e2 (kR_0 I) (fun _ => rfl)
    · refine absurd ?_ nk
      rw [kept_z hc2 hk, (hC.2.2.2.2 cc hc2).1]
      exact Classical.not_not.mp (fun y => z0 ((hM.2.2.2 cc hc2).1.mpr y))
  · obtain ⟨_, xT, hI, hP⟩ := cs_at (cs_back hC.1) e1
    have hcc : cc < 2 ∧ a = 64 + 3 * cc := by rcases ha with ⟨rfl, rfl⟩ | ⟨rfl, rfl⟩ <;> omega
    have hkf : s.2.2.2.1 cc = true := by rw [← (hC.2.2.2.2 cc hcc.1).1]; exact (kept_z hcc.1 hk).mp kk
    have k1 : ∀ b, b ≠ 0 → b ≠ 22 → b ≠ 23 → b ≠ 24 → sf I1 0 9 0 b = I b := fun b h0 h1 h2 h3 => by rw [sf_c h0, cp.1 b h1 h2 h3]
    have hM1 := MX_k hM (I' := sf I1 0 9 0) (fun b hb => k1 b (by omega) (by omega) (by omega) (by omega))
    obtain ⟨r2, h2, e2, q2⟩ := m_back (sc := sc) (d := d2) (J := J) (R := R) (T := T) (k := k) hM1.1.2.1.1 h6
    rcases q2 with ⟨n2, _, _⟩ | ⟨c2, hc2, hk2, ⟨z0, _, _⟩ | ⟨z0, I2, rfl, rfl, bw⟩⟩
    · refine absurd ?_ n2
      rw [hk]
      rcases (show cc = 0 ∨ cc = 1 by omega) with rfl | rfl <;> decide
    · have ec : c2 = cc := (nI_eq (by omega) (by omega)).mp (hk2.symm.trans hk)
      subst ec
      exact absurd hkf ((hM1.2.2.2 c2 hc2).1.mp z0)
    · have ec : c2 = cc := (nI_eq (by omega) (by omega)).mp (hk2.symm.trans hk)
      subst ec
      obtain ⟨_, hN⟩ := ms_at (ms_back hM1.1) e2
      have f0 : ∀ k, I2 73 k = sf (sf I1 0 9 0) 73 35 0 73 k := fun k => congrFun (bw.1 73 (by decide)) k
      have fa : ∀ a, a ≠ 73 → a ≠ 78 → I2 a = sf I1 0 9 0 a := fun a x y => by rw [bw.1 a y, sf_c x]
      have r1 : ∀ j, j < 14 → Cr 22 I1 j = s.2.2.2.2 c2 j := CP_r cp (fun j hj => by rw [hcc.2]; exact (hC.2.2.2.2 c2 hc2).2 hkf j hj)
      have r2 : ∀ j, j < 14 → I2 78 j = s.2.2.2.2 c2 j := fun j hj => by
        rw [bw.2 j, if_pos hj, sf_c (by decide)]
        exact (hM1.2.2.2 c2 hc2).2 hkf j hj
      refine PI_mk e1 e2 xT (fun _ => ap_eq (hW.2.2 c2 hc2 hkf) h6 r1 r2) (LI_mk (s := bck s c2) hI ?_ (fun a ha => fa a (by omega) (by omega)) hN ?_ ⟨hW.2.2 c2 hc2 hkf, fun k hk => absurd hk (Nat.not_lt_zero k), hW.2.2⟩ hS)
      · refine ⟨fun j hj => ?_, ⟨sf_s _ _ _ _, Nat.zero_le _⟩, fun k hk => absurd hk (Nat.not_lt_zero k), fun k hk => ⟨?_, fun z j hj => ?_⟩⟩
        · rw [Cr_of (sf_c (by decide)) (sf_c (by decide)) (sf_c (by decide))]; exact r1 j hj
        · rw [sf_k (by decide), cp.1 0 (by decide) (by decide) (by decide)]; exact (hC.2.2.2.2 k hk).1
        · rw [Cr_of (k1 _ (by omega) (by omega) (by omega) (by omega)) (k1 _ (by omega) (by omega) (by omega) (by omega)) (k1 _ (by omega) (by omega) (by omega) (by omega))]; exact (hC.2.2.2.2 k hk).2 z j hj
      · obtain ⟨u, g1, g2, g3, g4, g5⟩ := hM1.2.2.1
        refine ⟨r2, ⟨u, by rw [f0, sf_k (by decide)]; exact g1, g2, by rw [f0, sf_s]; rfl, Nat.zero_le _, fun k hk => absurd hk (Nat.not_lt_zero k)⟩, ?_⟩
        rw [fa _ (by decide) (by decide), fa _ (by decide) (by decide)]
        exact hM1.2.2.2
theorem p_keep {k : Int32} (h : LI I R T) : Ze sc (d1 + 4) 104 [.ref 0, .int k] (HH I J R T) (PI True sc (d2 + 2) 210 [.ref 73, .int k] T) := by
  obtain ⟨tx, c, D, m, sn, s, hC, hM, hW, hS⟩ := h
  have h6 := hC.1.2.1.2.1
  obtain ⟨r, h', e1, q1⟩ := c_keep (sc := sc) (d := d1) (I := I) (J := J) (T := T) (k := k) hC.1.2.2.2.2.2.2.1.1 hC.1.2.2.2.2.2.2.1.2
  rcases q1 with ⟨n1, rfl, rfl⟩ | ⟨cc, a, ha, hk, rfl, I1, rfl, cp⟩
  · obtain ⟨r2, h2, e2, q2⟩ := m_keep (sc := sc) (d := d2) (J := J) (R := R) (T := T) (k := k) hM.1.2.1.1 h6
    rcases q2 with ⟨n2, rfl, rfl⟩ | ⟨cc, hc2, hk, _⟩
    · exact pq_i hC hM hW hS (cs_keep hC.1) e1 (kQ_0 I) (fun z => ms_keep z) e2 (kR_0 I) (fun _ => rfl)
    · refine absurd ?_ n1
      rw [hk]
      rcases (show cc = 0 ∨ cc = 1 by omega) with rfl | rfl <;> decide
  · obtain ⟨_, xT, hI, hP⟩ := cs_at (cs_keep hC.1) e1
    have hcc : cc < 2 ∧ a = 64 + 3 * cc := by rcases ha with ⟨rfl, rfl⟩ | ⟨rfl, rfl⟩ <;> omega
    obtain ⟨hc2, rfl⟩ := hcc
    have k1 : ∀ b, b ≠ 0 → b ≠ 64 + 3 * cc → b ≠ 64 + 3 * cc + 1 → b ≠ 64 + 3 * cc + 2 → sf I1 0 11 (I 0 11 ||| (1 <<< (k &&& 31))) b = I b := fun b h0 h1 h2 h3 => by rw [sf_c h0, cp.1 b h1 h2 h3]
    have hM1 := MX_k hM (I' := sf I1 0 11 (I 0 11 ||| (1 <<< (k &&& 31)))) (fun b hb => k1 b (by omega) (by omega) (by omega) (by omega))
    obtain ⟨r2, h2, e2, q2⟩ := m_keep (sc := sc) (d := d2) (J := J) (R := R) (T := T) (k := k) hM1.1.2.1.1 h6
    rcases q2 with ⟨n2, _, _⟩ | ⟨c2, _, hk2, rfl, I2, rfl, cb⟩
    · refine absurd ?_ n2
      rw [hk]
      rcases (show cc = 0 ∨ cc = 1 by omega) with rfl | rfl <;> decide
    · have ec : c2 = cc := (nI_eq (by omega) (by omega)).mp (hk2.symm.trans hk)
      subst ec
      obtain ⟨_, hN⟩ := ms_at (ms_keep hM1.1) e2
      have fa : ∀ a, a ≠ 94 → a ≠ 95 → I2 a = sf I1 0 11 (I 0 11 ||| (1 <<< (k &&& 31))) a := fun a x y => by rw [cb.1 a y, sf_c x]
      refine PI_mk e1 e2 xT (fun _ => ap_eq hW.1 h6 hC.2.1 hM1.2.1) (LI_mk (s := kee s c2) hI ?_ (fun a ha => fa a (by omega) (by omega)) hN ?_ ⟨hW.1, hW.2.1, fun i hi z => ?_⟩ hS)
      · refine ⟨fun j hj => ?_, ⟨?_, hC.2.2.1.2⟩, fun i hi => ?_, fun i hi => ⟨?_, fun z j hj => ?_⟩⟩
        · rw [Cr_of (k1 _ (by omega) (by omega) (by omega) (by omega)) (k1 _ (by omega) (by omega) (by omega) (by omega)) (k1 _ (by omega) (by omega) (by omega) (by omega))]; exact hC.2.1 j hj
        · rw [sf_k (by decide), cp.1 0 (by omega) (by omega) (by omega)]; exact hC.2.2.1.1
        · obtain ⟨b, b1, b2, b3⟩ := hC.2.2.2.1 i hi
          have hs := past_st b2
          exact ⟨b, b1, b2, fun j hj => by rw [Cr_of (k1 _ (by omega) (by omega) (by omega) (by omega)) (k1 _ (by omega) (by omega) (by omega) (by omega)) (k1 _ (by omega) (by omega) (by omega) (by omega))]; exact b3 j hj⟩
        · rw [sf_s, zb_or, hk, zb_shl c2 (by omega) 1 (show i < 32 by omega)]
          show _ = if i = c2 then true else s.2.2.2.1 i
          by_cases z : i = c2
          · rw [if_pos z, z, Nat.sub_self, zb_1 0 (by decide)]; simp
          · rw [if_neg z, ← (hC.2.2.2.2 i hi).1]
            by_cases y : c2 ≤ i
            · rw [zb_1 (i - c2) (by omega), decide_eq_false (show ¬ i - c2 = 0 by omega)]; simp
            · rw [decide_eq_false y]; simp
        · have z' : (if i = c2 then true else s.2.2.2.1 i) = true := z
          show Cr (64 + 3 * i) _ j = (if i = c2 then s.1 else s.2.2.2.2 i) j
          by_cases y : i = c2
          · rw [if_pos y, y, Cr_of (sf_c (by omega)) (sf_c (by omega)) (sf_c (by omega))]
            exact CP_r cp hC.2.1 j hj
          · rw [if_neg y] at z' ⊢
            rw [Cr_of (k1 _ (by omega) (by omega) (by omega) (by omega)) (k1 _ (by omega) (by omega) (by omega) (by omega)) (k1 _ (by omega) (by omega) (by omega) (by omega))]
            exact (hC.2.2.2.2 i hi).2 z' j hj
      · obtain ⟨u, g1, g2, g3, g4, g5⟩ := hM1.2.2.1
        have f0 := fa 73 (by decide) (by decide)
        have e21 : I2 94 = sf (sf I1 0 11 (I 0 11 ||| (1 <<< (k &&& 31)))) 94 c2 1 94 := cb.1 94 (by decide)
        refine ⟨fun j hj => by rw [fa _ (by decide) (by decide)]; exact hM1.2.1 j hj, ⟨u, by rw [f0]; exact g1, g2, by rw [f0]; exact g3, g4, fun i hi j hj => by rw [fa _ (by decide) (by decide)]; exact g5 i hi j hj⟩, fun i hi => ⟨?_, fun z j hj => ?_⟩⟩
        · rw [e21]
          show _ ↔ ¬ (if i = c2 then true else s.2.2.2.1 i) = true
          by_cases y : i = c2
          · rw [if_pos y, y, sf_s]; decide
          · rw [if_neg y, sf_k y]; exact (hM1.2.2.2 i hi).1
        · have z' : (if i = c2 then true else s.2.2.2.1 i) = true := z
          show I2 95 (14 * i + j) = (if i = c2 then s.1 else s.2.2.2.2 i) j
          rw [cb.2]
          by_cases y : i = c2
          · rw [if_pos y, if_pos (by omega), show 14 * i + j - 14 * c2 = j by omega, sf_c (by decide)]
            exact hM1.2.1 j hj
          · rw [if_neg y] at z' ⊢
            rw [if_neg (by omega), sf_c (by decide)]
            exact (hM1.2.2.2 i hi).2 z' j hj
      · have z' : (if i = c2 then true else s.2.2.2.1 i) = true := z
        show WR D (if i = c2 then s.1 else s.2.2.2.2 i)
        by_cases y : i = c2
        · rw [if_pos y]; exact hW.1
        · rw [if_neg y] at z' ⊢
          exact hW.2.2 i hi z'
end PR3

