/-! Pairs of calls (4): push, set, carry, pushed, run. -/
section PR4
variable {sc : Nat × (Nat → Int32)} {d d1 d2 M1 M2 : Nat} {as1 as2 : List Value} {I I1 I2 : hI} {J J1 J2 : hJ} {R R1 : hR} {T T1 : am_H} {tx : Nat → Nat} {c : Nat} {D : FD} {m : Nat} {sn : Nat → Nat → Int32} {s : AS}
theorem pu_bd {k : Nat} {p t : Int32} (hD : DMf D I) (hk : k < D.1) (hp : bit01 p) : (¬ t < 0 ∧ t ≤ bdC (D.2.1 k) p) ↔ (0 ≤ t.toInt ∧ t.toInt ≤ (bdM I p k).toInt) := by
  obtain ⟨ok, k1, k2, k3, k4⟩ := hD.2.2.2 k hk
  have z0 : (0 : Int32).toInt = 0 := rfl
  have e : bdM I p k = bdC (D.2.1 k) p := by
    unfold bdM bdC
    rcases hp with rfl | rfl
    · rw [if_pos rfl, if_neg (by decide)]; exact k3
    · rw [if_neg (by decide), if_pos rfl]; exact k4
  rw [e, fi_lt, fi_le, z0]
  constructor
  · intro ⟨a, b⟩; exact ⟨by omega, b⟩
  · intro ⟨a, b⟩; exact ⟨by omega, b⟩
theorem m_ad {a b : Nat} (ha : a ≤ 9) (hb : b ≤ 9) : (if nI a < nI b then nI b - nI a else nI a - nI b) = nI (ad a b) := by
  unfold ad
  by_cases z : a < b
  · rw [if_pos z, if_pos (nI_lt z (by omega)), nI_subI (by omega)]
  · rw [if_neg z, if_neg (nI_nlt (by omega) (by omega)), nI_subI (by omega)]
theorem p_push {x p t : Int32} (h : LI I R T) : Ze sc (d1 + 4) 99 [.ref 0, .int x, .int p, .int t] (HH I J R T) (PI True sc (d2 + 4) 202 [.ref 73, .int x, .int p, .int t] T) := by
  obtain ⟨tx, c, D, m, sn, s, hC, hM, hW, hS⟩ := h
  have h6 := hC.1.2.1.2.1
  have hP8 := hC.2.2.1
  have es : I 22 2 = I 78 12 := Cr_s.symm.trans ((hC.2.1 12 (by omega)).trans (hM.2.1 12 (by omega)).symm)
  obtain ⟨u, g1, g2, g3, g4, g5⟩ := hM.2.2.1
  obtain ⟨r, h', e1, q1⟩ := c_push (sc := sc) (d := d1) (J := J) (x := x) (p := p) (t := t) hC.1.2.1 hP8.1 hP8.2 hC.1.2.2.2.2.2.1
  obtain ⟨r2, h2, e2, q2⟩ := m_push (sc := sc) (d := d2) (J := J) (R := R) (T := T) (x := x) (p := p) (t := t) hM.1.2.1.1 h6 g1 g2 g3 g4
  rcases q1 with ⟨n1, rfl, rfl⟩ | ⟨k, hk, hx, hb, ⟨n1, rfl, rfl⟩ | ⟨ht, ⟨n1, rfl, rfl⟩ | ⟨n1, I1, R1, rq, a23, a24, a3, rfl, rfl⟩⟩⟩
  · rcases q2 with ⟨n2, rfl, rfl⟩ | ⟨k2, hk2, hx2, hb2, _⟩
    · exact pq_i hC hM hW hS (cs_push hC.1) e1 (kQ_0 I) (fun z => ms_push z) e2 (kR_0 I) (fun _ => rfl)
    · exact absurd ⟨by rw [hx2]; exact rod_i hk2 h6, b01.mpr hb2⟩ n1
  · rcases q2 with ⟨n2, rfl, rfl⟩ | ⟨k2, hk2, hx2, hb2, ⟨n2, rfl, rfl⟩ | ⟨t2, _⟩⟩
    · exact absurd ⟨by rw [hx]; exact rod_i hk h6, b01.mp hb⟩ n2
    · exact pq_i hC hM hW hS (cs_push hC.1) e1 (kQ_0 I) (fun z => ms_push z) e2 (kR_0 I) (fun _ => rfl)
    · have ek : k2 = k := (nI_eq (by omega) (by omega)).mp (hx2.symm.trans hx)
      rw [ek] at t2
      exact absurd ((pu_bd hM.1.2.1 hk hb).mpr t2) n1
  · rcases q2 with ⟨n2, rfl, rfl⟩ | ⟨k2, hk2, hx2, hb2, ⟨n2, rfl, rfl⟩ | ⟨t2, ⟨n2, rfl, rfl⟩ | ⟨n2, _⟩⟩⟩
    · exact absurd ⟨by rw [hx]; exact rod_i hk h6, b01.mp hb⟩ n2
    · have ek : k2 = k := (nI_eq (by omega) (by omega)).mp (hx2.symm.trans hx)
      rw [ek] at n2
      exact absurd ((pu_bd hM.1.2.1 hk hb).mp ht) n2
    · exact pq_i hC hM hW hS (cs_push hC.1) e1 (kQ_0 I) (fun z => ms_push z) e2 (kR_0 I) (fun _ => rfl)
    · refine absurd ?_ n2
      rw [← es]
      exact (st_x hx (by omega) hb).mp n1
  · clear q2 e2
    obtain ⟨_, xT, hI, hP⟩ := cs_at (cs_push hC.1) e1
    have hC1 := CX_rm hC rq
    have hM1 := MX_rmc hM rq
    obtain ⟨A, B, eA, eB, hAB⟩ : ∃ A B : Nat, (if p = 1 then 24 else 23) = A ∧ (if p = 0 then k else 6 + k) = B ∧ ((p = 0 ∧ A = 23 ∧ B = k) ∨ (p = 1 ∧ A = 24 ∧ B = 6 + k)) := by
      rcases hb with rfl | rfl
      · exact ⟨23, k, if_neg (by decide), if_pos rfl, Or.inl ⟨rfl, rfl, rfl⟩⟩
      · exact ⟨24, 6 + k, if_pos rfl, if_neg (by decide), Or.inr ⟨rfl, rfl, rfl⟩⟩
    rw [eA] at e1 hI hP
    have hA : A ≠ 22 ∧ A < 25 := by rcases hAB with ⟨_, a, _⟩ | ⟨_, a, _⟩ <;> omega
    have hB : B < 12 := by rcases hAB with ⟨_, _, a⟩ | ⟨_, _, a⟩ <;> omega
    generalize hv : cap6 (I1 22 3 + pcC I1 (D.2.1 k) p t k) = v at e1 hI hP
    have hM2 := MX_k hM1 (I' := sf (sf I1 A k t) 22 3 v) (fun a ha => by rw [sf_c (by omega), sf_c (by omega)])
    obtain ⟨u', t1, t2, t3, t4, t5⟩ := hM2.2.2.1
    obtain ⟨r2, h2, e2, q2⟩ := m_push (sc := sc) (d := d2) (J := J) (R := R1) (T := T) (x := x) (p := p) (t := t) hM2.1.2.1.1 h6 t1 t2 t3 t4
    have es2 : sf (sf I1 A k t) 22 3 v 78 12 = I 22 2 := by rw [hM2.2.1 12 (by omega), ← hC.2.1 12 (by omega), Cr_s]
    rcases q2 with ⟨n2, rfl, rfl⟩ | ⟨k2, hk2, hx2, hb2, ⟨n2, rfl, rfl⟩ | ⟨ht2, ⟨n2, rfl, rfl⟩ | ⟨n2, I2, rm, rfl, rfl⟩⟩⟩
    · exact absurd ⟨by rw [hx]; exact rod_i hk h6, b01.mp hb⟩ n2
    · have ek : k2 = k := (nI_eq (by omega) (by omega)).mp (hx2.symm.trans hx)
      rw [ek] at n2
      exact absurd ((pu_bd hM2.1.2.1 hk hb).mp ht) n2
    · refine absurd ?_ n1
      rw [es2] at n2
      exact (st_x hx (by omega) hb).mpr n2
    · have ek : k2 = k := (nI_eq (by omega) (by omega)).mp (hx2.symm.trans hx)
      subst ek
      rw [eB] at e2
      obtain ⟨_, hN⟩ := ms_at (ms_push hM2.1) e2
      have hM3 := MX_rm hM2 t1 t2 rm
      obtain ⟨ok, o1, o2, o3, o4⟩ := hM3.1.2.1.2.2.2 k2 hk
      obtain ⟨f1, f2, f3, f4⟩ := Rv_b h6 (fun i hi => (hM3.1.2.1.2.2.2 i hi).1) hW.1 hk
      have h9 := ok.2.2.1.2
      have hh3 := ok.2.2.2.1
      have tk := tk_v ok.1
      obtain ⟨t', _, et⟩ := nI_of ht.1
      have r1 : ∀ j, j < 14 → Cr 22 I1 j = s.1 j := hC1.2.1
      have r2 : ∀ j, j < 14 → I2 78 j = s.1 j := hM3.2.1
      have c3 : I1 23 k2 = s.1 k2 := (Cr_l (a := 22) (by omega)).symm.trans (r1 k2 (by omega))
      have c4 : I1 24 k2 = s.1 (6 + k2) := (Cr_h (a := 22) (by omega)).symm.trans (r1 (6 + k2) (by omega))
      have ht' : (p = 0 ∧ t' ≤ (D.2.1 k2).2.2.1) ∨ (p = 1 ∧ t' ≤ (D.2.1 k2).2.2.2) := by
        have b := ht.2
        unfold bdC at b
        rw [et] at b
        rcases hb with rfl | rfl
        · rw [if_neg (by decide)] at b
          exact Or.inl ⟨rfl, (nI_leI (by omega) (by omega)).mp b⟩
        · rw [if_pos rfl] at b
          exact Or.inr ⟨rfl, (nI_leI (by omega) (by omega)).mp b⟩
      have ht9 : t' ≤ 9 := by rcases ht' with ⟨_, a⟩ | ⟨_, a⟩ <;> omega
      obtain ⟨px, hpx, pC, pM⟩ : ∃ px, px ≤ 27 ∧ pcC I1 (D.2.1 k2) p t k2 = nI px ∧ pcM I2 p t k2 = nI px := by
        have bl := (ltv_b (D.2.1 k2)).2
        have bh := (htv_b (D.2.1 k2)).2
        unfold pcC pcM puC puM tmC
        rcases hb with rfl | rfl
        · refine ⟨ad t' ((Rv s.1).1 k2) * ltv (D.2.1 k2), ?_, ?_, ?_⟩
          · have := Nat.mul_le_mul (ad_le ht9 (show (Rv s.1).1 k2 ≤ 9 by omega)) bl
            omega
          · rw [if_neg (show ¬ (0 : Int32) = 1 by decide), if_neg (show ¬ (0 : Int32) = 1 by decide), c3, f1, et, off_v ht9 (by omega)]
            exact (Int32.ofNat_mul _ _).symm
          · rw [if_pos rfl, r2 k2 (by omega), f1, et, m_ad ht9 (by omega), o1, tk.1]
            exact (Int32.ofNat_mul _ _).symm
        · refine ⟨ad t' ((Rv s.1).2.1 k2) * htv (D.2.1 k2), ?_, ?_, ?_⟩
          · have := Nat.mul_le_mul (ad_le ht9 (show (Rv s.1).2.1 k2 ≤ 9 by omega)) bh
            omega
          · rw [if_pos rfl, if_pos rfl, c4, f2, et, off_v ht9 (by omega)]
            exact (Int32.ofNat_mul _ _).symm
          · rw [if_neg (show ¬ (1 : Int32) = 0 by decide), r2 (6 + k2) (by omega), f2, et, m_ad ht9 (by omega), o1, tk.2]
            exact (Int32.ofNat_mul _ _).symm
      obtain ⟨sp, hsp, hsp6⟩ := hW.1.1.1
      have i3 : I1 22 3 = nI sp := Cr_t.symm.trans ((r1 13 (by omega)).trans hsp)
      have i13 : I2 78 13 = nI sp := (r2 13 (by omega)).trans hsp
      obtain ⟨w, hw, hw6⟩ := cap_b (m := px) hsp6 (by omega)
      have ev : v = nI w := by rw [← hv, i3, pC]; exact hw
      have ew : cap6 (I2 78 13 + pcM I2 p t k2) = nI w := by rw [i13, pM]; exact hw
      rw [ew] at e2 hN
      have rc : ∀ j, j < 14 → Cr 22 (sf (sf I1 A k2 t) 22 3 v) j = if j = B then t else if j = 13 then nI w else s.1 j := by
        refine row14 (fun i hi => ?_) (fun i hi => ?_) ?_ ?_
        · rw [Cr_l hi, sf_c (by decide)]
          rcases hAB with ⟨_, rfl, rfl⟩ | ⟨_, rfl, rfl⟩
          · by_cases z : i = B
            · rw [if_pos z, z]; exact sf_s _ _ _ _
            · rw [if_neg z, if_neg (by omega)]
              exact (sf_k (c := 23) z).trans ((Cr_l (a := 22) hi).symm.trans (r1 i (by omega)))
          · rw [if_neg (by omega), if_neg (by omega), sf_c (by decide)]
            exact (Cr_l (a := 22) hi).symm.trans (r1 i (by omega))
        · rw [Cr_h hi, sf_c (by decide)]
          rcases hAB with ⟨_, rfl, rfl⟩ | ⟨_, rfl, rfl⟩
          · rw [if_neg (by omega), if_neg (by omega), sf_c (by decide)]
            exact (Cr_h (a := 22) hi).symm.trans (r1 (6 + i) (by omega))
          · by_cases z : i = k2
            · rw [if_pos (by omega), z]; exact sf_s _ _ _ _
            · rw [if_neg (by omega), if_neg (by omega)]
              exact (sf_k (c := 24) z).trans ((Cr_h (a := 22) hi).symm.trans (r1 (6 + i) (by omega)))
        · rw [Cr_s, sf_k (by decide), sf_c (Ne.symm hA.1), if_neg (by omega), if_neg (by decide)]
          exact Cr_s.symm.trans (r1 12 (by omega))
        · rw [Cr_t, sf_s, if_neg (by omega), if_pos rfl]
          exact ev
      have rr : ∀ j, j < 14 → sf (sf I2 78 B t) 78 13 (nI w) 78 j = if j = B then t else if j = 13 then nI w else s.1 j := fun j hj => by
        by_cases z : j = B
        · rw [if_pos z, sf_k (by omega), z, sf_s]
        · rw [if_neg z]
          by_cases y : j = 13
          · rw [if_pos y, y, sf_s]
          · rw [if_neg y, sf_k y, sf_k z]; exact r2 j hj
      refine PI_mk e1 e2 xT (fun _ => pC.trans pM.symm) (LI_mk (s := wN (rem s) (fun j => if j = B then t else if j = 13 then nI w else s.1 j)) hI (CL_n hC1.2 (fun a ha => by rw [sf_c (by omega), sf_c (by omega)]) rc) (fun a ha => by rw [sf_c (by omega), sf_c (by omega)]; exact rm.1 a (by omega) (by omega)) hN (ML_n hM3.2 rr (by rw [sf_c (by decide), sf_c (by decide)]) (by rw [sf_c (by decide), sf_c (by decide)]) (by rw [sf_c (by decide), sf_c (by decide)]) (by rw [sf_c (by decide), sf_c (by decide)]) (by rw [sf_c (by decide), sf_c (by decide)])) (WS_n (WS_rem hW hP8.2) ⟨⟨⟨w, ?_, hw6⟩, ?_⟩, fun i hi => ⟨fun hd => ?_, fun hd => ?_⟩⟩) hS)
      · show (if 13 = B then t else if (13 : Nat) = 13 then nI w else s.1 13) = nI w
        rw [if_neg (by omega), if_pos rfl]
      · show B12 (if 12 = B then t else if (12 : Nat) = 13 then nI w else s.1 12)
        rw [if_neg (by omega), if_neg (by decide)]
        exact hW.1.1.2
      · obtain ⟨l, g, a1, a2, a3, a4⟩ := (hW.1.2 i hi).1 hd
        show ∃ l h, (if i = B then t else if i = 13 then nI w else s.1 i) = nI l ∧ (if 6 + i = B then t else if 6 + i = 13 then nI w else s.1 (6 + i)) = nI h ∧ _
        rw [if_neg (show ¬ i = 13 by omega), if_neg (show ¬ 6 + i = 13 by omega)]
        rcases hAB with ⟨hp, rfl, rfl⟩ | ⟨hp, rfl, rfl⟩
        · rw [if_neg (show ¬ 6 + i = B by omega)]
          by_cases z : i = B
          · rw [if_pos z]
            refine ⟨t', g, et, a2, ?_, a4⟩
            rw [z]
            rcases ht' with ⟨_, y⟩ | ⟨y, _⟩
            · exact y
            · rw [hp] at y; exact absurd y (by decide)
          · rw [if_neg z]; exact ⟨l, g, a1, a2, a3, a4⟩
        · rw [if_neg (show ¬ i = 6 + k2 by omega)]
          by_cases z : i = k2
          · rw [if_pos (by omega)]
            refine ⟨l, t', a1, et, a3, ?_⟩
            rw [z]
            rcases ht' with ⟨y, _⟩ | ⟨_, y⟩
            · rw [hp] at y; exact absurd y (by decide)
            · exact y
          · rw [if_neg (by omega)]; exact ⟨l, g, a1, a2, a3, a4⟩
      · show (if i = B then t else if i = 13 then nI w else s.1 i) = 0 ∧ (if 6 + i = B then t else if 6 + i = 13 then nI w else s.1 (6 + i)) = 0
        rw [if_neg (by omega), if_neg (by omega), if_neg (by omega), if_neg (by omega)]
        exact (hW.1.2 i hi).2 hd
/-- isShown and set refuse alike -/
theorem se_isP {v : StV} {V : Int64} (hD : DMf D I) (hR : RV D v 78 (I 78 12) I) : (isP I J D 78 (I 78 12) V).1 = 0 ↔ (seF I J D 78 V).1 = -1 := by
  have h6 := hD.2.1
  have okr := fun k hk => (hD.2.2.2 k hk).1
  have hvb : ∀ i, i < D.1 → v.1 i ≤ 9 ∧ v.2.1 i ≤ 9 := fun i hi => (hR i hi).2.1
  have hbp : ∀ i, i < D.1 → 0 < bs D i := fun i hi => Nat.lt_of_lt_of_le (by decide) (okr i hi).2.1.1
  constructor
  · intro h
    unfold seF
    rw [if_pos h]
  · intro h
    rcases seF_w (J := J) (V := V) (Or.inl rfl) h6 hD hR with ⟨n1, _, _⟩ | ⟨x, m, f, ex, hw, _, _, e, _⟩
    · rw [isP_v (J := J) (due := V) (by decide) h6 hD hR]
      refine if_neg (fun z => ?_)
      obtain ⟨t, ht⟩ := (cn_pos hbp D.1 0 _ (by omega)).mp z.2.2
      exact n1 t ⟨z.1, ht⟩
    · rw [h] at e
      have hm := WY_le okr hvb D.1 0 x m (by omega) hw
      have := (fi_eq _ _).mp e
      rw [nI_toInt (by omega)] at this
      have z1 : (-1 : Int32).toInt = -1 := rfl
      omega
theorem Cr_rq {a b : Nat} {R2 : hR} (ha : isSt a) (h39 : a + 2 < 39) (h0 : a ≠ 0) (q : RMq b I J R T none (HH I2 J R2 T)) (j : Nat) : Cr a I2 j = Cr a I j := by
  obtain ⟨_, I', R', a', e, b1, b2, b3, b4, b5, b6, b7⟩ := q
  have hst := past_st b6
  rw [Cr_hh e ha j]
  exact Cr_of (b7.1 _ (by omega) (by omega) (by omega) (by omega)) (b7.1 _ (by omega) (by omega) (by omega) (by omega)) (b7.1 _ (by omega) (by omega) (by omega) (by omega)) j
theorem MX_R (hM : MX tx c D m sn s I) (k : kR I I1) : MX tx c D m sn s I1 := ⟨MI_q hM.1 (fun a _ _ x6 x9 x10 _ _ _ _ _ _ => k a x6 x9 x10) (fun j _ => congrFun (k _ (by decide) (by decide) (by decide)) j), ML_R hM.2 k⟩
theorem isP_R {V : Int64} : kR I (isP I J D 78 (I 78 12) V).2.1 := fun a _ h9 _ => isP_I h9
theorem p_set {v : Int32} (h : LI I R T) : Ze sc (d1 + 14) 101 [.ref 0, .int v] (HH I J R T) (PI True sc (d2 + 8) 205 [.ref 73, .int v] T) := by
  obtain ⟨tx, c, D, m, sn, s, hC, hM, hW, hS⟩ := h
  have h6 := hC.1.2.1.2.1
  have ho := DC_ok hC.1.2.1
  have hP8 := hC.2.2.1
  obtain ⟨r, h', e1, q1⟩ := c_set (sc := sc) (d := d1) (J := J) (v := v) hC.1.2.1 hC.1.2.2.2.1.1 hP8.1 hP8.2 hC.1.2.2.2.2.2.1
  rcases q1 with ⟨n1, rfl, rfl⟩ | ⟨y1, I1, cp, q⟩
  · obtain ⟨u, g1, g2, g3, g4, g5⟩ := hM.2.2.1
    obtain ⟨r2, h2, e2, q2⟩ := m_set (sc := sc) (d := d2) (J := J) (R := R) (T := T) (v := v) hM.1.2.1 g1 g2 g3 g4
    rcases q2 with ⟨_, rfl, rfl⟩ | ⟨y2, _⟩ | ⟨y2, _⟩
    · exact pq_i hC hM hW hS (cs_set hC.1) e1 (kQ_0 I) (fun z => ms_set z) e2 (kR_0 I) (fun _ => rfl)
    · exact absurd y2 n1
    · exact absurd y2 n1
  · have k25 : ∀ a, a < 25 ∨ 27 < a → I1 a = I a := fun a ha => cp.1 a (by omega) (by omega) (by omega)
    have w1 : WK I1 := WK_of hC.1.2.2.2.1 (fun c x y => k25 c (by omega))
    have kw : ∀ a, a < 4 ∨ (17 < a ∧ a < 25) ∨ 37 < a → (stF I1 D 25 v.toInt64).2 a = I a := fun a ha => by
      rw [stF_c (by omega) (by omega) (by omega) (by omega)]; exact k25 a (by omega)
    have r1 : ∀ j, j < 14 → Cr 25 I1 j = s.1 j := CP_r cp hC.2.1
    have hCw : CX tx c D m sn s (stF I1 D 25 v.toInt64).2 R T := ⟨CI_q hC.1 kw (stF_WK (by omega) ho w1), CL_q hC.2 (fun a ha => kw a (by omega))⟩
    have hMw := MX_k hM (I' := (stF I1 D 25 v.toInt64).2) (fun a ha => kw a (by omega))
    have same : ∀ (Ia : hI) (Ja : hJ), MX tx c D m sn s Ia → ((isP Ia Ja D 78 (Ia 78 12) v.toInt64).1 = 0 ↔ (stF I1 D 25 v.toInt64).1 = -1) := fun Ia Ja hMa => by
      rw [se_isP hMa.1.2.1 (RV_s hMa hW), (set_row (a := 25) (J1 := Ja) (V := v.toInt64) (by decide) (Or.inl rfl) h6 hMa.1.2.1 hW.1 r1 hMa.2.1).1]
    rcases q with ⟨f1, rfl, rfl⟩ | ⟨f1, rfl, I2, R2, I3, rq, cp2, rfl⟩
    · obtain ⟨_, xT, hI, hP⟩ := cs_at (cs_set hC.1) e1
      obtain ⟨u, g1, g2, g3, g4, g5⟩ := hMw.2.2.1
      obtain ⟨r2, h2, e2, q2⟩ := m_set (sc := sc) (d := d2) (J := J) (R := R) (T := T) (v := v) hMw.1.2.1 g1 g2 g3 g4
      rcases q2 with ⟨n2, _, _⟩ | ⟨y2, z2, rfl, rfl⟩ | ⟨y2, z2, _⟩
      · exact absurd y1 n2
      · obtain ⟨_, hN⟩ := ms_at (ms_set hMw.1) e2
        exact PI_mk e1 e2 xT (fun _ => rfl) (LI_mk hI hCw.2 (fun a ha => isP_R a (by omega) (by omega) (by omega)) hN (MX_R hMw isP_R).2 hW hS)
      · exact absurd ((same _ J hMw).mpr f1) z2
    · obtain ⟨_, xT, hI, hP⟩ := cs_at (cs_set hC.1) e1
      have hC2 := CX_rm hCw rq
      have hM2 := MX_rmc hMw rq
      have hM3 := MX_k hM2 (I' := I3) (fun a ha => cp2.1 a (by omega) (by omega) (by omega))
      obtain ⟨u, g1, g2, g3, g4, g5⟩ := hM3.2.2.1
      obtain ⟨r2, h2, e2, q2⟩ := m_set (sc := sc) (d := d2) (J := J) (R := R2) (T := T) (v := v) hM3.1.2.1 g1 g2 g3 g4
      rcases q2 with ⟨n2, _, _⟩ | ⟨y2, z2, _, _⟩ | ⟨y2, z2, I4, rm, rfl, rfl⟩
      · exact absurd y1 n2
      · exact absurd ((same _ J hM3).mp z2) f1
      · obtain ⟨_, hN⟩ := ms_at (ms_set hM3.1) e2
        have hM4 := MX_R hM3 (isP_R (I := I3) (J := J) (D := D) (V := v.toInt64))
        have hM5 := MX_rm hM4 ((congrFun (isP_I (by decide)) _).trans g1) g2 rm
        obtain ⟨s1, s2, r', s3, s4, s5⟩ := set_row (a := 25) (I := I1) (I1 := I4) (J1 := (isP I3 J D 78 (I3 78 12) v.toInt64).2.2) (V := v.toInt64) (by decide) (Or.inl rfl) h6 hM5.1.2.1 hW.1 r1 hM5.2.1
        refine PI_mk e1 e2 xT (fun _ => s1) (LI_mk (s := wN (rem s) r') hI (CL_n hC2.2 (fun a ha => cp2.1 a (by omega) (by omega) (by omega)) (CP_r cp2 (fun j hj => by rw [Cr_rq (by decide) (by decide) (by decide) rq j]; exact s4 j hj))) (fun a ha => by rw [seF_c (by omega) (by omega) (by omega), rm.1 a (by omega) (by omega)]; exact isP_I (by omega)) hN (ML_n hM5.2 s5 (seF_c (by decide) (by decide) (by decide)) (seF_c (by decide) (by decide) (by decide)) (seF_c (by decide) (by decide) (by decide)) (congrFun (seF_c (by decide) (by decide) (by decide)) _) (congrFun (seF_c (by decide) (by decide) (by decide)) _)) (WS_n (WS_rem hW hP8.2) s3) hS)
theorem p_carry {x : Int32} (h : LI I R T) : Ze sc (d1 + 8) 102 [.ref 0, .int x] (HH I J R T) (PI True sc (d2 + 6) 207 [.ref 73, .int x] T) := by
  obtain ⟨tx, c, D, m, sn, s, hC, hM, hW, hS⟩ := h
  have h6 := hC.1.2.1.2.1
  have ho := DC_ok hC.1.2.1
  have hP8 := hC.2.2.1
  obtain ⟨r, h', e1, q1⟩ := c_carry (sc := sc) (d := d1) (J := J) (x := x) hC.1.2.1 hP8.1 hP8.2 hC.1.2.2.2.2.2.1
  rcases q1 with ⟨n1, rfl, rfl⟩ | ⟨i, hi, hx, I1, cp, q⟩
  · obtain ⟨u, g1, g2, g3, g4, g5⟩ := hM.2.2.1
    obtain ⟨r2, h2, e2, q2⟩ := m_carry (sc := sc) (d := d2) (J := J) (R := R) (T := T) (x := x) hM.1.2.1 g1 g2 g3 g4
    rcases q2 with ⟨_, rfl, rfl⟩ | ⟨k, hk, hx, _⟩ | ⟨k, hk, hx, _⟩
    · exact pq_i hC hM hW hS (cs_carry hC.1) e1 (kQ_0 I) (fun z => ms_carry z) e2 (kR_0 I) (fun _ => rfl)
    · exact absurd (by rw [hx]; exact rod_i hk h6) n1
    · exact absurd (by rw [hx]; exact rod_i hk h6) n1
  · have k25 : ∀ a, a < 25 ∨ 27 < a → I1 a = I a := fun a ha => cp.1 a (by omega) (by omega) (by omega)
    have w1 : WK I1 := WK_of hC.1.2.2.2.1 (fun c x y => k25 c (by omega))
    have kw : ∀ a, a < 4 ∨ (17 < a ∧ a < 25) ∨ 37 < a → (coF I1 D 25 i).2 a = I a := fun a ha => by
      rw [coF_c (by omega) (by omega) (by omega) (by omega)]; exact k25 a (by omega)
    have r1 : ∀ j, j < 14 → Cr 25 I1 j = s.1 j := CP_r cp hC.2.1
    have hCw : CX tx c D m sn s (coF I1 D 25 i).2 R T := ⟨CI_q hC.1 kw (coF_WK (by omega) ho w1), CL_q hC.2 (fun a ha => kw a (by omega))⟩
    have hMw := MX_k hM (I' := (coF I1 D 25 i).2) (fun a ha => kw a (by omega))
    have kc : ∀ Ia : hI, kR Ia (caF (cpN Ia) D 79 i).2 := fun Ia a x6 _ _ => by rw [caF_c x6]; exact up_ne x6
    have same : ∀ (Ia : hI), MX tx c D m sn s Ia → ((caF (cpN Ia) D 79 i).1 < 0 ↔ (coF I1 D 25 i).1 = -1) := fun Ia hMa => by
      have hDa : DMf D (cpN Ia) := DMf_of hMa.1.2.1 (up_ne (by decide)) (up_ne (by decide)) (up_ne (by decide)) (up_ne (by decide)) (up_ne (by decide))
      have hr6 : ∀ j, j < 14 → cpN Ia 79 j = s.1 j := fun j hj => by
        unfold cpN
        rw [up_same, if_pos hj]
        exact hMa.2.1 j hj
      obtain ⟨b1, b2, _⟩ := carry_row (a := 25) (o := 79) (by decide) h6 hDa hW.1 hi r1 hr6
      rw [b1]
      rcases b2 with z | z
      · rw [z]; exact ⟨fun _ => rfl, fun _ => by decide⟩
      · constructor
        · intro y
          rw [fi_lt] at y
          rw [fi_le] at z
          omega
        · intro y
          rw [y] at z
          exact absurd z (by decide)
    rcases q with ⟨f1, rfl, rfl⟩ | ⟨f1, rfl, I2, R2, I3, rq, cp2, rfl⟩
    · obtain ⟨_, xT, hI, hP⟩ := cs_at (cs_carry hC.1) e1
      obtain ⟨u, g1, g2, g3, g4, g5⟩ := hMw.2.2.1
      obtain ⟨r2, h2, e2, q2⟩ := m_carry (sc := sc) (d := d2) (J := J) (R := R) (T := T) (x := x) hMw.1.2.1 g1 g2 g3 g4
      rcases q2 with ⟨n2, _, _⟩ | ⟨k, hk, hx2, z2, rfl, rfl⟩ | ⟨k, hk, hx2, z2, _⟩
      · exact absurd (by rw [hx]; exact rod_i hi h6) n2
      · have ek : k = i := (nI_eq (by omega) (by omega)).mp (hx2.symm.trans hx)
        subst ek
        obtain ⟨_, hN⟩ := ms_at (ms_carry hMw.1) e2
        exact PI_mk e1 e2 xT (fun _ => rfl) (LI_mk hI hCw.2 (fun a ha => kc _ a (by omega) (by omega) (by omega)) hN (MX_R hMw (kc _)).2 hW hS)
      · have ek : k = i := (nI_eq (by omega) (by omega)).mp (hx2.symm.trans hx)
        subst ek
        exact absurd ((same _ hMw).mpr f1) z2
    · obtain ⟨_, xT, hI, hP⟩ := cs_at (cs_carry hC.1) e1
      have hC2 := CX_rm hCw rq
      have hM2 := MX_rmc hMw rq
      have hM3 := MX_k hM2 (I' := I3) (fun a ha => cp2.1 a (by omega) (by omega) (by omega))
      obtain ⟨u, g1, g2, g3, g4, g5⟩ := hM3.2.2.1
      obtain ⟨r2, h2, e2, q2⟩ := m_carry (sc := sc) (d := d2) (J := J) (R := R2) (T := T) (x := x) hM3.1.2.1 g1 g2 g3 g4
      rcases q2 with ⟨n2, _, _⟩ | ⟨k, hk, hx2, z2, _, _⟩ | ⟨k, hk, hx2, z2, I4, rm, rfl, rfl⟩
      · exact absurd (by rw [hx]; exact rod_i hi h6) n2
      · have ek : k = i := (nI_eq (by omega) (by omega)).mp (hx2.symm.trans hx)
        subst ek
        exact absurd ((same _ hM3).mp z2) f1
      · have ek : k = i := (nI_eq (by omega) (by omega)).mp (hx2.symm.trans hx)
        subst ek
        obtain ⟨_, hN⟩ := ms_at (ms_carry hM3.1) e2
        have hM4 := MX_R hM3 (kc I3)
        have hM5 := MX_rm hM4 ((congrFun (kc I3 73 (by decide) (by decide) (by decide)) _).trans g1) g2 rm
        obtain ⟨s1, s2, r', s3, s4, s5⟩ := carry_row (a := 25) (o := 78) (I := I1) (I1 := I4) (by decide) h6 hM5.1.2.1 hW.1 hk r1 hM5.2.1
        refine PI_mk e1 e2 xT (fun _ => s1) (LI_mk (s := wN (rem s) r') hI (CL_n hC2.2 (fun a ha => cp2.1 a (by omega) (by omega) (by omega)) (CP_r cp2 (fun j hj => by rw [Cr_rq (by decide) (by decide) (by decide) rq j]; exact s4 j hj))) (fun a ha => by rw [caF_c (by omega), rm.1 a (by omega) (by omega)]; exact kc I3 a (by omega) (by omega) (by omega)) hN (ML_n hM5.2 s5 (caF_c (by decide)) (caF_c (by decide)) (caF_c (by decide)) (congrFun (caF_c (by decide)) _) (congrFun (caF_c (by decide)) _)) (WS_n (WS_rem hW hP8.2) s3) hS)
end PR4

