/-! Sums: an operand, and the whole expression, in the reference. -/
theorem UE_34 {v : Int64} {I : hI} {J : hJ} : UE I J I (sl J 73 34 v) := ⟨fun _ _ _ _ => rfl, fun _ _ _ _ _ _ _ _ => rfl, fun b b1 _ _ => sl_c b1⟩
theorem ss_1l {tx : Nat → Nat} {c k s dd p : Nat} (h : ss tx c k 0 s dd = .inl p) : ss tx c (k + 1) 1 s dd = .inl p := by
  simp only [ss, h]
theorem ss_1r {tx : Nat → Nat} {c k s dd q : Nat} (h : ss tx c k 0 s dd = .inr q) : ss tx c (k + 1) 1 s dd = ss tx c k 2 q dd := by
  simp only [ss, h]
section MSY
variable {sc : Nat × (Nat → Int32)} {d : Nat} {R : hR} {T : am_H} {Q : Option Value → am_H → Prop} {tx : Nat → Nat} {c : Nat}
theorem XD_R {dd : Nat} {I I' : hI} {J J' : hJ} (h : XD dd I) (u : UR I J I' J') : XD dd I' := by
  have e1 := u.2.1 29 (by decide) (by decide) (by decide) (by decide) (by decide)
  have e2 := u.2.1 28 (by decide) (by decide) (by decide) (by decide) (by decide)
  have e3 := u.2.1 27 (by decide) (by decide) (by decide) (by decide) (by decide)
  exact ⟨e1.trans h.1, h.2.1, by rw [e2]; exact h.2.2.1, by rw [e2, e3]; exact h.2.2.2⟩
theorem x0_step {o k n : Nat} {I0 : hI} {J0 : hJ} (hM0 : MT tx c I0) (ho : o = 78 ∨ o = 79) (hn : I0 73 0 = nI n) (hn6 : n ≤ 6) (ih : ∀ j, j ≤ k → X0 sc (d + 4) tx c o I0 J0 R T Q j ∧ X2 sc (d + 4) tx c o I0 J0 R T Q j) : X0 sc (d + 4) tx c o I0 J0 R T Q (k + 1) := by
  intro s dd i I J hk hi hsi hU hX h14 hF hS
  have hM := MT_E hM0 hU
  have h255 := hM0.2.2.2
  have hs : s ≤ c := by rw [← hsi]; exact tS_c hi
  have hE := tE_c (tx := tx) hs
  refine Z_jump 1 rfl ?_
  show Zs _ _ (am_P 194).2 (10, [(0, .ref 73), (1, .ref o)], [.ref 73]) (HH I J R T) _
  refine Z_cQ rfl rfl rfl (m_reads (d := d) hM h14 hi) (fun v h1 hq => ?_)
  obtain ⟨rfl, I1, J1, rfl, u1, g15, g14, gK⟩ := hq
  rw [hsi] at g15 g14 gK
  show Zs _ _ (am_P 194).2 (13, [(0, .ref 73), (1, .ref o)], []) (HH I1 J1 R T) _
  show Zs _ _ (am_P 194).2 (13, [(0, .ref 73), (1, .ref o)], []) (HH I1 J1 R T) _
  have U1 := UE_t hU (UE_R u1)
  have X1 := XD_R hX u1
  have hM1 := MT_E hM0 U1
  have k40 := RD_c (t := 40) h255 gK (by omega) (by omega) (by omega)
  have k35 := RD_c (t := 35) h255 gK (by omega) (by omega) (by omega)
  have kd := RD_n h255 gK
  have d1 := X1.1
  have d6 := X1.2.1
  /- behind part(v): the next token is read, and PW is reached -/
  have goPW : ∀ (I2 : hI) (J2 : hJ), UE I0 J0 I2 J2 → XD dd I2 → I2 73 14 = nI (tE tx c s) → ss tx c (k + 1) 0 s dd = .inr (nx tx c s) → Zs sc (d + 4) (am_P 194).2 (97, [(0, .ref 73), (1, .ref o)], []) (HH I2 J2 R T) Q := fun I2 J2 u2 x2 e2 er => by
    refine Z_jump 1 rfl ?_
    show Zs _ _ (am_P 194).2 (98, [(0, .ref 73), (1, .ref o)], [.ref 73]) (HH I2 J2 R T) _
    refine Z_cQ rfl rfl rfl (m_reads (d := d) (MT_E hM0 u2) e2 hE.2) (fun v h1 hq => ?_)
    obtain ⟨rfl, I3, J3, rfl, u3, t15, t14, tK⟩ := hq
    show Zs _ _ (am_P 194).2 (101, [(0, .ref 73), (1, .ref o)], []) (HH I3 J3 R T) _
    show Zs _ _ (am_P 194).2 (101, [(0, .ref 73), (1, .ref o)], []) (HH I3 J3 R T) _
    exact hS (nx tx c s) I3 J3 er (UE_t u2 (UE_R u3)) (XD_R x2 u3) ⟨tS_c hE.2, t15, t14, tK⟩
  by_cases h40 : s < c ∧ tx s = 40
  · have h35 : ¬ (s < c ∧ tx s = 35) := fun z => by have := z.2; have := h40.2; omega
    have hnx := nx_lt (tx := tx) h40.1
    by_cases hd6 : dd = 6
    · have es : ss tx c (k + 1) 0 s dd = .inl s := by simp only [ss]; rw [if_neg h35, if_pos h40, if_pos (by omega)]
      refine Z_jump 4 rfl ?_
      refine Z_bn (fun c19 => absurd ((k40.mpr h40)) c19) (fun c19 => ?_)
      refine Z_jump 4 rfl ?_
      refine Z_bn (fun c28 => absurd ((show I1 73 29 = 6 by rw [d1, hd6]; rfl)) c28) (fun c28 => ?_)
      refine Z_jump 1 rfl ?_
      show Zs _ _ (am_P 194).2 (32, [(0, .ref 73), (1, .ref o)], [.int (0 : Int32)]) (HH I1 J1 R T) _
      refine Z_rI rfl (by first | exact am_nw0 _ | exact am_nw01 | rfl | assumption) ?_
      exact hF s I1 J1 es hs U1 X1.2.2 g15
    · obtain ⟨k', rfl⟩ : ∃ k', k = k' + 1 := ⟨k - 1, by omega⟩
      obtain ⟨y0, y2⟩ := ih k' (by omega)
      have hlt6 : ¬ 6 ≤ dd := by omega
      refine Z_jump 4 rfl ?_
      refine Z_bn (fun c19 => absurd ((k40.mpr h40)) c19) (fun c19 => ?_)
      refine Z_jump 4 rfl ?_
      refine Z_bn (fun c28 => ?_) (fun c28 => absurd c28 ((show ¬ I1 73 29 = 6 by rw [d1]; exact fun z => by have := (nI_eq (b := 6) (by omega) (by omega)).mp z; omega)))
      refine Z_jump 1 rfl ?_
      show Zs _ _ (am_P 194).2 (34, [(0, .ref 73), (1, .ref o)], [.ref 73]) (HH I1 J1 R T) _
      refine Z_c0 rfl rfl rfl (m_opens (d := d + 3) (e := dd + 1) (by rw [d1]; exact nI_1 dd) (by omega)) ?_
      show Zs _ _ (am_P 194).2 (37, [(0, .ref 73), (1, .ref o)], []) (HH (sf (sf (sf I1 73 29 (nI (dd + 1))) 91 (dd + 1) 43) 92 (dd + 1) 0) (sl J1 89 (dd + 1) 0) R T) _
      refine Z_jump 1 rfl ?_
      show Zs _ _ (am_P 194).2 (9, [(0, .ref 73), (1, .ref o)], []) (HH (sf (sf (sf I1 73 29 (nI (dd + 1))) 91 (dd + 1) 43) 92 (dd + 1) 0) (sl J1 89 (dd + 1) 0) R T) _
      have U2 : UE I0 J0 (sf (sf (sf I1 73 29 (nI (dd + 1))) 91 (dd + 1) 43) 92 (dd + 1) 0) (sl J1 89 (dd + 1) 0) := UE_t U1 (UE_t (UE_t UE_29 (UE_a (by omega))) (UE_t (UE_a (by omega)) (UE_J (by omega))))
      refine y0 (nx tx c s) (dd + 1) (tE tx c s) _ _ (by omega) hE.2 rfl U2 ⟨rfl, by omega, X1.2.2⟩ g14 (fun p I3 J3 hp => ?_) (fun s2 I3 J3 hq3 u3 x3 t3 => ?_)
      · exact hF p I3 J3 (by simp only [ss]; rw [if_neg h35, if_pos h40, if_neg hlt6, hp])
      have hadv := (ss_adv (tx := tx) (c := c) k' 0 (nx tx c s) (dd + 1) hnx.2).2 _ hq3
      have h3 := hadv.2.2 (by omega)
      refine y2 s2 (dd + 1) I3 J3 (by have := hadv.1; omega) u3 x3 t3 (fun p I4 J4 hp => ?_) (fun s4 I4 J4 hq4 hop u4 x4 t4 => ?_)
      · exact hF p I4 J4 (by simp only [ss]; rw [if_neg h35, if_pos h40, if_neg hlt6, hq3]; dsimp only; rw [hp])
      obtain ⟨q1, q15, q14, qK⟩ := id t4
      have m41 := RD_c (t := 41) h255 qK (by omega) (by omega) (by omega)
      have m42 := RD_c (t := 42) h255 qK (by omega) (by omega) (by omega)
      have m43 := RD_c (t := 43) h255 qK (by omega) (by omega) (by omega)
      have m45 := RD_c (t := 45) h255 qK (by omega) (by omega) (by omega)
      have m47 := RD_c (t := 47) h255 qK (by omega) (by omega) (by omega)
      have d4 := x4.1
      have hE4 := tE_c (tx := tx) q1
      have dpos : ¬ I4 73 29 ≤ 0 := by rw [d4]; exact nI_nle (by omega) (by omega)
      by_cases h41 : s4 < c ∧ tx s4 = 41
      · have es : ss tx c (k' + 1 + 1) 0 s dd = .inr (nx tx c s4) := by simp only [ss]; rw [if_neg h35, if_pos h40, if_neg hlt6, hq3]; dsimp only; rw [hq4]; dsimp only; rw [if_pos h41]
        refine Z_jump 4 rfl ?_
        refine Z_bn (fun c107 => absurd ((m41.mpr h41)) c107) (fun c107 => ?_)
        refine Z_jump 3 rfl ?_
        refine Z_bd (fun c114 => absurd c114 (dpos)) (fun c114 => ?_)
        refine Z_jump 1 rfl ?_
        show Zs _ _ (am_P 194).2 (118, [(0, .ref 73), (1, .ref o)], [.ref 73]) (HH I4 J4 R T) _
        refine Z_cQ rfl rfl rfl (m_closesTerm (d := d + 1) d4 (by omega) x4.2.2.1) (fun v h1 hq => ?_)
        obtain ⟨rfl, I5, J5, rfl, a1, a2, a3, u5⟩ := hq
        have d5 : I5 73 29 - 1 = nI dd := by rw [u5.2.1 29 (by decide), d4]; exact nI_pred dd
        have t5 : TB I5 := TB_cl x4.2.2 u5
        show Zs _ _ (am_P 194).2 (121, [(0, .ref 73), (1, .ref o)], []) (HH I5 J5 R T) _
        refine Z_jump 5 rfl ?_
        show Zs _ _ (am_P 194).2 (128, [(0, .ref 73), (1, .ref o)], [.int ((I5 73 29) - (1 : Int32)), .ref 73]) (HH I5 J5 R T) _
        refine Z_eqI (y := (nI dd)) (d5) ?_
        show Zs _ _ (am_P 194).2 (128, [(0, .ref 73), (1, .ref o)], [.int (nI dd), .ref 73]) (HH I5 J5 R T) _
        refine Z_jump 1 rfl ?_
        show Zs _ _ (am_P 194).2 (131, [(0, .ref 73), (1, .ref o)], []) (HH (sf I5 73 29 (nI dd)) J5 R T) _
        refine Z_jump 7 rfl ?_
        show Zs _ _ (am_P 194).2 (142, [(0, .ref 73), (1, .ref o)], [.int ((nI dd) + (1 : Int32)), .ref 89, .ref 73]) (HH (sf I5 73 29 (nI dd)) J5 R T) _
        refine Z_lalK (dd + 1) rfl rfl (nI_1 dd) (by omega) (by decide) ?_
        show Zs _ _ (am_P 194).2 (143, [(0, .ref 73), (1, .ref o)], [.long (J5 89 (dd + 1)), .ref 73]) (HH (sf I5 73 29 (nI dd)) J5 R T) _
        show Zs _ _ (am_P 194).2 (143, [(0, .ref 73), (1, .ref o)], [.long (J5 89 (dd + 1)), .ref 73]) (HH (sf I5 73 29 (nI dd)) J5 R T) _
        refine Z_cQ rfl rfl rfl (m_partQ (d := d + 1) (e := dd) (I := sf I5 73 29 (nI dd)) rfl (by omega) t5.1) (fun v h1 hq => ?_)
        obtain ⟨rfl, I6, rfl, u6⟩ := hq
        have U6 := UE_t (UE_t u4 (UE_t (UE_28 u5) (UE_16 a1))) (UE_t UE_29 (UE_t (UE_28 u6) (UE_J (a := 90) (k := dd) (v := (mpt (sf I5 73 29 (nI dd) 73 27) (sf I5 73 29 (nI dd) 73 28) (sf I5 73 29 (nI dd) 92 dd) (J5 90 dd) (J5 89 (dd + 1))).1) (by omega))))
        have X6 : XD dd I6 := ⟨u6.2.1 29 (by decide), by omega, TB_pt (I := sf I5 73 29 (nI dd)) t5 u6⟩
        show Zs _ _ (am_P 194).2 (146, [(0, .ref 73), (1, .ref o)], []) (HH I6 (sl J5 90 dd (mpt (sf I5 73 29 (nI dd) 73 27) (sf I5 73 29 (nI dd) 73 28) (sf I5 73 29 (nI dd) 92 dd) (J5 90 dd) (J5 89 (dd + 1))).1) R T) _
        refine Z_jump 1 rfl ?_
        show Zs _ _ (am_P 194).2 (147, [(0, .ref 73), (1, .ref o)], [.ref 73]) (HH I6 (sl J5 90 dd (mpt (sf I5 73 29 (nI dd) 73 27) (sf I5 73 29 (nI dd) 73 28) (sf I5 73 29 (nI dd) 92 dd) (J5 90 dd) (J5 89 (dd + 1))).1) R T) _
        refine Z_cQ rfl rfl rfl (m_reads (d := d) (i := tE tx c s4) (MT_E hM0 U6) ((u6.2.1 14 (by decide)).trans ((u5.2.1 14 (by decide)).trans q14)) hE4.2) (fun v h1 hq => ?_)
        obtain ⟨rfl, I7, J7, rfl, u7, t15, t14, tK⟩ := hq
        show Zs _ _ (am_P 194).2 (150, [(0, .ref 73), (1, .ref o)], []) (HH I7 J7 R T) _
        refine Z_jump 1 rfl ?_
        show Zs _ _ (am_P 194).2 (101, [(0, .ref 73), (1, .ref o)], []) (HH I7 J7 R T) _
        exact hS (nx tx c s4) I7 J7 es (UE_t U6 (UE_R u7)) (XD_R X6 u7) ⟨tS_c hE4.2, t15, t14, tK⟩
      · have es : ss tx c (k' + 1 + 1) 0 s dd = .inl s4 := by simp only [ss]; rw [if_neg h35, if_pos h40, if_neg hlt6, hq3]; dsimp only; rw [hq4]; dsimp only; rw [if_neg h41]
        refine Z_jump 4 rfl ?_
        refine Z_bn (fun c107 => ?_) (fun c107 => absurd c107 ((fun z => h41 (m41.mp z))))
        refine Z_jump 4 rfl ?_
        refine Z_bd (fun c159 => absurd c159 ((fun z => hop ⟨(m42.mp z).1, Or.inl (m42.mp z).2⟩))) (fun c159 => ?_)
        refine Z_jump 4 rfl ?_
        refine Z_bn (fun c168 => ?_) (fun c168 => absurd c168 ((fun z => hop ⟨(m47.mp z).1, Or.inr (Or.inl (m47.mp z).2)⟩)))
        refine Z_jump 4 rfl ?_
        refine Z_bd (fun c193 => absurd c193 ((fun z => hop ⟨(m43.mp z).1, Or.inr (Or.inr (Or.inl (m43.mp z).2))⟩))) (fun c193 => ?_)
        refine Z_jump 4 rfl ?_
        refine Z_bn (fun c202 => ?_) (fun c202 => absurd c202 ((fun z => hop ⟨(m45.mp z).1, Or.inr (Or.inr (Or.inr (m45.mp z).2))⟩)))
        refine Z_jump 3 rfl ?_
        refine Z_bd (fun c239 => absurd c239 (dpos)) (fun c239 => ?_)
        refine Z_jump 1 rfl ?_
        show Zs _ _ (am_P 194).2 (243, [(0, .ref 73), (1, .ref o)], [.int (0 : Int32)]) (HH I4 J4 R T) _
        refine Z_rI rfl (by first | exact am_nw0 _ | exact am_nw01 | rfl | assumption) ?_
        exact hF s4 I4 J4 es q1 u4 x4.2.2 q15
  · by_cases hdg : dg tx c s
    · have h35 : ¬ (s < c ∧ tx s = 35) := fun z => by have := z.2; have := hdg.2; omega
      have h17 := (gK.2.2.1 hdg).2.1
      have e55 : I1 73 17 ≤ 7 ↔ tE tx c s - s ≤ 7 := by rw [h17]; exact nI_leI (b := 7) (by have := hM0.2.1; omega) (by omega)
      by_cases h7 : tE tx c s - s ≤ 7
      · have hlt := nv_lt hdg h7 (by omega)
        have hTN : TN tx c s 7 0 1000000000 := ⟨hdg, h7, by omega, by omega⟩
        have es : ss tx c (k + 1) 0 s dd = .inr (nx tx c s) := by simp only [ss]; rw [if_neg h35, if_neg h40, if_pos hTN]
        refine Z_jump 4 rfl ?_
        refine Z_bn (fun c19 => ?_) (fun c19 => absurd c19 ((fun z => h40 (k40.mp z))))
        refine Z_jump 4 rfl ?_
        refine Z_bn (fun c46 => absurd ((kd.mpr hdg)) c46) (fun c46 => ?_)
        refine Z_jump 4 rfl ?_
        refine Z_bd (fun c55 => ?_) (fun c55 => absurd ((e55.mpr h7)) c55)
        refine Z_jump 5 rfl ?_
        refine Z_bn (fun c79 => absurd ((kd.mpr hdg)) c79) (fun c79 => ?_)
        refine Z_jump 3 rfl ?_
        show Zs _ _ (am_P 194).2 (94, [(0, .ref 73), (1, .ref o)], [.long (J1 73 18), .ref 73]) (HH I1 J1 R T) _
        refine Z_cQ rfl rfl rfl (m_partQ (d := d + 1) (e := dd) d1 (by omega) X1.2.2.1) (fun v h1 hq => ?_)
        obtain ⟨rfl, I2, rfl, u2⟩ := hq
        show Zs _ _ (am_P 194).2 (97, [(0, .ref 73), (1, .ref o)], []) (HH I2 (sl J1 90 dd (mpt (I1 73 27) (I1 73 28) (I1 92 dd) (J1 90 dd) (J1 73 18)).1) R T) _
        show Zs _ _ (am_P 194).2 (97, [(0, .ref 73), (1, .ref o)], []) (HH I2 (sl J1 90 dd (mpt (I1 73 27) (I1 73 28) (I1 92 dd) (J1 90 dd) (J1 73 18)).1) R T) _
        exact goPW _ _ (UE_t U1 (UE_t (UE_28 u2) (UE_J (a := 90) (by omega)))) ⟨(u2.2.1 29 (by decide)).trans d1, d6, TB_pt X1.2.2 u2⟩ ((u2.2.1 14 (by decide)).trans g14) es
      · have es : ss tx c (k + 1) 0 s dd = .inl s := by simp only [ss]; rw [if_neg h35, if_neg h40, if_neg (fun z => h7 z.2.1)]
        refine Z_jump 4 rfl ?_
        refine Z_bn (fun c19 => ?_) (fun c19 => absurd c19 ((fun z => h40 (k40.mp z))))
        refine Z_jump 4 rfl ?_
        refine Z_bn (fun c46 => absurd ((kd.mpr hdg)) c46) (fun c46 => ?_)
        refine Z_jump 4 rfl ?_
        refine Z_bd (fun c55 => absurd c55 ((fun z => h7 (e55.mp z)))) (fun c55 => ?_)
        refine Z_jump 2 rfl ?_
        show Zs _ _ (am_P 194).2 (71, [(0, .ref 73), (1, .ref o)], [.int (0 : Int32)]) (HH I1 J1 R T) _
        refine Z_rI rfl (by first | exact am_nw0 _ | exact am_nw01 | rfl | assumption) ?_
        exact hF s I1 J1 es hs U1 X1.2.2 g15
    · by_cases h35 : s < c ∧ tx s = 35
      · have es : ss tx c (k + 1) 0 s dd = .inr (nx tx c s) := by simp only [ss]; rw [if_pos h35]
        have hn1 : I1 73 0 = nI n := (U1.2.1 0 (by decide) (by decide) (by decide) (by decide) (by decide) (by decide) (by decide)).trans hn
        refine Z_jump 4 rfl ?_
        refine Z_bn (fun c19 => ?_) (fun c19 => absurd c19 ((fun z => h40 (k40.mp z))))
        refine Z_jump 4 rfl ?_
        refine Z_bn (fun c46 => ?_) (fun c46 => absurd c46 ((fun z => hdg (kd.mp z))))
        refine Z_jump 4 rfl ?_
        refine Z_bd (fun c67 => ?_) (fun c67 => absurd ((k35.mpr h35)) c67)
        refine Z_jump 5 rfl ?_
        refine Z_bn (fun c79 => ?_) (fun c79 => absurd c79 ((fun z => hdg (kd.mp z))))
        refine Z_jump 2 rfl ?_
        show Zs _ _ (am_P 194).2 (91, [(0, .ref 73), (1, .ref o)], [.ref o, .ref 73, .ref 73]) (HH I1 J1 R T) _
        refine Z_c1 rfl rfl rfl (m_numberOf (d := d) ho hn1 hn6) ?_
        show Zs _ _ (am_P 194).2 (94, [(0, .ref 73), (1, .ref o)], [.long (M_nl I1 o n 0), .ref 73]) (HH I1 J1 R T) _
        show Zs _ _ (am_P 194).2 (94, [(0, .ref 73), (1, .ref o)], [.long (M_nl I1 o n 0), .ref 73]) (HH I1 J1 R T) _
        refine Z_cQ rfl rfl rfl (m_partQ (d := d + 1) (e := dd) d1 (by omega) X1.2.2.1) (fun v h1 hq => ?_)
        obtain ⟨rfl, I2, rfl, u2⟩ := hq
        show Zs _ _ (am_P 194).2 (97, [(0, .ref 73), (1, .ref o)], []) (HH I2 (sl J1 90 dd (mpt (I1 73 27) (I1 73 28) (I1 92 dd) (J1 90 dd) (M_nl I1 o n 0)).1) R T) _
        show Zs _ _ (am_P 194).2 (97, [(0, .ref 73), (1, .ref o)], []) (HH I2 (sl J1 90 dd (mpt (I1 73 27) (I1 73 28) (I1 92 dd) (J1 90 dd) (M_nl I1 o n 0)).1) R T) _
        exact goPW _ _ (UE_t U1 (UE_t (UE_28 u2) (UE_J (a := 90) (by omega)))) ⟨(u2.2.1 29 (by decide)).trans d1, d6, TB_pt X1.2.2 u2⟩ ((u2.2.1 14 (by decide)).trans g14) es
      · have es : ss tx c (k + 1) 0 s dd = .inl s := by simp only [ss]; rw [if_neg h35, if_neg h40, if_neg (fun z => hdg z.1)]
        refine Z_jump 4 rfl ?_
        refine Z_bn (fun c19 => ?_) (fun c19 => absurd c19 ((fun z => h40 (k40.mp z))))
        refine Z_jump 4 rfl ?_
        refine Z_bn (fun c46 => ?_) (fun c46 => absurd c46 ((fun z => hdg (kd.mp z))))
        refine Z_jump 4 rfl ?_
        refine Z_bd (fun c67 => absurd c67 ((fun z => h35 (k35.mp z)))) (fun c67 => ?_)
        refine Z_jump 1 rfl ?_
        show Zs _ _ (am_P 194).2 (71, [(0, .ref 73), (1, .ref o)], [.int (0 : Int32)]) (HH I1 J1 R T) _
        refine Z_rI rfl (by first | exact am_nw0 _ | exact am_nw01 | rfl | assumption) ?_
        exact hF s I1 J1 es hs U1 X1.2.2 g15
theorem x_all {o n : Nat} {I0 : hI} {J0 : hJ} (hM0 : MT tx c I0) (ho : o = 78 ∨ o = 79) (hn : I0 73 0 = nI n) (hn6 : n ≤ 6) : ∀ k j, j ≤ k → X0 sc (d + 4) tx c o I0 J0 R T Q j ∧ X2 sc (d + 4) tx c o I0 J0 R T Q j
  | 0, j, hj => by
    obtain rfl : j = 0 := by omega
    exact ⟨fun s dd i I J h => absurd h (by omega), fun s dd I J h => absurd h (by omega)⟩
  | k + 1, j, hj => by
    have ih := x_all (J0 := J0) hM0 ho hn hn6 k
    by_cases e : j ≤ k
    · exact ih j e
    · obtain rfl : j = k + 1 := by omega
      exact ⟨x0_step hM0 ho hn hn6 ih, x2_step hM0 (ih k (Nat.le_refl k)).1 (ih k (Nat.le_refl k)).2⟩
/-- readsExpr: where it ends, or its first fault -/
def XQ (tx : Nat → Nat) (c : Nat) (res : Nat ⊕ Nat) (I0 : hI) (J0 : hJ) (R : hR) (T : am_H) (r : Option Value) (h : am_H) : Prop := ∃ I J, h = HH I J R T ∧ UE I0 J0 I J ∧ TB I ∧ (match res with
  | .inl p => p ≤ c ∧ r = some (.int 0) ∧ I 73 15 = nI p
  | .inr s2 => r = some (.int 1) ∧ TK tx c s2 I J)
theorem m_readsExpr {o n i : Nat} {I : hI} {J : hJ} (hM : MT tx c I) (ho : o = 78 ∨ o = 79) (hn : I 73 0 = nI n) (hn6 : n ≤ 6) (h14 : I 73 14 = nI i) (hi : i ≤ c) (ht : TB I) : Ze sc (d + 5) 194 [.ref 73, .ref o] (HH I J R T) (XQ tx c (ss tx c 500 1 (tS tx c i) 0) I J R T) := by
  refine Ze_of (Nat.le_of_ble_eq_true rfl) ?_
  have h255 := hM.2.2.2
  have hc := hM.2.1
  have hs := tS_c (tx := tx) hi
  obtain ⟨x0, x2⟩ := x_all (sc := sc) (d := d) (R := R) (T := T) (Q := XQ tx c (ss tx c 500 1 (tS tx c i) 0) I J R T) (J0 := J) hM ho hn hn6 499 499 (Nat.le_refl _)
  refine Z_jump 3 rfl ?_
  show Zs _ _ (am_P 194).2 (5, [(0, .ref 73), (1, .ref o)], []) (HH (sf I 73 29 (-1 : Int32)) J R T) _
  refine Z_jump 1 rfl ?_
  show Zs _ _ (am_P 194).2 (6, [(0, .ref 73), (1, .ref o)], [.ref 73]) (HH (sf I 73 29 (-1 : Int32)) J R T) _
  refine Z_c0 rfl rfl rfl (m_opens (d := d + 3) (e := 0) (I := (sf I 73 29 (-1 : Int32))) (by rw [sf_s]; decide) (by omega)) ?_
  show Zs _ _ (am_P 194).2 (9, [(0, .ref 73), (1, .ref o)], []) (HH (sf (sf (sf (sf I 73 29 (-1 : Int32)) 73 29 (nI 0)) 91 0 43) 92 0 0) (sl J 89 0 0) R T) _
  show Zs _ _ (am_P 194).2 (9, [(0, .ref 73), (1, .ref o)], []) (HH (sf (sf (sf (sf I 73 29 (-1 : Int32)) 73 29 (nI 0)) 91 0 43) 92 0 0) (sl J 89 0 0) R T) _
  refine x0 (tS tx c i) 0 i _ _ (by omega) hi rfl (UE_t UE_29 (UE_t (UE_t UE_29 (UE_a (by omega))) (UE_t (UE_a (by omega)) (UE_J (by omega))))) ⟨rfl, by omega, ht⟩ h14 (fun p I3 J3 hp h1 h2 h3 h4 => ?_) (fun s2 I3 J3 hq3 u3 x3 t3 => ?_)
  · have es : ss tx c 500 1 (tS tx c i) 0 = .inl p := ss_1l (k := 499) hp
    rw [es]
    exact ⟨I3, J3, rfl, h2, h3, h1, rfl, h4⟩
  have hadv := (ss_adv (tx := tx) (c := c) 499 0 (tS tx c i) 0 hs).2 _ hq3
  have es0 : ss tx c 500 1 (tS tx c i) 0 = ss tx c 499 2 s2 0 := ss_1r (k := 499) hq3
  refine x2 s2 0 I3 J3 (by have := hadv.1; omega) u3 x3 t3 (fun p I4 J4 hp h1 h2 h3 h4 => ?_) (fun s4 I4 J4 hq4 hop u4 x4 t4 => ?_)
  · rw [es0, hp]
    exact ⟨I4, J4, rfl, h2, h3, h1, rfl, h4⟩
  rw [es0, hq4]
  obtain ⟨q1, q15, q14, qK⟩ := id t4
  have m42 := RD_c (t := 42) h255 qK (by omega) (by omega) (by omega)
  have m43 := RD_c (t := 43) h255 qK (by omega) (by omega) (by omega)
  have m45 := RD_c (t := 45) h255 qK (by omega) (by omega) (by omega)
  have m47 := RD_c (t := 47) h255 qK (by omega) (by omega) (by omega)
  have d4 := x4.1
  refine Z_jump 4 rfl ?_
  refine Z_bn (fun (c107 : ¬ ((I4 73 16) = (41 : Int32))) => ?_) (fun (c107 : (I4 73 16) = (41 : Int32)) => ?_)
  · refine Z_jump 4 rfl ?_
    refine Z_bd (fun c159 => absurd c159 ((fun z => hop ⟨(m42.mp z).1, Or.inl (m42.mp z).2⟩))) (fun c159 => ?_)
    refine Z_jump 4 rfl ?_
    refine Z_bn (fun c168 => ?_) (fun c168 => absurd c168 ((fun z => hop ⟨(m47.mp z).1, Or.inr (Or.inl (m47.mp z).2)⟩)))
    refine Z_jump 4 rfl ?_
    refine Z_bd (fun c193 => absurd c193 ((fun z => hop ⟨(m43.mp z).1, Or.inr (Or.inr (Or.inl (m43.mp z).2))⟩))) (fun c193 => ?_)
    refine Z_jump 4 rfl ?_
    refine Z_bn (fun c202 => ?_) (fun c202 => absurd c202 ((fun z => hop ⟨(m45.mp z).1, Or.inr (Or.inr (Or.inr (m45.mp z).2))⟩)))
    refine Z_jump 3 rfl ?_
    refine Z_bd (fun c239 => ?_) (fun c239 => absurd ((show I4 73 29 ≤ 0 by rw [d4]; decide)) c239)
    refine Z_jump 1 rfl ?_
    show Zs _ _ (am_P 194).2 (245, [(0, .ref 73), (1, .ref o)], [.ref 73]) (HH I4 J4 R T) _
    refine Z_cQ rfl rfl rfl (m_closesTerm (d := d + 1) d4 (by omega) x4.2.2.1) (fun v h1 hq => ?_)
    obtain ⟨rfl, I5, J5, rfl, a1, a2, a3, u5⟩ := hq
    show Zs _ _ (am_P 194).2 (248, [(0, .ref 73), (1, .ref o)], []) (HH I5 J5 R T) _
    refine Z_jump 6 rfl ?_
    show Zs _ _ (am_P 194).2 (258, [(0, .ref 73), (1, .ref o)], []) (HH I5 (sl J5 73 34 (J5 89 0)) R T) _
    refine Z_jump 1 rfl ?_
    show Zs _ _ (am_P 194).2 (259, [(0, .ref 73), (1, .ref o)], [.int (1 : Int32)]) (HH I5 (sl J5 73 34 (J5 89 0)) R T) _
    refine Z_rI rfl (by first | exact am_nw0 _ | exact am_nw01 | rfl | assumption) ?_
    refine ⟨I5, _, rfl, UE_t (UE_t u4 (UE_t (UE_28 u5) (UE_16 a1))) UE_34, TB_cl x4.2.2 u5, rfl, ?_⟩
    have tk := TK_m (J' := J5) t4 (u5.2.1 14 (by decide)) (u5.2.1 15 (by decide)) (u5.2.1 16 (by decide)) (u5.2.1 17 (by decide)) (u5.2.1 19 (by decide)) (a1 73 (by decide))
    exact ⟨tk.1, tk.2.1, tk.2.2.1, tk.2.2.2.1, tk.2.2.2.2.1, fun z => ⟨(tk.2.2.2.2.2.1 z).1, (tk.2.2.2.2.2.1 z).2.1, (tk.2.2.2.2.2.1 z).2.2⟩, tk.2.2.2.2.2.2⟩
  · refine Z_jump 3 rfl ?_
    refine Z_bd (fun c114 => ?_) (fun c114 => absurd ((show I4 73 29 ≤ 0 by rw [d4]; decide)) c114)
    refine Z_jump 4 rfl ?_
    refine Z_bd (fun c159 => absurd c159 ((fun z => hop ⟨(m42.mp z).1, Or.inl (m42.mp z).2⟩))) (fun c159 => ?_)
    refine Z_jump 4 rfl ?_
    refine Z_bn (fun c168 => ?_) (fun c168 => absurd c168 ((fun z => hop ⟨(m47.mp z).1, Or.inr (Or.inl (m47.mp z).2)⟩)))
    refine Z_jump 4 rfl ?_
    refine Z_bd (fun c193 => absurd c193 ((fun z => hop ⟨(m43.mp z).1, Or.inr (Or.inr (Or.inl (m43.mp z).2))⟩))) (fun c193 => ?_)
    refine Z_jump 4 rfl ?_
    refine Z_bn (fun c202 => ?_) (fun c202 => absurd c202 ((fun z => hop ⟨(m45.mp z).1, Or.inr (Or.inr (Or.inr (m45.mp z).2))⟩)))
    refine Z_jump 3 rfl ?_
    refine Z_bd (fun c239 => ?_) (fun c239 => absurd ((show I4 73 29 ≤ 0 by rw [d4]; decide)) c239)
    refine Z_jump 1 rfl ?_
    show Zs _ _ (am_P 194).2 (245, [(0, .ref 73), (1, .ref o)], [.ref 73]) (HH I4 J4 R T) _
    refine Z_cQ rfl rfl rfl (m_closesTerm (d := d + 1) d4 (by omega) x4.2.2.1) (fun v h1 hq => ?_)
    obtain ⟨rfl, I5, J5, rfl, a1, a2, a3, u5⟩ := hq
    show Zs _ _ (am_P 194).2 (248, [(0, .ref 73), (1, .ref o)], []) (HH I5 J5 R T) _
    refine Z_jump 6 rfl ?_
    show Zs _ _ (am_P 194).2 (258, [(0, .ref 73), (1, .ref o)], []) (HH I5 (sl J5 73 34 (J5 89 0)) R T) _
    refine Z_jump 1 rfl ?_
    show Zs _ _ (am_P 194).2 (259, [(0, .ref 73), (1, .ref o)], [.int (1 : Int32)]) (HH I5 (sl J5 73 34 (J5 89 0)) R T) _
    refine Z_rI rfl (by first | exact am_nw0 _ | exact am_nw01 | rfl | assumption) ?_
    refine ⟨I5, _, rfl, UE_t (UE_t u4 (UE_t (UE_28 u5) (UE_16 a1))) UE_34, TB_cl x4.2.2 u5, rfl, ?_⟩
    have tk := TK_m (J' := J5) t4 (u5.2.1 14 (by decide)) (u5.2.1 15 (by decide)) (u5.2.1 16 (by decide)) (u5.2.1 17 (by decide)) (u5.2.1 19 (by decide)) (a1 73 (by decide))
    exact ⟨tk.1, tk.2.1, tk.2.2.1, tk.2.2.2.1, tk.2.2.2.2.1, fun z => ⟨(tk.2.2.2.2.2.1 z).1, (tk.2.2.2.2.2.1 z).2.1, (tk.2.2.2.2.2.1 z).2.2⟩, tk.2.2.2.2.2.2⟩
end MSY

