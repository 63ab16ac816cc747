/-! The reference's readsExpr with its values: an operand, and the whole expression. -/
section EXW
variable {sc : Nat × (Nat → Int32)} {d : Nat} {R : hR} {T : am_H} {Q : Option Value → am_H → Prop} {tx : Nat → Nat} {c : Nat} {num : Int64}
theorem LBd_n {n : Nat} (h : n < 2000000000) : LBd (lN n) := by
  unfold LBd
  rw [lN_toInt (by omega)]
  omega
theorem VT_2 {t f : Int32} {v : Int64} (h : VT t f) (hv : LBd v) : VT2 t f v v := h.elim (fun z => Or.inl z) (fun z => Or.inr ⟨z.1, z.2, rfl, hv⟩)
theorem v0_step {o k n : Nat} {I0 : hI} {J0 : hJ} (hM0 : MT tx c I0) (h27 : I0 73 27 = 1) (ho : o = 78 ∨ o = 79) (hn : I0 73 0 = nI n) (hn6 : n ≤ 6) (hnum : M_nl I0 o n 0 = num) (hnb : LBd num) (ih : ∀ j, j ≤ k → V0 sc (d + 4) tx c o num I0 J0 R T Q j ∧ V2 sc (d + 4) tx c o num I0 J0 R T Q j) : V0 sc (d + 4) tx c o num I0 J0 R T Q (k + 1) := by
  intro s dd i I J fl s2 v f2 hk hi hsi hU hX h14 hV hx hS
  have hM := MT_E hM0 hU
  have h255 := hM0.2.2.2
  have hs : s ≤ c := by rw [← hsi]; exact tS_c hi
  have hE := tE_c (tx := tx) hs
  simp only [sx] at hx
  refine Z_jump 1 rfl ?_
  show Zs _ _ (am_P 194).2 (10, [(0, .ref 73), (1, .ref o)], [.ref 73]) (HH I J R T) _
  refine Z_cQ rfl rfl rfl (m_reads (d := d) hM h14 hi) (fun v h1 hq => ?_)
  obtain ⟨rfl, I1, J1, rfl, u1, g15, g14, gK⟩ := hq
  rw [hsi] at g15 g14 gK
  show Zs _ _ (am_P 194).2 (13, [(0, .ref 73), (1, .ref o)], []) (HH I1 J1 R T) _
  show Zs _ _ (am_P 194).2 (13, [(0, .ref 73), (1, .ref o)], []) (HH I1 J1 R T) _
  have U1 := UE_t hU (UE_R u1)
  have X1 := XD_R hX u1
  have hM1 := MT_E hM0 U1
  have k40 := RD_c (t := 40) h255 gK (by omega) (by omega) (by omega)
  have k35 := RD_c (t := 35) h255 gK (by omega) (by omega) (by omega)
  have kd := RD_n h255 gK
  have d1 := X1.1
  have d6 := X1.2.1
  have e27 : I1 73 27 = 1 := (U1.2.1 27 (by decide) (by decide) (by decide) (by decide) (by decide) (by decide) (by decide)).trans h27
  have e28 : I1 73 28 = I 73 28 := u1.2.1 28 (by decide) (by decide) (by decide) (by decide) (by decide)
  have e16 : J1 89 = J 89 := u1.2.2.1 89 (by decide)
  have e17 : J1 90 = J 90 := u1.2.2.1 90 (by decide)
  have e18 : I1 91 = I 91 := u1.1 91 (by decide)
  have e19 : I1 92 = I 92 := u1.1 92 (by decide)
  /- behind part(w): the next token is read -/
  have goPW : ∀ (I2 : hI) (J2 : hJ) (w : Int64) (t2 : Int32), UE I0 J0 I2 J2 → XD dd I2 → I2 73 14 = nI (tE tx c s) → s2 = nx tx c s → UDp dd I J I2 J2 → J2 89 dd = J 89 dd → I2 91 dd = I 91 dd → VT2 t2 f2 w v → J2 90 dd = (mpt 1 t2 (I 92 dd) (J 90 dd) w).1 → I2 73 28 = (mpt 1 t2 (I 92 dd) (J 90 dd) w).2 → Zs sc (d + 4) (am_P 194).2 (97, [(0, .ref 73), (1, .ref o)], []) (HH I2 J2 R T) Q := fun I2 J2 w t2 u2 x2 e2 es ud a16 a18 hv a17 a28 => by
    refine Z_jump 1 rfl ?_
    show Zs _ _ (am_P 194).2 (98, [(0, .ref 73), (1, .ref o)], [.ref 73]) (HH I2 J2 R T) _
    refine Z_cQ rfl rfl rfl (m_reads (d := d) (MT_E hM0 u2) e2 hE.2) (fun v h1 hq => ?_)
    obtain ⟨rfl, I3, J3, rfl, u3, t15, t14, tK⟩ := hq
    show Zs _ _ (am_P 194).2 (101, [(0, .ref 73), (1, .ref o)], []) (HH I3 J3 R T) _
    show Zs _ _ (am_P 194).2 (101, [(0, .ref 73), (1, .ref o)], []) (HH I3 J3 R T) _
    exact hS I3 J3 w t2 (UE_t u2 (UE_R u3)) (XD_R x2 u3) (by rw [es]; exact ⟨tS_c hE.2, t15, t14, tK⟩) (UD_t ud (UD_R u3)) ((congrFun (u3.2.2.1 89 (by decide)) dd).trans a16) ((congrFun (u3.1 91 (by decide)) dd).trans a18) hv ((congrFun (u3.2.2.1 90 (by decide)) dd).trans a17) ((u3.2.1 28 (by decide) (by decide) (by decide) (by decide) (by decide)).trans a28)
  /- part(w) of a plain operand -/
  have plain : ∀ (I2 : hI) (w : Int64), U28 (mpt (I1 73 27) (I1 73 28) (I1 92 dd) (J1 90 dd) w).2 I1 I2 → s2 = nx tx c s → f2 = fl → v = w → LBd w → Zs sc (d + 4) (am_P 194).2 (97, [(0, .ref 73), (1, .ref o)], []) (HH I2 (sl J1 90 dd (mpt (I1 73 27) (I1 73 28) (I1 92 dd) (J1 90 dd) w).1) R T) Q := fun I2 w u2 es ef ev lw => by
    refine goPW I2 _ w (I 73 28) (UE_t U1 (UE_t (UE_28 u2) (UE_J (a := 90) (by omega)))) ⟨(u2.2.1 29 (by decide)).trans d1, d6, TB_pt X1.2.2 u2⟩ ((u2.2.1 14 (by decide)).trans g14) es (UD_t (UD_R u1) (UD_t (UD_28 u2) (UD_l (Nat.le_refl dd)))) ?_ ?_ ?_ ?_ ?_
    · rw [sl_c (by decide), e16]
    · rw [u2.1 91 (by decide), e18]
    · rw [ef, ev]
      exact VT_2 hV lw
    · rw [sl_s, e27, e28, e19, e17]
    · rw [u2.2.2, e27, e28, e19, e17]
  by_cases h40 : s < c ∧ tx s = 40
  · have h35 : ¬ (s < c ∧ tx s = 35) := fun z => by have := z.2; have := h40.2; omega
    have hnx := nx_lt (tx := tx) h40.1
    rw [if_neg h35, if_pos h40] at hx
    by_cases hd6 : 6 ≤ dd
    · rw [if_pos hd6] at hx
      cases hx
    · rw [if_neg hd6] at hx
      obtain ⟨k', rfl⟩ : ∃ k', k = k' + 1 := ⟨k - 1, by omega⟩
      obtain ⟨y0, y2⟩ := ih k' (by omega)
      simp only [sx] at hx
      rcases hm : sx tx c num k' 0 (nx tx c s) (dd + 1) (0, 0, 0) fl with p | ⟨s3, v3, f3⟩
      · rw [hm] at hx; cases hx
      rw [hm] at hx
      dsimp only at hx
      rcases hm2 : sx tx c num k' 2 s3 (dd + 1) (0, 0, v3) f3 with p | ⟨s4, v4, f4⟩
      · rw [hm2] at hx; cases hx
      rw [hm2] at hx
      dsimp only at hx
      have hadv := (sx_adv (tx := tx) (c := c) (num := num) k' 0 (nx tx c s) (dd + 1) (0, 0, 0) fl hnx.2).2 _ hm
      have h3 := hadv.2.2 (by omega)
      by_cases h41 : s4 < c ∧ tx s4 = 41
      · rw [if_pos h41] at hx
        cases hx
        refine Z_jump 4 rfl ?_
        refine Z_bn (fun c19 => absurd ((k40.mpr h40)) c19) (fun c19 => ?_)
        refine Z_jump 4 rfl ?_
        refine Z_bn (fun c28 => ?_) (fun c28 => absurd c28 ((show ¬ I1 73 29 = 6 by rw [d1]; exact fun z => by have := (nI_eq (b := 6) (by omega) (by omega)).mp z; omega)))
        refine Z_jump 1 rfl ?_
        show Zs _ _ (am_P 194).2 (34, [(0, .ref 73), (1, .ref o)], [.ref 73]) (HH I1 J1 R T) _
        refine Z_c0 rfl rfl rfl (m_opens (d := d + 3) (e := dd + 1) (by rw [d1]; exact nI_1 dd) (by omega)) ?_
        show Zs _ _ (am_P 194).2 (37, [(0, .ref 73), (1, .ref o)], []) (HH (sf (sf (sf I1 73 29 (nI (dd + 1))) 91 (dd + 1) 43) 92 (dd + 1) 0) (sl J1 89 (dd + 1) 0) R T) _
        refine Z_jump 1 rfl ?_
        show Zs _ _ (am_P 194).2 (9, [(0, .ref 73), (1, .ref o)], []) (HH (sf (sf (sf I1 73 29 (nI (dd + 1))) 91 (dd + 1) 43) 92 (dd + 1) 0) (sl J1 89 (dd + 1) 0) R T) _
        have U2 : UE I0 J0 (sf (sf (sf I1 73 29 (nI (dd + 1))) 91 (dd + 1) 43) 92 (dd + 1) 0) (sl J1 89 (dd + 1) 0) := UE_t U1 (UE_t (UE_t UE_29 (UE_a (by omega))) (UE_t (UE_a (by omega)) (UE_J (by omega))))
        have D2 : UDp (dd + 1) I J (sf (sf (sf I1 73 29 (nI (dd + 1))) 91 (dd + 1) 43) 92 (dd + 1) 0) (sl J1 89 (dd + 1) 0) := UD_t (UD_R u1) (UD_t (UD_t UD_f (UD_i (Nat.le_refl _))) (UD_t (UD_i (Nat.le_refl _)) (UD_l (Nat.le_refl _))))
        refine y0 (nx tx c s) (dd + 1) (tE tx c s) _ _ fl s3 v3 f3 (by omega) hE.2 rfl U2 ⟨rfl, by omega, X1.2.2⟩ g14 (by show VT (I1 73 28) fl; rw [e28]; exact hV) hm (fun I3 J3 w3 t3 u3 x3 tk3 ud3 a16 a18 hv3 a17 a28 => ?_)
        rw [sf_s] at a17 a28
        have hs3 : VS (0, 0, v3) f3 I3 J3 (dd + 1) := by
          rcases hv3 with ⟨rfl, rfl⟩ | ⟨rfl, rfl, rfl, lb⟩
          · rw [mpt_1] at a28
            exact Or.inl ⟨a28, rfl⟩
          · rw [mpt_0] at a17 a28
            exact Or.inr ⟨a28, rfl, a16.trans (sl_s _ _ _ _), a18.trans (by rw [sf_c (by decide), sf_s]; rfl), a17, LBd_n (n := 0) (by omega), lb⟩
        refine y2 s3 (dd + 1) I3 J3 (0, 0, v3) f3 s4 v f2 (by have := hadv.1; dsimp only at h3 this; omega) u3 x3 tk3 hs3 hm2 (fun I4 J4 a' fl' u4 x4 t4 hop ud4 hv4 he4 => ?_)
        obtain ⟨q1, q15, q14, qK⟩ := id t4
        have m41 := RD_c (t := 41) h255 qK (by omega) (by omega) (by omega)
        have d4 := x4.1
        have hE4 := tE_c (tx := tx) q1
        have dpos : ¬ I4 73 29 ≤ 0 := by rw [d4]; exact nI_nle (by omega) (by omega)
        have D4 : UDp (dd + 1) I J I4 J4 := UD_t D2 (UD_t ud3 ud4)
        have f27 : I4 73 27 = 1 := (u4.2.1 27 (by decide) (by decide) (by decide) (by decide) (by decide) (by decide) (by decide)).trans h27
        have hcl := cl_v hv4
        rw [he4] at hcl
        dsimp only at hcl
        refine Z_jump 4 rfl ?_
        refine Z_bn (fun c107 => absurd ((m41.mpr h41)) c107) (fun c107 => ?_)
        refine Z_jump 3 rfl ?_
        refine Z_bd (fun c114 => absurd c114 (dpos)) (fun c114 => ?_)
        refine Z_jump 1 rfl ?_
        show Zs _ _ (am_P 194).2 (118, [(0, .ref 73), (1, .ref o)], [.ref 73]) (HH I4 J4 R T) _
        refine Z_cQ rfl rfl rfl (m_closesTerm (d := d + 1) d4 (by omega) x4.2.2.1) (fun v h1 hq => ?_)
        obtain ⟨rfl, I5, J5, rfl, a1, a2, a3, u5⟩ := hq
        have d5 : I5 73 29 - 1 = nI dd := by rw [u5.2.1 29 (by decide), d4]; exact nI_pred dd
        have t5 : TB I5 := TB_cl x4.2.2 u5
        show Zs _ _ (am_P 194).2 (121, [(0, .ref 73), (1, .ref o)], []) (HH I5 J5 R T) _
        refine Z_jump 5 rfl ?_
        show Zs _ _ (am_P 194).2 (128, [(0, .ref 73), (1, .ref o)], [.int ((I5 73 29) - (1 : Int32)), .ref 73]) (HH I5 J5 R T) _
        refine Z_eqI (y := (nI dd)) (d5) ?_
        show Zs _ _ (am_P 194).2 (128, [(0, .ref 73), (1, .ref o)], [.int (nI dd), .ref 73]) (HH I5 J5 R T) _
        refine Z_jump 1 rfl ?_
        show Zs _ _ (am_P 194).2 (131, [(0, .ref 73), (1, .ref o)], []) (HH (sf I5 73 29 (nI dd)) J5 R T) _
        refine Z_jump 7 rfl ?_
        show Zs _ _ (am_P 194).2 (142, [(0, .ref 73), (1, .ref o)], [.int ((nI dd) + (1 : Int32)), .ref 89, .ref 73]) (HH (sf I5 73 29 (nI dd)) J5 R T) _
        refine Z_lalK (dd + 1) rfl rfl (nI_1 dd) (by omega) (by decide) ?_
        show Zs _ _ (am_P 194).2 (143, [(0, .ref 73), (1, .ref o)], [.long (J5 89 (dd + 1)), .ref 73]) (HH (sf I5 73 29 (nI dd)) J5 R T) _
        show Zs _ _ (am_P 194).2 (143, [(0, .ref 73), (1, .ref o)], [.long (J5 89 (dd + 1)), .ref 73]) (HH (sf I5 73 29 (nI dd)) J5 R T) _
        refine Z_cQ rfl rfl rfl (m_partQ (d := d + 1) (e := dd) (I := sf I5 73 29 (nI dd)) rfl (by omega) t5.1) (fun v h1 hq => ?_)
        obtain ⟨rfl, I6, rfl, u6⟩ := hq
        have U6 := UE_t (UE_t u4 (UE_t (UE_28 u5) (UE_16 a1))) (UE_t UE_29 (UE_t (UE_28 u6) (UE_J (a := 90) (k := dd) (v := (mpt (sf I5 73 29 (nI dd) 73 27) (sf I5 73 29 (nI dd) 73 28) (sf I5 73 29 (nI dd) 92 dd) (J5 90 dd) (J5 89 (dd + 1))).1) (by omega))))
        have X6 : XD dd I6 := ⟨u6.2.1 29 (by decide), by omega, TB_pt (I := sf I5 73 29 (nI dd)) t5 u6⟩
        show Zs _ _ (am_P 194).2 (146, [(0, .ref 73), (1, .ref o)], []) (HH I6 (sl J5 90 dd (mpt (sf I5 73 29 (nI dd) 73 27) (sf I5 73 29 (nI dd) 73 28) (sf I5 73 29 (nI dd) 92 dd) (J5 90 dd) (J5 89 (dd + 1))).1) R T) _
        refine Z_jump 1 rfl ?_
        show Zs _ _ (am_P 194).2 (147, [(0, .ref 73), (1, .ref o)], [.ref 73]) (HH I6 (sl J5 90 dd (mpt (sf I5 73 29 (nI dd) 73 27) (sf I5 73 29 (nI dd) 73 28) (sf I5 73 29 (nI dd) 92 dd) (J5 90 dd) (J5 89 (dd + 1))).1) R T) _
        refine Z_cQ rfl rfl rfl (m_reads (d := d) (i := tE tx c s4) (MT_E hM0 U6) ((u6.2.1 14 (by decide)).trans ((u5.2.1 14 (by decide)).trans q14)) hE4.2) (fun v h1 hq => ?_)
        obtain ⟨rfl, I7, J7, rfl, u7, t15, t14, tK⟩ := hq
        show Zs _ _ (am_P 194).2 (150, [(0, .ref 73), (1, .ref o)], []) (HH I7 J7 R T) _
        refine Z_jump 1 rfl ?_
        show Zs _ _ (am_P 194).2 (101, [(0, .ref 73), (1, .ref o)], []) (HH I7 J7 R T) _
        skip
        rw [f27] at a3 u5
        have D5 : UDp (dd + 1) I J I5 J5 := UD_t D4 (UD_t (UD_28 (J := J4) u5) (UD_16 a1 a2))
        have b16 : J5 89 dd = J 89 dd := (D5 dd (Nat.lt_succ_self dd)).1
        have b17 : J5 90 dd = J 90 dd := (D5 dd (Nat.lt_succ_self dd)).2.1
        have b18 : I5 91 dd = I 91 dd := (D5 dd (Nat.lt_succ_self dd)).2.2.1
        have b19 : I5 92 dd = I 92 dd := (D5 dd (Nat.lt_succ_self dd)).2.2.2
        have b27 : sf I5 73 29 (nI dd) 73 27 = 1 := by rw [sf_k (by decide), u5.2.1 27 (by decide)]; exact f27
        have b28 : sf I5 73 29 (nI dd) 73 28 = I5 73 28 := sf_k (by decide)
        have bs9 : sf I5 73 29 (nI dd) 92 dd = I 92 dd := by rw [sf_c (by decide)]; exact b19
        have D6 : UDp dd I J I6 (sl J5 90 dd (mpt (sf I5 73 29 (nI dd) 73 27) (sf I5 73 29 (nI dd) 73 28) (sf I5 73 29 (nI dd) 92 dd) (J5 90 dd) (J5 89 (dd + 1))).1) := UD_t (UD_w D5 (Nat.le_succ dd)) (UD_t UD_f (UD_t (UD_28 u6) (UD_l (Nat.le_refl dd))))
        refine hS I7 J7 (J5 89 (dd + 1)) (I5 73 28) (UE_t U6 (UE_R u7)) (XD_R X6 u7) ⟨tS_c hE4.2, t15, t14, tK⟩ (UD_t D6 (UD_R u7)) ?_ ?_ ?_ ?_ ?_
        · rw [u7.2.2.1 89 (by decide), sl_c (by decide)]; exact b16
        · rw [u7.1 91 (by decide), u6.1 91 (by decide), sf_c (by decide)]; exact b18
        · rw [a3, u5.2.2]; exact hcl
        · rw [u7.2.2.1 90 (by decide), sl_s, b27, b28, bs9, b17]
        · rw [u7.2.1 28 (by decide) (by decide) (by decide) (by decide) (by decide), u6.2.2, b27, b28, bs9, b17]
      · rw [if_neg h41] at hx
        cases hx
  · by_cases hdg : dg tx c s
    · have h35 : ¬ (s < c ∧ tx s = 35) := fun z => by have := z.2; have := hdg.2; omega
      have h17 := (gK.2.2.1 hdg).2.1
      have e55 : I1 73 17 ≤ 7 ↔ tE tx c s - s ≤ 7 := by rw [h17]; exact nI_leI (b := 7) (by have := hM0.2.1; omega) (by omega)
      rw [if_neg h35, if_neg h40] at hx
      by_cases hTN : TN tx c s 7 0 1000000000
      · rw [if_pos hTN] at hx
        have h7 := hTN.2.1
        have hlt := nv_lt hdg h7 (by omega)
        have e18v : J1 73 18 = lN (nv tx s (tE tx c s)) := (gK.2.2.1 hdg).2.2 (by omega)
        cases hx
        refine Z_jump 4 rfl ?_
        refine Z_bn (fun c19 => ?_) (fun c19 => absurd c19 ((fun z => h40 (k40.mp z))))
        refine Z_jump 4 rfl ?_
        refine Z_bn (fun c46 => absurd ((kd.mpr hdg)) c46) (fun c46 => ?_)
        refine Z_jump 4 rfl ?_
        refine Z_bd (fun c55 => ?_) (fun c55 => absurd ((e55.mpr h7)) c55)
        refine Z_jump 5 rfl ?_
        refine Z_bn (fun c79 => absurd ((kd.mpr hdg)) c79) (fun c79 => ?_)
        refine Z_jump 3 rfl ?_
        show Zs _ _ (am_P 194).2 (94, [(0, .ref 73), (1, .ref o)], [.long (J1 73 18), .ref 73]) (HH I1 J1 R T) _
        refine Z_cQ rfl rfl rfl (m_partQ (d := d + 1) (e := dd) d1 (by omega) X1.2.2.1) (fun v h1 hq => ?_)
        obtain ⟨rfl, I2, rfl, u2⟩ := hq
        show Zs _ _ (am_P 194).2 (97, [(0, .ref 73), (1, .ref o)], []) (HH I2 (sl J1 90 dd (mpt (I1 73 27) (I1 73 28) (I1 92 dd) (J1 90 dd) (J1 73 18)).1) R T) _
        show Zs _ _ (am_P 194).2 (97, [(0, .ref 73), (1, .ref o)], []) (HH I2 (sl J1 90 dd (mpt (I1 73 27) (I1 73 28) (I1 92 dd) (J1 90 dd) (J1 73 18)).1) R T) _
        exact plain I2 (J1 73 18) u2 rfl rfl e18v.symm (by rw [e18v]; exact LBd_n (by omega))
      · rw [if_neg hTN] at hx
        cases hx
    · by_cases h35 : s < c ∧ tx s = 35
      · have hn1 : I1 73 0 = nI n := (U1.2.1 0 (by decide) (by decide) (by decide) (by decide) (by decide) (by decide) (by decide)).trans hn
        have enl : M_nl I1 o n 0 = num := (M_nl_c (U1.1 o (by omega) (by omega) (by omega)) (U1.1 _ (by decide) (by decide) (by decide)) (U1.1 _ (by decide) (by decide) (by decide)) (U1.1 _ (by decide) (by decide) (by decide)) n 0).trans hnum
        rw [if_pos h35] at hx
        cases hx
        refine Z_jump 4 rfl ?_
        refine Z_bn (fun c19 => ?_) (fun c19 => absurd c19 ((fun z => h40 (k40.mp z))))
        refine Z_jump 4 rfl ?_
        refine Z_bn (fun c46 => ?_) (fun c46 => absurd c46 ((fun z => hdg (kd.mp z))))
        refine Z_jump 4 rfl ?_
        refine Z_bd (fun c67 => ?_) (fun c67 => absurd ((k35.mpr h35)) c67)
        refine Z_jump 5 rfl ?_
        refine Z_bn (fun c79 => ?_) (fun c79 => absurd c79 ((fun z => hdg (kd.mp z))))
        refine Z_jump 2 rfl ?_
        show Zs _ _ (am_P 194).2 (91, [(0, .ref 73), (1, .ref o)], [.ref o, .ref 73, .ref 73]) (HH I1 J1 R T) _
        refine Z_c1 rfl rfl rfl (m_numberOf (d := d) ho hn1 hn6) ?_
        show Zs _ _ (am_P 194).2 (94, [(0, .ref 73), (1, .ref o)], [.long (M_nl I1 o n 0), .ref 73]) (HH I1 J1 R T) _
        show Zs _ _ (am_P 194).2 (94, [(0, .ref 73), (1, .ref o)], [.long (M_nl I1 o n 0), .ref 73]) (HH I1 J1 R T) _
        refine Z_cQ rfl rfl rfl (m_partQ (d := d + 1) (e := dd) d1 (by omega) X1.2.2.1) (fun v h1 hq => ?_)
        obtain ⟨rfl, I2, rfl, u2⟩ := hq
        show Zs _ _ (am_P 194).2 (97, [(0, .ref 73), (1, .ref o)], []) (HH I2 (sl J1 90 dd (mpt (I1 73 27) (I1 73 28) (I1 92 dd) (J1 90 dd) (M_nl I1 o n 0)).1) R T) _
        show Zs _ _ (am_P 194).2 (97, [(0, .ref 73), (1, .ref o)], []) (HH I2 (sl J1 90 dd (mpt (I1 73 27) (I1 73 28) (I1 92 dd) (J1 90 dd) (M_nl I1 o n 0)).1) R T) _
        exact plain I2 (M_nl I1 o n 0) u2 rfl rfl enl.symm (by rw [enl]; exact hnb)
      · rw [if_neg h35, if_neg h40, if_neg (fun z => hdg z.1)] at hx
        cases hx
theorem v_all {o n : Nat} {I0 : hI} {J0 : hJ} (hM0 : MT tx c I0) (h27 : I0 73 27 = 1) (ho : o = 78 ∨ o = 79) (hn : I0 73 0 = nI n) (hn6 : n ≤ 6) (hnum : M_nl I0 o n 0 = num) (hnb : LBd num) : ∀ k j, j ≤ k → V0 sc (d + 4) tx c o num I0 J0 R T Q j ∧ V2 sc (d + 4) tx c o num I0 J0 R T Q j
  | 0, j, hj => by
    obtain rfl : j = 0 := by omega
    exact ⟨fun s dd i I J fl s2 v f2 h => absurd h (by omega), fun s dd I J a fl s2 v f2 h => absurd h (by omega)⟩
  | k + 1, j, hj => by
    have ih := v_all (J0 := J0) hM0 h27 ho hn hn6 hnum hnb k
    by_cases e : j ≤ k
    · exact ih j e
    · obtain rfl : j = k + 1 := by omega
      exact ⟨v0_step hM0 h27 ho hn hn6 hnum hnb ih, v2_step hM0 h27 (ih k (Nat.le_refl k)).1 (ih k (Nat.le_refl k)).2⟩
/-- readsExpr while it is done: where it ends, and its value -/
def XV (tx : Nat → Nat) (c s2 : Nat) (v : Int64) (f : Int32) (I0 : hI) (J0 : hJ) (R : hR) (T : am_H) (r : Option Value) (h : am_H) : Prop := ∃ I J, h = HH I J R T ∧ UE I0 J0 I J ∧ TB I ∧ r = some (.int 1) ∧ TK tx c s2 I J ∧ VT2 (I 73 28) f (J 73 34) v
theorem sx_1r {k s dd : Nat} {a : Int64 × Int32 × Int64} {fl : Int32} {q : Nat × Int64 × Int32} (h : sx tx c num (k + 1) 1 s dd a fl = .inr q) : ∃ s2 v f2, sx tx c num k 0 s dd (0, 0, 0) fl = .inr (s2, v, f2) ∧ sx tx c num k 2 s2 dd (0, 0, v) f2 = .inr q := by
  simp only [sx] at h
  rcases hm : sx tx c num k 0 s dd (0, 0, 0) fl with p | ⟨s2, v, f2⟩
  · rw [hm] at h; cases h
  · rw [hm] at h
    exact ⟨s2, v, f2, rfl, h⟩
theorem m_readsExprV {o n i s4 : Nat} {v : Int64} {f : Int32} {I : hI} {J : hJ} (hM : MT tx c I) (ho : o = 78 ∨ o = 79) (hn : I 73 0 = nI n) (hn6 : n ≤ 6) (hnum : M_nl I o n 0 = num) (hnb : LBd num) (h14 : I 73 14 = nI i) (hi : i ≤ c) (h27 : I 73 27 = 1) (ht : I 73 28 = 0) (hx : sx tx c num 500 1 (tS tx c i) 0 (0, 0, 0) 1 = .inr (s4, v, f)) : Ze sc (d + 5) 194 [.ref 73, .ref o] (HH I J R T) (XV tx c s4 v f I J R T) := by
  refine Ze_of (Nat.le_of_ble_eq_true rfl) ?_
  have h255 := hM.2.2.2
  have hc := hM.2.1
  have hs := tS_c (tx := tx) hi
  have hTB : TB I := ⟨Or.inl ht, fun z => by rw [h27] at z; exact absurd z (by decide)⟩
  obtain ⟨s2, v2, f2, hx1, hx2⟩ := sx_1r (k := 499) hx
  obtain ⟨x0, x2⟩ := v_all (sc := sc) (d := d) (R := R) (T := T) (Q := XV tx c s4 v f I J R T) (J0 := J) hM h27 ho hn hn6 hnum hnb 499 499 (Nat.le_refl _)
  refine Z_jump 3 rfl ?_
  show Zs _ _ (am_P 194).2 (5, [(0, .ref 73), (1, .ref o)], []) (HH (sf I 73 29 (-1 : Int32)) J R T) _
  refine Z_jump 1 rfl ?_
  show Zs _ _ (am_P 194).2 (6, [(0, .ref 73), (1, .ref o)], [.ref 73]) (HH (sf I 73 29 (-1 : Int32)) J R T) _
  refine Z_c0 rfl rfl rfl (m_opens (d := d + 3) (e := 0) (I := (sf I 73 29 (-1 : Int32))) (by rw [sf_s]; decide) (by omega)) ?_
  show Zs _ _ (am_P 194).2 (9, [(0, .ref 73), (1, .ref o)], []) (HH (sf (sf (sf (sf I 73 29 (-1 : Int32)) 73 29 (nI 0)) 91 0 43) 92 0 0) (sl J 89 0 0) R T) _
  show Zs _ _ (am_P 194).2 (9, [(0, .ref 73), (1, .ref o)], []) (HH (sf (sf (sf (sf I 73 29 (-1 : Int32)) 73 29 (nI 0)) 91 0 43) 92 0 0) (sl J 89 0 0) R T) _
  refine x0 (tS tx c i) 0 i _ _ 1 s2 v2 f2 (by omega) hi rfl (UE_t UE_29 (UE_t (UE_t UE_29 (UE_a (by omega))) (UE_t (UE_a (by omega)) (UE_J (by omega))))) ⟨rfl, by omega, hTB⟩ h14 (Or.inr ⟨ht, rfl⟩) hx1 (fun I3 J3 w3 t3 u3 x3 tk3 ud3 a16 a18 hv3 a17 a28 => ?_)
  rw [sf_s] at a17 a28
  have hs3 : VS (0, 0, v2) f2 I3 J3 0 := by
    rcases hv3 with ⟨rfl, rfl⟩ | ⟨rfl, rfl, rfl, lb⟩
    · rw [mpt_1] at a28
      exact Or.inl ⟨a28, rfl⟩
    · rw [mpt_0] at a17 a28
      exact Or.inr ⟨a28, rfl, a16.trans (sl_s _ _ _ _), a18.trans (by rw [sf_c (by decide), sf_s]; rfl), a17, LBd_n (n := 0) (by omega), lb⟩
  have hadv := (sx_adv (tx := tx) (c := c) (num := num) 499 0 (tS tx c i) 0 (0, 0, 0) 1 hs).2 _ hx1
  refine x2 s2 0 I3 J3 (0, 0, v2) f2 s4 v f (by have := hadv.1; dsimp only at this; omega) u3 x3 tk3 hs3 hx2 (fun I4 J4 a' fl' u4 x4 t4 hop ud4 hv4 he4 => ?_)
  obtain ⟨q1, q15, q14, qK⟩ := id t4
  have m42 := RD_c (t := 42) h255 qK (by omega) (by omega) (by omega)
  have m43 := RD_c (t := 43) h255 qK (by omega) (by omega) (by omega)
  have m45 := RD_c (t := 45) h255 qK (by omega) (by omega) (by omega)
  have m47 := RD_c (t := 47) h255 qK (by omega) (by omega) (by omega)
  have d4 := x4.1
  have f27 : I4 73 27 = 1 := (u4.2.1 27 (by decide) (by decide) (by decide) (by decide) (by decide) (by decide) (by decide)).trans h27
  have hcl := cl_v hv4
  rw [he4] at hcl
  dsimp only at hcl
  refine Z_jump 4 rfl ?_
  refine Z_bn (fun (c107 : ¬ ((I4 73 16) = (41 : Int32))) => ?_) (fun (c107 : (I4 73 16) = (41 : Int32)) => ?_)
  · refine Z_jump 4 rfl ?_
    refine Z_bd (fun c159 => absurd c159 ((fun z => hop ⟨(m42.mp z).1, Or.inl (m42.mp z).2⟩))) (fun c159 => ?_)
    refine Z_jump 4 rfl ?_
    refine Z_bn (fun c168 => ?_) (fun c168 => absurd c168 ((fun z => hop ⟨(m47.mp z).1, Or.inr (Or.inl (m47.mp z).2)⟩)))
    refine Z_jump 4 rfl ?_
    refine Z_bd (fun c193 => absurd c193 ((fun z => hop ⟨(m43.mp z).1, Or.inr (Or.inr (Or.inl (m43.mp z).2))⟩))) (fun c193 => ?_)
    refine Z_jump 4 rfl ?_
    refine Z_bn (fun c202 => ?_) (fun c202 => absurd c202 ((fun z => hop ⟨(m45.mp z).1, Or.inr (Or.inr (Or.inr (m45.mp z).2))⟩)))
    refine Z_jump 3 rfl ?_
    refine Z_bd (fun c239 => ?_) (fun c239 => absurd ((show I4 73 29 ≤ 0 by rw [d4]; decide)) c239)
    refine Z_jump 1 rfl ?_
    show Zs _ _ (am_P 194).2 (245, [(0, .ref 73), (1, .ref o)], [.ref 73]) (HH I4 J4 R T) _
    refine Z_cQ rfl rfl rfl (m_closesTerm (d := d + 1) d4 (by omega) x4.2.2.1) (fun v h1 hq => ?_)
    obtain ⟨rfl, I5, J5, rfl, a1, a2, a3, u5⟩ := hq
    show Zs _ _ (am_P 194).2 (248, [(0, .ref 73), (1, .ref o)], []) (HH I5 J5 R T) _
    refine Z_jump 6 rfl ?_
    show Zs _ _ (am_P 194).2 (258, [(0, .ref 73), (1, .ref o)], []) (HH I5 (sl J5 73 34 (J5 89 0)) R T) _
    refine Z_jump 1 rfl ?_
    show Zs _ _ (am_P 194).2 (259, [(0, .ref 73), (1, .ref o)], [.int (1 : Int32)]) (HH I5 (sl J5 73 34 (J5 89 0)) R T) _
    refine Z_rI rfl (by first | exact am_nw0 _ | exact am_nw01 | rfl | assumption) ?_
    refine ⟨I5, _, rfl, UE_t (UE_t u4 (UE_t (UE_28 u5) (UE_16 a1))) UE_34, TB_cl x4.2.2 u5, rfl, ?_, ?_⟩
    · have tk := TK_m (J' := J5) t4 (u5.2.1 14 (by decide)) (u5.2.1 15 (by decide)) (u5.2.1 16 (by decide)) (u5.2.1 17 (by decide)) (u5.2.1 19 (by decide)) (a1 73 (by decide))
      exact ⟨tk.1, tk.2.1, tk.2.2.1, tk.2.2.2.1, tk.2.2.2.2.1, fun z => ⟨(tk.2.2.2.2.2.1 z).1, (tk.2.2.2.2.2.1 z).2.1, (tk.2.2.2.2.2.1 z).2.2⟩, tk.2.2.2.2.2.2⟩
    · rw [f27] at a3 u5
      rw [sl_s, u5.2.2, a3]
      exact hcl
  · refine Z_jump 3 rfl ?_
    refine Z_bd (fun c114 => ?_) (fun c114 => absurd ((show I4 73 29 ≤ 0 by rw [d4]; decide)) c114)
    refine Z_jump 4 rfl ?_
    refine Z_bd (fun c159 => absurd c159 ((fun z => hop ⟨(m42.mp z).1, Or.inl (m42.mp z).2⟩))) (fun c159 => ?_)
    refine Z_jump 4 rfl ?_
    refine Z_bn (fun c168 => ?_) (fun c168 => absurd c168 ((fun z => hop ⟨(m47.mp z).1, Or.inr (Or.inl (m47.mp z).2)⟩)))
    refine Z_jump 4 rfl ?_
    refine Z_bd (fun c193 => absurd c193 ((fun z => hop ⟨(m43.mp z).1, Or.inr (Or.inr (Or.inl (m43.mp z).2))⟩))) (fun c193 => ?_)
    refine Z_jump 4 rfl ?_
    refine Z_bn (fun c202 => ?_) (fun c202 => absurd c202 ((fun z => hop ⟨(m45.mp z).1, Or.inr (Or.inr (Or.inr (m45.mp z).2))⟩)))
    refine Z_jump 3 rfl ?_
    refine Z_bd (fun c239 => ?_) (fun c239 => absurd ((show I4 73 29 ≤ 0 by rw [d4]; decide)) c239)
    refine Z_jump 1 rfl ?_
    show Zs _ _ (am_P 194).2 (245, [(0, .ref 73), (1, .ref o)], [.ref 73]) (HH I4 J4 R T) _
    refine Z_cQ rfl rfl rfl (m_closesTerm (d := d + 1) d4 (by omega) x4.2.2.1) (fun v h1 hq => ?_)
    obtain ⟨rfl, I5, J5, rfl, a1, a2, a3, u5⟩ := hq
    show Zs _ _ (am_P 194).2 (248, [(0, .ref 73), (1, .ref o)], []) (HH I5 J5 R T) _
    refine Z_jump 6 rfl ?_
    show Zs _ _ (am_P 194).2 (258, [(0, .ref 73), (1, .ref o)], []) (HH I5 (sl J5 73 34 (J5 89 0)) R T) _
    refine Z_jump 1 rfl ?_
    show Zs _ _ (am_P 194).2 (259, [(0, .ref 73), (1, .ref o)], [.int (1 : Int32)]) (HH I5 (sl J5 73 34 (J5 89 0)) R T) _
    refine Z_rI rfl (by first | exact am_nw0 _ | exact am_nw01 | rfl | assumption) ?_
    refine ⟨I5, _, rfl, UE_t (UE_t u4 (UE_t (UE_28 u5) (UE_16 a1))) UE_34, TB_cl x4.2.2 u5, rfl, ?_, ?_⟩
    · have tk := TK_m (J' := J5) t4 (u5.2.1 14 (by decide)) (u5.2.1 15 (by decide)) (u5.2.1 16 (by decide)) (u5.2.1 17 (by decide)) (u5.2.1 19 (by decide)) (a1 73 (by decide))
      exact ⟨tk.1, tk.2.1, tk.2.2.1, tk.2.2.2.1, tk.2.2.2.2.1, fun z => ⟨(tk.2.2.2.2.2.1 z).1, (tk.2.2.2.2.2.1 z).2.1, (tk.2.2.2.2.2.1 z).2.2⟩, tk.2.2.2.2.2.2⟩
    · rw [f27] at a3 u5
      rw [sl_s, u5.2.2, a3]
      exact hcl
end EXW

