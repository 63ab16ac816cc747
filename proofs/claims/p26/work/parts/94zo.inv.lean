/-! What holds between calls: the class's half, the reference's half. -/
section INV
variable {sc : Nat × (Nat → Int32)} {d : Nat} {I : hI} {J : hJ} {R : hR} {T : am_H} {Q : Option Value → am_H → Prop} {tx : Nat → Nat} {c : Nat}
def FrW (tx : Nat → Nat) (c : Nat) (D : FD) (I : hI) (J : hJ) (R : hR) (T : am_H) (r : Option Value) (h : am_H) : Prop := ∃ I' R' T', h = HH I' J R' T' ∧ (∀ a, (4 ≤ a ∧ a ≤ 17) ∨ 25 ≤ a → I' a = I a) ∧ (∀ a, a ≠ 19 → a ≠ 21 → R' a = R a) ∧ TX 12 T T' ∧ (match fRead tx c 12 0 (tS tx c 0) D with
  | .inl _ => r = some (.int (-4)) ∧ CT tx c I' ∧ DC 18 D I' R' T' ∧ I' 0 = I 0 ∧ I' 22 = I 22 ∧ I' 23 = I 23 ∧ I' 24 = I 24
  | .inr (n, D') => r = some (.int (nI n)) ∧ CT tx 0 I' ∧ DC 18 D' I' R' T' ∧ I' 0 9 = 0 ∧ I' 0 11 = 0 ∧ I' 0 15 = 0 ∧ (∀ k, k < 6 → I' 23 k = 0 ∧ I' 24 k = 0) ∧ I' 22 2 = D'.2.2 ∧ I' 22 3 = 0)
theorem c_frameW {D : FD} (hC : CT tx c I) (hD : DC 18 D I R T) : Ze sc (d + 12) 94 [.ref 0] (HH I J R T) (FrW tx c D I J R T) := by
  refine Ze_of (Nat.le_of_ble_eq_true rfl) ?_
  have hc := hC.2.1
  refine Z_jump 1 rfl ?_
  show Zs _ _ (am_P 94).2 (1, [(0, .ref 0)], [.ref 0]) (HH I J R T) _
  refine Z_cQ rfl rfl rfl (c_readDraft hC hD) (fun v h1 hq => ?_)
  obtain ⟨I1, R1, T1, rfl, u1, w1, x1, C1, v, rfl, hm⟩ := hq
  show Zs _ _ (am_P 94).2 (4, [(0, .ref 0)], [.int v]) (HH I1 J R1 T1) _
  refine Z_jump 3 rfl ?_
  show Zs _ _ (am_P 94).2 (9, [(0, .ref 0), (1, .int v)], [.ref 1]) (HH I1 J R1 T1) _
  have D1 : DC 18 D I1 R1 T1 := DC_T (DC_of hD (u1 18 (by decide) (by decide)) (w1 19 (by decide))) x1
  unfold FrW
  rcases hf : fRead tx c 12 0 (tS tx c 0) D with p | ⟨n, D'⟩
  · rw [hf] at hm
    refine Z_jump 1 rfl ?_
    refine Z_eqI hm.2 ?_
    refine Z_jump 2 rfl ?_
    refine Z_bd (fun z => absurd z (nI_m1 hm.1 hc)) (fun z => ?_)
    refine Z_jump 1 rfl ?_
    exact Z_rI rfl (am_nw0 _) ⟨I1, R1, T1, rfl, fun a ha => u1 a (by omega) (by omega), fun a h1 h2 => w1 a h2, x1, rfl, C1, D1, u1 0 (by decide) (by decide), u1 22 (by decide) (by decide), u1 23 (by decide) (by decide), u1 24 (by decide) (by decide)⟩
  rw [hf] at hm
  obtain ⟨g2, gv, gn, gD⟩ := hm
  refine Z_jump 1 rfl ?_
  refine Z_eqI g2 ?_
  refine Z_jump 2 rfl ?_
  refine Z_bd (fun z => ?_) (fun z => absurd rfl z)
  subst gv
  refine Z_jump 4 rfl ?_
  show Zs _ _ (am_P 94).2 (27, [(0, .ref 0), (1, .int (nI n))], [.ref 20, .ref 18]) (HH I1 J R1 T1) _
  refine Z_cQ rfl rfl rfl (Ze_deep (d := 2) (by omega) (c_fcopy18 (d := 0) gD)) (fun v h1 hq => ?_)
  obtain ⟨rfl, R2, rfl, w2, D2⟩ := hq
  show Zs _ _ (am_P 94).2 (30, [(0, .ref 0), (1, .int (nI n))], []) (HH (sf (sf I1 18 1 (I1 20 1)) 18 2 (I1 20 2)) J R2 T1) _
  refine Z_jump 5 rfl ?_
  show Zs _ _ (am_P 94).2 (41, [(0, .ref 0), (1, .int (nI n))], [.int ((sf (sf I1 18 1 (I1 20 1)) 18 2 (I1 20 2)) 18 2), .ref 22]) (HH (sf (sf I1 18 1 (I1 20 1)) 18 2 (I1 20 2)) J R2 T1) _
  refine Z_c0 rfl rfl rfl (c_sbegin) ?_
  show Zs _ _ (am_P 94).2 (44, [(0, .ref 0), (1, .int (nI n))], []) (HH (sf (sf (va_up (va_up (sf (sf I1 18 1 (I1 20 1)) 18 2 (I1 20 2)) 23 (am_fill 6 ((sf (sf I1 18 1 (I1 20 1)) 18 2 (I1 20 2)) 23) 0 6)) 24 (am_fill 6 ((sf (sf I1 18 1 (I1 20 1)) 18 2 (I1 20 2)) 24) 0 6)) 22 2 ((sf (sf I1 18 1 (I1 20 1)) 18 2 (I1 20 2)) 18 2)) 22 3 0) J R2 T1) _
  refine Z_jump 3 rfl ?_
  show Zs _ _ (am_P 94).2 (49, [(0, .ref 0), (1, .int (nI n))], []) (HH (sf (sf (sf (va_up (va_up (sf (sf I1 18 1 (I1 20 1)) 18 2 (I1 20 2)) 23 (am_fill 6 ((sf (sf I1 18 1 (I1 20 1)) 18 2 (I1 20 2)) 23) 0 6)) 24 (am_fill 6 ((sf (sf I1 18 1 (I1 20 1)) 18 2 (I1 20 2)) 24) 0 6)) 22 2 ((sf (sf I1 18 1 (I1 20 1)) 18 2 (I1 20 2)) 18 2)) 22 3 0) 0 9 (0 : Int32)) J R2 T1) _
  refine Z_jump 3 rfl ?_
  show Zs _ _ (am_P 94).2 (54, [(0, .ref 0), (1, .int (nI n))], []) (HH (sf (sf (sf (sf (va_up (va_up (sf (sf I1 18 1 (I1 20 1)) 18 2 (I1 20 2)) 23 (am_fill 6 ((sf (sf I1 18 1 (I1 20 1)) 18 2 (I1 20 2)) 23) 0 6)) 24 (am_fill 6 ((sf (sf I1 18 1 (I1 20 1)) 18 2 (I1 20 2)) 24) 0 6)) 22 2 ((sf (sf I1 18 1 (I1 20 1)) 18 2 (I1 20 2)) 18 2)) 22 3 0) 0 9 (0 : Int32)) 0 11 (0 : Int32)) J R2 T1) _
  refine Z_jump 3 rfl ?_
  show Zs _ _ (am_P 94).2 (59, [(0, .ref 0), (1, .int (nI n))], []) (HH (sf (sf (sf (sf (sf (va_up (va_up (sf (sf I1 18 1 (I1 20 1)) 18 2 (I1 20 2)) 23 (am_fill 6 ((sf (sf I1 18 1 (I1 20 1)) 18 2 (I1 20 2)) 23) 0 6)) 24 (am_fill 6 ((sf (sf I1 18 1 (I1 20 1)) 18 2 (I1 20 2)) 24) 0 6)) 22 2 ((sf (sf I1 18 1 (I1 20 1)) 18 2 (I1 20 2)) 18 2)) 22 3 0) 0 9 (0 : Int32)) 0 11 (0 : Int32)) 0 15 (0 : Int32)) J R2 T1) _
  refine Z_jump 4 rfl ?_
  show Zs _ _ (am_P 94).2 (67, [(0, .ref 0), (1, .int (nI n))], []) (HH (sf (sf (sf (sf (sf (sf (va_up (va_up (sf (sf I1 18 1 (I1 20 1)) 18 2 (I1 20 2)) 23 (am_fill 6 ((sf (sf I1 18 1 (I1 20 1)) 18 2 (I1 20 2)) 23) 0 6)) 24 (am_fill 6 ((sf (sf I1 18 1 (I1 20 1)) 18 2 (I1 20 2)) 24) 0 6)) 22 2 ((sf (sf I1 18 1 (I1 20 1)) 18 2 (I1 20 2)) 18 2)) 22 3 0) 0 9 (0 : Int32)) 0 11 (0 : Int32)) 0 15 (0 : Int32)) 1 1 (0 : Int32)) J R2 T1) _
  refine Z_jump 1 rfl ?_
  show Zs _ _ (am_P 94).2 (68, [(0, .ref 0), (1, .int (nI n))], [.int (nI n)]) (HH (sf (sf (sf (sf (sf (sf (va_up (va_up (sf (sf I1 18 1 (I1 20 1)) 18 2 (I1 20 2)) 23 (am_fill 6 ((sf (sf I1 18 1 (I1 20 1)) 18 2 (I1 20 2)) 23) 0 6)) 24 (am_fill 6 ((sf (sf I1 18 1 (I1 20 1)) 18 2 (I1 20 2)) 24) 0 6)) 22 2 ((sf (sf I1 18 1 (I1 20 1)) 18 2 (I1 20 2)) 18 2)) 22 3 0) 0 9 (0 : Int32)) 0 11 (0 : Int32)) 0 15 (0 : Int32)) 1 1 (0 : Int32)) J R2 T1) _
  refine Z_rI rfl (by first | exact am_nw0 _ | exact am_nw01 | rfl | assumption) ?_
  refine ⟨_, R2, T1, rfl, fun a ha => ?_, fun a h1 h2 => (w2 a h1).trans (w1 a h2), x1, rfl, ⟨rfl, Nat.zero_le _, fun k hk => absurd hk (Nat.not_lt_zero k), fun k hk => absurd hk (Nat.not_lt_zero k)⟩, D2, rfl, rfl, rfl, fun k hk => ⟨if_pos hk, if_pos hk⟩, gD.2.2.1, rfl⟩
  rw [sf_c (by omega), sf_c (by omega), sf_c (by omega), sf_c (by omega), sf_c (by omega), sf_c (by omega), up_ne (by omega), up_ne (by omega), sf_c (by omega), sf_c (by omega)]
  exact u1 a (by omega) (by omega)

theorem inj_a {H H' : am_H} {k n t : Nat} {f g : Nat → Int32} (h : H = H') (e : H[k]? = some (.inl (t, n, .inl f))) (e' : H'[k]? = some (.inl (t, n, .inl g))) : f = g := by
  rw [h] at e
  have q := e.symm.trans e'
  cases q
  rfl
theorem inj_r {H H' : am_H} {k n t : Nat} {f g : Nat → Option Nat} (h : H = H') (e : H[k]? = some (.inl (t, n, .inr (.inr (.inr (.inr f)))))) (e' : H'[k]? = some (.inl (t, n, .inr (.inr (.inr (.inr g)))))) : f = g := by
  rw [h] at e
  have q := e.symm.trans e'
  cases q
  rfl
theorem inj_f {H H' : am_H} {k ci j : Nat} {fs gs : List Value} {x y : Int32} (h : H = H') (e : H[k]? = some (.inr (ci, fs))) (e' : H'[k]? = some (.inr (ci, gs))) (hx : fs[j]? = some (.int x)) (hy : gs[j]? = some (.int y)) : x = y := by
  rw [h] at e
  have q := e.symm.trans e'
  cases q
  have q2 := hx.symm.trans hy
  cases q2
  rfl
abbrev isSB (a : Nat) : Prop := a ∈ [22, 39, 42, 45, 48, 51, 54, 57, 60, 64, 67]
theorem isSB_s {a : Nat} (h : isSB a) : isSt a ∧ (a = 22 ∨ 39 ≤ a) ∧ a ≤ 67 := by
  have : a = 22 ∨ a = 39 ∨ a = 42 ∨ a = 45 ∨ a = 48 ∨ a = 51 ∨ a = 54 ∨ a = 57 ∨ a = 60 ∨ a = 64 ∨ a = 67 := by simpa [isSB] using h
  rcases this with rfl | rfl | rfl | rfl | rfl | rfl | rfl | rfl | rfl | rfl | rfl <;> decide
def SN (m : Nat) (sn : Nat → Nat → Int32) (I : hI) : Prop := I 0 15 = nI m ∧ m ≤ 6 ∧ ∀ k, k < m → I 70 k = sn 0 k ∧ I 71 k = sn 1 k ∧ I 72 k = sn 2 k
/-- the class between calls -/
def CI (tx : Nat → Nat) (c : Nat) (D : FD) (m : Nat) (sn : Nat → Nat → Int32) (I : hI) (R : hR) (T : am_H) : Prop :=
  CT tx c I ∧ DC 18 D I R T ∧ SN m sn I ∧ WK I ∧ (∃ p, I 0 9 = nI p ∧ p ≤ 8) ∧ PR R ∧ (R 63 0 = some 64 ∧ R 63 1 = some 67) ∧ P28 R ∧ ∀ a, isSB a → SBd a I
theorem CI_T {D : FD} {m k : Nat} {sn : Nat → Nat → Int32} {T' : am_H} (h : CI tx c D m sn I R T) (g : TX k T T') : CI tx c D m sn I R T' := ⟨h.1, DC_T h.2.1 g, h.2.2⟩
/-- it is a thing of the heap -/
theorem CI_h {D : FD} {m : Nat} {sn : Nat → Nat → Int32} {I' : hI} {J' : hJ} {R' : hR} (e : HH I J R T = HH I' J' R' T) (h : CI tx c D m sn I' R' T) : CI tx c D m sn I R T := by
  have f1 : I 1 1 = I' 1 1 := inj_f (k := 1) (j := 1) e rfl rfl rfl rfl
  have f2 : I 2 = I' 2 := inj_a (k := 2) e rfl rfl
  have g1 : I 18 1 = I' 18 1 := inj_f (k := 18) (j := 1) e rfl rfl rfl rfl
  have g2 : I 18 2 = I' 18 2 := inj_f (k := 18) (j := 2) e rfl rfl rfl rfl
  have h9 : I 0 9 = I' 0 9 := inj_f (k := 0) (j := 9) e rfl rfl rfl rfl
  have h15 : I 0 15 = I' 0 15 := inj_f (k := 0) (j := 15) e rfl rfl rfl rfl
  have s0 : I 70 = I' 70 := inj_a (k := 70) e rfl rfl
  have s1 : I 71 = I' 71 := inj_a (k := 71) e rfl rfl
  have s2 : I 72 = I' 72 := inj_a (k := 72) e rfl rfl
  have w6 : I 6 = I' 6 := inj_a (k := 6) e rfl rfl
  have w8 : I 8 = I' 8 := inj_a (k := 8) e rfl rfl
  have w9 : I 9 = I' 9 := inj_a (k := 9) e rfl rfl
  have w14 : I 14 = I' 14 := inj_a (k := 14) e rfl rfl
  have r19 : R 19 = R' 19 := inj_r (k := 19) e rfl rfl
  have r28 : R 28 = R' 28 := inj_r (k := 28) e rfl rfl
  have r38 : R 38 = R' 38 := inj_r (k := 38) e rfl rfl
  have r63 : R 63 = R' 63 := inj_r (k := 63) e rfl rfl
  obtain ⟨a1, a2, a3, a4, a5, a6, a7, a8, a9⟩ := h
  refine ⟨CT_of a1 f1 f2, ⟨by rw [g1]; exact a2.1, a2.2.1, by rw [g2]; exact a2.2.2.1, fun k hk => by rw [show R (18 + 1) = R' (18 + 1) from r19]; exact a2.2.2.2 k hk⟩, ⟨by rw [h15]; exact a3.1, a3.2.1, fun k hk => by rw [s0, s1, s2]; exact a3.2.2 k hk⟩, ⟨BS_of a4.1 w8, HG_of a4.2.1 w6, WG_of a4.2.2.1 w9, SG_of a4.2.2.2 w14⟩, by rw [h9]; exact a5, ?_, by rw [r63]; exact a7, ?_, fun a ha => ?_⟩
  · unfold PR at a6 ⊢
    rw [r38]
    exact a6
  · unfold P28 at a8 ⊢
    rw [r28]
    exact a8
  · have hst := (isSB_s ha).1
    exact SBd_of (a9 a ha) (inj_a e (st_1 hst) (st_1 hst)) (inj_a e (st_2 hst) (st_2 hst))
/-- a call that leaves all but Ways, trial and path as it was -/
theorem CI_q {D : FD} {m : Nat} {sn : Nat → Nat → Int32} {I' : hI} (h : CI tx c D m sn I R T) (e : ∀ a, a < 4 ∨ (17 < a ∧ a < 25) ∨ 37 < a → I' a = I a) (w : WK I') : CI tx c D m sn I' R T := by
  obtain ⟨a1, a2, a3, a4, a5, a6, a7, a8, a9⟩ := h
  refine ⟨CT_of a1 (congrFun (e 1 (by omega)) 1) (e 2 (by omega)), DC_of a2 (e 18 (by omega)) rfl, ⟨by rw [e 0 (by omega)]; exact a3.1, a3.2.1, fun k hk => by rw [e 70 (by omega), e 71 (by omega), e 72 (by omega)]; exact a3.2.2 k hk⟩, w, by rw [e 0 (by omega)]; exact a5, a6, a7, a8, fun a ha => ?_⟩
  have hs := isSB_s ha
  exact SBd_of (a9 a ha) (e _ (by omega)) (e _ (by omega))
/-- a call that changes the text or what was seen -/
theorem CI_e {D : FD} {m m' c' : Nat} {tx' : Nat → Nat} {sn sn' : Nat → Nat → Int32} {I' : hI} (h : CI tx c D m sn I R T) (h1 : CT tx' c' I') (h3 : SN m' sn' I') (h9 : I' 0 9 = I 0 9) (e : ∀ a, 4 ≤ a → a < 70 → I' a = I a) : CI tx' c' D m' sn' I' R T := by
  obtain ⟨a1, a2, a3, a4, a5, a6, a7, a8, a9⟩ := h
  refine ⟨h1, DC_of a2 (e 18 (by omega) (by omega)) rfl, h3, WK_of a4 (fun a x y => e a x (by omega)), by rw [h9]; exact a5, a6, a7, a8, fun a ha => ?_⟩
  have hs := isSB_s ha
  exact SBd_of (a9 a ha) (e _ (by omega) (by omega)) (e _ (by omega) (by omega))
/-- remembered -/
theorem CI_rm {D : FD} {m p : Nat} {sn : Nat → Nat → Int32} {I2 : hI} {R2 : hR} (h : CI tx c D m sn I R T) (q : RMq p I J R T none (HH I2 J R2 T)) : CI tx c D m sn I2 R2 T := by
  obtain ⟨_, I', R', a, e, b1, b2, b3, b4, b5, b6, b7⟩ := q
  refine CI_h e ?_
  obtain ⟨a1, a2, a3, a4, a5, a6, a7, a8, a9⟩ := h
  have hst := past_st b6
  have k : ∀ b, b ≠ 0 → b < 39 ∨ 62 < b → I' b = I b := fun b h0 hb => b7.1 b h0 (by omega) (by omega) (by omega)
  refine ⟨CT_of a1 (congrFun (k 1 (by decide) (by omega)) 1) (k 2 (by decide) (by omega)), DC_of a2 (k 18 (by decide) (by omega)) (b3 19 (by decide)), ⟨by rw [b7.2.1 15 (by decide)]; exact a3.1, a3.2.1, fun j hj => by rw [k 70 (by decide) (by omega), k 71 (by decide) (by omega), k 72 (by decide) (by omega)]; exact a3.2.2 j hj⟩, WK_of a4 (fun c x y => k c (by omega) (by omega)), ⟨_, b1, by split <;> omega⟩, b2, by rw [b3 63 (by decide)]; exact a7, ?_, fun b hb => ?_⟩
  · unfold P28 at a8 ⊢
    rw [b3 28 (by decide)]
    exact a8
  · by_cases e1 : b = a
    · subst e1
      intro i hi
      have := b7.2.2.1 i hi
      rw [this.1, this.2]
      exact a9 22 (by decide) i hi
    · have hs := isSB_s hb
      have dd := st_dis a hst.1 b hs.1 (Ne.symm e1)
      refine SBd_of (a9 b hb) (b7.1 _ (by omega) dd.2.1.1 dd.2.1.2.1 dd.2.1.2.2) (b7.1 _ (by omega) dd.2.2.1 dd.2.2.2.1 dd.2.2.2.2)
/-- now is changed, nothing else -/
theorem CI_n {D : FD} {m : Nat} {sn : Nat → Nat → Int32} {I' : hI} (h : CI tx c D m sn I R T) (e : ∀ a, a ≠ 22 → a ≠ 23 → a ≠ 24 → I' a = I a) (s : SBd 22 I') : CI tx c D m sn I' R T := by
  obtain ⟨a1, a2, a3, a4, a5, a6, a7, a8, a9⟩ := h
  refine ⟨CT_of a1 (congrFun (e 1 (by decide) (by decide) (by decide)) 1) (e 2 (by decide) (by decide) (by decide)), DC_of a2 (e 18 (by decide) (by decide) (by decide)) rfl, ⟨by rw [e 0 (by decide) (by decide) (by decide)]; exact a3.1, a3.2.1, fun k hk => by rw [e 70 (by decide) (by decide) (by decide), e 71 (by decide) (by decide) (by decide), e 72 (by decide) (by decide) (by decide)]; exact a3.2.2 k hk⟩, WK_of a4 (fun c x y => e c (by omega) (by omega) (by omega)), by rw [e 0 (by decide) (by decide) (by decide)]; exact a5, a6, a7, a8, fun a ha => ?_⟩
  by_cases e1 : a = 22
  · rw [e1]; exact s
  · have hs := isSB_s ha
    exact SBd_of (a9 a ha) (e _ (by omega) (by omega) (by omega)) (e _ (by omega) (by omega) (by omega))
theorem CP_SB {a b : Nat} {I I' : hI} (h : CP a b I I') (s : SBd b I) : SBd a I' := fun i hi => by rw [(h.2.1 i hi).1, (h.2.1 i hi).2]; exact s i hi
/-- the reference between calls -/
def MI (tx : Nat → Nat) (c : Nat) (D : FD) (m : Nat) (sn : Nat → Nat → Int32) (I : hI) : Prop :=
  MT tx c I ∧ DMf D I ∧ (I 73 40 = nI m ∧ m ≤ 6 ∧ ∀ k, k < m → I 96 k = sn 0 k ∧ I 97 k = sn 1 k ∧ I 98 k = sn 2 k) ∧ (∃ u, I 73 36 = nI u ∧ u < 8) ∧ (∃ w, I 73 35 = nI w ∧ w ≤ 8) ∧ BR 78 I ∧ (∀ j, j < 112 → j % 14 < 12 → b9 (I 93 j)) ∧ ∀ j, j < 28 → j % 14 < 12 → b9 (I 95 j)
theorem MI_k {D : FD} {m : Nat} {sn : Nat → Nat → Int32} {I' : hI} (h : MI tx c D m sn I) (e : ∀ a, 73 ≤ a → I' a = I a) : MI tx c D m sn I' := by
  obtain ⟨a1, a2, a3, a4, a5, a6, a7, a8⟩ := h
  have e0 := e 73 (by omega)
  refine ⟨MT_of a1 (congrFun e0 _) (e _ (by decide)), DMf_of a2 e0 (e _ (by decide)) (e _ (by decide)) (e _ (by decide)) (e _ (by decide)), ⟨by rw [e0]; exact a3.1, a3.2.1, fun k hk => by rw [e _ (by decide), e _ (by decide), e _ (by decide)]; exact a3.2.2 k hk⟩, by rw [e0]; exact a4, by rw [e0]; exact a5, BR_of a6 (e _ (by decide)), fun j h1 h2 => by rw [e _ (by decide)]; exact a7 j h1 h2, fun j h1 h2 => by rw [e _ (by decide)]; exact a8 j h1 h2⟩
theorem CI_k {D : FD} {m : Nat} {sn : Nat → Nat → Int32} {I' : hI} (h : CI tx c D m sn I R T) (e : ∀ a, a < 73 → I' a = I a) : CI tx c D m sn I' R T := by
  obtain ⟨a1, a2, a3, a4, a5, a6, a7, a8, a9⟩ := h
  refine ⟨CT_of a1 (congrFun (e 1 (by decide)) 1) (e 2 (by decide)), DC_of a2 (e 18 (by decide)) rfl, ⟨by rw [e 0 (by decide)]; exact a3.1, a3.2.1, fun k hk => by rw [e 70 (by decide), e 71 (by decide), e 72 (by decide)]; exact a3.2.2 k hk⟩, WK_of a4 (fun c x y => e c (by omega)), by rw [e 0 (by decide)]; exact a5, a6, a7, a8, fun a ha => ?_⟩
  have hs := isSB_s ha
  exact SBd_of (a9 a ha) (e _ (by omega)) (e _ (by omega))
/-- the reference: a call that leaves the text, the frame, what was seen and the rows of now and of undo as they were -/
theorem MI_q {D : FD} {m : Nat} {sn : Nat → Nat → Int32} {I' : hI} (h : MI tx c D m sn I) (e : ∀ a, 73 ≤ a → a ≠ 73 → a ≠ 79 → a ≠ 82 → a ≠ 83 → a ≠ 85 → a ≠ 86 → a ≠ 87 → a ≠ 88 → a ≠ 91 → a ≠ 92 → I' a = I a) (e0 : ∀ k, k = 0 ∨ k = 7 ∨ k = 12 ∨ k = 35 ∨ k = 36 ∨ k = 40 → I' 73 k = I 73 k) : MI tx c D m sn I' := by
  obtain ⟨a1, a2, a3, a4, a5, a6, a7, a8⟩ := h
  have ee : ∀ a, a = 74 ∨ a = 75 ∨ a = 76 ∨ a = 77 ∨ a = 78 ∨ a = 84 ∨ a = 93 ∨ a = 95 ∨ a = 96 ∨ a = 97 ∨ a = 98 → I' a = I a := fun a ha => e a (by omega) (by omega) (by omega) (by omega) (by omega) (by omega) (by omega) (by omega) (by omega) (by omega) (by omega)
  refine ⟨MT_of a1 (e0 12 (by decide)) (ee _ (by decide)), ⟨by rw [e0 0 (by decide)]; exact a2.1, a2.2.1, by rw [e0 7 (by decide)]; exact a2.2.2.1, fun k hk => ?_⟩, ⟨by rw [e0 40 (by decide)]; exact a3.1, a3.2.1, fun k hk => by rw [ee 96 (by decide), ee 97 (by decide), ee 98 (by decide)]; exact a3.2.2 k hk⟩, by rw [e0 36 (by decide)]; exact a4, by rw [e0 35 (by decide)]; exact a5, BR_of a6 (ee _ (by decide)), fun j h1 h2 => by rw [ee 93 (by decide)]; exact a7 j h1 h2, fun j h1 h2 => by rw [ee 95 (by decide)]; exact a8 j h1 h2⟩
  have q := a2.2.2.2 k hk
  exact ⟨q.1, by rw [ee 74 (by decide)]; exact q.2.1, (congrFun (ee 75 (by decide)) k).trans q.2.2.1, (congrFun (ee 76 (by decide)) k).trans q.2.2.2.1, (congrFun (ee 77 (by decide)) k).trans q.2.2.2.2⟩
theorem MI_rm {D : FD} {m u w : Nat} {sn : Nat → Nat → Int32} {I2 : hI} (hu8 : u < 8) (h : MI tx c D m sn I) (q : RMm u w I I2) : MI tx c D m sn I2 := by
  obtain ⟨a1, a2, a3, a4, a5, a6, a7, a8⟩ := h
  have e : ∀ a, a ≠ 73 → a ≠ 93 → I2 a = I a := q.1
  refine ⟨MT_rm a1 q, DM_rm a2 q, ⟨by rw [q.2.2.1 40 (by decide) (by decide)]; exact a3.1, a3.2.1, fun k hk => by rw [e 96 (by decide) (by decide), e 97 (by decide) (by decide), e 98 (by decide) (by decide)]; exact a3.2.2 k hk⟩, ⟨_, q.2.2.2.1, by omega⟩, ⟨_, q.2.2.2.2, by split <;> omega⟩, BR_of a6 (e _ (by decide) (by decide)), fun j h1 h2 => ?_, fun j h1 h2 => by rw [e 95 (by decide) (by decide)]; exact a8 j h1 h2⟩
  rw [q.2.1 j]
  split
  · exact a6 _ (by omega)
  · exact a7 j h1 h2
/-- the reference: now is changed -/
theorem MI_n {D : FD} {m : Nat} {sn : Nat → Nat → Int32} {I' : hI} (h : MI tx c D m sn I) (e : ∀ a, 73 ≤ a → a ≠ 73 → a ≠ 78 → a ≠ 79 → a ≠ 82 → a ≠ 83 → a ≠ 85 → a ≠ 86 → a ≠ 87 → a ≠ 88 → a ≠ 91 → a ≠ 92 → I' a = I a) (e0 : ∀ k, k = 0 ∨ k = 7 ∨ k = 12 ∨ k = 35 ∨ k = 36 ∨ k = 40 → I' 73 k = I 73 k) (hb : BR 78 I') : MI tx c D m sn I' := by
  have h2 := MI_q (I' := fun a => if a = 78 then I 78 else I' a) h (fun a x1 x2 x3 x4 x5 x6 x7 x8 x9 x10 x11 => by
    show (if a = 78 then I 78 else I' a) = I a
    split
    · rename_i z; rw [z]
    · rename_i z; exact e a x1 x2 z x3 x4 x5 x6 x7 x8 x9 x10 x11) (fun k hk => e0 k hk)
  obtain ⟨a1, a2, a3, a4, a5, a6, a7, a8⟩ := h2
  exact ⟨a1, a2, a3, a4, a5, hb, a7, a8⟩
/-- it is a thing of the heap, too -/
theorem MI_h {D : FD} {m : Nat} {sn : Nat → Nat → Int32} {I' : hI} {J' : hJ} {R' : hR} {T' : am_H} (e : HH I J R T = HH I' J' R' T') (h : MI tx c D m sn I') : MI tx c D m sn I := by
  have f : ∀ k, k = 0 ∨ k = 7 ∨ k = 12 ∨ k = 35 ∨ k = 36 ∨ k = 40 → I 73 k = I' 73 k := fun k hk => by
    rcases hk with rfl | rfl | rfl | rfl | rfl | rfl
    · exact inj_f (k := 73) (j := 0) e rfl rfl rfl rfl
    · exact inj_f (k := 73) (j := 7) e rfl rfl rfl rfl
    · exact inj_f (k := 73) (j := 12) e rfl rfl rfl rfl
    · exact inj_f (k := 73) (j := 35) e rfl rfl rfl rfl
    · exact inj_f (k := 73) (j := 36) e rfl rfl rfl rfl
    · exact inj_f (k := 73) (j := 40) e rfl rfl rfl rfl
  obtain ⟨a1, a2, a3, a4, a5, a6, a7, a8⟩ := h
  have c1 : I 74 = I' 74 := inj_a (k := 74) e rfl rfl
  have c2 : I 75 = I' 75 := inj_a (k := 75) e rfl rfl
  have c3 : I 76 = I' 76 := inj_a (k := 76) e rfl rfl
  have c4 : I 77 = I' 77 := inj_a (k := 77) e rfl rfl
  have c5 : I 78 = I' 78 := inj_a (k := 78) e rfl rfl
  have c11 : I 84 = I' 84 := inj_a (k := 84) e rfl rfl
  have c20 : I 93 = I' 93 := inj_a (k := 93) e rfl rfl
  have c22 : I 95 = I' 95 := inj_a (k := 95) e rfl rfl
  have c23 : I 96 = I' 96 := inj_a (k := 96) e rfl rfl
  have c24 : I 97 = I' 97 := inj_a (k := 97) e rfl rfl
  have c25 : I 98 = I' 98 := inj_a (k := 98) e rfl rfl
  refine ⟨MT_of a1 (f 12 (by decide)) c11, ⟨by rw [f 0 (by decide)]; exact a2.1, a2.2.1, by rw [f 7 (by decide)]; exact a2.2.2.1, fun k hk => ?_⟩, ⟨by rw [f 40 (by decide)]; exact a3.1, a3.2.1, fun k hk => by rw [c23, c24, c25]; exact a3.2.2 k hk⟩, by rw [f 36 (by decide)]; exact a4, by rw [f 35 (by decide)]; exact a5, BR_of a6 c5, fun j h1 h2 => by rw [c20]; exact a7 j h1 h2, fun j h1 h2 => by rw [c22]; exact a8 j h1 h2⟩
  have q := a2.2.2.2 k hk
  exact ⟨q.1, by rw [c1]; exact q.2.1, (congrFun c2 k).trans q.2.2.1, (congrFun c3 k).trans q.2.2.2.1, (congrFun c4 k).trans q.2.2.2.2⟩
def MP (I I' : hI) : Prop := ∀ tx c D m sn, MI tx c D m sn I → MI tx c D m sn I'
theorem MP_k {I' : hI} (e : ∀ a, 73 ≤ a → I' a = I a) : MP I I' := fun _ _ _ _ _ h => MI_k h e
theorem MP_t {I1 I2 : hI} (h : MP I I1) (g : MP I1 I2) : MP I I2 := fun tx c D m sn x => g tx c D m sn (h tx c D m sn x)
theorem RM_p {p : Nat} {I2 : hI} {R2 : hR} (q : RMq p I J R T none (HH I2 J R2 T)) : MP I I2 := fun tx c D m sn h => by
  obtain ⟨_, I', R', a, e, b1, b2, b3, b4, b5, b6, b7⟩ := q
  have hst := past_st b6
  exact MI_h e (MI_k h (fun b hb => b7.1 b (by omega) (by omega) (by omega) (by omega)))
end INV

