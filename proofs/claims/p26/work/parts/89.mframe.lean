/-! The reference reads a clause of a frame's text. -/
/-- a frame in the reference: where its number, its stuck parts and its four rows stand -/
def DM (n0 s0 r0 : Nat) (D : FD) (I : hI) : Prop := I 73 n0 = nI D.1 ∧ D.1 ≤ 6 ∧ I 73 s0 = D.2.2 ∧ ∀ k, k < D.1 → okR (D.2.1 k) ∧ I r0 k = nI (D.2.1 k).1 ∧ I (r0 + 1) k = nI (D.2.1 k).2.1 ∧ I (r0 + 2) k = nI (D.2.1 k).2.2.1 ∧ I (r0 + 3) k = nI (D.2.1 k).2.2.2
/-- what the reading of a frame's text leaves as it was -/
def UM (I : hI) (J : hJ) (I' : hI) (J' : hJ) : Prop := (∀ a, a ≠ 73 → a ≠ 85 → a ≠ 86 → a ≠ 87 → a ≠ 88 → I' a = I a) ∧ (∀ k, k ≠ 14 → k ≠ 15 → k ≠ 16 → k ≠ 17 → k ≠ 19 → k ≠ 20 → k ≠ 21 → k ≠ 22 → I' 73 k = I 73 k) ∧ (∀ a, a ≠ 73 → J' a = J a) ∧ (∀ k, k ≠ 18 → J' 73 k = J 73 k)
theorem UM_0 (I : hI) (J : hJ) : UM I J I J := ⟨fun _ _ _ _ _ _ => rfl, fun _ _ _ _ _ _ _ _ _ => rfl, fun _ _ => rfl, fun _ _ => rfl⟩
theorem UM_t {I I1 I2 : hI} {J J1 J2 : hJ} (h : UM I J I1 J1) (g : UM I1 J1 I2 J2) : UM I J I2 J2 :=
  ⟨fun a a1 a2 a3 a4 a5 => (g.1 a a1 a2 a3 a4 a5).trans (h.1 a a1 a2 a3 a4 a5), fun k a1 a2 a3 a4 a5 a6 a7 a8 => (g.2.1 k a1 a2 a3 a4 a5 a6 a7 a8).trans (h.2.1 k a1 a2 a3 a4 a5 a6 a7 a8), fun a a1 => (g.2.2.1 a a1).trans (h.2.2.1 a a1), fun k a1 => (g.2.2.2 k a1).trans (h.2.2.2 k a1)⟩
theorem UM_R {I I' : hI} {J J' : hJ} (h : UR I J I' J') : UM I J I' J' := ⟨fun a a1 _ _ _ _ => h.1 a a1, fun k a1 a2 a3 a4 a5 _ _ _ => h.2.1 k a1 a2 a3 a4 a5, h.2.2.1, h.2.2.2⟩
theorem UM_f {I : hI} {J : hJ} {k : Nat} {v : Int32} (hk : k = 14 ∨ k = 20 ∨ k = 21 ∨ k = 22) : UM I J (sf I 73 k v) J := ⟨fun a a1 _ _ _ _ => sf_c a1, fun j a1 _ _ _ _ a6 a7 a8 => sf_k (by omega), fun _ _ => rfl, fun _ _ => rfl⟩
theorem UM_a {I : hI} {J : hJ} {a k : Nat} {v : Int32} (ha : a = 85 ∨ a = 86 ∨ a = 87 ∨ a = 88) : UM I J (sf I a k v) J := ⟨fun b _ a2 a3 a4 a5 => sf_c (by omega), fun j _ _ _ _ _ _ _ _ => by rw [sf_c (show 73 ≠ a by omega)], fun _ _ => rfl, fun _ _ => rfl⟩
theorem MT_M {tx : Nat → Nat} {c : Nat} {I I' : hI} {J J' : hJ} (hM : MT tx c I) (h : UM I J I' J') : MT tx c I' := MT_of hM (h.2.1 12 (by decide) (by decide) (by decide) (by decide) (by decide) (by decide) (by decide) (by decide)) (h.1 84 (by decide) (by decide) (by decide) (by decide) (by decide))
theorem DM_R {n0 s0 r0 : Nat} {D : FD} {I I' : hI} {J J' : hJ} (h : DM n0 s0 r0 D I) (u : UR I J I' J') (h1 : n0 ≠ 14 ∧ n0 ≠ 15 ∧ n0 ≠ 16 ∧ n0 ≠ 17 ∧ n0 ≠ 19) (h2 : s0 ≠ 14 ∧ s0 ≠ 15 ∧ s0 ≠ 16 ∧ s0 ≠ 17 ∧ s0 ≠ 19) (h3 : 73 < r0) : DM n0 s0 r0 D I' :=
  ⟨(u.2.1 n0 h1.1 h1.2.1 h1.2.2.1 h1.2.2.2.1 h1.2.2.2.2).trans h.1, h.2.1, (u.2.1 s0 h2.1 h2.2.1 h2.2.2.1 h2.2.2.2.1 h2.2.2.2.2).trans h.2.2.1, fun k hk => by
    rw [u.1 r0 (by omega), u.1 (r0 + 1) (by omega), u.1 (r0 + 2) (by omega), u.1 (r0 + 3) (by omega)]
    exact h.2.2.2 k hk⟩
/-- the frame that is being read, one rod more -/
theorem DM_p {D : FD} {I I' : hI} {kd b l g : Nat} {g0 : Nat → Int32} (h : DM 20 21 85 D I) (h6 : D.1 < 6) (hq : okR (kd, b, l, g)) (e1 : I' 73 20 = nI (D.1 + 1)) (e2 : I' 73 21 = I 73 21) (r1 : I' 85 = va_up (I 85) D.1 (nI kd)) (r2 : I' 86 = va_up (I 86) D.1 (nI b)) (r3 : I' 87 = va_up (I 87) D.1 (nI l)) (r4 : I' 88 = va_up g0 D.1 (nI g)) (r5 : ∀ k, k ≠ D.1 → g0 k = I 88 k) : DM 20 21 85 (fPush D (kd, b, l, g)) I' := by
  refine ⟨e1, by show D.1 + 1 ≤ 6; omega, e2.trans h.2.2.1, fun k hk => ?_⟩
  have hk : k < D.1 + 1 := hk
  show okR (va_up D.2.1 D.1 (kd, b, l, g) k) ∧ I' 85 k = nI (va_up D.2.1 D.1 (kd, b, l, g) k).1 ∧ I' 86 k = nI (va_up D.2.1 D.1 (kd, b, l, g) k).2.1 ∧ I' 87 k = nI (va_up D.2.1 D.1 (kd, b, l, g) k).2.2.1 ∧ I' 88 k = nI (va_up D.2.1 D.1 (kd, b, l, g) k).2.2.2
  rw [r1, r2, r3, r4]
  by_cases e : k = D.1
  · subst e
    rw [up_same, up_same, up_same, up_same, up_same]
    exact ⟨hq, rfl, rfl, rfl, rfl⟩
  · rw [up_ne e, up_ne e, up_ne e, up_ne e, up_ne e, r5 k e]
    exact h.2.2.2 k (by omega)
/-- the end of a reading -/
def MRq (tx : Nat → Nat) (c : Nat) (res : Nat ⊕ (Nat × FD)) (I : hI) (J : hJ) (R : hR) (T : am_H) (r : Option Value) (h : am_H) : Prop := ∃ I' J', h = HH I' J' R T ∧ UM I J I' J' ∧ I' 73 22 = I 73 22 ∧ (match res with
  | .inl p => p ≤ c ∧ r = some (.int 0) ∧ I' 73 15 = nI p
  | .inr (e, D') => e ≤ c ∧ r = some (.int 1) ∧ I' 73 14 = nI e ∧ DM 20 21 85 D' I')
section MFR
variable {sc : Nat × (Nat → Int32)} {d : Nat} {I : hI} {J : hJ} {R : hR} {T : am_H} {Q : Option Value → am_H → Prop} {tx : Nat → Nat} {c : Nat}
theorem m_numberedI {i : Nat} {lo hi : Int32} {lo' hi' : Int} (hM : MT tx c I) (h14 : I 73 14 = nI i) (hi0 : i ≤ c) (hl : lo.toInt = lo') (hh : hi.toInt = hi') : Ze sc (d + 5) 183 [.ref 73, .int lo, .int hi] (HH I J R T) (fun r h => ∃ I' J', h = HH I' J' R T ∧ UR I J I' J' ∧ I' 73 15 = nI (tS tx c i) ∧ I' 73 14 = nI (tE tx c (tS tx c i)) ∧
    ((TN tx c (tS tx c i) 2 lo' hi' ∧ r = some (.int 1) ∧ J' 73 18 = lN (nv tx (tS tx c i) (tE tx c (tS tx c i)))) ∨ (¬ TN tx c (tS tx c i) 2 lo' hi' ∧ r = some (.int 0)))) := by
  have w := m_numbered (sc := sc) (d := d) (J := J) (R := R) (T := T) (lo := lo) (hi := hi) hM h14 hi0
  rw [hl, hh] at w
  exact w
theorem m_readsRod {s e kd : Nat} {D : FD} {k : Int32} (hM : MT tx c I) (hk : k = nI kd) (hkd : kd ≤ 3) (h14 : I 73 14 = nI e) (h15 : I 73 15 = nI s) (hs : s ≤ c) (he : e ≤ c) (hD : DM 20 21 85 D I) : Ze sc (d + 6) 184 [.ref 73, .int k] (HH I J R T) (MRq tx c (fRod tx c s e kd D) I J R T) := by
  refine Ze_of (Nat.le_of_ble_eq_true rfl) ?_
  have h6 := hD.2.1
  have e6 : I 73 20 = 6 ↔ D.1 = 6 := by rw [hD.1]; exact nI_eq (b := 6) (by omega) (by omega)
  have k0 : k = 0 ↔ kd = 0 := by rw [hk]; exact nI_eq (b := 0) (by omega) (by omega)
  have b1 := tS_c (tx := tx) he
  have b1' := tE_c (tx := tx) b1
  have b2 := tS_c (tx := tx) b1'.2
  have b2' := tE_c (tx := tx) b2
  have b3 := tS_c (tx := tx) b2'.2
  have b3' := tE_c (tx := tx) b3
  unfold fRod
  by_cases hm : D.1 = 6
  · rw [if_pos hm]
    refine Z_jump 4 rfl ?_
    refine Z_bn (fun c6 => absurd ((e6.mpr hm)) c6) (fun c6 => ?_)
    refine Z_jump 1 rfl ?_
    show Zs _ _ (am_P 184).2 (10, [(0, .ref 73), (1, .int k)], [.int (0 : Int32)]) (HH I J R T) _
    refine Z_rI rfl (by first | exact am_nw0 _ | exact am_nw01 | rfl | assumption) ?_
    exact ⟨I, J, rfl, UM_0 I J, rfl, hs, rfl, h15⟩
  · rw [if_neg hm]
    have hm2 := hD.1
    refine Z_jump 4 rfl ?_
    refine Z_bn (fun c6 => ?_) (fun c6 => absurd c6 ((fun z => hm (e6.mp z))))
    refine Z_jump 7 rfl ?_
    show Zs _ _ (am_P 184).2 (22, [(0, .ref 73), (1, .int k), (2, .int (I 73 20))], [.int k, .int (I 73 20), .ref 85]) (HH I J R T) _
    refine Z_iasK (D.1) rfl rfl (hm2) (by omega) (by decide) ?_
    show Zs _ _ (am_P 184).2 (23, [(0, .ref 73), (1, .int k), (2, .int (I 73 20))], []) (HH (sf I 85 (D.1) k) J R T) _
    refine Z_jump 4 rfl ?_
    show Zs _ _ (am_P 184).2 (29, [(0, .ref 73), (1, .int k), (2, .int (I 73 20))], [.int (0 : Int32), .int (I 73 20), .ref 88]) (HH (sf I 85 (D.1) k) J R T) _
    refine Z_iasK (D.1) rfl rfl (hm2) (by omega) (by decide) ?_
    show Zs _ _ (am_P 184).2 (30, [(0, .ref 73), (1, .int k), (2, .int (I 73 20))], []) (HH (sf (sf I 85 (D.1) k) 88 (D.1) (0 : Int32)) J R T) _
    refine Z_jump 3 rfl ?_
    show Zs _ _ (am_P 184).2 (34, [(0, .ref 73), (1, .int k), (2, .int (I 73 20))], [.int (16 : Int32), .int (2 : Int32), .ref 73]) (HH (sf (sf I 85 (D.1) k) 88 (D.1) (0 : Int32)) J R T) _
    refine Z_cQ rfl rfl rfl (m_numberedI (tx := tx) (c := c) (MT_of hM rfl rfl) h14 he (show (2 : Int32).toInt = 2 from rfl) (show (16 : Int32).toInt = 16 from rfl)) (fun v h1 hq => ?_)
    obtain ⟨I1, J1, rfl, u1, g15, g14, hq⟩ := hq
    have U1 : UM I J I1 J1 := UM_t (UM_t (UM_a (by omega)) (UM_a (by omega))) (UM_R u1)
    have n1 : I1 73 20 = nI D.1 := (u1.2.1 20 (by decide) (by decide) (by decide) (by decide) (by decide)).trans hm2
    have c1 : I1 73 22 = I 73 22 := u1.2.1 22 (by decide) (by decide) (by decide) (by decide) (by decide)
    rcases hq with ⟨hT1, rfl, g18⟩ | ⟨hT1, rfl⟩
    · rw [if_pos hT1]
      refine Z_jump 7 rfl ?_
      show Zs _ _ (am_P 184).2 (52, [(0, .ref 73), (1, .int k), (2, .int (I 73 20))], [.int (Int64.toInt32 (J1 73 18)), .int (I 73 20), .ref 86]) (HH I1 J1 R T) _
      refine Z_eqI (y := (nI (nv tx (tS tx c e) (tE tx c (tS tx c e))))) (by rw [g18]; exact lN_i _) ?_
      show Zs _ _ (am_P 184).2 (52, [(0, .ref 73), (1, .int k), (2, .int (I 73 20))], [.int (nI (nv tx (tS tx c e) (tE tx c (tS tx c e)))), .int (I 73 20), .ref 86]) (HH I1 J1 R T) _
      show Zs _ _ (am_P 184).2 (52, [(0, .ref 73), (1, .int k), (2, .int (I 73 20))], [.int (nI (nv tx (tS tx c e) (tE tx c (tS tx c e)))), .int (I 73 20), .ref 86]) (HH I1 J1 R T) _
      refine Z_iasK (D.1) rfl rfl (hm2) (by omega) (by decide) ?_
      show Zs _ _ (am_P 184).2 (53, [(0, .ref 73), (1, .int k), (2, .int (I 73 20))], []) (HH (sf I1 86 (D.1) (nI (nv tx (tS tx c e) (tE tx c (tS tx c e))))) J1 R T) _
      refine Z_jump 3 rfl ?_
      show Zs _ _ (am_P 184).2 (57, [(0, .ref 73), (1, .int k), (2, .int (I 73 20))], [.int (9 : Int32), .int (1 : Int32), .ref 73]) (HH (sf I1 86 (D.1) (nI (nv tx (tS tx c e) (tE tx c (tS tx c e))))) J1 R T) _
      refine Z_cQ rfl rfl rfl (m_numberedI (tx := tx) (c := c) (MT_of (MT_M hM U1) rfl rfl) g14 b1'.2 (show (1 : Int32).toInt = 1 from rfl) (show (9 : Int32).toInt = 9 from rfl)) (fun v h1 hq => ?_)
      obtain ⟨I2, J2, rfl, u2, q15, q14, hq⟩ := hq
      have U2 : UM I J I2 J2 := UM_t (UM_t U1 (UM_a (by omega))) (UM_R u2)
      have n2 : I2 73 20 = nI D.1 := (u2.2.1 20 (by decide) (by decide) (by decide) (by decide) (by decide)).trans n1
      have c2 : I2 73 22 = I 73 22 := (u2.2.1 22 (by decide) (by decide) (by decide) (by decide) (by decide)).trans c1
      rcases hq with ⟨hT2, rfl, q18⟩ | ⟨hT2, rfl⟩
      · rw [if_pos hT2]
        by_cases hk0 : kd = 0
        · rw [if_pos hk0]
          subst hk0
          refine Z_jump 7 rfl ?_
          show Zs _ _ (am_P 184).2 (75, [(0, .ref 73), (1, .int k), (2, .int (I 73 20))], [.int (Int64.toInt32 (J2 73 18)), .int (I 73 20), .ref 87]) (HH I2 J2 R T) _
          refine Z_eqI (y := (nI (nv tx (tS tx c (tE tx c (tS tx c e))) (tE tx c (tS tx c (tE tx c (tS tx c e))))))) (by rw [q18]; exact lN_i _) ?_
          show Zs _ _ (am_P 184).2 (75, [(0, .ref 73), (1, .int k), (2, .int (I 73 20))], [.int (nI (nv tx (tS tx c (tE tx c (tS tx c e))) (tE tx c (tS tx c (tE tx c (tS tx c e)))))), .int (I 73 20), .ref 87]) (HH I2 J2 R T) _
          show Zs _ _ (am_P 184).2 (75, [(0, .ref 73), (1, .int k), (2, .int (I 73 20))], [.int (nI (nv tx (tS tx c (tE tx c (tS tx c e))) (tE tx c (tS tx c (tE tx c (tS tx c e)))))), .int (I 73 20), .ref 87]) (HH I2 J2 R T) _
          refine Z_iasK (D.1) rfl rfl (hm2) (by omega) (by decide) ?_
          show Zs _ _ (am_P 184).2 (76, [(0, .ref 73), (1, .int k), (2, .int (I 73 20))], []) (HH (sf I2 87 (D.1) (nI (nv tx (tS tx c (tE tx c (tS tx c e))) (tE tx c (tS tx c (tE tx c (tS tx c e))))))) J2 R T) _
          refine Z_jump 2 rfl ?_
          refine Z_bd (fun c77 => ?_) (fun c77 => absurd ((k0.mpr rfl)) c77)
          refine Z_jump 6 rfl ?_
          show Zs _ _ (am_P 184).2 (112, [(0, .ref 73), (1, .int k), (2, .int (I 73 20))], []) (HH (sf (sf I2 87 (D.1) (nI (nv tx (tS tx c (tE tx c (tS tx c e))) (tE tx c (tS tx c (tE tx c (tS tx c e))))))) 73 20 ((I2 73 20) + (1 : Int32))) J2 R T) _
          refine Z_jump 1 rfl ?_
          show Zs _ _ (am_P 184).2 (113, [(0, .ref 73), (1, .int k), (2, .int (I 73 20))], [.int (1 : Int32)]) (HH (sf (sf I2 87 (D.1) (nI (nv tx (tS tx c (tE tx c (tS tx c e))) (tE tx c (tS tx c (tE tx c (tS tx c e))))))) 73 20 ((I2 73 20) + (1 : Int32))) J2 R T) _
          refine Z_rI rfl (by first | exact am_nw0 _ | exact am_nw01 | rfl | assumption) ?_
          refine ⟨_, J2, rfl, UM_t (UM_t U2 (UM_a (by omega))) (UM_f (by omega)), c2, b2'.2, rfl, q14, ?_⟩
          refine DM_p (kd := 0) (g := 0) (g0 := I 88) hD (by omega) (okR_mk (by omega) hT1.2.2.1 hT1.2.2.2 hT2.2.2.1 hT2.2.2.2 (by omega) (fun _ => rfl)) ?_ ?_ ?_ ?_ ?_ ?_ (fun _ _ => rfl)
          · show I2 73 20 + 1 = _
            rw [n2]; exact nI_1 _
          · exact (u2.2.1 21 (by decide) (by decide) (by decide) (by decide) (by decide)).trans (u1.2.1 21 (by decide) (by decide) (by decide) (by decide) (by decide))
          · rw [← hk]; exact (u2.1 85 (by decide)).trans (u1.1 85 (by decide))
          · exact (u2.1 86 (by decide)).trans (congrArg (fun f => va_up f D.1 (nI (nv tx (tS tx c e) (tE tx c (tS tx c e))))) (u1.1 86 (by decide)))
          · exact congrArg (fun f => va_up f D.1 (nI (nv tx (tS tx c (tE tx c (tS tx c e))) (tE tx c (tS tx c (tE tx c (tS tx c e))))))) ((u2.1 87 (by decide)).trans (u1.1 87 (by decide)))
          · exact (u2.1 88 (by decide)).trans (u1.1 88 (by decide))
        · rw [if_neg hk0]
          refine Z_jump 7 rfl ?_
          show Zs _ _ (am_P 184).2 (75, [(0, .ref 73), (1, .int k), (2, .int (I 73 20))], [.int (Int64.toInt32 (J2 73 18)), .int (I 73 20), .ref 87]) (HH I2 J2 R T) _
          refine Z_eqI (y := (nI (nv tx (tS tx c (tE tx c (tS tx c e))) (tE tx c (tS tx c (tE tx c (tS tx c e))))))) (by rw [q18]; exact lN_i _) ?_
          show Zs _ _ (am_P 184).2 (75, [(0, .ref 73), (1, .int k), (2, .int (I 73 20))], [.int (nI (nv tx (tS tx c (tE tx c (tS tx c e))) (tE tx c (tS tx c (tE tx c (tS tx c e)))))), .int (I 73 20), .ref 87]) (HH I2 J2 R T) _
          show Zs _ _ (am_P 184).2 (75, [(0, .ref 73), (1, .int k), (2, .int (I 73 20))], [.int (nI (nv tx (tS tx c (tE tx c (tS tx c e))) (tE tx c (tS tx c (tE tx c (tS tx c e)))))), .int (I 73 20), .ref 87]) (HH I2 J2 R T) _
          refine Z_iasK (D.1) rfl rfl (hm2) (by omega) (by decide) ?_
          show Zs _ _ (am_P 184).2 (76, [(0, .ref 73), (1, .int k), (2, .int (I 73 20))], []) (HH (sf I2 87 (D.1) (nI (nv tx (tS tx c (tE tx c (tS tx c e))) (tE tx c (tS tx c (tE tx c (tS tx c e))))))) J2 R T) _
          refine Z_jump 2 rfl ?_
          refine Z_bd (fun c77 => absurd c77 ((fun z => hk0 (k0.mp z)))) (fun c77 => ?_)
          refine Z_jump 3 rfl ?_
          show Zs _ _ (am_P 184).2 (83, [(0, .ref 73), (1, .int k), (2, .int (I 73 20))], [.int (3 : Int32), .int (0 : Int32), .ref 73]) (HH (sf I2 87 (D.1) (nI (nv tx (tS tx c (tE tx c (tS tx c e))) (tE tx c (tS tx c (tE tx c (tS tx c e))))))) J2 R T) _
          refine Z_cQ rfl rfl rfl (m_numberedI (tx := tx) (c := c) (MT_of (MT_M hM U2) rfl rfl) q14 b2'.2 (show (0 : Int32).toInt = 0 from rfl) (show (3 : Int32).toInt = 3 from rfl)) (fun v h1 hq => ?_)
          obtain ⟨I3, J3, rfl, u3, t15, t14, hq⟩ := hq
          have U3 : UM I J I3 J3 := UM_t (UM_t U2 (UM_a (by omega))) (UM_R u3)
          have n3 : I3 73 20 = nI D.1 := (u3.2.1 20 (by decide) (by decide) (by decide) (by decide) (by decide)).trans n2
          have c3 : I3 73 22 = I 73 22 := (u3.2.1 22 (by decide) (by decide) (by decide) (by decide) (by decide)).trans c2
          rcases hq with ⟨hT3, rfl, t18⟩ | ⟨hT3, rfl⟩
          · rw [if_pos hT3]
            refine Z_jump 7 rfl ?_
            show Zs _ _ (am_P 184).2 (101, [(0, .ref 73), (1, .int k), (2, .int (I 73 20))], [.int (Int64.toInt32 (J3 73 18)), .int (I 73 20), .ref 88]) (HH I3 J3 R T) _
            refine Z_eqI (y := (nI (nv tx (tS tx c (tE tx c (tS tx c (tE tx c (tS tx c e))))) (tE tx c (tS tx c (tE tx c (tS tx c (tE tx c (tS tx c e))))))))) (by rw [t18]; exact lN_i _) ?_
            show Zs _ _ (am_P 184).2 (101, [(0, .ref 73), (1, .int k), (2, .int (I 73 20))], [.int (nI (nv tx (tS tx c (tE tx c (tS tx c (tE tx c (tS tx c e))))) (tE tx c (tS tx c (tE tx c (tS tx c (tE tx c (tS tx c e)))))))), .int (I 73 20), .ref 88]) (HH I3 J3 R T) _
            show Zs _ _ (am_P 184).2 (101, [(0, .ref 73), (1, .int k), (2, .int (I 73 20))], [.int (nI (nv tx (tS tx c (tE tx c (tS tx c (tE tx c (tS tx c e))))) (tE tx c (tS tx c (tE tx c (tS tx c (tE tx c (tS tx c e)))))))), .int (I 73 20), .ref 88]) (HH I3 J3 R T) _
            refine Z_iasK (D.1) rfl rfl (hm2) (by omega) (by decide) ?_
            show Zs _ _ (am_P 184).2 (102, [(0, .ref 73), (1, .int k), (2, .int (I 73 20))], []) (HH (sf I3 88 (D.1) (nI (nv tx (tS tx c (tE tx c (tS tx c (tE tx c (tS tx c e))))) (tE tx c (tS tx c (tE tx c (tS tx c (tE tx c (tS tx c e))))))))) J3 R T) _
            refine Z_jump 6 rfl ?_
            show Zs _ _ (am_P 184).2 (112, [(0, .ref 73), (1, .int k), (2, .int (I 73 20))], []) (HH (sf (sf I3 88 (D.1) (nI (nv tx (tS tx c (tE tx c (tS tx c (tE tx c (tS tx c e))))) (tE tx c (tS tx c (tE tx c (tS tx c (tE tx c (tS tx c e))))))))) 73 20 ((I3 73 20) + (1 : Int32))) J3 R T) _
            refine Z_jump 1 rfl ?_
            show Zs _ _ (am_P 184).2 (113, [(0, .ref 73), (1, .int k), (2, .int (I 73 20))], [.int (1 : Int32)]) (HH (sf (sf I3 88 (D.1) (nI (nv tx (tS tx c (tE tx c (tS tx c (tE tx c (tS tx c e))))) (tE tx c (tS tx c (tE tx c (tS tx c (tE tx c (tS tx c e))))))))) 73 20 ((I3 73 20) + (1 : Int32))) J3 R T) _
            refine Z_rI rfl (by first | exact am_nw0 _ | exact am_nw01 | rfl | assumption) ?_
            refine ⟨_, J3, rfl, UM_t (UM_t U3 (UM_a (by omega))) (UM_f (by omega)), c3, b3'.2, rfl, t14, ?_⟩
            refine DM_p (g0 := va_up (I 88) D.1 0) hD (by omega) (okR_mk hkd hT1.2.2.1 hT1.2.2.2 hT2.2.2.1 hT2.2.2.2 hT3.2.2.2 (fun z => absurd z hk0)) ?_ ?_ ?_ ?_ ?_ ?_ (fun k hk => up_ne hk)
            · show I3 73 20 + 1 = _
              rw [n3]; exact nI_1 _
            · exact (u3.2.1 21 (by decide) (by decide) (by decide) (by decide) (by decide)).trans ((u2.2.1 21 (by decide) (by decide) (by decide) (by decide) (by decide)).trans (u1.2.1 21 (by decide) (by decide) (by decide) (by decide) (by decide)))
            · rw [← hk]; exact (u3.1 85 (by decide)).trans ((u2.1 85 (by decide)).trans (u1.1 85 (by decide)))
            · exact (u3.1 86 (by decide)).trans ((u2.1 86 (by decide)).trans (congrArg (fun f => va_up f D.1 (nI (nv tx (tS tx c e) (tE tx c (tS tx c e))))) (u1.1 86 (by decide))))
            · exact (u3.1 87 (by decide)).trans (congrArg (fun f => va_up f D.1 (nI (nv tx (tS tx c (tE tx c (tS tx c e))) (tE tx c (tS tx c (tE tx c (tS tx c e))))))) ((u2.1 87 (by decide)).trans (u1.1 87 (by decide))))
            · exact congrArg (fun f => va_up f D.1 (nI (nv tx (tS tx c (tE tx c (tS tx c (tE tx c (tS tx c e))))) (tE tx c (tS tx c (tE tx c (tS tx c (tE tx c (tS tx c e))))))))) ((u3.1 88 (by decide)).trans ((u2.1 88 (by decide)).trans (u1.1 88 (by decide))))
          · rw [if_neg hT3]
            refine Z_jump 2 rfl ?_
            show Zs _ _ (am_P 184).2 (90, [(0, .ref 73), (1, .int k), (2, .int (I 73 20))], [.int (0 : Int32)]) (HH I3 J3 R T) _
            refine Z_rI rfl (by first | exact am_nw0 _ | exact am_nw01 | rfl | assumption) ?_
            exact ⟨I3, J3, rfl, U3, c3, b3, rfl, t15⟩
      · rw [if_neg hT2]
        refine Z_jump 2 rfl ?_
        show Zs _ _ (am_P 184).2 (64, [(0, .ref 73), (1, .int k), (2, .int (I 73 20))], [.int (0 : Int32)]) (HH I2 J2 R T) _
        refine Z_rI rfl (by first | exact am_nw0 _ | exact am_nw01 | rfl | assumption) ?_
        exact ⟨I2, J2, rfl, U2, c2, b2, rfl, q15⟩
    · rw [if_neg hT1]
      refine Z_jump 2 rfl ?_
      show Zs _ _ (am_P 184).2 (41, [(0, .ref 73), (1, .int k), (2, .int (I 73 20))], [.int (0 : Int32)]) (HH I1 J1 R T) _
      refine Z_rI rfl (by first | exact am_nw0 _ | exact am_nw01 | rfl | assumption) ?_
      exact ⟨I1, J1, rfl, U1, c1, b1, rfl, g15⟩
theorem m_readsStuck {e : Nat} {D : FD} (hM : MT tx c I) (h14 : I 73 14 = nI e) (he : e ≤ c) (hD : DM 20 21 85 D I) : Ze sc (d + 6) 185 [.ref 73] (HH I J R T) (MRq tx c (fStuck tx c e D) I J R T) := by
  refine Ze_of (Nat.le_of_ble_eq_true rfl) ?_
  have h6 := hD.2.1
  have b1 := tS_c (tx := tx) he
  have b1' := tE_c (tx := tx) b1
  have b2 := tS_c (tx := tx) b1'.2
  have b2' := tE_c (tx := tx) b2
  unfold fStuck
  refine Z_jump 6 rfl ?_
  show Zs _ _ (am_P 185).2 (8, [(0, .ref 73)], [.int ((I 73 20) - (1 : Int32)), .int (0 : Int32), .ref 73]) (HH I J R T) _
  refine Z_cQ rfl rfl rfl (m_numberedI (tx := tx) (c := c) hM h14 he (show (0 : Int32).toInt = 0 from rfl) (show (I 73 20 - 1).toInt = (D.1 : Int) - 1 by rw [hD.1]; exact nIm1 h6)) (fun v h1 hq => ?_)
  obtain ⟨I1, J1, rfl, u1, g15, g14, hq⟩ := hq
  have c1 : I1 73 22 = I 73 22 := u1.2.1 22 (by decide) (by decide) (by decide) (by decide) (by decide)
  rcases hq with ⟨hT1, rfl, g18⟩ | ⟨hT1, rfl⟩
  · rw [if_pos hT1]
    refine Z_jump 4 rfl ?_
    show Zs _ _ (am_P 185).2 (21, [(0, .ref 73)], [.int (Int64.toInt32 (J1 73 18))]) (HH I1 J1 R T) _
    refine Z_eqI (y := (nI (nv tx (tS tx c e) (tE tx c (tS tx c e))))) (by rw [g18]; exact lN_i _) ?_
    show Zs _ _ (am_P 185).2 (21, [(0, .ref 73)], [.int (nI (nv tx (tS tx c e) (tE tx c (tS tx c e))))]) (HH I1 J1 R T) _
    refine Z_jump 4 rfl ?_
    show Zs _ _ (am_P 185).2 (25, [(0, .ref 73), (1, .int (nI (nv tx (tS tx c e) (tE tx c (tS tx c e)))))], [.int (1 : Int32), .int (0 : Int32), .ref 73]) (HH I1 J1 R T) _
    refine Z_cQ rfl rfl rfl (m_numberedI (tx := tx) (c := c) (MT_R hM u1) g14 b1'.2 (show (0 : Int32).toInt = 0 from rfl) (show (1 : Int32).toInt = 1 from rfl)) (fun v h1 hq => ?_)
    obtain ⟨I2, J2, rfl, u2, q15, q14, hq⟩ := hq
    have c2 : I2 73 22 = I 73 22 := (u2.2.1 22 (by decide) (by decide) (by decide) (by decide) (by decide)).trans c1
    have U2 : UM I J I2 J2 := UM_R (UR_t u1 u2)
    rcases hq with ⟨hT2, rfl, q18⟩ | ⟨hT2, rfl⟩
    · rw [if_pos hT2]
      have D2 : DM 20 21 85 D I2 := DM_R (DM_R hD u1 (by decide) (by decide) (by decide)) u2 (by decide) (by decide) (by decide)
      refine Z_jump 11 rfl ?_
      show Zs _ _ (am_P 185).2 (47, [(0, .ref 73), (1, .int (nI (nv tx (tS tx c e) (tE tx c (tS tx c e)))))], [.int (Int64.toInt32 (J2 73 18)), .int ((2 : Int32) * (nI (nv tx (tS tx c e) (tE tx c (tS tx c e))))), .int (1 : Int32), .int (I2 73 21), .ref 73]) (HH I2 J2 R T) _
      refine Z_eqI (y := (nI (nv tx (tS tx c (tE tx c (tS tx c e))) (tE tx c (tS tx c (tE tx c (tS tx c e))))))) (by rw [q18]; exact lN_i _) ?_
      show Zs _ _ (am_P 185).2 (47, [(0, .ref 73), (1, .int (nI (nv tx (tS tx c e) (tE tx c (tS tx c e)))))], [.int (nI (nv tx (tS tx c (tE tx c (tS tx c e))) (tE tx c (tS tx c (tE tx c (tS tx c e)))))), .int ((2 : Int32) * (nI (nv tx (tS tx c e) (tE tx c (tS tx c e))))), .int (1 : Int32), .int (I2 73 21), .ref 73]) (HH I2 J2 R T) _
      refine Z_jump 4 rfl ?_
      show Zs _ _ (am_P 185).2 (53, [(0, .ref 73), (1, .int (nI (nv tx (tS tx c e) (tE tx c (tS tx c e)))))], []) (HH (sf I2 73 21 ((I2 73 21) ||| ((1 : Int32) <<< ((((2 : Int32) * (nI (nv tx (tS tx c e) (tE tx c (tS tx c e))))) + (nI (nv tx (tS tx c (tE tx c (tS tx c e))) (tE tx c (tS tx c (tE tx c (tS tx c e))))))) &&& 31)))) J2 R T) _
      refine Z_jump 1 rfl ?_
      show Zs _ _ (am_P 185).2 (54, [(0, .ref 73), (1, .int (nI (nv tx (tS tx c e) (tE tx c (tS tx c e)))))], [.int (1 : Int32)]) (HH (sf I2 73 21 ((I2 73 21) ||| ((1 : Int32) <<< ((((2 : Int32) * (nI (nv tx (tS tx c e) (tE tx c (tS tx c e))))) + (nI (nv tx (tS tx c (tE tx c (tS tx c e))) (tE tx c (tS tx c (tE tx c (tS tx c e))))))) &&& 31)))) J2 R T) _
      refine Z_rI rfl (by first | exact am_nw0 _ | exact am_nw01 | rfl | assumption) ?_
      refine ⟨_, J2, rfl, UM_t U2 (UM_f (by omega)), c2, b2'.2, rfl, q14, D2.1, h6, ?_, D2.2.2.2⟩
      show I2 73 21 ||| _ = _
      rw [D2.2.2.1]; rfl
    · rw [if_neg hT2]
      refine Z_jump 2 rfl ?_
      show Zs _ _ (am_P 185).2 (32, [(0, .ref 73), (1, .int (nI (nv tx (tS tx c e) (tE tx c (tS tx c e)))))], [.int (0 : Int32)]) (HH I2 J2 R T) _
      refine Z_rI rfl (by first | exact am_nw0 _ | exact am_nw01 | rfl | assumption) ?_
      exact ⟨I2, J2, rfl, U2, c2, b2, rfl, q15⟩
  · rw [if_neg hT1]
    refine Z_jump 2 rfl ?_
    show Zs _ _ (am_P 185).2 (15, [(0, .ref 73)], [.int (0 : Int32)]) (HH I1 J1 R T) _
    refine Z_rI rfl (by first | exact am_nw0 _ | exact am_nw01 | rfl | assumption) ?_
    exact ⟨I1, J1, rfl, UM_R u1, c1, b1, rfl, g15⟩
end MFR

