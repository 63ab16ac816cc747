/-! What both sides stand at: one state, told twice. -/
section STT
variable {I : hI} {J : hJ} {R : hR} {T : am_H} {tx : Nat → Nat} {c : Nat} {D : FD} {m : Nat} {sn : Nat → Nat → Int32}
/-- now; how many can be undone, and those; which are kept, and those -/
abbrev AS : Type := (Nat → Int32) × Nat × (Nat → Nat → Int32) × (Nat → Bool) × (Nat → Nat → Int32)
def CL (s : AS) (I : hI) (R : hR) : Prop := (∀ j, j < 14 → Cr 22 I j = s.1 j) ∧ (I 0 9 = nI s.2.1 ∧ s.2.1 ≤ 8) ∧ (∀ k, k < s.2.1 → ∃ a, R 38 k = some a ∧ isPast a ∧ ∀ j, j < 14 → Cr a I j = s.2.2.1 k j) ∧ ∀ k, k < 2 → zb (I 0 11) k = s.2.2.2.1 k ∧ (s.2.2.2.1 k = true → ∀ j, j < 14 → Cr (64 + 3 * k) I j = s.2.2.2.2 k j)
def ML (s : AS) (I : hI) : Prop := (∀ j, j < 14 → I 78 j = s.1 j) ∧ (∃ u, I 73 36 = nI u ∧ u < 8 ∧ I 73 35 = nI s.2.1 ∧ s.2.1 ≤ 8 ∧ ∀ k, k < s.2.1 → ∀ j, j < 14 → I 93 (14 * ((u + 8 - s.2.1 + k) % 8) + j) = s.2.2.1 k j) ∧ ∀ k, k < 2 → (I 94 k = 0 ↔ ¬ s.2.2.2.1 k = true) ∧ (s.2.2.2.1 k = true → ∀ j, j < 14 → I 95 (14 * k + j) = s.2.2.2.2 k j)
/-- all of it within the rods -/
def WS (D : FD) (s : AS) : Prop := WR D s.1 ∧ (∀ k, k < s.2.1 → WR D (s.2.2.1 k)) ∧ ∀ k, k < 2 → s.2.2.2.1 k = true → WR D (s.2.2.2.2 k)
def wN (s : AS) (r : Nat → Int32) : AS := (r, s.2)
def rem (s : AS) : AS := (s.1, if s.2.1 < 8 then s.2.1 + 1 else 8, fun k => if s.2.1 < 8 then (if k = s.2.1 then s.1 else s.2.2.1 k) else (if k < 7 then s.2.2.1 (k + 1) else s.1), s.2.2.2)
def undo1 (s : AS) : AS := (s.2.2.1 (s.2.1 - 1), s.2.1 - 1, s.2.2)
def kee (s : AS) (k : Nat) : AS := (s.1, s.2.1, s.2.2.1, (fun i => if i = k then true else s.2.2.2.1 i), fun i => if i = k then s.1 else s.2.2.2.2 i)
def bck (s : AS) (k : Nat) : AS := (s.2.2.2.2 k, 0, s.2.2)
def fra (s : AS) (D : FD) : AS := (fun j => if j = 12 then D.2.2 else 0, 0, s.2.2.1, (fun _ => false), s.2.2.2.2)
theorem Cr_hh {a : Nat} {I' : hI} {J' : hJ} {R' : hR} {T' : am_H} (e : HH I J R T = HH I' J' R' T') (ha : isSt a) (j : Nat) : Cr a I j = Cr a I' j := by
  have e1 : I (a + 1) = I' (a + 1) := inj_a e (st_1 ha) (st_1 ha)
  have e2 : I (a + 2) = I' (a + 2) := inj_a e (st_2 ha) (st_2 ha)
  have f2 : I a 2 = I' a 2 := inj_f (j := 2) e (st_0 ha) (st_0 ha) rfl rfl
  have f3 : I a 3 = I' a 3 := inj_f (j := 3) e (st_0 ha) (st_0 ha) rfl rfl
  unfold Cr
  rw [e1, e2, f2, f3]
theorem st64 {k : Nat} (h : k < 2) : isSt (64 + 3 * k) := by
  rcases (show k = 0 ∨ k = 1 by omega) with rfl | rfl <;> decide
theorem CL_hh {s : AS} {I' : hI} {J' : hJ} {R' : hR} {T' : am_H} (e : HH I J R T = HH I' J' R' T') (h : CL s I' R') : CL s I R := by
  have h9 : I 0 9 = I' 0 9 := inj_f (k := 0) (j := 9) e rfl rfl rfl rfl
  have h11 : I 0 11 = I' 0 11 := inj_f (k := 0) (j := 11) e rfl rfl rfl rfl
  have r38 : R 38 = R' 38 := inj_r (k := 38) e rfl rfl
  refine ⟨fun j hj => (Cr_hh e (by decide) j).trans (h.1 j hj), by rw [h9]; exact h.2.1, fun k hk => ?_, fun k hk => ⟨by rw [h11]; exact (h.2.2.2 k hk).1, fun z j hj => (Cr_hh e (st64 hk) j).trans ((h.2.2.2 k hk).2 z j hj)⟩⟩
  obtain ⟨a, a1, a2, a3⟩ := h.2.2.1 k hk
  exact ⟨a, by rw [r38]; exact a1, a2, fun j hj => (Cr_hh e (past_st a2).1 j).trans (a3 j hj)⟩
theorem ML_hh {s : AS} {I' : hI} {J' : hJ} {R' : hR} {T' : am_H} (e : HH I J R T = HH I' J' R' T') (h : ML s I') : ML s I := by
  have f35 : I 73 35 = I' 73 35 := inj_f (k := 73) (j := 35) e rfl rfl rfl rfl
  have f36 : I 73 36 = I' 73 36 := inj_f (k := 73) (j := 36) e rfl rfl rfl rfl
  have c5 : I 78 = I' 78 := inj_a (k := 78) e rfl rfl
  have c20 : I 93 = I' 93 := inj_a (k := 93) e rfl rfl
  have c21 : I 94 = I' 94 := inj_a (k := 94) e rfl rfl
  have c22 : I 95 = I' 95 := inj_a (k := 95) e rfl rfl
  unfold ML
  rw [f35, f36, c5, c20, c21, c22]
  exact h
theorem CL_q {s : AS} {I' : hI} (h : CL s I R) (e : ∀ a, a = 0 ∨ (21 < a ∧ a < 25) ∨ (37 < a ∧ a < 70) → I' a = I a) : CL s I' R := by
  refine ⟨fun j hj => by rw [Cr_of (e 22 (by omega)) (e 23 (by omega)) (e 24 (by omega))]; exact h.1 j hj, by rw [e 0 (by omega)]; exact h.2.1, fun k hk => ?_, fun k hk => ⟨by rw [e 0 (by omega)]; exact (h.2.2.2 k hk).1, fun z j hj => by rw [Cr_of (e _ (by omega)) (e _ (by omega)) (e _ (by omega))]; exact (h.2.2.2 k hk).2 z j hj⟩⟩
  obtain ⟨a, a1, a2, a3⟩ := h.2.2.1 k hk
  have hp := past_st a2
  exact ⟨a, a1, a2, fun j hj => by rw [Cr_of (e _ (by omega)) (e _ (by omega)) (e _ (by omega))]; exact a3 j hj⟩
theorem CL_R {s : AS} {R' : hR} (h : CL s I R) (e : R' 38 = R 38) : CL s I R' := by
  unfold CL at h ⊢
  rw [e]
  exact h
/-- fields 9 and 11 of the object alone matter -/
theorem CL_0 {s : AS} {I' : hI} (h : CL s I R) (e : ∀ a, (21 < a ∧ a < 25) ∨ (37 < a ∧ a < 70) → I' a = I a) (e9 : I' 0 9 = I 0 9) (e11 : I' 0 11 = I 0 11) : CL s I' R := by
  refine ⟨fun j hj => by rw [Cr_of (e 22 (by omega)) (e 23 (by omega)) (e 24 (by omega))]; exact h.1 j hj, by rw [e9]; exact h.2.1, fun k hk => ?_, fun k hk => ⟨by rw [e11]; exact (h.2.2.2 k hk).1, fun z j hj => by rw [Cr_of (e _ (by omega)) (e _ (by omega)) (e _ (by omega))]; exact (h.2.2.2 k hk).2 z j hj⟩⟩
  obtain ⟨a, a1, a2, a3⟩ := h.2.2.1 k hk
  have hp := past_st a2
  exact ⟨a, a1, a2, fun j hj => by rw [Cr_of (e _ (by omega)) (e _ (by omega)) (e _ (by omega))]; exact a3 j hj⟩
theorem ML_q {s : AS} {I' : hI} (h : ML s I) (e5 : I' 78 = I 78) (e20 : I' 93 = I 93) (e21 : I' 94 = I 94) (e22 : I' 95 = I 95) (f35 : I' 73 35 = I 73 35) (f36 : I' 73 36 = I 73 36) : ML s I' := by
  unfold ML at h ⊢
  rw [f35, f36, e5, e20, e21, e22]
  exact h
/-- now alone is another -/
theorem CL_n {s : AS} {r : Nat → Int32} {I' : hI} (h : CL s I R) (e : ∀ a, a = 0 ∨ (37 < a ∧ a < 70) → I' a = I a) (hr : ∀ j, j < 14 → Cr 22 I' j = r j) : CL (wN s r) I' R := by
  refine ⟨hr, by rw [e 0 (by omega)]; exact h.2.1, fun k hk => ?_, fun k hk => ⟨by rw [e 0 (by omega)]; exact (h.2.2.2 k hk).1, fun z j hj => by rw [Cr_of (e _ (by omega)) (e _ (by omega)) (e _ (by omega))]; exact (h.2.2.2 k hk).2 z j hj⟩⟩
  obtain ⟨a, a1, a2, a3⟩ := h.2.2.1 k hk
  have hp := past_st a2
  exact ⟨a, a1, a2, fun j hj => by rw [Cr_of (e _ (by omega)) (e _ (by omega)) (e _ (by omega))]; exact a3 j hj⟩
theorem ML_n {s : AS} {r : Nat → Int32} {I' : hI} (h : ML s I) (hr : ∀ j, j < 14 → I' 78 j = r j) (e20 : I' 93 = I 93) (e21 : I' 94 = I 94) (e22 : I' 95 = I 95) (f35 : I' 73 35 = I 73 35) (f36 : I' 73 36 = I 73 36) : ML (wN s r) I' := by
  refine ⟨hr, ?_, ?_⟩
  · rw [f35, f36, e20]; exact h.2.1
  · rw [e21, e22]; exact h.2.2
theorem WS_n {s : AS} {r : Nat → Int32} (h : WS D s) (hr : WR D r) : WS D (wN s r) := ⟨hr, h.2⟩
theorem WS_rem {s : AS} (h : WS D s) (h8 : s.2.1 ≤ 8) : WS D (rem s) := by
  refine ⟨h.1, fun k hk => ?_, h.2.2⟩
  show WR D (if s.2.1 < 8 then (if k = s.2.1 then s.1 else s.2.2.1 k) else (if k < 7 then s.2.2.1 (k + 1) else s.1))
  have hk' : k < if s.2.1 < 8 then s.2.1 + 1 else 8 := hk
  by_cases c : s.2.1 < 8
  · rw [if_pos c] at hk' ⊢
    by_cases e : k = s.2.1
    · rw [if_pos e]; exact h.1
    · rw [if_neg e]; exact h.2.1 k (by omega)
  · rw [if_neg c] at hk' ⊢
    by_cases e : k < 7
    · rw [if_pos e]; exact h.2.1 (k + 1) (by omega)
    · rw [if_neg e]; exact h.1
/-- remembered, in the class -/
theorem CL_rm {s : AS} {I2 : hI} {R2 : hR} (hP : PR R) (h : CL s I R) (q : RMq s.2.1 I J R T none (HH I2 J R2 T)) : CL (rem s) I2 R2 := by
  obtain ⟨_, I', R', a, e, b1, b2, b3, b4, b5, b6, b7⟩ := q
  refine CL_hh e ?_
  have hst := past_st b6
  have k0 : ∀ b, b ≠ 0 → b < 39 ∨ 62 < b → I' b = I b := fun b h0 hb => b7.1 b h0 (by omega) (by omega) (by omega)
  have kp : ∀ b, isPast b → b ≠ a → ∀ j, Cr b I' j = Cr b I j := fun b hb hne j => by
    have hs := past_st hb
    have dd := st_dis a hst.1 b hs.1 (Ne.symm hne)
    exact Cr_of (b7.1 _ (by omega) hne dd.1.1 dd.1.2) (b7.1 _ (by omega) dd.2.1.1 dd.2.1.2.1 dd.2.1.2.2) (b7.1 _ (by omega) dd.2.2.1 dd.2.2.2.1 dd.2.2.2.2) j
  have ka : ∀ j, j < 14 → Cr a I' j = s.1 j := fun j hj => by
    rw [← h.1 j hj]
    refine row14 (f := Cr a I') (g := Cr 22 I) (fun i hi => ?_) (fun i hi => ?_) ?_ ?_ j hj
    · rw [Cr_l hi, Cr_l hi]; exact (b7.2.2.1 i hi).1
    · rw [Cr_h hi, Cr_h hi]; exact (b7.2.2.1 i hi).2
    · rw [Cr_s, Cr_s]; exact b7.2.2.2.1
    · rw [Cr_t, Cr_t]; exact b7.2.2.2.2
  refine ⟨fun j hj => by rw [Cr_of (k0 22 (by decide) (by omega)) (k0 23 (by decide) (by omega)) (k0 24 (by decide) (by omega))]; exact h.1 j hj, ⟨b1, ?_⟩, fun k hk => ?_, fun k hk => ⟨by rw [b7.2.1 11 (by decide)]; exact (h.2.2.2 k hk).1, fun z j hj => by rw [Cr_of (k0 _ (by omega) (by omega)) (k0 _ (by omega) (by omega)) (k0 _ (by omega) (by omega))]; exact (h.2.2.2 k hk).2 z j hj⟩⟩
  · show (if s.2.1 < 8 then s.2.1 + 1 else 8) ≤ 8
    split <;> omega
  · have hk' : k < if s.2.1 < 8 then s.2.1 + 1 else 8 := hk
    show ∃ b, R' 38 k = some b ∧ isPast b ∧ ∀ j, j < 14 → Cr b I' j = (if s.2.1 < 8 then (if k = s.2.1 then s.1 else s.2.2.1 k) else (if k < 7 then s.2.2.1 (k + 1) else s.1)) j
    by_cases c8 : s.2.1 < 8
    · rw [if_pos c8] at hk' b5 ⊢
      by_cases ek : k = s.2.1
      · rw [if_pos ek, ek]
        exact ⟨a, b5, b6, ka⟩
      · rw [if_neg ek]
        obtain ⟨b, a1, a2, a3⟩ := h.2.2.1 k (by omega)
        have r1 : R' 38 k = some b := by rw [b4 k (by omega), if_pos c8]; exact a1
        have hne : b ≠ a := fun z => by
          rw [z] at r1
          have := b2.2 k s.2.1 (by omega) (by omega) (r1.trans b5.symm)
          omega
        exact ⟨b, r1, a2, fun j hj => (kp b a2 hne j).trans (a3 j hj)⟩
    · rw [if_neg c8] at hk' b5 ⊢
      have h8 := h.2.1.2
      by_cases ek : k < 7
      · rw [if_pos ek]
        obtain ⟨b, a1, a2, a3⟩ := h.2.2.1 (k + 1) (by omega)
        have r1 : R' 38 k = some b := by rw [b4 k (by omega), if_neg c8]; unfold sh8; rw [if_pos ek]; exact a1
        have hne : b ≠ a := fun z => by
          rw [z] at r1
          have := b2.2 k 7 (by omega) (by omega) (r1.trans b5.symm)
          omega
        exact ⟨b, r1, a2, fun j hj => (kp b a2 hne j).trans (a3 j hj)⟩
      · rw [if_neg ek, show k = 7 by omega]
        exact ⟨a, b5, b6, ka⟩
/-- remembered, in the reference -/
theorem ML_rm {s : AS} {I2 : hI} {u : Nat} (h : ML s I) (hu : I 73 36 = nI u) (hu8 : u < 8) (q : RMm u s.2.1 I I2) : ML (rem s) I2 := by
  obtain ⟨h1, ⟨u', g1, g2, g3, g4, g5⟩, h3⟩ := h
  have eu : u' = u := (nI_eq (by omega) (by omega)).mp (g1.symm.trans hu)
  subst eu
  refine ⟨fun j hj => by rw [q.1 78 (by decide) (by decide)]; exact h1 j hj, ⟨(u' + 1) % 8, q.2.2.2.1, by omega, q.2.2.2.2, ?_, fun k hk j hj => ?_⟩, fun k hk => by rw [q.1 94 (by decide) (by decide), q.1 95 (by decide) (by decide)]; exact h3 k hk⟩
  · show (if s.2.1 < 8 then s.2.1 + 1 else 8) ≤ 8
    split <;> omega
  · have hk' : k < if s.2.1 < 8 then s.2.1 + 1 else 8 := hk
    show I2 93 (14 * (((u' + 1) % 8 + 8 - (if s.2.1 < 8 then s.2.1 + 1 else 8) + k) % 8) + j) = (if s.2.1 < 8 then (if k = s.2.1 then s.1 else s.2.2.1 k) else (if k < 7 then s.2.2.1 (k + 1) else s.1)) j
    rw [q.2.1]
    by_cases c8 : s.2.1 < 8
    · rw [if_pos c8] at hk' ⊢
      rw [if_pos c8]
      by_cases ek : k = s.2.1
      · rw [if_pos ek, ek, show ((u' + 1) % 8 + 8 - (s.2.1 + 1) + s.2.1) % 8 = u' by omega, if_pos (by omega), show 14 * u' + j - 14 * u' = j by omega]
        exact h1 j hj
      · rw [if_neg ek, show ((u' + 1) % 8 + 8 - (s.2.1 + 1) + k) % 8 = (u' + 8 - s.2.1 + k) % 8 by omega, if_neg (by omega)]
        exact g5 k (by omega) j hj
    · rw [if_neg c8] at hk' ⊢
      rw [if_neg c8]
      by_cases ek : k < 7
      · have := g5 (k + 1) (by omega) j hj
        rw [if_pos ek, show ((u' + 1) % 8 + 8 - 8 + k) % 8 = (u' + 8 - s.2.1 + (k + 1)) % 8 by omega, if_neg (by omega)]
        exact this
      · rw [if_neg ek, show ((u' + 1) % 8 + 8 - 8 + k) % 8 = u' by omega, if_pos (by omega), show 14 * u' + j - 14 * u' = j by omega]
        exact h1 j hj
theorem ML_k {s : AS} {I' : hI} (h : ML s I) (e : ∀ a, 73 ≤ a → I' a = I a) : ML s I' := ML_q h (e _ (by decide)) (e _ (by decide)) (e _ (by decide)) (e _ (by decide)) (by rw [e _ (by decide)]) (by rw [e _ (by decide)])
theorem CL_k {s : AS} {I' : hI} (h : CL s I R) (e : ∀ a, a < 73 → I' a = I a) : CL s I' R := CL_q h (fun a ha => e a (by omega))
/-- both halves -/
def CX (tx : Nat → Nat) (c : Nat) (D : FD) (m : Nat) (sn : Nat → Nat → Int32) (s : AS) (I : hI) (R : hR) (T : am_H) : Prop := CI tx c D m sn I R T ∧ CL s I R
def MX (tx : Nat → Nat) (c : Nat) (D : FD) (m : Nat) (sn : Nat → Nat → Int32) (s : AS) (I : hI) : Prop := MI tx c D m sn I ∧ ML s I
theorem CX_k {s : AS} {I' : hI} (h : CX tx c D m sn s I R T) (e : ∀ a, a < 73 → I' a = I a) : CX tx c D m sn s I' R T := ⟨CI_k h.1 e, CL_k h.2 e⟩
theorem MX_k {s : AS} {I' : hI} (h : MX tx c D m sn s I) (e : ∀ a, 73 ≤ a → I' a = I a) : MX tx c D m sn s I' := ⟨MI_k h.1 e, ML_k h.2 e⟩
theorem CX_rm {s : AS} {I2 : hI} {R2 : hR} (h : CX tx c D m sn s I R T) (q : RMq s.2.1 I J R T none (HH I2 J R2 T)) : CX tx c D m sn (rem s) I2 R2 T := ⟨CI_rm h.1 q, CL_rm h.1.2.2.2.2.2.1 h.2 q⟩
theorem MX_rmc {s : AS} {p : Nat} {I2 : hI} {R2 : hR} (h : MX tx c D m sn s I) (q : RMq p I J R T none (HH I2 J R2 T)) : MX tx c D m sn s I2 := by
  refine ⟨RM_p q _ _ _ _ _ h.1, ?_⟩
  obtain ⟨_, I', R', a, e, b1, b2, b3, b4, b5, b6, b7⟩ := q
  have hst := past_st b6
  exact ML_hh e (ML_k h.2 (fun b hb => b7.1 b (by omega) (by omega) (by omega) (by omega)))
theorem MX_rm {s : AS} {I2 : hI} {u : Nat} (h : MX tx c D m sn s I) (hu : I 73 36 = nI u) (hu8 : u < 8) (q : RMm u s.2.1 I I2) : MX tx c D m sn (rem s) I2 := ⟨MI_rm hu8 h.1 q, ML_rm h.2 hu hu8 q⟩
/-- what holds between calls -/
def LI (I : hI) (R : hR) (T : am_H) : Prop := ∃ tx c D m sn s, CX tx c D m sn s I R T ∧ MX tx c D m sn s I ∧ WS D s ∧ (SO m sn ∧ B12 D.2.2)
/-- a call of the class, then the same of the reference -/
def PI (E : Prop) (sc : Nat × (Nat → Int32)) (d2 M2 : Nat) (as2 : List Value) (T : am_H) (r : Option Value) (h : am_H) : Prop := ∃ x I1 J1 R1 T1, r = some (.int x) ∧ h = HH I1 J1 R1 T1 ∧ TX 16 T T1 ∧ Ze sc d2 M2 as2 (HH I1 J1 R1 T1) (fun r2 h2 => ∃ x2 I2 J2, r2 = some (.int x2) ∧ (E → x = x2) ∧ h2 = HH I2 J2 R1 T1 ∧ LI I2 R1 T1)
def PL (E : Prop) (sc : Nat × (Nat → Int32)) (d2 M2 : Nat) (as2 : List Value) (T : am_H) (r : Option Value) (h : am_H) : Prop := ∃ x I1 J1 R1 T1, r = some (.long x) ∧ h = HH I1 J1 R1 T1 ∧ TX 16 T T1 ∧ Ze sc d2 M2 as2 (HH I1 J1 R1 T1) (fun r2 h2 => ∃ x2 I2 J2, r2 = some (.long x2) ∧ (E → x = x2) ∧ h2 = HH I2 J2 R1 T1 ∧ LI I2 R1 T1)
end STT

