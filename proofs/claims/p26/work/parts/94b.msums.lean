/-! Sums: where an expression ends, or its first fault; the reference finds the same. -/
abbrev opr (tx : Nat → Nat) (c s : Nat) : Prop := s < c ∧ (tx s = 42 ∨ tx s = 47 ∨ tx s = 43 ∨ tx s = 45)
def ss (tx : Nat → Nat) (c : Nat) : Nat → Nat → Nat → Nat → Nat ⊕ Nat
  | 0, _, _, _ => .inl 0
  | k + 1, 0, s, dd => if s < c ∧ tx s = 35 then .inr (nx tx c s)
    else if s < c ∧ tx s = 40 then (if 6 ≤ dd then .inl s else (match ss tx c k 1 (nx tx c s) (dd + 1) with
      | .inl p => .inl p
      | .inr s2 => if s2 < c ∧ tx s2 = 41 then .inr (nx tx c s2) else .inl s2))
    else if TN tx c s 7 0 1000000000 then .inr (nx tx c s) else .inl s
  | k + 1, 1, s, dd => match ss tx c k 0 s dd with
      | .inl p => .inl p
      | .inr s2 => ss tx c k 2 s2 dd
  | k + 1, _ + 2, s, dd => if opr tx c s then (match ss tx c k 0 (nx tx c s) dd with
      | .inl p => .inl p
      | .inr s2 => ss tx c k 2 s2 dd) else .inr s
/-- what an expression's reading leaves as it was -/
def UE (I : hI) (J : hJ) (I' : hI) (J' : hJ) : Prop := (∀ a, a ≠ 73 → a ≠ 91 → a ≠ 92 → I' a = I a) ∧ (∀ k, k ≠ 14 → k ≠ 15 → k ≠ 16 → k ≠ 17 → k ≠ 19 → k ≠ 28 → k ≠ 29 → I' 73 k = I 73 k) ∧ (∀ a, a ≠ 73 → a ≠ 89 → a ≠ 90 → J' a = J a)
theorem UE_0 (I : hI) (J : hJ) : UE I J I J := ⟨fun _ _ _ _ => rfl, fun _ _ _ _ _ _ _ _ => rfl, fun _ _ _ _ => rfl⟩
theorem UE_t {I I1 I2 : hI} {J J1 J2 : hJ} (h : UE I J I1 J1) (g : UE I1 J1 I2 J2) : UE I J I2 J2 := ⟨fun a a1 a2 a3 => (g.1 a a1 a2 a3).trans (h.1 a a1 a2 a3), fun k a1 a2 a3 a4 a5 a6 a7 => (g.2.1 k a1 a2 a3 a4 a5 a6 a7).trans (h.2.1 k a1 a2 a3 a4 a5 a6 a7), fun a a1 a2 a3 => (g.2.2 a a1 a2 a3).trans (h.2.2 a a1 a2 a3)⟩
theorem UE_R {I I' : hI} {J J' : hJ} (h : UR I J I' J') : UE I J I' J' := ⟨fun a a1 _ _ => h.1 a a1, fun k a1 a2 a3 a4 a5 _ _ => h.2.1 k a1 a2 a3 a4 a5, fun a a1 _ _ => h.2.2.1 a a1⟩
theorem UE_28 {t : Int32} {I I' : hI} {J : hJ} (h : U28 t I I') : UE I J I' J := ⟨fun a a1 _ _ => h.1 a a1, fun k _ _ _ _ _ a6 _ => h.2.1 k a6, fun _ _ _ _ => rfl⟩
theorem UE_29 {v : Int32} {I : hI} {J : hJ} : UE I J (sf I 73 29 v) J := ⟨fun a a1 _ _ => sf_c a1, fun k _ _ _ _ _ _ a7 => sf_k a7, fun _ _ _ _ => rfl⟩
theorem UE_a {a k : Nat} {v : Int32} {I : hI} {J : hJ} (ha : a = 91 ∨ a = 92) : UE I J (sf I a k v) J := ⟨fun b _ b2 b3 => sf_c (by omega), fun j _ _ _ _ _ _ _ => by rw [sf_c (show 73 ≠ a by omega)], fun _ _ _ _ => rfl⟩
theorem UE_J {a k : Nat} {v : Int64} {I : hI} {J : hJ} (ha : a = 89 ∨ a = 90) : UE I J I (sl J a k v) := ⟨fun _ _ _ _ => rfl, fun _ _ _ _ _ _ _ _ => rfl, fun b _ b2 b3 => sl_c (by omega)⟩
theorem UE_16 {I : hI} {J J' : hJ} (h : ∀ a, a ≠ 89 → J' a = J a) : UE I J I J' := ⟨fun _ _ _ _ => rfl, fun _ _ _ _ _ _ _ _ => rfl, fun b _ b2 _ => h b b2⟩
theorem MT_E {tx : Nat → Nat} {c : Nat} {I I' : hI} {J J' : hJ} (hM : MT tx c I) (h : UE I J I' J') : MT tx c I' := MT_of hM (h.2.1 12 (by decide) (by decide) (by decide) (by decide) (by decide) (by decide) (by decide)) (h.1 84 (by decide) (by decide) (by decide))
/-- the token at s has been read -/
def TK (tx : Nat → Nat) (c s : Nat) (I : hI) (J : hJ) : Prop := s ≤ c ∧ I 73 15 = nI s ∧ I 73 14 = nI (tE tx c s) ∧ TKm tx c s I J
/-- trouble comes only where it is done -/
def TB (I : hI) : Prop := (I 73 28 = 0 ∨ I 73 28 = 1) ∧ (I 73 27 = 0 → I 73 28 = 0)
theorem TB_cl {I I' : hI} {sg : Int32} {sum tm : Int64} (h : TB I) (u : U28 (mcl (I 73 27) (I 73 28) sg sum tm).2 I I') : TB I' := by
  refine ⟨by rw [u.2.2]; exact mcl_t h.1, fun z => ?_⟩
  have z0 : I 73 27 = 0 := (u.2.1 27 (by decide)).symm.trans z
  have e : mcl (I 73 27) (I 73 28) sg sum tm = (sum, I 73 28) := if_pos (Or.inl z0)
  rw [u.2.2, e]
  exact h.2 z0
theorem TB_pt {I I' : hI} {sg : Int32} {tm v : Int64} (h : TB I) (u : U28 (mpt (I 73 27) (I 73 28) sg tm v).2 I I') : TB I' := by
  refine ⟨by rw [u.2.2]; exact mpt_t h.1, fun z => ?_⟩
  have z0 : I 73 27 = 0 := (u.2.1 27 (by decide)).symm.trans z
  have e : mpt (I 73 27) (I 73 28) sg tm v = (v, I 73 28) := if_pos (Or.inl z0)
  rw [u.2.2, e]
  exact h.2 z0
/-- depth and trouble -/
def XD (dd : Nat) (I : hI) : Prop := I 73 29 = nI dd ∧ dd ≤ 6 ∧ TB I
theorem TK_m {tx : Nat → Nat} {c s : Nat} {I I' : hI} {J J' : hJ} (h : TK tx c s I J) (e14 : I' 73 14 = I 73 14) (e15 : I' 73 15 = I 73 15) (e16 : I' 73 16 = I 73 16) (e17 : I' 73 17 = I 73 17) (e19 : I' 73 19 = I 73 19) (eJ : J' 73 = J 73) : TK tx c s I' J' := by
  refine ⟨h.1, e15.trans h.2.1, e14.trans h.2.2.1, ?_⟩
  unfold TKm
  rw [e16, e17, e19, eJ]
  exact h.2.2.2
section MSX
variable {sc : Nat × (Nat → Int32)} {d : Nat} {R : hR} {T : am_H} {Q : Option Value → am_H → Prop} {tx : Nat → Nat} {c : Nat}
/-- what is asked of the run at a fault, and at the while behind an operand -/
def KF (tx : Nat → Nat) (c : Nat) (I0 : hI) (J0 : hJ) (R : hR) (T : am_H) (Q : Option Value → am_H → Prop) (res : Nat ⊕ Nat) : Prop := ∀ p I J, res = .inl p → p ≤ c → UE I0 J0 I J → TB I → I 73 15 = nI p → Q (some (.int 0)) (HH I J R T)
def KS (sc : Nat × (Nat → Int32)) (d : Nat) (tx : Nat → Nat) (c o : Nat) (I0 : hI) (J0 : hJ) (R : hR) (T : am_H) (Q : Option Value → am_H → Prop) (dd : Nat) (res : Nat ⊕ Nat) : Prop := ∀ s2 I J, res = .inr s2 → UE I0 J0 I J → XD dd I → TK tx c s2 I J → Zs sc d (am_P 194).2 (101, [(0, .ref 73), (1, .ref o)], []) (HH I J R T) Q
def X0 (sc : Nat × (Nat → Int32)) (d : Nat) (tx : Nat → Nat) (c o : Nat) (I0 : hI) (J0 : hJ) (R : hR) (T : am_H) (Q : Option Value → am_H → Prop) (k : Nat) : Prop := ∀ (s dd i : Nat) (I : hI) (J : hJ), 3 * (c - s) + 1 < k → i ≤ c → tS tx c i = s → UE I0 J0 I J → XD dd I → I 73 14 = nI i → KF tx c I0 J0 R T Q (ss tx c k 0 s dd) → KS sc d tx c o I0 J0 R T Q dd (ss tx c k 0 s dd) → Zs sc d (am_P 194).2 (9, [(0, .ref 73), (1, .ref o)], []) (HH I J R T) Q
def X2 (sc : Nat × (Nat → Int32)) (d : Nat) (tx : Nat → Nat) (c o : Nat) (I0 : hI) (J0 : hJ) (R : hR) (T : am_H) (Q : Option Value → am_H → Prop) (k : Nat) : Prop := ∀ (s dd : Nat) (I : hI) (J : hJ), 3 * (c - s) + 1 < k → UE I0 J0 I J → XD dd I → TK tx c s I J → KF tx c I0 J0 R T Q (ss tx c k 2 s dd) → (∀ s2 I J, ss tx c k 2 s dd = .inr s2 → ¬ opr tx c s2 → UE I0 J0 I J → XD dd I → TK tx c s2 I J → Zs sc d (am_P 194).2 (101, [(0, .ref 73), (1, .ref o)], []) (HH I J R T) Q) → Zs sc d (am_P 194).2 (101, [(0, .ref 73), (1, .ref o)], []) (HH I J R T) Q
theorem ss_adv : ∀ (k m s dd : Nat), s ≤ c → (∀ p, ss tx c k m s dd = .inl p → p ≤ c) ∧ (∀ q, ss tx c k m s dd = .inr q → q ≤ c ∧ s ≤ q ∧ (m < 2 → s < q))
  | 0, m, s, dd, hs => ⟨fun p hp => (by cases hp; exact Nat.zero_le _), fun q hq => (by cases hq)⟩
  | k + 1, 0, s, dd, hs => by
    have ih := ss_adv k 1 (nx tx c s) (dd + 1)
    unfold ss
    split
    · rename_i h
      have := nx_lt (tx := tx) h.1
      exact ⟨fun p hp => (by cases hp), fun q hq => (by cases hq; exact ⟨this.2, Nat.le_of_lt this.1, fun _ => this.1⟩)⟩
    · split
      · rename_i h
        have hn := nx_lt (tx := tx) h.1
        have ih := ih hn.2
        split
        · exact ⟨fun p hp => (by cases hp; exact hs), fun q hq => (by cases hq)⟩
        · split
          · rename_i p0 hp0
            exact ⟨fun p hp => (by cases hp; exact ih.1 _ hp0), fun q hq => (by cases hq)⟩
          · rename_i s2 h0
            have h1 := ih.2 _ h0
            split
            · rename_i h2
              have h3 := nx_lt (tx := tx) h2.1
              have h4 : s < nx tx c s2 := Nat.lt_of_lt_of_le hn.1 (Nat.le_trans h1.2.1 (Nat.le_of_lt h3.1))
              exact ⟨fun p hp => (by cases hp), fun q hq => (by cases hq; exact ⟨h3.2, Nat.le_of_lt h4, fun _ => h4⟩)⟩
            · exact ⟨fun p hp => (by cases hp; exact h1.1), fun q hq => (by cases hq)⟩
      · split
        · rename_i h
          have := nx_lt (tx := tx) h.1.1
          exact ⟨fun p hp => (by cases hp), fun q hq => (by cases hq; exact ⟨this.2, Nat.le_of_lt this.1, fun _ => this.1⟩)⟩
        · exact ⟨fun p hp => (by cases hp; exact hs), fun q hq => (by cases hq)⟩
  | k + 1, 1, s, dd, hs => by
    have ih := ss_adv k 0 s dd hs
    unfold ss
    split
    · rename_i p0 hp0
      exact ⟨fun p hp => (by cases hp; exact ih.1 _ hp0), fun q hq => (by cases hq)⟩
    · rename_i s2 h0
      have h1 := ih.2 _ h0
      have ih2 := ss_adv k 2 s2 dd h1.1
      have h3 := h1.2.2 (by omega)
      exact ⟨ih2.1, fun q hq => ⟨(ih2.2 q hq).1, Nat.le_of_lt (Nat.lt_of_lt_of_le h3 (ih2.2 q hq).2.1), fun _ => Nat.lt_of_lt_of_le h3 (ih2.2 q hq).2.1⟩⟩
  | k + 1, m + 2, s, dd, hs => by
    unfold ss
    split
    · rename_i h
      have hn := nx_lt (tx := tx) h.1
      have ih := ss_adv k 0 (nx tx c s) dd hn.2
      split
      · rename_i p0 hp0
        exact ⟨fun p hp => (by cases hp; exact ih.1 _ hp0), fun q hq => (by cases hq)⟩
      · rename_i s2 h0
        have h1 := ih.2 _ h0
        have ih2 := ss_adv k 2 s2 dd h1.1
        have h3 := h1.2.2 (by omega)
        exact ⟨ih2.1, fun q hq => ⟨(ih2.2 q hq).1, Nat.le_trans (Nat.le_of_lt (Nat.lt_trans hn.1 h3)) (ih2.2 q hq).2.1, fun z => absurd z (by omega)⟩⟩
    · exact ⟨fun p hp => (by cases hp), fun q hq => (by cases hq; exact ⟨hs, Nat.le_refl _, fun z => absurd z (by omega)⟩)⟩
theorem x2_step {o k : Nat} {I0 : hI} {J0 : hJ} (hM0 : MT tx c I0) (x0 : X0 sc (d + 4) tx c o I0 J0 R T Q k) (x2 : X2 sc (d + 4) tx c o I0 J0 R T Q k) : X2 sc (d + 4) tx c o I0 J0 R T Q (k + 1) := by
  intro s dd I J hk hU hX hT hF hE
  obtain ⟨hs, h15, h14, hK⟩ := id hT
  have h255 := hM0.2.2.2
  have k41 := RD_c (t := 41) h255 hK (by omega) (by omega) (by omega)
  have k42 := RD_c (t := 42) h255 hK (by omega) (by omega) (by omega)
  have k43 := RD_c (t := 43) h255 hK (by omega) (by omega) (by omega)
  have k45 := RD_c (t := 45) h255 hK (by omega) (by omega) (by omega)
  have k47 := RD_c (t := 47) h255 hK (by omega) (by omega) (by omega)
  have hd := hX.1
  have hd6 := hX.2.1
  by_cases hop : opr tx c s
  · have hn := nx_lt (tx := tx) hop.1
    have hE' := tE_c (tx := tx) hs
    have n41 : ¬ I 73 16 = 41 := fun z => by have := (k41.mp z).2; have := hop.2; omega
    have go : ∀ (I1 : hI) (J1 : hJ), UE I0 J0 I1 J1 → XD dd I1 → I1 73 14 = nI (tE tx c s) → Zs sc (d + 4) (am_P 194).2 (9, [(0, .ref 73), (1, .ref o)], []) (HH I1 J1 R T) Q := fun I1 J1 u1 d1 e1 => by
      refine x0 (nx tx c s) dd (tE tx c s) I1 J1 (by omega) hE'.2 rfl u1 d1 e1 (fun p I2 J2 hp => ?_) (fun s2 I2 J2 hq u2 d2 t2 => ?_)
      · exact hF p I2 J2 (by simp only [ss]; rw [if_pos hop, hp])
      · have hadv := (ss_adv (tx := tx) (c := c) k 0 (nx tx c s) dd hn.2).2 _ hq
        have h3 := hadv.2.2 (by omega)
        have es : ss tx c (k + 1) 2 s dd = ss tx c k 2 s2 dd := by simp only [ss]; rw [if_pos hop, hq]
        exact x2 s2 dd I2 J2 (by have := hadv.1; omega) u2 d2 t2 (fun p I3 J3 hp => hF p I3 J3 (es.trans hp)) (fun s3 I3 J3 hq3 => hE s3 I3 J3 (es.trans hq3))
    rcases hop.2 with h | h | h | h
    · refine Z_jump 4 rfl ?_
      refine Z_bn (fun c107 => ?_) (fun c107 => absurd c107 (n41))
      refine Z_jump 4 rfl ?_
      refine Z_bd (fun c159 => ?_) (fun c159 => absurd ((k42.mpr ⟨hop.1, h⟩)) c159)
      refine Z_jump 6 rfl ?_
      show Zs _ _ (am_P 194).2 (183, [(0, .ref 73), (1, .ref o)], [.int (I 73 16), .int (I 73 29), .ref 92]) (HH I J R T) _
      refine Z_iasK (dd) rfl rfl (hd) (by omega) (by decide) ?_
      show Zs _ _ (am_P 194).2 (184, [(0, .ref 73), (1, .ref o)], []) (HH (sf I 92 dd (I 73 16)) J R T) _
      refine Z_jump 1 rfl ?_
      show Zs _ _ (am_P 194).2 (9, [(0, .ref 73), (1, .ref o)], []) (HH (sf I 92 dd (I 73 16)) J R T) _
      exact go _ _ (UE_t hU (UE_a (by omega))) ⟨hd, hd6, hX.2.2⟩ h14
    · refine Z_jump 4 rfl ?_
      refine Z_bn (fun c107 => ?_) (fun c107 => absurd c107 (n41))
      refine Z_jump 4 rfl ?_
      refine Z_bd (fun c159 => absurd c159 ((fun z => by have := (k42.mp z).2; omega))) (fun c159 => ?_)
      refine Z_jump 4 rfl ?_
      refine Z_bn (fun c168 => absurd ((k47.mpr ⟨hop.1, h⟩)) c168) (fun c168 => ?_)
      refine Z_jump 6 rfl ?_
      show Zs _ _ (am_P 194).2 (183, [(0, .ref 73), (1, .ref o)], [.int (I 73 16), .int (I 73 29), .ref 92]) (HH I J R T) _
      refine Z_iasK (dd) rfl rfl (hd) (by omega) (by decide) ?_
      show Zs _ _ (am_P 194).2 (184, [(0, .ref 73), (1, .ref o)], []) (HH (sf I 92 dd (I 73 16)) J R T) _
      refine Z_jump 1 rfl ?_
      show Zs _ _ (am_P 194).2 (9, [(0, .ref 73), (1, .ref o)], []) (HH (sf I 92 dd (I 73 16)) J R T) _
      exact go _ _ (UE_t hU (UE_a (by omega))) ⟨hd, hd6, hX.2.2⟩ h14
    · refine Z_jump 4 rfl ?_
      refine Z_bn (fun c107 => ?_) (fun c107 => absurd c107 (n41))
      refine Z_jump 4 rfl ?_
      refine Z_bd (fun c159 => absurd c159 ((fun z => by have := (k42.mp z).2; omega))) (fun c159 => ?_)
      refine Z_jump 4 rfl ?_
      refine Z_bn (fun c168 => ?_) (fun c168 => absurd c168 ((fun z => by have := (k47.mp z).2; omega)))
      refine Z_jump 4 rfl ?_
      refine Z_bd (fun c193 => ?_) (fun c193 => absurd ((k43.mpr ⟨hop.1, h⟩)) c193)
      refine Z_jump 1 rfl ?_
      show Zs _ _ (am_P 194).2 (206, [(0, .ref 73), (1, .ref o)], [.ref 73]) (HH I J R T) _
      refine Z_cQ rfl rfl rfl (m_closesTerm (d := d + 1) hd (by omega) hX.2.2.1) (fun v h1 hq => ?_)
      obtain ⟨rfl, I1, J1, rfl, a1, a2, a3, u1⟩ := hq
      have hd1 : I1 73 29 = nI dd := (u1.2.1 29 (by decide)).trans hd
      have ht1 : TB I1 := TB_cl hX.2.2 u1
      show Zs _ _ (am_P 194).2 (209, [(0, .ref 73), (1, .ref o)], []) (HH I1 J1 R T) _
      refine Z_jump 6 rfl ?_
      show Zs _ _ (am_P 194).2 (221, [(0, .ref 73), (1, .ref o)], [.int (I1 73 16), .int (I1 73 29), .ref 91]) (HH I1 J1 R T) _
      refine Z_iasK (dd) rfl rfl (hd1) (by omega) (by decide) ?_
      show Zs _ _ (am_P 194).2 (222, [(0, .ref 73), (1, .ref o)], []) (HH (sf I1 91 dd (I1 73 16)) J1 R T) _
      refine Z_jump 5 rfl ?_
      show Zs _ _ (am_P 194).2 (231, [(0, .ref 73), (1, .ref o)], [.int (0 : Int32), .int (I1 73 29), .ref 92]) (HH (sf I1 91 dd (I1 73 16)) J1 R T) _
      refine Z_iasK (dd) rfl rfl (hd1) (by omega) (by decide) ?_
      show Zs _ _ (am_P 194).2 (232, [(0, .ref 73), (1, .ref o)], []) (HH (sf (sf I1 91 dd (I1 73 16)) 92 dd (0 : Int32)) J1 R T) _
      refine Z_jump 1 rfl ?_
      show Zs _ _ (am_P 194).2 (9, [(0, .ref 73), (1, .ref o)], []) (HH (sf (sf I1 91 dd (I1 73 16)) 92 dd (0 : Int32)) J1 R T) _
      exact go _ _ (UE_t (UE_t hU (UE_t (UE_28 u1) (UE_16 a1))) (UE_t (UE_a (by omega)) (UE_a (by omega)))) ⟨hd1, hd6, ht1⟩ ((u1.2.1 14 (by decide)).trans h14)
    · refine Z_jump 4 rfl ?_
      refine Z_bn (fun c107 => ?_) (fun c107 => absurd c107 (n41))
      refine Z_jump 4 rfl ?_
      refine Z_bd (fun c159 => absurd c159 ((fun z => by have := (k42.mp z).2; omega))) (fun c159 => ?_)
      refine Z_jump 4 rfl ?_
      refine Z_bn (fun c168 => ?_) (fun c168 => absurd c168 ((fun z => by have := (k47.mp z).2; omega)))
      refine Z_jump 4 rfl ?_
      refine Z_bd (fun c193 => absurd c193 ((fun z => by have := (k43.mp z).2; omega))) (fun c193 => ?_)
      refine Z_jump 4 rfl ?_
      refine Z_bn (fun c202 => absurd ((k45.mpr ⟨hop.1, h⟩)) c202) (fun c202 => ?_)
      refine Z_jump 1 rfl ?_
      show Zs _ _ (am_P 194).2 (206, [(0, .ref 73), (1, .ref o)], [.ref 73]) (HH I J R T) _
      refine Z_cQ rfl rfl rfl (m_closesTerm (d := d + 1) hd (by omega) hX.2.2.1) (fun v h1 hq => ?_)
      obtain ⟨rfl, I1, J1, rfl, a1, a2, a3, u1⟩ := hq
      have hd1 : I1 73 29 = nI dd := (u1.2.1 29 (by decide)).trans hd
      have ht1 : TB I1 := TB_cl hX.2.2 u1
      show Zs _ _ (am_P 194).2 (209, [(0, .ref 73), (1, .ref o)], []) (HH I1 J1 R T) _
      refine Z_jump 6 rfl ?_
      show Zs _ _ (am_P 194).2 (221, [(0, .ref 73), (1, .ref o)], [.int (I1 73 16), .int (I1 73 29), .ref 91]) (HH I1 J1 R T) _
      refine Z_iasK (dd) rfl rfl (hd1) (by omega) (by decide) ?_
      show Zs _ _ (am_P 194).2 (222, [(0, .ref 73), (1, .ref o)], []) (HH (sf I1 91 dd (I1 73 16)) J1 R T) _
      refine Z_jump 5 rfl ?_
      show Zs _ _ (am_P 194).2 (231, [(0, .ref 73), (1, .ref o)], [.int (0 : Int32), .int (I1 73 29), .ref 92]) (HH (sf I1 91 dd (I1 73 16)) J1 R T) _
      refine Z_iasK (dd) rfl rfl (hd1) (by omega) (by decide) ?_
      show Zs _ _ (am_P 194).2 (232, [(0, .ref 73), (1, .ref o)], []) (HH (sf (sf I1 91 dd (I1 73 16)) 92 dd (0 : Int32)) J1 R T) _
      refine Z_jump 1 rfl ?_
      show Zs _ _ (am_P 194).2 (9, [(0, .ref 73), (1, .ref o)], []) (HH (sf (sf I1 91 dd (I1 73 16)) 92 dd (0 : Int32)) J1 R T) _
      exact go _ _ (UE_t (UE_t hU (UE_t (UE_28 u1) (UE_16 a1))) (UE_t (UE_a (by omega)) (UE_a (by omega)))) ⟨hd1, hd6, ht1⟩ ((u1.2.1 14 (by decide)).trans h14)
  · exact hE s I J (by simp only [ss]; rw [if_neg hop]) hop hU hX hT
end MSX

