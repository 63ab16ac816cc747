/-! Sums: the reference checks a text. -/
def sP (tx : Nat → Nat) (c n s : Nat) : Nat ⊕ Nat :=
  if wS tx s (tE tx c s) then ss tx c 500 1 (nx tx c s) 0 else if wA tx s (tE tx c s) then ss tx c 500 1 (nx tx c s) 0 else if wB tx s (tE tx c s) then ss tx c 500 1 (nx tx c s) 0
  else if wC tx s (tE tx c s) then .inr (nx tx c s)
  else if wY tx s (tE tx c s) then (if TN tx c (nx tx c s) 2 0 ((n : Int) - 1) then .inr (nx tx c (nx tx c s)) else .inl (nx tx c s))
  else .inl s
def sQ (tx : Nat → Nat) (c n : Nat) : Nat → Nat → Nat → Nat ⊕ Nat
  | 0, _, _ => .inl 0
  | k + 1, j, s => match sP tx c n s with
    | .inl p => .inl p
    | .inr q => if q = c then .inr (j + 1) else if tx q = 59 ∧ j + 1 < 12 then sQ tx c n k (j + 1) (nx tx c q) else .inl q
theorem sQ_l {tx : Nat → Nat} {c n k j s p : Nat} (h : sP tx c n s = .inl p) : sQ tx c n (k + 1) j s = .inl p := by
  simp only [sQ, h]
theorem sQ_r {tx : Nat → Nat} {c n k j s q : Nat} (h : sP tx c n s = .inr q) : sQ tx c n (k + 1) j s = if q = c then .inr (j + 1) else if tx q = 59 ∧ j + 1 < 12 then sQ tx c n k (j + 1) (nx tx c q) else .inl q := by
  simp only [sQ, h]
theorem wc_wS {tx : Nat → Nat} {s e : Nat} (h : wS tx s e) : wcode tx s e = 7 := by
  unfold wcode
  rw [if_neg (fun y => by have z1 := h.1; have z2 := h.2.1; have z3 := h.2.2.1; have y1 := y.1; have y2 := y.2.1; have y3 := y.2.2.1; omega), if_neg (fun y => by have z1 := h.1; have z2 := h.2.1; have z3 := h.2.2.1; have y1 := y.1; have y2 := y.2.1; have y3 := y.2.2.1; omega), if_neg (fun y => by have z1 := h.1; have z2 := h.2.1; have z3 := h.2.2.1; have y1 := y.1; have y2 := y.2.1; have y3 := y.2.2.1; omega), if_neg (fun y => by have z1 := h.1; have z2 := h.2.1; have z3 := h.2.2.1; have y1 := y.1; have y2 := y.2.1; have y3 := y.2.2.1; omega), if_neg (fun y => by have z1 := h.1; have z2 := h.2.1; have z3 := h.2.2.1; have y1 := y.1; have y2 := y.2.1; have y3 := y.2.2.1; omega), if_neg (fun y => by have z1 := h.1; have z2 := h.2.1; have z3 := h.2.2.1; have y1 := y.1; have y2 := y.2.1; have y3 := y.2.2.1; omega), if_pos h]
theorem wc_wA {tx : Nat → Nat} {s e : Nat} (h : wA tx s e) : wcode tx s e = 8 := by
  unfold wcode
  rw [if_neg (fun y => by have z1 := h.1; have z2 := h.2.1; have z3 := h.2.2.1; have y1 := y.1; have y2 := y.2.1; have y3 := y.2.2.1; omega), if_neg (fun y => by have z1 := h.1; have z2 := h.2.1; have z3 := h.2.2.1; have y1 := y.1; have y2 := y.2.1; have y3 := y.2.2.1; omega), if_neg (fun y => by have z1 := h.1; have z2 := h.2.1; have z3 := h.2.2.1; have y1 := y.1; have y2 := y.2.1; have y3 := y.2.2.1; omega), if_neg (fun y => by have z1 := h.1; have z2 := h.2.1; have z3 := h.2.2.1; have y1 := y.1; have y2 := y.2.1; have y3 := y.2.2.1; omega), if_neg (fun y => by have z1 := h.1; have z2 := h.2.1; have z3 := h.2.2.1; have y1 := y.1; have y2 := y.2.1; have y3 := y.2.2.1; omega), if_neg (fun y => by have z1 := h.1; have z2 := h.2.1; have z3 := h.2.2.1; have y1 := y.1; have y2 := y.2.1; have y3 := y.2.2.1; omega), if_neg (fun y => by have z1 := h.1; have z2 := h.2.1; have z3 := h.2.2.1; have y1 := y.1; have y2 := y.2.1; have y3 := y.2.2.1; omega), if_pos h]
theorem wc_wB {tx : Nat → Nat} {s e : Nat} (h : wB tx s e) : wcode tx s e = 9 := by
  unfold wcode
  rw [if_neg (fun y => by have z1 := h.1; have z2 := h.2.1; have z3 := h.2.2.1; have y1 := y.1; have y2 := y.2.1; have y3 := y.2.2.1; omega), if_neg (fun y => by have z1 := h.1; have z2 := h.2.1; have z3 := h.2.2.1; have y1 := y.1; have y2 := y.2.1; have y3 := y.2.2.1; omega), if_neg (fun y => by have z1 := h.1; have z2 := h.2.1; have z3 := h.2.2.1; have y1 := y.1; have y2 := y.2.1; have y3 := y.2.2.1; omega), if_neg (fun y => by have z1 := h.1; have z2 := h.2.1; have z3 := h.2.2.1; have y1 := y.1; have y2 := y.2.1; have y3 := y.2.2.1; omega), if_neg (fun y => by have z1 := h.1; have z2 := h.2.1; have z3 := h.2.2.1; have y1 := y.1; have y2 := y.2.1; have y3 := y.2.2.1; omega), if_neg (fun y => by have z1 := h.1; have z2 := h.2.1; have z3 := h.2.2.1; have y1 := y.1; have y2 := y.2.1; have y3 := y.2.2.1; omega), if_neg (fun y => by have z1 := h.1; have z2 := h.2.1; have z3 := h.2.2.1; have y1 := y.1; have y2 := y.2.1; have y3 := y.2.2.1; omega), if_neg (fun y => by have z1 := h.1; have z2 := h.2.1; have z3 := h.2.2.1; have y1 := y.1; have y2 := y.2.1; have y3 := y.2.2.1; omega), if_pos h]
theorem wc_wC {tx : Nat → Nat} {s e : Nat} (h : wC tx s e) : wcode tx s e = 10 := by
  unfold wcode
  rw [if_neg (fun y => by have z1 := h.1; have z2 := h.2.1; have z3 := h.2.2.1; have y1 := y.1; have y2 := y.2.1; have y3 := y.2.2.1; omega), if_neg (fun y => by have z1 := h.1; have z2 := h.2.1; have z3 := h.2.2.1; have y1 := y.1; have y2 := y.2.1; have y3 := y.2.2.1; omega), if_neg (fun y => by have z1 := h.1; have z2 := h.2.1; have z3 := h.2.2.1; have y1 := y.1; have y2 := y.2.1; have y3 := y.2.2.1; omega), if_neg (fun y => by have z1 := h.1; have z2 := h.2.1; have z3 := h.2.2.1; have y1 := y.1; have y2 := y.2.1; have y3 := y.2.2.1; omega), if_neg (fun y => by have z1 := h.1; have z2 := h.2.1; have z3 := h.2.2.1; have y1 := y.1; have y2 := y.2.1; have y3 := y.2.2.1; omega), if_neg (fun y => by have z1 := h.1; have z2 := h.2.1; have z3 := h.2.2.1; have y1 := y.1; have y2 := y.2.1; have y3 := y.2.2.1; omega), if_neg (fun y => by have z1 := h.1; have z2 := h.2.1; have z3 := h.2.2.1; have y1 := y.1; have y2 := y.2.1; have y3 := y.2.2.1; omega), if_neg (fun y => by have z1 := h.1; have z2 := h.2.1; have z3 := h.2.2.1; have y1 := y.1; have y2 := y.2.1; have y3 := y.2.2.1; omega), if_neg (fun y => by have z1 := h.1; have z2 := h.2.1; have z3 := h.2.2.1; have y1 := y.1; have y2 := y.2.1; have y3 := y.2.2.1; omega), if_pos h]
theorem wc_wY {tx : Nat → Nat} {s e : Nat} (h : wY tx s e) : wcode tx s e = 11 := by
  unfold wcode
  rw [if_neg (fun y => by have z1 := h.1; have z2 := h.2.1; have z3 := h.2.2.1; have y1 := y.1; have y2 := y.2.1; have y3 := y.2.2.1; omega), if_neg (fun y => by have z1 := h.1; have z2 := h.2.1; have z3 := h.2.2.1; have y1 := y.1; have y2 := y.2.1; have y3 := y.2.2.1; omega), if_neg (fun y => by have z1 := h.1; have z2 := h.2.1; have z3 := h.2.2.1; have y1 := y.1; have y2 := y.2.1; have y3 := y.2.2.1; omega), if_neg (fun y => by have z1 := h.1; have z2 := h.2.1; have z3 := h.2.2.1; have y1 := y.1; have y2 := y.2.1; have y3 := y.2.2.1; omega), if_neg (fun y => by have z1 := h.1; have z2 := h.2.1; have z3 := h.2.2.1; have y1 := y.1; have y2 := y.2.1; have y3 := y.2.2.1; omega), if_neg (fun y => by have z1 := h.1; have z2 := h.2.1; have z3 := h.2.2.1; have y1 := y.1; have y2 := y.2.1; have y3 := y.2.2.1; omega), if_neg (fun y => by have z1 := h.1; have z2 := h.2.1; have z3 := h.2.2.1; have y1 := y.1; have y2 := y.2.1; have y3 := y.2.2.1; omega), if_neg (fun y => by have z1 := h.1; have z2 := h.2.1; have z3 := h.2.2.1; have y1 := y.1; have y2 := y.2.1; have y3 := y.2.2.1; omega), if_neg (fun y => by have z1 := h.1; have z2 := h.2.1; have z3 := h.2.2.1; have y1 := y.1; have y2 := y.2.1; have y3 := y.2.2.1; omega), if_neg (fun y => by have z1 := h.1; have z2 := h.2.1; have z3 := h.2.2.1; have y1 := y.1; have y2 := y.2.1; have y3 := y.2.2.1; omega), if_pos h]
theorem wc_no {tx : Nat → Nat} {s e : Nat} (hS : ¬ wS tx s e) (hA : ¬ wA tx s e) (hB : ¬ wB tx s e) (hC : ¬ wC tx s e) (hY : ¬ wY tx s e) : wcode tx s e ≤ 6 := by
  unfold wcode
  rw [if_neg hS, if_neg hA, if_neg hB, if_neg hC, if_neg hY]
  split
  · omega
  · split
    · omega
    · split
      · omega
      · split
        · omega
        · split
          · omega
          · split
            · omega
            · omega
theorem noV {tx : Nat → Nat} {c s : Nat} (h : ¬ (s < c ∧ pL (tx s))) : ¬ wS tx s (tE tx c s) ∧ ¬ wA tx s (tE tx c s) ∧ ¬ wB tx s (tE tx c s) ∧ ¬ wC tx s (tE tx c s) ∧ ¬ wY tx s (tE tx c s) := by
  by_cases hs : s < c
  · have hw : ¬ pL (tx s) := fun w => h ⟨hs, w⟩
    refine ⟨fun z => ?_, fun z => ?_, fun z => ?_, fun z => ?_, fun z => ?_⟩ <;> (have z2 := z.2.1; omega)
  · have e : tE tx c s = s := by unfold tE; rw [if_neg hs]
    rw [e]
    refine ⟨fun z => ?_, fun z => ?_, fun z => ?_, fun z => ?_, fun z => ?_⟩ <;> (have z2 := z.1; omega)
section MS3
variable {sc : Nat × (Nat → Int32)} {d : Nat} {I : hI} {J : hJ} {R : hR} {T : am_H} {Q : Option Value → am_H → Prop} {tx : Nat → Nat} {c : Nat}
theorem TB_R {I I' : hI} {J J' : hJ} (h : TB I) (u : UR I J I' J') : TB I' := by
  have e2 := u.2.1 28 (by decide) (by decide) (by decide) (by decide) (by decide)
  have e3 := u.2.1 27 (by decide) (by decide) (by decide) (by decide) (by decide)
  exact ⟨by rw [e2]; exact h.1, by rw [e2, e3]; exact h.2⟩
/-- readsStatement() while it is only checked -/
theorem m_rsC {n s : Nat} (hM : MT tx c I) (hn : I 73 0 = nI n) (hn6 : n ≤ 6) (hd : I 73 27 = 0) (hB0 : TB I) (hT : TK tx c s I J) : Ze sc (d + 6) 195 [.ref 73, .ref 78] (HH I J R T) (XQ tx c (sP tx c n s) I J R T) := by
  refine Ze_of (Nat.le_of_ble_eq_true rfl) ?_
  obtain ⟨hs, h15, h14, hK⟩ := id hT
  have h255 := hM.2.2.2
  have hE := tE_c (tx := tx) hs
  have hw2 := RD_w h255 hK
  have ht0 : I 73 28 = 0 := hB0.2 hd
  by_cases hw : s < c ∧ pL (tx s)
  · have h16 := hw2.mpr hw
    have h19 := (hK.2.1 hw.1 hw.2).2
    unfold sP
    have ex : ∀ (w : Int32), Zs sc (d + 5) (am_P 195).2 (36, [(0, .ref 73), (1, .ref 78), (2, .int w)], []) (HH I J R T) (XQ tx c (ss tx c 500 1 (nx tx c s) 0) I J R T) := fun w => by
      refine Z_jump 2 rfl ?_
      show Zs _ _ (am_P 195).2 (38, [(0, .ref 73), (1, .ref 78), (2, .int w)], [.ref 78, .ref 73]) (HH I J R T) _
      refine Z_c1 rfl rfl rfl (m_numberOf (d := d + 1) (Or.inl rfl) hn hn6) ?_
      show Zs _ _ (am_P 195).2 (41, [(0, .ref 73), (1, .ref 78), (2, .int w)], [.long (M_nl I 78 n 0)]) (HH I J R T) _
      refine Z_jump 3 rfl ?_
      show Zs _ _ (am_P 195).2 (44, [(0, .ref 73), (1, .ref 78), (2, .int w), (3, .long (M_nl I 78 n 0))], [.ref 78, .ref 73]) (HH I J R T) _
      refine Z_cQ rfl rfl rfl (m_readsExpr (d := d) hM (Or.inl rfl) hn hn6 h14 hE.2 hB0) (fun v h1 hq => ?_)
      obtain ⟨I1, J1, rfl, u1, t1, hq⟩ := hq
      have hd1 : I1 73 27 = 0 := (u1.2.1 27 (by decide) (by decide) (by decide) (by decide) (by decide) (by decide) (by decide)).trans hd
      rcases hf : ss tx c 500 1 (nx tx c s) 0 with p | s2
      · rw [hf] at hq
        obtain ⟨q1, rfl, q3⟩ := hq
        refine Z_jump 2 rfl ?_
        exact Z_rI rfl rfl ⟨I1, J1, rfl, u1, t1, q1, rfl, q3⟩
      rw [hf] at hq
      obtain ⟨rfl, q3⟩ := hq
      refine Z_jump 4 rfl ?_
      refine Z_bd (fun c56 => ?_) (fun c56 => absurd (hd1) c56)
      refine Z_jump 1 rfl ?_
      show Zs _ _ (am_P 195).2 (118, [(0, .ref 73), (1, .ref 78), (2, .int w), (3, .long (M_nl I 78 n 0))], [.int (1 : Int32)]) (HH I1 J1 R T) _
      refine Z_rI rfl (by first | exact am_nw0 _ | exact am_nw01 | rfl | assumption) ?_
      exact ⟨I1, J1, rfl, u1, t1, rfl, q3⟩
    by_cases hS : wS tx s (tE tx c s)
    · rw [if_pos hS]
      rw [wc_wS hS] at h19
      refine Z_jump 4 rfl ?_
      refine Z_bn (fun c6 => absurd (h16) c6) (fun c6 => ?_)
      refine Z_jump 2 rfl ?_
      show Zs _ _ (am_P 195).2 (13, [(0, .ref 73), (1, .ref 78)], [.int (I 73 19)]) (HH I J R T) _
      refine Z_eqI (y := (7 : Int32)) (h19) ?_
      show Zs _ _ (am_P 195).2 (13, [(0, .ref 73), (1, .ref 78)], [.int (7 : Int32)]) (HH I J R T) _
      refine Z_jump 5 rfl ?_
      show Zs _ _ (am_P 195).2 (36, [(0, .ref 73), (1, .ref 78), (2, .int (7 : Int32))], []) (HH I J R T) _
      exact ex _
    · rw [if_neg hS]
      by_cases hA : wA tx s (tE tx c s)
      · rw [if_pos hA]
        rw [wc_wA hA] at h19
        refine Z_jump 4 rfl ?_
        refine Z_bn (fun c6 => absurd (h16) c6) (fun c6 => ?_)
        refine Z_jump 2 rfl ?_
        show Zs _ _ (am_P 195).2 (13, [(0, .ref 73), (1, .ref 78)], [.int (I 73 19)]) (HH I J R T) _
        refine Z_eqI (y := (8 : Int32)) (h19) ?_
        show Zs _ _ (am_P 195).2 (13, [(0, .ref 73), (1, .ref 78)], [.int (8 : Int32)]) (HH I J R T) _
        refine Z_jump 8 rfl ?_
        show Zs _ _ (am_P 195).2 (36, [(0, .ref 73), (1, .ref 78), (2, .int (8 : Int32))], []) (HH I J R T) _
        exact ex _
      · rw [if_neg hA]
        by_cases hB : wB tx s (tE tx c s)
        · rw [if_pos hB]
          rw [wc_wB hB] at h19
          refine Z_jump 4 rfl ?_
          refine Z_bn (fun c6 => absurd (h16) c6) (fun c6 => ?_)
          refine Z_jump 2 rfl ?_
          show Zs _ _ (am_P 195).2 (13, [(0, .ref 73), (1, .ref 78)], [.int (I 73 19)]) (HH I J R T) _
          refine Z_eqI (y := (9 : Int32)) (h19) ?_
          show Zs _ _ (am_P 195).2 (13, [(0, .ref 73), (1, .ref 78)], [.int (9 : Int32)]) (HH I J R T) _
          refine Z_jump 11 rfl ?_
          show Zs _ _ (am_P 195).2 (36, [(0, .ref 73), (1, .ref 78), (2, .int (9 : Int32))], []) (HH I J R T) _
          exact ex _
        · rw [if_neg hB]
          by_cases hC : wC tx s (tE tx c s)
          · rw [if_pos hC]
            rw [wc_wC hC] at h19
            refine Z_jump 4 rfl ?_
            refine Z_bn (fun c6 => absurd (h16) c6) (fun c6 => ?_)
            refine Z_jump 2 rfl ?_
            show Zs _ _ (am_P 195).2 (13, [(0, .ref 73), (1, .ref 78)], [.int (I 73 19)]) (HH I J R T) _
            refine Z_eqI (y := (10 : Int32)) (h19) ?_
            show Zs _ _ (am_P 195).2 (13, [(0, .ref 73), (1, .ref 78)], [.int (10 : Int32)]) (HH I J R T) _
            refine Z_jump 17 rfl ?_
            refine Z_bd (fun c129 => ?_) (fun c129 => absurd (hd) c129)
            refine Z_jump 1 rfl ?_
            show Zs _ _ (am_P 195).2 (138, [(0, .ref 73), (1, .ref 78), (2, .int (10 : Int32))], [.ref 73]) (HH I J R T) _
            refine Z_cQ rfl rfl rfl (m_reads (d := d + 1) hM h14 hE.2) (fun v h1 hq => ?_)
            obtain ⟨rfl, I3, J3, rfl, u3, t15, t14, tK⟩ := hq
            show Zs _ _ (am_P 195).2 (141, [(0, .ref 73), (1, .ref 78), (2, .int (10 : Int32))], []) (HH I3 J3 R T) _
            refine Z_jump 1 rfl ?_
            show Zs _ _ (am_P 195).2 (142, [(0, .ref 73), (1, .ref 78), (2, .int (10 : Int32))], [.int (1 : Int32)]) (HH I3 J3 R T) _
            refine Z_rI rfl (by first | exact am_nw0 _ | exact am_nw01 | rfl | assumption) ?_
            exact ⟨I3, J3, rfl, UE_R u3, TB_R hB0 u3, rfl, tS_c hE.2, t15, t14, tK⟩
          · rw [if_neg hC]
            by_cases hY : wY tx s (tE tx c s)
            · rw [if_pos hY]
              rw [wc_wY hY] at h19
              refine Z_jump 4 rfl ?_
              refine Z_bn (fun c6 => absurd (h16) c6) (fun c6 => ?_)
              refine Z_jump 2 rfl ?_
              show Zs _ _ (am_P 195).2 (13, [(0, .ref 73), (1, .ref 78)], [.int (I 73 19)]) (HH I J R T) _
              refine Z_eqI (y := (11 : Int32)) (h19) ?_
              show Zs _ _ (am_P 195).2 (13, [(0, .ref 73), (1, .ref 78)], [.int (11 : Int32)]) (HH I J R T) _
              refine Z_jump 23 rfl ?_
              show Zs _ _ (am_P 195).2 (157, [(0, .ref 73), (1, .ref 78), (2, .int (11 : Int32))], [.int ((I 73 0) - (1 : Int32)), .int (0 : Int32), .ref 73]) (HH I J R T) _
              refine Z_cQ rfl rfl rfl (m_numberedI (d := d) (tx := tx) (c := c) hM h14 hE.2 (show (0 : Int32).toInt = 0 from rfl) (show (I 73 0 - 1).toInt = (n : Int) - 1 by rw [hn]; exact nIm1 hn6)) (fun v h1 hq => ?_)
              obtain ⟨I1, J1, rfl, u1, g15, g14, hq⟩ := hq
              have b1 := tS_c (tx := tx) hE.2
              have b1' := tE_c (tx := tx) b1
              have hd1 : I1 73 27 = 0 := (u1.2.1 27 (by decide) (by decide) (by decide) (by decide) (by decide)).trans hd
              have ht1 : I1 73 28 = 0 := (u1.2.1 28 (by decide) (by decide) (by decide) (by decide) (by decide)).trans ht0
              rcases hq with ⟨hT1, rfl, g18⟩ | ⟨hT1, rfl⟩
              · rw [if_pos hT1]
                refine Z_jump 4 rfl ?_
                show Zs _ _ (am_P 195).2 (170, [(0, .ref 73), (1, .ref 78), (2, .int (11 : Int32))], [.int (I1 73 28), .ref 73]) (HH I1 J1 R T) _
                refine Z_eqI (y := (0 : Int32)) (ht1) ?_
                show Zs _ _ (am_P 195).2 (170, [(0, .ref 73), (1, .ref 78), (2, .int (11 : Int32))], [.int (0 : Int32), .ref 73]) (HH I1 J1 R T) _
                refine Z_jump 3 rfl ?_
                refine Z_bd (fun c174 => ?_) (fun c174 => absurd (hd1) c174)
                refine Z_jump 3 rfl ?_
                show Zs _ _ (am_P 195).2 (199, [(0, .ref 73), (1, .ref 78), (2, .int (11 : Int32))], []) (HH (sf I1 73 28 (0 : Int32)) J1 R T) _
                refine Z_jump 1 rfl ?_
                show Zs _ _ (am_P 195).2 (200, [(0, .ref 73), (1, .ref 78), (2, .int (11 : Int32))], [.ref 73]) (HH (sf I1 73 28 (0 : Int32)) J1 R T) _
                refine Z_cQ rfl rfl rfl (m_reads (d := d + 1) (I := (sf I1 73 28 (0 : Int32))) (MT_of (MT_R hM u1) rfl rfl) g14 b1'.2) (fun v h1 hq => ?_)
                obtain ⟨rfl, I3, J3, rfl, u3, t15, t14, tK⟩ := hq
                show Zs _ _ (am_P 195).2 (203, [(0, .ref 73), (1, .ref 78), (2, .int (11 : Int32))], []) (HH I3 J3 R T) _
                refine Z_jump 1 rfl ?_
                show Zs _ _ (am_P 195).2 (204, [(0, .ref 73), (1, .ref 78), (2, .int (11 : Int32))], [.int (1 : Int32)]) (HH I3 J3 R T) _
                refine Z_rI rfl (by first | exact am_nw0 _ | exact am_nw01 | rfl | assumption) ?_
                exact ⟨I3, J3, rfl, UE_t (UE_t (UE_R u1) (UE_28 U28_s)) (UE_R u3), TB_R (I := sf I1 73 28 0) ⟨Or.inl (sf_s _ _ _ _), fun _ => sf_s _ _ _ _⟩ u3, rfl, tS_c b1'.2, t15, t14, tK⟩
              · rw [if_neg hT1]
                refine Z_jump 2 rfl ?_
                show Zs _ _ (am_P 195).2 (164, [(0, .ref 73), (1, .ref 78), (2, .int (11 : Int32))], [.int (0 : Int32)]) (HH I1 J1 R T) _
                refine Z_rI rfl (by first | exact am_nw0 _ | exact am_nw01 | rfl | assumption) ?_
                exact ⟨I1, J1, rfl, UE_R u1, TB_R hB0 u1, b1, rfl, g15⟩
            · rw [if_neg hY]
              have hwc := wc_no hS hA hB hC hY
              have hne : ∀ m, 7 ≤ m → m ≤ 11 → ¬ I 73 19 = nI m := fun m h1 h2 z => by rw [h19] at z; have := (nI_eq (by omega) (by omega)).mp z; omega
              refine Z_jump 4 rfl ?_
              refine Z_bn (fun c6 => absurd (h16) c6) (fun c6 => ?_)
              refine Z_jump 7 rfl ?_
              refine Z_bd (fun c21 => absurd c21 (hne 7 (by omega) (by omega))) (fun c21 => ?_)
              refine Z_jump 3 rfl ?_
              refine Z_bd (fun c27 => absurd c27 (hne 8 (by omega) (by omega))) (fun c27 => ?_)
              refine Z_jump 3 rfl ?_
              refine Z_bn (fun c33 => ?_) (fun c33 => absurd c33 (hne 9 (by omega) (by omega)))
              refine Z_jump 3 rfl ?_
              refine Z_bn (fun c122 => ?_) (fun c122 => absurd c122 (hne 10 (by omega) (by omega)))
              refine Z_jump 3 rfl ?_
              refine Z_bn (fun c146 => ?_) (fun c146 => absurd c146 (hne 11 (by omega) (by omega)))
              refine Z_jump 1 rfl ?_
              show Zs _ _ (am_P 195).2 (164, [(0, .ref 73), (1, .ref 78), (2, .int (I 73 19))], [.int (0 : Int32)]) (HH I J R T) _
              refine Z_rI rfl (by first | exact am_nw0 _ | exact am_nw01 | rfl | assumption) ?_
              exact ⟨I, J, rfl, UE_0 I J, hB0, hs, rfl, h15⟩
  · obtain ⟨n1, n2, n3, n4, n5⟩ := noV hw
    have ef : sP tx c n s = .inl s := by
      unfold sP
      rw [if_neg n1, if_neg n2, if_neg n3, if_neg n4, if_neg n5]
    rw [ef]
    refine Z_jump 4 rfl ?_
    refine Z_bn (fun c6 => ?_) (fun c6 => absurd c6 ((fun z => hw (hw2.mp z))))
    refine Z_jump 18 rfl ?_
    show Zs _ _ (am_P 195).2 (164, [(0, .ref 73), (1, .ref 78), (2, .int (0 : Int32))], [.int (0 : Int32)]) (HH I J R T) _
    refine Z_rI rfl (by first | exact am_nw0 _ | exact am_nw01 | rfl | assumption) ?_
    exact ⟨I, J, rfl, UE_0 I J, hB0, hs, rfl, h15⟩
end MS3

