/-! The reference reads a frame's text. -/
section MF2
variable {sc : Nat × (Nat → Int32)} {d : Nat} {I : hI} {J : hJ} {R : hR} {T : am_H} {Q : Option Value → am_H → Prop} {tx : Nat → Nat} {c : Nat}
theorem nI_nm {t : Nat} (ht : t ≤ 255) : ¬ nI t = -1 ∧ ¬ nI t = -2 ∧ ¬ nI t = -3 := by
  refine ⟨fun z => ?_, fun z => ?_, fun z => ?_⟩ <;>
  · have h3 := congrArg Int32.toInt z
    rw [nI_toInt (by omega)] at h3
    have h4 : (-1 : Int32).toInt = -1 := rfl
    have h5 : (-2 : Int32).toInt = -2 := rfl
    have h6 : (-3 : Int32).toInt = -3 := rfl
    omega
theorem RD_e {s : Nat} (h255 : ∀ k, k < c → tx k ≤ 255) (h : TKm tx c s I J) : I 73 16 = -1 ↔ ¬ s < c := by
  refine ⟨fun z hs => ?_, fun z => h.1 z⟩
  have h2 := nI_nm (h255 s hs)
  by_cases hw : pL (tx s)
  · rw [(h.2.1 hs hw).1] at z; exact absurd z (by decide)
  · by_cases hd : pD (tx s)
    · rw [(h.2.2.1 ⟨hs, hd⟩).1] at z; exact absurd z (by decide)
    · rw [h.2.2.2 hs hw hd] at z; exact h2.1 z
theorem RD_w {s : Nat} (h255 : ∀ k, k < c → tx k ≤ 255) (h : TKm tx c s I J) : I 73 16 = -2 ↔ (s < c ∧ pL (tx s)) := by
  refine ⟨fun z => Classical.byContradiction (fun y => ?_), fun z => (h.2.1 z.1 z.2).1⟩
  by_cases hs : s < c
  · have h2 := nI_nm (h255 s hs)
    have hw : ¬ pL (tx s) := fun w => y ⟨hs, w⟩
    by_cases hd : pD (tx s)
    · rw [(h.2.2.1 ⟨hs, hd⟩).1] at z; exact absurd z (by decide)
    · rw [h.2.2.2 hs hw hd] at z; exact h2.2.1 z
  · rw [h.1 hs] at z; exact absurd z (by decide)
theorem RD_c {s t : Nat} (h255 : ∀ k, k < c → tx k ≤ 255) (h : TKm tx c s I J) (ht : t ≤ 255) (h1 : ¬ pL t) (h2 : ¬ pD t) : I 73 16 = nI t ↔ (s < c ∧ tx s = t) := by
  have h3 := nI_nm ht
  refine ⟨fun z => ?_, fun z => ?_⟩
  · by_cases hs : s < c
    · by_cases hw : pL (tx s)
      · rw [(h.2.1 hs hw).1] at z; exact absurd z.symm h3.2.1
      · by_cases hd : pD (tx s)
        · rw [(h.2.2.1 ⟨hs, hd⟩).1] at z; exact absurd z.symm h3.2.2
        · rw [h.2.2.2 hs hw hd] at z
          have := h255 s hs
          exact ⟨hs, (nI_eq (by omega) (by omega)).mp z⟩
    · rw [h.1 hs] at z; exact absurd z.symm h3.1
  · rw [h.2.2.2 z.1 (by rw [z.2]; exact h1) (by rw [z.2]; exact h2), z.2]
theorem noW {s : Nat} (h : ¬ (s < c ∧ pL (tx s))) : ¬ wF tx s (tE tx c s) ∧ ¬ wK tx s (tE tx c s) ∧ ¬ wP tx s (tE tx c s) ∧ ¬ wV tx s (tE tx c s) ∧ ¬ wW tx s (tE tx c s) ∧ ¬ wH tx s (tE tx c s) := by
  by_cases hs : s < c
  · have hw : ¬ pL (tx s) := fun w => h ⟨hs, w⟩
    refine ⟨fun z => ?_, fun z => ?_, fun z => ?_, fun z => ?_, fun z => ?_, fun z => ?_⟩ <;> (have z2 := z.2.1; omega)
  · have e : tE tx c s = s := by unfold tE; rw [if_neg hs]
    rw [e]
    refine ⟨fun z => ?_, fun z => ?_, fun z => ?_, fun z => ?_, fun z => ?_, fun z => ?_⟩ <;> (have z2 := z.1; omega)
theorem MR_v {res : Nat ⊕ (Nat × FD)} {I I' : hI} {J J' : hJ} {r : Option Value} (h : UM I J I' J' ∧ I' 73 22 = I 73 22 ∧ (match res with
  | .inl p => p ≤ c ∧ r = some (.int 0) ∧ I' 73 15 = nI p
  | .inr (e, D') => e ≤ c ∧ r = some (.int 1) ∧ I' 73 14 = nI e ∧ DM 20 21 85 D' I')) : ∃ v : Int32, r = some (.int v) ∧ am_nw 2 v = true := by
  obtain ⟨-, -, h⟩ := h
  rcases res with p | ⟨e, D'⟩
  · exact ⟨0, h.2.1, rfl⟩
  · exact ⟨1, h.2.1, rfl⟩
/-- readsClause() -/
theorem m_readsClause {s : Nat} {D : FD} (hM : MT tx c I) (hs : s ≤ c) (hK : TKm tx c s I J) (h14 : I 73 14 = nI (tE tx c s)) (h15 : I 73 15 = nI s) (hD : DM 20 21 85 D I) : Ze sc (d + 7) 186 [.ref 73] (HH I J R T) (MRq tx c (fClause tx c s D) I J R T) := by
  refine Ze_of (Nat.le_of_ble_eq_true rfl) ?_
  have hE := tE_c (tx := tx) hs
  by_cases hw : s < c ∧ pL (tx s)
  · have h16 : I 73 16 = -2 := (RD_w hM.2.2.2 hK).mpr hw
    have h19 := (hK.2.1 hw.1 hw.2).2
    unfold fClause
    by_cases hF : wF tx s (tE tx c s)
    · rw [if_pos hF]
      have e : wcode tx s (tE tx c s) = 1 := by unfold wcode; rw [if_pos hF]
      rw [e] at h19
      refine Z_jump 4 rfl ?_
      refine Z_bd (fun c6 => ?_) (fun c6 => absurd (h16) c6)
      refine Z_jump 2 rfl ?_
      show Zs _ _ (am_P 186).2 (15, [(0, .ref 73)], [.int (I 73 19)]) (HH I J R T) _
      refine Z_eqI (y := (1 : Int32)) (h19) ?_
      show Zs _ _ (am_P 186).2 (15, [(0, .ref 73)], [.int (1 : Int32)]) (HH I J R T) _
      refine Z_jump 4 rfl ?_
      show Zs _ _ (am_P 186).2 (57, [(0, .ref 73)], []) (HH (sf I 73 20 (0 : Int32)) J R T) _
      refine Z_jump 3 rfl ?_
      show Zs _ _ (am_P 186).2 (62, [(0, .ref 73)], []) (HH (sf (sf I 73 20 (0 : Int32)) 73 21 (0 : Int32)) J R T) _
      refine Z_jump 1 rfl ?_
      show Zs _ _ (am_P 186).2 (63, [(0, .ref 73)], [.int (1 : Int32)]) (HH (sf (sf I 73 20 (0 : Int32)) 73 21 (0 : Int32)) J R T) _
      refine Z_rI rfl (by first | exact am_nw0 _ | exact am_nw01 | rfl | assumption) ?_
      exact ⟨_, J, rfl, UM_t (UM_f (by omega)) (UM_f (by omega)), rfl, hE.2, rfl, h14, rfl, Nat.zero_le _, rfl, fun k hk => absurd hk (Nat.not_lt_zero k)⟩
    · rw [if_neg hF]
      by_cases hKk : wK tx s (tE tx c s)
      · rw [if_pos hKk]
        have e : wcode tx s (tE tx c s) = 6 := by
          unfold wcode
          rw [if_neg hF, if_neg (by have z1 := hKk.1; have z2 := hKk.2.1; intro y; have y2 := y.2.1; omega), if_neg (by have z1 := hKk.1; intro y; have y2 := y.1; omega), if_neg (by have z1 := hKk.1; intro y; have y2 := y.1; omega), if_neg (by have z1 := hKk.1; intro y; have y2 := y.1; omega), if_pos hKk]
        rw [e] at h19
        refine Z_jump 4 rfl ?_
        refine Z_bd (fun c6 => ?_) (fun c6 => absurd (h16) c6)
        refine Z_jump 2 rfl ?_
        show Zs _ _ (am_P 186).2 (15, [(0, .ref 73)], [.int (I 73 19)]) (HH I J R T) _
        refine Z_eqI (y := (6 : Int32)) (h19) ?_
        show Zs _ _ (am_P 186).2 (15, [(0, .ref 73)], [.int (6 : Int32)]) (HH I J R T) _
        refine Z_jump 2 rfl ?_
        show Zs _ _ (am_P 186).2 (89, [(0, .ref 73)], [.ref 73]) (HH I J R T) _
        refine Z_cQ rfl rfl rfl (m_readsStuck hM h14 hE.2 hD) (fun v h1 hq => ?_)
        obtain ⟨I1, J1, rfl, hq⟩ := hq
        obtain ⟨v, rfl, hv⟩ := MR_v hq
        show Zs _ _ (am_P 186).2 (92, [(0, .ref 73)], [.int v]) (HH I1 J1 R T) _
        show Zs _ _ (am_P 186).2 (92, [(0, .ref 73)], [.int v]) (HH I1 J1 R T) _
        refine Z_rI rfl (by first | exact am_nw0 _ | exact am_nw01 | rfl | assumption) ?_
        exact ⟨I1, J1, rfl, hq⟩
      · rw [if_neg hKk]
        by_cases hP : wP tx s (tE tx c s)
        · rw [if_pos hP]
          have e : wcode tx s (tE tx c s) = 2 := by unfold wcode; rw [if_neg hF, if_pos hP]
          rw [e] at h19
          refine Z_jump 4 rfl ?_
          refine Z_bd (fun c6 => ?_) (fun c6 => absurd (h16) c6)
          refine Z_jump 2 rfl ?_
          show Zs _ _ (am_P 186).2 (15, [(0, .ref 73)], [.int (I 73 19)]) (HH I J R T) _
          refine Z_eqI (y := (2 : Int32)) (h19) ?_
          show Zs _ _ (am_P 186).2 (15, [(0, .ref 73)], [.int (2 : Int32)]) (HH I J R T) _
          refine Z_jump 3 rfl ?_
          show Zs _ _ (am_P 186).2 (66, [(0, .ref 73)], [.int (0 : Int32), .ref 73]) (HH I J R T) _
          refine Z_cQ rfl rfl rfl (m_readsRod (kd := 0) hM rfl (by omega) h14 h15 hs hE.2 hD) (fun v h1 hq => ?_)
          obtain ⟨I1, J1, rfl, hq⟩ := hq
          obtain ⟨v, rfl, hv⟩ := MR_v hq
          show Zs _ _ (am_P 186).2 (69, [(0, .ref 73)], [.int v]) (HH I1 J1 R T) _
          show Zs _ _ (am_P 186).2 (69, [(0, .ref 73)], [.int v]) (HH I1 J1 R T) _
          refine Z_rI rfl (by first | exact am_nw0 _ | exact am_nw01 | rfl | assumption) ?_
          exact ⟨I1, J1, rfl, hq⟩
        · rw [if_neg hP]
          by_cases hV : wV tx s (tE tx c s)
          · rw [if_pos hV]
            have e : wcode tx s (tE tx c s) = 3 := by unfold wcode; rw [if_neg hF, if_neg hP, if_pos hV]
            rw [e] at h19
            refine Z_jump 4 rfl ?_
            refine Z_bd (fun c6 => ?_) (fun c6 => absurd (h16) c6)
            refine Z_jump 2 rfl ?_
            show Zs _ _ (am_P 186).2 (15, [(0, .ref 73)], [.int (I 73 19)]) (HH I J R T) _
            refine Z_eqI (y := (3 : Int32)) (h19) ?_
            show Zs _ _ (am_P 186).2 (15, [(0, .ref 73)], [.int (3 : Int32)]) (HH I J R T) _
            refine Z_jump 3 rfl ?_
            show Zs _ _ (am_P 186).2 (72, [(0, .ref 73)], [.int (1 : Int32), .ref 73]) (HH I J R T) _
            refine Z_cQ rfl rfl rfl (m_readsRod (kd := 1) hM rfl (by omega) h14 h15 hs hE.2 hD) (fun v h1 hq => ?_)
            obtain ⟨I1, J1, rfl, hq⟩ := hq
            obtain ⟨v, rfl, hv⟩ := MR_v hq
            show Zs _ _ (am_P 186).2 (75, [(0, .ref 73)], [.int v]) (HH I1 J1 R T) _
            show Zs _ _ (am_P 186).2 (75, [(0, .ref 73)], [.int v]) (HH I1 J1 R T) _
            refine Z_rI rfl (by first | exact am_nw0 _ | exact am_nw01 | rfl | assumption) ?_
            exact ⟨I1, J1, rfl, hq⟩
          · rw [if_neg hV]
            by_cases hW : wW tx s (tE tx c s)
            · rw [if_pos hW]
              have e : wcode tx s (tE tx c s) = 4 := by unfold wcode; rw [if_neg hF, if_neg hP, if_neg hV, if_pos hW]
              rw [e] at h19
              refine Z_jump 4 rfl ?_
              refine Z_bd (fun c6 => ?_) (fun c6 => absurd (h16) c6)
              refine Z_jump 2 rfl ?_
              show Zs _ _ (am_P 186).2 (15, [(0, .ref 73)], [.int (I 73 19)]) (HH I J R T) _
              refine Z_eqI (y := (4 : Int32)) (h19) ?_
              show Zs _ _ (am_P 186).2 (15, [(0, .ref 73)], [.int (4 : Int32)]) (HH I J R T) _
              refine Z_jump 3 rfl ?_
              show Zs _ _ (am_P 186).2 (78, [(0, .ref 73)], [.int (2 : Int32), .ref 73]) (HH I J R T) _
              refine Z_cQ rfl rfl rfl (m_readsRod (kd := 2) hM rfl (by omega) h14 h15 hs hE.2 hD) (fun v h1 hq => ?_)
              obtain ⟨I1, J1, rfl, hq⟩ := hq
              obtain ⟨v, rfl, hv⟩ := MR_v hq
              show Zs _ _ (am_P 186).2 (81, [(0, .ref 73)], [.int v]) (HH I1 J1 R T) _
              show Zs _ _ (am_P 186).2 (81, [(0, .ref 73)], [.int v]) (HH I1 J1 R T) _
              refine Z_rI rfl (by first | exact am_nw0 _ | exact am_nw01 | rfl | assumption) ?_
              exact ⟨I1, J1, rfl, hq⟩
            · rw [if_neg hW]
              by_cases hH : wH tx s (tE tx c s)
              · rw [if_pos hH]
                have e : wcode tx s (tE tx c s) = 5 := by unfold wcode; rw [if_neg hF, if_neg hP, if_neg hV, if_neg hW, if_pos hH]
                rw [e] at h19
                refine Z_jump 4 rfl ?_
                refine Z_bd (fun c6 => ?_) (fun c6 => absurd (h16) c6)
                refine Z_jump 2 rfl ?_
                show Zs _ _ (am_P 186).2 (15, [(0, .ref 73)], [.int (I 73 19)]) (HH I J R T) _
                refine Z_eqI (y := (5 : Int32)) (h19) ?_
                show Zs _ _ (am_P 186).2 (15, [(0, .ref 73)], [.int (5 : Int32)]) (HH I J R T) _
                refine Z_jump 3 rfl ?_
                show Zs _ _ (am_P 186).2 (84, [(0, .ref 73)], [.int (3 : Int32), .ref 73]) (HH I J R T) _
                refine Z_cQ rfl rfl rfl (m_readsRod (kd := 3) hM rfl (by omega) h14 h15 hs hE.2 hD) (fun v h1 hq => ?_)
                obtain ⟨I1, J1, rfl, hq⟩ := hq
                obtain ⟨v, rfl, hv⟩ := MR_v hq
                show Zs _ _ (am_P 186).2 (87, [(0, .ref 73)], [.int v]) (HH I1 J1 R T) _
                show Zs _ _ (am_P 186).2 (87, [(0, .ref 73)], [.int v]) (HH I1 J1 R T) _
                refine Z_rI rfl (by first | exact am_nw0 _ | exact am_nw01 | rfl | assumption) ?_
                exact ⟨I1, J1, rfl, hq⟩
              · rw [if_neg hH]
                have e : wcode tx s (tE tx c s) = 0 ∨ (7 ≤ wcode tx s (tE tx c s) ∧ wcode tx s (tE tx c s) ≤ 11) := by
                  unfold wcode
                  rw [if_neg hF, if_neg hP, if_neg hV, if_neg hW, if_neg hH, if_neg hKk]
                  split
                  · omega
                  · split
                    · omega
                    · split
                      · omega
                      · split
                        · omega
                        · split
                          · omega
                          · omega
                refine Z_jump 4 rfl ?_
                refine Z_bd (fun c6 => ?_) (fun c6 => absurd (h16) c6)
                refine Z_jump 2 rfl ?_
                show Zs _ _ (am_P 186).2 (15, [(0, .ref 73)], [.int (I 73 19)]) (HH I J R T) _
                refine Z_tsO rfl (by rw [h19, nI_toInt (by omega)]; omega) ?_
                show Zs _ _ (am_P 186).2 (93, [(0, .ref 73)], []) (HH I J R T) _
                refine Z_jump 1 rfl ?_
                show Zs _ _ (am_P 186).2 (94, [(0, .ref 73)], [.int (0 : Int32)]) (HH I J R T) _
                refine Z_rI rfl (by first | exact am_nw0 _ | exact am_nw01 | rfl | assumption) ?_
                exact ⟨I, J, rfl, UM_0 I J, rfl, hs, rfl, h15⟩
  · obtain ⟨n1, n2, n3, n4, n5, n6⟩ := noW hw
    have ef : fClause tx c s D = .inl s := by
      unfold fClause
      rw [if_neg n1, if_neg n2, if_neg n3, if_neg n4, if_neg n5, if_neg n6]
    rw [ef]
    refine Z_jump 4 rfl ?_
    refine Z_bd (fun c6 => absurd c6 ((fun z => hw ((RD_w hM.2.2.2 hK).mp z)))) (fun c6 => ?_)
    refine Z_jump 1 rfl ?_
    show Zs _ _ (am_P 186).2 (10, [(0, .ref 73)], [.int (0 : Int32)]) (HH I J R T) _
    refine Z_rI rfl (by first | exact am_nw0 _ | exact am_nw01 | rfl | assumption) ?_
    exact ⟨I, J, rfl, UM_0 I J, rfl, hs, rfl, h15⟩
/-- the end of readsFrame() -/
def MFq (tx : Nat → Nat) (c : Nat) (res : Nat ⊕ (Nat × FD)) (I : hI) (J : hJ) (R : hR) (T : am_H) (r : Option Value) (h : am_H) : Prop := ∃ I' J', h = HH I' J' R T ∧ UM I J I' J' ∧ (match res with
  | .inl p => p ≤ c ∧ r = some (.int 0) ∧ I' 73 15 = nI p
  | .inr (n, D') => n ≤ 12 ∧ r = some (.int 1) ∧ I' 73 22 = nI n ∧ DM 20 21 85 D' I')
theorem m_rf_l : ∀ (k n i : Nat) (I : hI) (J : hJ) (D : FD), n + (k + 1) = 12 → i ≤ c → MT tx c I → I 73 14 = nI i → I 73 22 = nI n → DM 20 21 85 D I → Zs sc (d + 7) (am_P 187).2 (92, [(0, .ref 73), (1, .int 1)], []) (HH I J R T) (MFq tx c (fRead tx c (k + 1) n (tS tx c i) D) I J R T)
  | k, n, i, I, J, D, hn, hi, hM, h14, h22, hD => by
    have hs := tS_c (tx := tx) hi
    refine Z_jump 3 rfl ?_
    show Zs _ _ (am_P 187).2 (97, [(0, .ref 73), (1, .int (1 : Int32))], [.ref 73]) (HH I J R T) _
    refine Z_cQ rfl rfl rfl (Ze_deep (d := 4) (by omega) (m_reads (d := 0) hM h14 hi)) (fun v h1 hq => ?_)
    obtain ⟨rfl, I1, J1, rfl, u1, g15, g14, gK⟩ := hq
    show Zs _ _ (am_P 187).2 (100, [(0, .ref 73), (1, .int (1 : Int32))], []) (HH I1 J1 R T) _
    refine Z_jump 1 rfl ?_
    show Zs _ _ (am_P 187).2 (101, [(0, .ref 73), (1, .int (1 : Int32))], [.ref 73]) (HH I1 J1 R T) _
    refine Z_cQ rfl rfl rfl (m_readsClause (MT_R hM u1) hs gK g14 g15 (DM_R hD u1 (by decide) (by decide) (by decide))) (fun v h1 hq => ?_)
    obtain ⟨I2, J2, rfl, u2, c22, hq⟩ := hq
    have U2 : UM I J I2 J2 := UM_t (UM_R u1) u2
    rcases hf : fClause tx c (tS tx c i) D with p | ⟨e, D'⟩
    · rw [hf] at hq
      rw [fRead_l hf]
      obtain ⟨q1, rfl, q3⟩ := hq
      refine Z_jump 2 rfl ?_
      exact Z_rI rfl rfl ⟨I2, J2, rfl, U2, q1, rfl, q3⟩
    rw [hf] at hq
    rw [fRead_r hf]
    obtain ⟨he, rfl, q14, qD⟩ := hq
    have hs2 := tS_c (tx := tx) he
    have n22 : I2 73 22 = nI n := c22.trans ((u1.2.1 22 (by decide) (by decide) (by decide) (by decide) (by decide)).trans h22)
    have n23 : I2 73 22 + 1 = nI (n + 1) := by rw [n22]; exact nI_1 n
    refine Z_jump 7 rfl ?_
    show Zs _ _ (am_P 187).2 (119, [(0, .ref 73), (1, .int (1 : Int32))], []) (HH (sf I2 73 22 ((I2 73 22) + (1 : Int32))) J2 R T) _
    refine Z_jump 1 rfl ?_
    show Zs _ _ (am_P 187).2 (120, [(0, .ref 73), (1, .int (1 : Int32))], [.ref 73]) (HH (sf I2 73 22 ((I2 73 22) + (1 : Int32))) J2 R T) _
    refine Z_cQ rfl rfl rfl (Ze_deep (d := 4) (by omega) (m_reads (d := 0) (i := e) (I := (sf I2 73 22 ((I2 73 22) + (1 : Int32)))) (MT_of (MT_M hM U2) rfl rfl) q14 he)) (fun v h1 hq => ?_)
    obtain ⟨rfl, I3, J3, rfl, u3, t15, t14, tK⟩ := hq
    have U3 : UM I J I3 J3 := UM_t (UM_t U2 (UM_f (by omega))) (UM_R u3)
    have m22 : I3 73 22 = nI (n + 1) := (u3.2.1 22 (by decide) (by decide) (by decide) (by decide) (by decide)).trans n23
    have D3 : DM 20 21 85 D' I3 := DM_R (I := sf I2 73 22 (I2 73 22 + 1)) qD u3 (by decide) (by decide) (by decide)
    have k59 := RD_c (t := 59) hM.2.2.2 tK (by omega) (by omega) (by omega)
    have kend := RD_e hM.2.2.2 tK
    show Zs _ _ (am_P 187).2 (123, [(0, .ref 73), (1, .int (1 : Int32))], []) (HH I3 J3 R T) _
    refine Z_jump 4 rfl ?_
    refine Z_bn (fun (c129 : ¬ ((I3 73 16) = (59 : Int32))) => ?_) (fun (c129 : (I3 73 16) = (59 : Int32)) => ?_)
    · refine Z_jump 6 rfl ?_
      show Zs _ _ (am_P 187).2 (151, [(0, .ref 73), (1, .int (0 : Int32))], [.ref 73]) (HH I3 J3 R T) _
      have hno : tS tx c e = c ∨ ¬ (tx (tS tx c e) = 59 ∧ n + 1 < 12) := by first | (rw [m22] at c138; have := (nI_leI (a := 12) (by omega) (by omega)).mp c138; exact Or.inr (fun z => by omega)) | (by_cases z : tS tx c e = c; exact Or.inl z; exact Or.inr (fun y => c129 (k59.mpr ⟨by omega, y.1⟩)))
      refine Z_jump 3 rfl ?_
      refine Z_bn (fun (c155 : ¬ ((I3 73 16) = (-1 : Int32))) => ?_) (fun (c155 : (I3 73 16) = (-1 : Int32)) => ?_)
      · refine Z_jump 1 rfl ?_
        show Zs _ _ (am_P 187).2 (163, [(0, .ref 73), (1, .int (0 : Int32))], [.int (0 : Int32)]) (HH I3 J3 R T) _
        refine Z_rI rfl (by first | exact am_nw0 _ | exact am_nw01 | rfl | assumption) ?_
        first
          | (rw [if_pos (show tS tx c e = c by have := kend.mp c155; omega)]; exact ⟨I3, J3, rfl, U3, by omega, rfl, m22, D3⟩)
          | (have hlt : tS tx c e < c := Classical.byContradiction (fun z => c155 (kend.mpr z)); rw [if_neg (by omega), if_neg (hno.elim (fun z => absurd z (by omega)) id)]; exact ⟨I3, J3, rfl, U3, hs2, rfl, t15⟩)
      · refine Z_jump 2 rfl ?_
        show Zs _ _ (am_P 187).2 (163, [(0, .ref 73), (1, .int (0 : Int32))], [.int (1 : Int32)]) (HH I3 J3 R T) _
        refine Z_rI rfl (by first | exact am_nw0 _ | exact am_nw01 | rfl | assumption) ?_
        first
          | (rw [if_pos (show tS tx c e = c by have := kend.mp c155; omega)]; exact ⟨I3, J3, rfl, U3, by omega, rfl, m22, D3⟩)
          | (have hlt : tS tx c e < c := Classical.byContradiction (fun z => c155 (kend.mpr z)); rw [if_neg (by omega), if_neg (hno.elim (fun z => absurd z (by omega)) id)]; exact ⟨I3, J3, rfl, U3, hs2, rfl, t15⟩)
    · refine Z_jump 4 rfl ?_
      refine Z_bd (fun (c138 : (12 : Int32) ≤ (I3 73 22)) => ?_) (fun (c138 : ¬ ((12 : Int32) ≤ (I3 73 22))) => ?_)
      · refine Z_jump 6 rfl ?_
        show Zs _ _ (am_P 187).2 (151, [(0, .ref 73), (1, .int (0 : Int32))], [.ref 73]) (HH I3 J3 R T) _
        have hno : tS tx c e = c ∨ ¬ (tx (tS tx c e) = 59 ∧ n + 1 < 12) := by first | (rw [m22] at c138; have := (nI_leI (a := 12) (by omega) (by omega)).mp c138; exact Or.inr (fun z => by omega)) | (by_cases z : tS tx c e = c; exact Or.inl z; exact Or.inr (fun y => c129 (k59.mpr ⟨by omega, y.1⟩)))
        refine Z_jump 3 rfl ?_
        refine Z_bn (fun (c155 : ¬ ((I3 73 16) = (-1 : Int32))) => ?_) (fun (c155 : (I3 73 16) = (-1 : Int32)) => ?_)
        · refine Z_jump 1 rfl ?_
          show Zs _ _ (am_P 187).2 (163, [(0, .ref 73), (1, .int (0 : Int32))], [.int (0 : Int32)]) (HH I3 J3 R T) _
          refine Z_rI rfl (by first | exact am_nw0 _ | exact am_nw01 | rfl | assumption) ?_
          first
            | (rw [if_pos (show tS tx c e = c by have := kend.mp c155; omega)]; exact ⟨I3, J3, rfl, U3, by omega, rfl, m22, D3⟩)
            | (have hlt : tS tx c e < c := Classical.byContradiction (fun z => c155 (kend.mpr z)); rw [if_neg (by omega), if_neg (hno.elim (fun z => absurd z (by omega)) id)]; exact ⟨I3, J3, rfl, U3, hs2, rfl, t15⟩)
        · refine Z_jump 2 rfl ?_
          show Zs _ _ (am_P 187).2 (163, [(0, .ref 73), (1, .int (0 : Int32))], [.int (1 : Int32)]) (HH I3 J3 R T) _
          refine Z_rI rfl (by first | exact am_nw0 _ | exact am_nw01 | rfl | assumption) ?_
          first
            | (rw [if_pos (show tS tx c e = c by have := kend.mp c155; omega)]; exact ⟨I3, J3, rfl, U3, by omega, rfl, m22, D3⟩)
            | (have hlt : tS tx c e < c := Classical.byContradiction (fun z => c155 (kend.mpr z)); rw [if_neg (by omega), if_neg (hno.elim (fun z => absurd z (by omega)) id)]; exact ⟨I3, J3, rfl, U3, hs2, rfl, t15⟩)
      · refine Z_jump 4 rfl ?_
        show Zs _ _ (am_P 187).2 (92, [(0, .ref 73), (1, .int (1 : Int32))], []) (HH I3 J3 R T) _
        have h12 : n + 1 < 12 := by rw [m22] at c138; have := mt (nI_leI (a := 12) (by omega) (by omega)).mpr c138; omega
        have h9 := k59.mp c129
        rw [if_neg (by omega), if_pos ⟨h9.2, h12⟩]
        obtain ⟨k', rfl⟩ : ∃ k', k = k' + 1 := ⟨k - 1, by omega⟩
        refine Zs_mono (m_rf_l k' (n + 1) (tE tx c (tS tx c e)) I3 J3 D' (by omega) (tE_c hs2).2 (MT_M hM U3) t14 m22 D3) (fun r h' q => ?_)
        obtain ⟨I4, J4, rfl, u4, hq⟩ := q
        exact ⟨I4, J4, rfl, UM_t U3 u4, hq⟩
end MF2

