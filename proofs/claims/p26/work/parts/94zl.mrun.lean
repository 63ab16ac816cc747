/-! The reference: run. -/
/-- what may change while sums are done -/
def UW (I : hI) (J : hJ) (I' : hI) (J' : hJ) : Prop := (∀ a, a ≠ 73 → a ≠ 78 → a ≠ 82 → a ≠ 83 → a ≠ 91 → a ≠ 92 → I' a = I a) ∧ (∀ k, k ≠ 14 → k ≠ 15 → k ≠ 16 → k ≠ 17 → k ≠ 19 → k ≠ 22 → k ≠ 27 → k ≠ 28 → k ≠ 29 → I' 73 k = I 73 k) ∧ (BR 78 I → BR 78 I')
theorem UW_0 (I : hI) (J : hJ) : UW I J I J := ⟨fun _ _ _ _ _ _ _ => rfl, fun _ _ _ _ _ _ _ _ _ _ => rfl, id⟩
theorem UW_t {I I1 I2 : hI} {J J1 J2 : hJ} (h : UW I J I1 J1) (g : UW I1 J1 I2 J2) : UW I J I2 J2 := ⟨fun a a1 a2 a3 a4 a5 a6 => (g.1 a a1 a2 a3 a4 a5 a6).trans (h.1 a a1 a2 a3 a4 a5 a6), fun k a1 a2 a3 a4 a5 a6 a7 a8 a9 => (g.2.1 k a1 a2 a3 a4 a5 a6 a7 a8 a9).trans (h.2.1 k a1 a2 a3 a4 a5 a6 a7 a8 a9), fun h0 => g.2.2 (h.2.2 h0)⟩
theorem UW_C {I I' : hI} {J J' : hJ} (h : UC I J I' J') : UW I J I' J' := ⟨fun a a1 _ _ _ a5 a6 => h.1 a a1 a5 a6, h.2.1, fun h0 => BR_of h0 (h.1 _ (by decide) (by decide) (by decide))⟩
theorem UW_E {I I' : hI} {J J' : hJ} (h : UE I J I' J') : UW I J I' J' := UW_C (UC_E h)
theorem UW_R {I I' : hI} {J J' : hJ} (h : UR I J I' J') : UW I J I' J' := UW_E (UE_R h)
theorem UW_f {I : hI} {J : hJ} {k : Nat} {v : Int32} (hk : k = 14 ∨ k = 22 ∨ k = 27 ∨ k = 28) : UW I J (sf I 73 k v) J := UW_C (UC_f hk)
theorem MT_W {tx : Nat → Nat} {c : Nat} {I I' : hI} {J J' : hJ} (hM : MT tx c I) (h : UW I J I' J') : MT tx c I' := MT_of hM (h.2.1 12 (by decide) (by decide) (by decide) (by decide) (by decide) (by decide) (by decide) (by decide) (by decide)) (h.1 84 (by decide) (by decide) (by decide) (by decide) (by decide) (by decide))
theorem DM_W {D : FD} {I I' : hI} {J J' : hJ} (hD : DMf D I) (h : UW I J I' J') : DMf D I' := by
  have e : ∀ a, a ≠ 73 → a < 78 → I' a = I a := fun a h0 h5 => h.1 a h0 (by omega) (by omega) (by omega) (by omega) (by omega)
  refine ⟨?_, hD.2.1, ?_, fun k hk => ?_⟩
  · rw [h.2.1 0 (by decide) (by decide) (by decide) (by decide) (by decide) (by decide) (by decide) (by decide) (by decide)]; exact hD.1
  · rw [h.2.1 7 (by decide) (by decide) (by decide) (by decide) (by decide) (by decide) (by decide) (by decide) (by decide)]; exact hD.2.2.1
  · have q := hD.2.2.2 k hk
    exact ⟨q.1, by rw [e _ (by decide) (by decide)]; exact q.2.1, (congrFun (e _ (by decide) (by decide)) k).trans q.2.2.1, (congrFun (e _ (by decide) (by decide)) k).trans q.2.2.2.1, (congrFun (e _ (by decide) (by decide)) k).trans q.2.2.2.2⟩
section MRN
variable {sc : Nat × (Nat → Int32)} {d : Nat} {I : hI} {J : hJ} {R : hR} {T : am_H} {Q : Option Value → am_H → Prop} {tx : Nat → Nat} {c : Nat}
def YQ (tx : Nat → Nat) (c : Nat) (q : Nat) (I0 : hI) (J0 : hJ) (R : hR) (T : am_H) (r : Option Value) (h : am_H) : Prop := ∃ I J, h = HH I J R T ∧ UW I0 J0 I J ∧ TB I ∧ I 73 27 = I0 73 27 ∧ I 73 22 = I0 73 22 ∧ r = some (.int 1) ∧ TK tx c q I J
theorem UW_se {D : FD} {to : Int64} (hD : DMf D I) : UW I J (seF I J D 78 to).2.1 (seF I J D 78 to).2.2 := ⟨fun a _ a2 a3 a4 _ _ => seF_c a3 a4 a2, fun k _ _ _ _ _ _ _ _ _ => congrFun (seF_c (by decide) (by decide) (by decide)) k, fun h => seF_BR (Or.inl rfl) hD h⟩
theorem UW_ca {D : FD} {r : Nat} : UW I J (caF I D 78 r).2 J := ⟨fun a _ a2 _ _ _ _ => caF_c a2, fun k _ _ _ _ _ _ _ _ _ => congrFun (caF_c (by decide)) k, fun h => caF_BR h⟩
theorem UW_cl {n : Nat} (hn : n ≤ 6) : UW I J (clF I 78 n) J := ⟨fun a _ a2 _ _ _ _ => clF_c a2, fun k _ _ _ _ _ _ _ _ _ => congrFun (clF_c (by decide)) k, fun h => clF_BR hn h⟩
theorem TK_w {s : Nat} {I' : hI} {J' : hJ} (h : TK tx c s I J) (e : I' 73 = I 73) (eJ : J' 73 = J 73) : TK tx c s I' J' := TK_m h (congrFun e _) (congrFun e _) (congrFun e _) (congrFun e _) (congrFun e _) eJ
/-- readsStatement() while it is done -/
theorem m_rsD {D : FD} {s q : Nat} (hM : MT tx c I) (hD : DMf D I) (hd : I 73 27 = 1) (ht0 : I 73 28 = 0) (hT : TK tx c s I J) (hq : sP tx c D.1 s = .inr q) : Ze sc (d + 8) 195 [.ref 73, .ref 78] (HH I J R T) (YQ tx c q I J R T) := by
  refine Ze_of (Nat.le_of_ble_eq_true rfl) ?_
  obtain ⟨hs, h15, h14, hK⟩ := id hT
  have hn := hD.1
  have hn6 := hD.2.1
  have h255 := hM.2.2.2
  have hE := tE_c (tx := tx) hs
  have hw2 := RD_w h255 hK
  have hB0 : TB I := ⟨Or.inl ht0, fun _ => ht0⟩
  by_cases hw : s < c ∧ pL (tx s)
  · have h16 := hw2.mpr hw
    have h19 := (hK.2.1 hw.1 hw.2).2
    unfold sP at hq
    have ex : ∀ (w : Int32), (w = 7 ∨ w = 8 ∨ w = 9) → ss tx c 500 1 (nx tx c s) 0 = .inr q → Zs sc (d + 7) (am_P 195).2 (36, [(0, .ref 73), (1, .ref 78), (2, .int w)], []) (HH I J R T) (YQ tx c q I J R T) := fun w hw hf => by
      refine Z_jump 2 rfl ?_
      show Zs _ _ (am_P 195).2 (38, [(0, .ref 73), (1, .ref 78), (2, .int w)], [.ref 78, .ref 73]) (HH I J R T) _
      refine Z_c1 rfl rfl rfl (m_numberOf (d := d + 3) (Or.inl rfl) hn hn6) ?_
      show Zs _ _ (am_P 195).2 (41, [(0, .ref 73), (1, .ref 78), (2, .int w)], [.long (M_nl I 78 D.1 0)]) (HH I J R T) _
      refine Z_jump 3 rfl ?_
      show Zs _ _ (am_P 195).2 (44, [(0, .ref 73), (1, .ref 78), (2, .int w), (3, .long (M_nl I 78 D.1 0))], [.ref 78, .ref 73]) (HH I J R T) _
      refine Z_cQ rfl rfl rfl (Ze_deep (d := d + 5) (by omega) (m_readsExpr (d := d) hM (Or.inl rfl) hn hn6 h14 hE.2 hB0)) (fun v h1 hq => ?_)
      obtain ⟨I1, J1, rfl, u1, t1, hq⟩ := hq
      have hd1 : I1 73 27 = 1 := (u1.2.1 27 (by decide) (by decide) (by decide) (by decide) (by decide) (by decide) (by decide)).trans hd
      have h22 : I1 73 22 = I 73 22 := u1.2.1 22 (by decide) (by decide) (by decide) (by decide) (by decide) (by decide) (by decide)
      rw [hf] at hq
      obtain ⟨rfl, q3⟩ := hq
      have hDk : DMf D I1 := DM_W hD (UW_E u1)
      by_cases ht : I1 73 28 = 0
      · have F : ∀ (to : Int64), Zs sc (d + 7) (am_P 195).2 (103, [(0, .ref 73), (1, .ref 78), (2, .int w), (3, .long (M_nl I 78 D.1 0))], [.long to, .ref 78, .ref 73, .ref 73]) (HH I1 J1 R T) (YQ tx c q I J R T) := fun to => by
          have hE1 := m_sets5 (sc := sc) (d := d) (R := R) (T := T) (J := J1) (to := to) hDk
          have hu := UW_se (J := J1) (to := to) hDk
          have k0 : (seF I1 J1 D 78 to).2.1 73 = I1 73 := seF_c (by decide) (by decide) (by decide)
          have kJ : (seF I1 J1 D 78 to).2.2 73 = J1 73 := seF_J (by decide) (by decide)
          generalize seF I1 J1 D 78 to = w1 at hE1 hu k0 kJ
          show Zs _ _ (am_P 195).2 (103, [(0, .ref 73), (1, .ref 78), (2, .int w), (3, .long (M_nl I 78 D.1 0))], [.long to, .ref 78, .ref 73, .ref 73]) (HH I1 J1 R T) _
          refine Z_c1 rfl rfl rfl (hE1) ?_
          show Zs _ _ (am_P 195).2 (106, [(0, .ref 73), (1, .ref 78), (2, .int w), (3, .long (M_nl I 78 D.1 0))], [.int w1.1, .ref 73]) (HH w1.2.1 w1.2.2 R T) _
          refine Z_jump 1 rfl ?_
          refine Z_bd (fun (c106 : (0 : Int32) ≤ w1.1) => ?_) (fun (c106 : ¬ ((0 : Int32) ≤ w1.1)) => ?_)
          · refine Z_jump 2 rfl ?_
            show Zs _ _ (am_P 195).2 (117, [(0, .ref 73), (1, .ref 78), (2, .int w), (3, .long (M_nl I 78 D.1 0))], []) (HH (sf w1.2.1 73 28 (0 : Int32)) w1.2.2 R T) _
            refine Z_jump 1 rfl ?_
            show Zs _ _ (am_P 195).2 (118, [(0, .ref 73), (1, .ref 78), (2, .int w), (3, .long (M_nl I 78 D.1 0))], [.int (1 : Int32)]) (HH (sf w1.2.1 73 28 (0 : Int32)) w1.2.2 R T) _
            refine Z_rI rfl (by first | exact am_nw0 _ | exact am_nw01 | rfl | assumption) ?_
            have t27 : ∀ y, sf w1.2.1 73 28 y 73 27 = 1 := fun y => by rw [sf_k (by decide), k0]; exact hd1
            refine ⟨_, _, rfl, UW_t (UW_E u1) (UW_t hu (UW_f (by omega))), ⟨by rw [sf_s]; decide, fun z => ?_⟩, (t27 _).trans hd.symm, by rw [sf_k (by decide), k0]; exact h22, rfl, TK_m q3 (by rw [sf_k (by decide), k0]) (by rw [sf_k (by decide), k0]) (by rw [sf_k (by decide), k0]) (by rw [sf_k (by decide), k0]) (by rw [sf_k (by decide), k0]) kJ⟩
            rw [t27] at z; exact absurd z (by decide)
          · refine Z_jump 3 rfl ?_
            show Zs _ _ (am_P 195).2 (117, [(0, .ref 73), (1, .ref 78), (2, .int w), (3, .long (M_nl I 78 D.1 0))], []) (HH (sf w1.2.1 73 28 (1 : Int32)) w1.2.2 R T) _
            refine Z_jump 1 rfl ?_
            show Zs _ _ (am_P 195).2 (118, [(0, .ref 73), (1, .ref 78), (2, .int w), (3, .long (M_nl I 78 D.1 0))], [.int (1 : Int32)]) (HH (sf w1.2.1 73 28 (1 : Int32)) w1.2.2 R T) _
            refine Z_rI rfl (by first | exact am_nw0 _ | exact am_nw01 | rfl | assumption) ?_
            have t27 : ∀ y, sf w1.2.1 73 28 y 73 27 = 1 := fun y => by rw [sf_k (by decide), k0]; exact hd1
            refine ⟨_, _, rfl, UW_t (UW_E u1) (UW_t hu (UW_f (by omega))), ⟨by rw [sf_s]; decide, fun z => ?_⟩, (t27 _).trans hd.symm, by rw [sf_k (by decide), k0]; exact h22, rfl, TK_m q3 (by rw [sf_k (by decide), k0]) (by rw [sf_k (by decide), k0]) (by rw [sf_k (by decide), k0]) (by rw [sf_k (by decide), k0]) (by rw [sf_k (by decide), k0]) kJ⟩
            rw [t27] at z; exact absurd z (by decide)
        rcases hw with rfl | rfl | rfl
        · refine Z_jump 4 rfl ?_
          refine Z_bd (fun c56 => absurd c56 ((show ¬ I1 73 27 = 0 by rw [hd1]; decide))) (fun c56 => ?_)
          refine Z_jump 3 rfl ?_
          refine Z_bn (fun c63 => absurd (ht) c63) (fun c63 => ?_)
          refine Z_jump 9 rfl ?_
          show Zs _ _ (am_P 195).2 (103, [(0, .ref 73), (1, .ref 78), (2, .int (7 : Int32)), (3, .long (M_nl I 78 D.1 0))], [.long (J1 73 34), .ref 78, .ref 73, .ref 73]) (HH I1 J1 R T) _
          exact F _
        · refine Z_jump 4 rfl ?_
          refine Z_bd (fun c56 => absurd c56 ((show ¬ I1 73 27 = 0 by rw [hd1]; decide))) (fun c56 => ?_)
          refine Z_jump 3 rfl ?_
          refine Z_bn (fun c63 => absurd (ht) c63) (fun c63 => ?_)
          refine Z_jump 14 rfl ?_
          show Zs _ _ (am_P 195).2 (103, [(0, .ref 73), (1, .ref 78), (2, .int (8 : Int32)), (3, .long (M_nl I 78 D.1 0))], [.long ((M_nl I 78 D.1 0) + (J1 73 34)), .ref 78, .ref 73, .ref 73]) (HH I1 J1 R T) _
          exact F _
        · refine Z_jump 4 rfl ?_
          refine Z_bd (fun c56 => absurd c56 ((show ¬ I1 73 27 = 0 by rw [hd1]; decide))) (fun c56 => ?_)
          refine Z_jump 3 rfl ?_
          refine Z_bn (fun c63 => absurd (ht) c63) (fun c63 => ?_)
          refine Z_jump 13 rfl ?_
          show Zs _ _ (am_P 195).2 (103, [(0, .ref 73), (1, .ref 78), (2, .int (9 : Int32)), (3, .long (M_nl I 78 D.1 0))], [.long ((M_nl I 78 D.1 0) - (J1 73 34)), .ref 78, .ref 73, .ref 73]) (HH I1 J1 R T) _
          exact F _
      · refine Z_jump 4 rfl ?_
        refine Z_bd (fun c56 => absurd c56 ((show ¬ I1 73 27 = 0 by rw [hd1]; decide))) (fun c56 => ?_)
        refine Z_jump 3 rfl ?_
        refine Z_bn (fun c63 => ?_) (fun c63 => absurd c63 (ht))
        refine Z_jump 1 rfl ?_
        show Zs _ _ (am_P 195).2 (118, [(0, .ref 73), (1, .ref 78), (2, .int w), (3, .long (M_nl I 78 D.1 0))], [.int (1 : Int32)]) (HH I1 J1 R T) _
        refine Z_rI rfl (by first | exact am_nw0 _ | exact am_nw01 | rfl | assumption) ?_
        exact ⟨I1, J1, rfl, UW_E u1, t1, hd1.trans hd.symm, h22, rfl, q3⟩
    by_cases hS : wS tx s (tE tx c s)
    · rw [if_pos hS] at hq
      rw [wc_wS hS] at h19
      refine Z_jump 4 rfl ?_
      refine Z_bn (fun c6 => absurd (h16) c6) (fun c6 => ?_)
      refine Z_jump 2 rfl ?_
      show Zs _ _ (am_P 195).2 (13, [(0, .ref 73), (1, .ref 78)], [.int (I 73 19)]) (HH I J R T) _
      refine Z_eqI (y := (7 : Int32)) (h19) ?_
      show Zs _ _ (am_P 195).2 (13, [(0, .ref 73), (1, .ref 78)], [.int (7 : Int32)]) (HH I J R T) _
      refine Z_jump 5 rfl ?_
      show Zs _ _ (am_P 195).2 (36, [(0, .ref 73), (1, .ref 78), (2, .int (7 : Int32))], []) (HH I J R T) _
      exact ex _ (by decide) hq
    · rw [if_neg hS] at hq
      by_cases hA : wA tx s (tE tx c s)
      · rw [if_pos hA] at hq
        rw [wc_wA hA] at h19
        refine Z_jump 4 rfl ?_
        refine Z_bn (fun c6 => absurd (h16) c6) (fun c6 => ?_)
        refine Z_jump 2 rfl ?_
        show Zs _ _ (am_P 195).2 (13, [(0, .ref 73), (1, .ref 78)], [.int (I 73 19)]) (HH I J R T) _
        refine Z_eqI (y := (8 : Int32)) (h19) ?_
        show Zs _ _ (am_P 195).2 (13, [(0, .ref 73), (1, .ref 78)], [.int (8 : Int32)]) (HH I J R T) _
        refine Z_jump 8 rfl ?_
        show Zs _ _ (am_P 195).2 (36, [(0, .ref 73), (1, .ref 78), (2, .int (8 : Int32))], []) (HH I J R T) _
        exact ex _ (by decide) hq
      · rw [if_neg hA] at hq
        by_cases hB : wB tx s (tE tx c s)
        · rw [if_pos hB] at hq
          rw [wc_wB hB] at h19
          refine Z_jump 4 rfl ?_
          refine Z_bn (fun c6 => absurd (h16) c6) (fun c6 => ?_)
          refine Z_jump 2 rfl ?_
          show Zs _ _ (am_P 195).2 (13, [(0, .ref 73), (1, .ref 78)], [.int (I 73 19)]) (HH I J R T) _
          refine Z_eqI (y := (9 : Int32)) (h19) ?_
          show Zs _ _ (am_P 195).2 (13, [(0, .ref 73), (1, .ref 78)], [.int (9 : Int32)]) (HH I J R T) _
          refine Z_jump 11 rfl ?_
          show Zs _ _ (am_P 195).2 (36, [(0, .ref 73), (1, .ref 78), (2, .int (9 : Int32))], []) (HH I J R T) _
          exact ex _ (by decide) hq
        · rw [if_neg hB] at hq
          by_cases hC : wC tx s (tE tx c s)
          · rw [if_pos hC] at hq
            rw [wc_wC hC] at h19
            cases hq
            have k0 : clF I 78 D.1 73 = I 73 := clF_c (by decide)
            have hM1 : MT tx c (clF I 78 D.1) := MT_W (J := J) (J' := J) hM (UW_cl hn6)
            refine Z_jump 4 rfl ?_
            refine Z_bn (fun c6 => absurd (h16) c6) (fun c6 => ?_)
            refine Z_jump 2 rfl ?_
            show Zs _ _ (am_P 195).2 (13, [(0, .ref 73), (1, .ref 78)], [.int (I 73 19)]) (HH I J R T) _
            refine Z_eqI (y := (10 : Int32)) (h19) ?_
            show Zs _ _ (am_P 195).2 (13, [(0, .ref 73), (1, .ref 78)], [.int (10 : Int32)]) (HH I J R T) _
            refine Z_jump 17 rfl ?_
            refine Z_bd (fun c129 => absurd c129 ((show ¬ I 73 27 = 0 by rw [hd]; decide))) (fun c129 => ?_)
            refine Z_jump 2 rfl ?_
            show Zs _ _ (am_P 195).2 (134, [(0, .ref 73), (1, .ref 78), (2, .int (10 : Int32))], [.ref 78, .ref 73]) (HH I J R T) _
            refine Z_c0 rfl rfl rfl (m_clears5 hD) ?_
            show Zs _ _ (am_P 195).2 (137, [(0, .ref 73), (1, .ref 78), (2, .int (10 : Int32))], []) (HH (clF I 78 D.1) J R T) _
            refine Z_jump 1 rfl ?_
            show Zs _ _ (am_P 195).2 (138, [(0, .ref 73), (1, .ref 78), (2, .int (10 : Int32))], [.ref 73]) (HH (clF I 78 D.1) J R T) _
            refine Z_cQ rfl rfl rfl (m_reads (d := d + 3) hM1 ((congrFun k0 _).trans h14) hE.2) (fun v h1 hq => ?_)
            obtain ⟨rfl, I3, J3, rfl, u3, t15, t14, tK⟩ := hq
            show Zs _ _ (am_P 195).2 (141, [(0, .ref 73), (1, .ref 78), (2, .int (10 : Int32))], []) (HH I3 J3 R T) _
            refine Z_jump 1 rfl ?_
            show Zs _ _ (am_P 195).2 (142, [(0, .ref 73), (1, .ref 78), (2, .int (10 : Int32))], [.int (1 : Int32)]) (HH I3 J3 R T) _
            refine Z_rI rfl (by first | exact am_nw0 _ | exact am_nw01 | rfl | assumption) ?_
            have e27 : I3 73 27 = I 73 27 := (u3.2.1 27 (by decide) (by decide) (by decide) (by decide) (by decide)).trans (congrFun k0 _)
            exact ⟨I3, J3, rfl, UW_t (UW_cl (J := J) hn6) (UW_R u3), TB_R (I := clF I 78 D.1) ⟨by rw [k0]; exact Or.inl ht0, fun _ => by rw [k0]; exact ht0⟩ u3, e27, (u3.2.1 22 (by decide) (by decide) (by decide) (by decide) (by decide)).trans (congrFun k0 _), rfl, tS_c hE.2, t15, t14, tK⟩
          · rw [if_neg hC] at hq
            by_cases hY : wY tx s (tE tx c s)
            · rw [if_pos hY] at hq
              rw [wc_wY hY] at h19
              refine Z_jump 4 rfl ?_
              refine Z_bn (fun c6 => absurd (h16) c6) (fun c6 => ?_)
              refine Z_jump 2 rfl ?_
              show Zs _ _ (am_P 195).2 (13, [(0, .ref 73), (1, .ref 78)], [.int (I 73 19)]) (HH I J R T) _
              refine Z_eqI (y := (11 : Int32)) (h19) ?_
              show Zs _ _ (am_P 195).2 (13, [(0, .ref 73), (1, .ref 78)], [.int (11 : Int32)]) (HH I J R T) _
              refine Z_jump 23 rfl ?_
              show Zs _ _ (am_P 195).2 (157, [(0, .ref 73), (1, .ref 78), (2, .int (11 : Int32))], [.int ((I 73 0) - (1 : Int32)), .int (0 : Int32), .ref 73]) (HH I J R T) _
              refine Z_cQ rfl rfl rfl (Ze_deep (d := d + 5) (by omega) (m_numberedI (d := d) (tx := tx) (c := c) hM h14 hE.2 (show (0 : Int32).toInt = 0 from rfl) (show (I 73 0 - 1).toInt = (D.1 : Int) - 1 by rw [hn]; exact nIm1 hn6))) (fun v h1 hr => ?_)
              obtain ⟨I1, J1, rfl, u1, g15, g14, hr⟩ := hr
              have b1 := tS_c (tx := tx) hE.2
              have b1' := tE_c (tx := tx) b1
              have hd1 : I1 73 27 = 1 := (u1.2.1 27 (by decide) (by decide) (by decide) (by decide) (by decide)).trans hd
              have ht1 : I1 73 28 = 0 := (u1.2.1 28 (by decide) (by decide) (by decide) (by decide) (by decide)).trans ht0
              have h22 : I1 73 22 = I 73 22 := u1.2.1 22 (by decide) (by decide) (by decide) (by decide) (by decide)
              rcases hr with ⟨hT1, rfl, g18⟩ | ⟨hT1, rfl⟩
              · rw [if_pos hT1] at hq
                cases hq
                have hDk : DMf D I1 := DM_W hD (UW_R u1)
                have hkk : nv tx (tS tx c (tE tx c s)) (tE tx c (tS tx c (tE tx c s))) < D.1 := by have := hT1.2.2.2; omega
                have e18 : (J1 73 18).toInt32 = nI (nv tx (tS tx c (tE tx c s)) (tE tx c (tS tx c (tE tx c s)))) := by rw [g18]; exact lN_32 (by omega)
                have hE1 := m_carries5 (sc := sc) (d := d + 2) (R := R) (T := T) (J := J1) (x := nI (nv tx (tS tx c (tE tx c s)) (tE tx c (tS tx c (tE tx c s))))) hDk rfl hkk
                have hu := UW_ca (I := I1) (J := J1) (D := D) (r := nv tx (tS tx c (tE tx c s)) (tE tx c (tS tx c (tE tx c s))))
                have k0 : (caF I1 D 78 (nv tx (tS tx c (tE tx c s)) (tE tx c (tS tx c (tE tx c s))))).2 73 = I1 73 := caF_c (by decide)
                generalize caF I1 D 78 (nv tx (tS tx c (tE tx c s)) (tE tx c (tS tx c (tE tx c s)))) = w1 at hE1 hu k0
                have G : ∀ (y : Int32), (y = 0 ∨ y = 1) → Zs sc (d + 7) (am_P 195).2 (199, [(0, .ref 73), (1, .ref 78), (2, .int 11)], []) (HH (sf w1.2 73 28 y) J1 R T) (YQ tx c (nx tx c (nx tx c s)) I J R T) := fun y hy => by
                  have hM1 : MT tx c (sf w1.2 73 28 y) := MT_W (J := J1) (J' := J1) (MT_W (J := J1) (J' := J1) (MT_R hM u1) hu) (UW_f (by omega))
                  have e14 : sf w1.2 73 28 y 73 14 = nI (tE tx c (tS tx c (tE tx c s))) := by rw [sf_k (by decide), k0]; exact g14
                  refine Z_jump 1 rfl ?_
                  show Zs _ _ (am_P 195).2 (200, [(0, .ref 73), (1, .ref 78), (2, .int (11 : Int32))], [.ref 73]) (HH (sf w1.2 73 28 y) J1 R T) _
                  refine Z_cQ rfl rfl rfl (m_reads (d := d + 3) hM1 e14 b1'.2) (fun v h1 hq => ?_)
                  obtain ⟨rfl, I3, J3, rfl, u3, t15, t14, tK⟩ := hq
                  show Zs _ _ (am_P 195).2 (203, [(0, .ref 73), (1, .ref 78), (2, .int (11 : Int32))], []) (HH I3 J3 R T) _
                  refine Z_jump 1 rfl ?_
                  show Zs _ _ (am_P 195).2 (204, [(0, .ref 73), (1, .ref 78), (2, .int (11 : Int32))], [.int (1 : Int32)]) (HH I3 J3 R T) _
                  refine Z_rI rfl (by first | exact am_nw0 _ | exact am_nw01 | rfl | assumption) ?_
                  have e27 : I3 73 27 = I 73 27 := by rw [u3.2.1 27 (by decide) (by decide) (by decide) (by decide) (by decide), sf_k (by decide), k0, hd1, hd]
                  exact ⟨I3, J3, rfl, UW_t (UW_R u1) (UW_t hu (UW_t (UW_f (J := J1) (by omega)) (UW_R u3))), TB_R (I := sf w1.2 73 28 y) ⟨by rw [sf_s]; exact hy, fun z => by rw [sf_k (by decide), k0, hd1] at z; exact absurd z (by decide)⟩ u3, e27, by rw [u3.2.1 22 (by decide) (by decide) (by decide) (by decide) (by decide), sf_k (by decide), k0]; exact h22, rfl, tS_c b1'.2, t15, t14, tK⟩
                refine Z_jump 4 rfl ?_
                show Zs _ _ (am_P 195).2 (170, [(0, .ref 73), (1, .ref 78), (2, .int (11 : Int32))], [.int (I1 73 28), .ref 73]) (HH I1 J1 R T) _
                refine Z_eqI (y := (0 : Int32)) (ht1) ?_
                show Zs _ _ (am_P 195).2 (170, [(0, .ref 73), (1, .ref 78), (2, .int (11 : Int32))], [.int (0 : Int32), .ref 73]) (HH I1 J1 R T) _
                refine Z_jump 3 rfl ?_
                refine Z_bd (fun c174 => absurd c174 ((show ¬ I1 73 27 = 0 by rw [hd1]; decide))) (fun c174 => ?_)
                refine Z_jump 5 rfl ?_
                show Zs _ _ (am_P 195).2 (184, [(0, .ref 73), (1, .ref 78), (2, .int (11 : Int32))], [.int (Int64.toInt32 (J1 73 18)), .ref 78, .ref 73, .int (0 : Int32), .ref 73]) (HH I1 J1 R T) _
                refine Z_eqI (y := (nI (nv tx (tS tx c (tE tx c s)) (tE tx c (tS tx c (tE tx c s)))))) (e18) ?_
                show Zs _ _ (am_P 195).2 (184, [(0, .ref 73), (1, .ref 78), (2, .int (11 : Int32))], [.int (nI (nv tx (tS tx c (tE tx c s)) (tE tx c (tS tx c (tE tx c s))))), .ref 78, .ref 73, .int (0 : Int32), .ref 73]) (HH I1 J1 R T) _
                show Zs _ _ (am_P 195).2 (184, [(0, .ref 73), (1, .ref 78), (2, .int (11 : Int32))], [.int (nI (nv tx (tS tx c (tE tx c s)) (tE tx c (tS tx c (tE tx c s))))), .ref 78, .ref 73, .int (0 : Int32), .ref 73]) (HH I1 J1 R T) _
                refine Z_c1 rfl rfl rfl (hE1) ?_
                show Zs _ _ (am_P 195).2 (187, [(0, .ref 73), (1, .ref 78), (2, .int (11 : Int32))], [.int w1.1, .int (0 : Int32), .ref 73]) (HH w1.2 J1 R T) _
                refine Z_jump 1 rfl ?_
                refine Z_bd (fun (c187 : (0 : Int32) ≤ w1.1) => ?_) (fun (c187 : ¬ ((0 : Int32) ≤ w1.1)) => ?_)
                · refine Z_jump 3 rfl ?_
                  show Zs _ _ (am_P 195).2 (199, [(0, .ref 73), (1, .ref 78), (2, .int (11 : Int32))], []) (HH (sf w1.2 73 28 (0 : Int32)) J1 R T) _
                  show Zs _ _ (am_P 195).2 (199, [(0, .ref 73), (1, .ref 78), (2, .int (11 : Int32))], []) (HH (sf w1.2 73 28 (0 : Int32)) J1 R T) _
                  first | exact G 0 (Or.inl rfl) | exact G 1 (Or.inr rfl)
                · refine Z_jump 4 rfl ?_
                  show Zs _ _ (am_P 195).2 (199, [(0, .ref 73), (1, .ref 78), (2, .int (11 : Int32))], []) (HH (sf w1.2 73 28 (1 : Int32)) J1 R T) _
                  show Zs _ _ (am_P 195).2 (199, [(0, .ref 73), (1, .ref 78), (2, .int (11 : Int32))], []) (HH (sf w1.2 73 28 (1 : Int32)) J1 R T) _
                  first | exact G 0 (Or.inl rfl) | exact G 1 (Or.inr rfl)
              · rw [if_neg hT1] at hq
                cases hq
            · rw [if_neg hY] at hq
              cases hq
  · obtain ⟨n1, n2, n3, n4, n5⟩ := noV hw
    have ef : sP tx c D.1 s = .inl s := by
      unfold sP
      rw [if_neg n1, if_neg n2, if_neg n3, if_neg n4, if_neg n5]
    rw [ef] at hq
    cases hq
end MRN

