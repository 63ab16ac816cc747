/-! The reference's statements with what they do. -/
section STV
variable {sc : Nat × (Nat → Int32)} {d : Nat} {I : hI} {J : hJ} {R : hR} {T : am_H} {Q : Option Value → am_H → Prop} {tx : Nat → Nat} {c : Nat} {num : Int64}
/-- a statement's answer and the row behind it -/
def rsF (I : hI) (J : hJ) (D : FD) (num : Int64) (vb : Nat) (vl : Int64) : Int32 × (Nat → Int32) :=
  if vb = 0 then ((seF I J D 78 vl).1, (seF I J D 78 vl).2.1 78) else if vb = 1 then ((seF I J D 78 (num + vl)).1, (seF I J D 78 (num + vl)).2.1 78) else if vb = 2 then ((seF I J D 78 (num - vl)).1, (seF I J D 78 (num - vl)).2.1 78)
  else if vb = 3 then (0, clF I 78 D.1 78) else ((caF I D 78 vl.toInt32.toNatClampNeg).1, (caF I D 78 vl.toInt32.toNatClampNeg).2 78)
def DOm (D : FD) (num : Int64) (q : Nat × Nat × Int64 × Int32) (r0 : Nat → Int32) (I2 : hI) : Prop := (q.2.2.2 = 0 ∧ I2 73 28 = 1 ∧ I2 78 = r0) ∨ (q.2.2.2 = 1 ∧ ∃ I1 J1, I1 78 = r0 ∧ DMf D I1 ∧ I2 78 = (rsF I1 J1 D num q.2.1 q.2.2.1).2 ∧ I2 73 28 = if 0 ≤ (rsF I1 J1 D num q.2.1 q.2.2.1).1 then 0 else 1)
def YV (tx : Nat → Nat) (c : Nat) (D : FD) (num : Int64) (q : Nat × Nat × Int64 × Int32) (I0 : hI) (J0 : hJ) (R : hR) (T : am_H) (r : Option Value) (h : am_H) : Prop := ∃ I J, h = HH I J R T ∧ UW I0 J0 I J ∧ TB I ∧ I 73 27 = I0 73 27 ∧ I 73 22 = I0 73 22 ∧ r = some (.int 1) ∧ TK tx c q.1 I J ∧ DOm D num q (I0 78) I
theorem sE_r {s vb : Nat} {q : Nat × Nat × Int64 × Int32} (h : sE tx c num s vb = .inr q) : ∃ s2 vl fl, q = (s2, vb, vl, fl) ∧ sx tx c num 500 1 (nx tx c s) 0 (0, 0, 0) 1 = .inr (s2, vl, fl) := by
  unfold sE at h
  rcases hx : sx tx c num 500 1 (nx tx c s) 0 (0, 0, 0) 1 with p | ⟨s2, vl, fl⟩
  · rw [hx] at h; cases h
  · rw [hx] at h
    cases h
    exact ⟨s2, vl, fl, rfl, rfl⟩
/-- readsStatement() while it is done, with its value -/
theorem m_rsV {D : FD} {s : Nat} {q : Nat × Nat × Int64 × Int32} (hM : MT tx c I) (hD : DMf D I) (hnum : M_nl I 78 D.1 0 = num) (hnb : LBd num) (hd : I 73 27 = 1) (ht0 : I 73 28 = 0) (hT : TK tx c s I J) (hq : sStmt tx c D.1 num s = .inr q) : Ze sc (d + 8) 195 [.ref 73, .ref 78] (HH I J R T) (YV tx c D num q I J R T) := by
  refine Ze_of (Nat.le_of_ble_eq_true rfl) ?_
  obtain ⟨hs, h15, h14, hK⟩ := id hT
  have hn := hD.1
  have hn6 := hD.2.1
  have h255 := hM.2.2.2
  have hE := tE_c (tx := tx) hs
  have hw2 := RD_w h255 hK
  by_cases hw : s < c ∧ pL (tx s)
  · have h16 := hw2.mpr hw
    have h19 := (hK.2.1 hw.1 hw.2).2
    unfold sStmt at hq
    have ex : ∀ (w : Int32) (vb : Nat), (w = 7 ∧ vb = 0 ∨ w = 8 ∧ vb = 1 ∨ w = 9 ∧ vb = 2) → sE tx c num s vb = .inr q → Zs sc (d + 7) (am_P 195).2 (36, [(0, .ref 73), (1, .ref 78), (2, .int w)], []) (HH I J R T) (YV tx c D num q I J R T) := fun w vb hw hf => by
      obtain ⟨s2, vl, fl, rfl, hx⟩ := sE_r hf
      refine Z_jump 2 rfl ?_
      show Zs _ _ (am_P 195).2 (38, [(0, .ref 73), (1, .ref 78), (2, .int w)], [.ref 78, .ref 73]) (HH I J R T) _
      refine Z_c1 rfl rfl rfl (m_numberOf (d := d + 3) (Or.inl rfl) hn hn6) ?_
      show Zs _ _ (am_P 195).2 (41, [(0, .ref 73), (1, .ref 78), (2, .int w)], [.long (M_nl I 78 D.1 0)]) (HH I J R T) _
      refine Z_jump 3 rfl ?_
      show Zs _ _ (am_P 195).2 (44, [(0, .ref 73), (1, .ref 78), (2, .int w), (3, .long (M_nl I 78 D.1 0))], [.ref 78, .ref 73]) (HH I J R T) _
      refine Z_cQ rfl rfl rfl (Ze_deep (d := d + 5) (by omega) (m_readsExprV (d := d) (i := tE tx c s) hM (Or.inl rfl) hn hn6 hnum hnb h14 hE.2 hd ht0 hx)) (fun v h1 hq => ?_)
      obtain ⟨I1, J1, rfl, u1, t1, rfl, q3, hv⟩ := hq
      have hd1 : I1 73 27 = 1 := (u1.2.1 27 (by decide) (by decide) (by decide) (by decide) (by decide) (by decide) (by decide)).trans hd
      have h22 : I1 73 22 = I 73 22 := u1.2.1 22 (by decide) (by decide) (by decide) (by decide) (by decide) (by decide) (by decide)
      have e5 : I1 78 = I 78 := u1.1 78 (by decide) (by decide) (by decide)
      have hDk : DMf D I1 := DM_W hD (UW_E u1)
      rcases hv with ⟨ht, hf0⟩ | ⟨ht, hf1, ev, _⟩
      · have ht' : ¬ I1 73 28 = 0 := by rw [ht]; decide
        refine Z_jump 4 rfl ?_
        refine Z_bd (fun c56 => absurd c56 ((show ¬ I1 73 27 = 0 by rw [hd1]; decide))) (fun c56 => ?_)
        refine Z_jump 3 rfl ?_
        refine Z_bn (fun c63 => ?_) (fun c63 => absurd c63 (ht'))
        refine Z_jump 1 rfl ?_
        show Zs _ _ (am_P 195).2 (118, [(0, .ref 73), (1, .ref 78), (2, .int w), (3, .long (M_nl I 78 D.1 0))], [.int (1 : Int32)]) (HH I1 J1 R T) _
        refine Z_rI rfl (by first | exact am_nw0 _ | exact am_nw01 | rfl | assumption) ?_
        exact ⟨I1, J1, rfl, UW_E u1, t1, hd1.trans hd.symm, h22, rfl, q3, Or.inl ⟨hf0, ht, e5⟩⟩
      · have F : ∀ (to : Int64), rsF I1 J1 D num vb vl = ((seF I1 J1 D 78 to).1, (seF I1 J1 D 78 to).2.1 78) → Zs sc (d + 7) (am_P 195).2 (103, [(0, .ref 73), (1, .ref 78), (2, .int w), (3, .long (M_nl I 78 D.1 0))], [.long to, .ref 78, .ref 73, .ref 73]) (HH I1 J1 R T) (YV tx c D num (s2, vb, vl, fl) I J R T) := fun to hr => by
          have hE1 := m_sets5 (sc := sc) (d := d) (R := R) (T := T) (J := J1) (to := to) hDk
          have hu := UW_se (J := J1) (to := to) hDk
          have k0 : (seF I1 J1 D 78 to).2.1 73 = I1 73 := seF_c (by decide) (by decide) (by decide)
          have kJ : (seF I1 J1 D 78 to).2.2 73 = J1 73 := seF_J (by decide) (by decide)
          generalize seF I1 J1 D 78 to = w1 at hE1 hu k0 kJ hr
          have Y : ∀ y : Int32, y = (if 0 ≤ w1.1 then 0 else 1) → YV tx c D num (s2, vb, vl, fl) I J R T (some (.int 1)) (HH (sf w1.2.1 73 28 y) w1.2.2 R T) := fun y hy => by
            have t27 : sf w1.2.1 73 28 y 73 27 = 1 := by rw [sf_k (by decide), k0]; exact hd1
            refine ⟨_, _, rfl, UW_t (UW_E u1) (UW_t hu (UW_f (by omega))), ⟨?_, fun z => ?_⟩, t27.trans hd.symm, by rw [sf_k (by decide), k0]; exact h22, rfl, TK_m q3 (by rw [sf_k (by decide), k0]) (by rw [sf_k (by decide), k0]) (by rw [sf_k (by decide), k0]) (by rw [sf_k (by decide), k0]) (by rw [sf_k (by decide), k0]) kJ, Or.inr ⟨hf1, I1, J1, e5, hDk, ?_, ?_⟩⟩
            · rw [sf_s, hy]
              by_cases z : 0 ≤ w1.1
              · exact Or.inl (if_pos z)
              · exact Or.inr (if_neg z)
            · rw [t27] at z; exact absurd z (by decide)
            · rw [sf_c (by decide)]
              show w1.2.1 78 = (rsF I1 J1 D num vb vl).2
              rw [hr]
            · rw [sf_s]
              show y = if 0 ≤ (rsF I1 J1 D num vb vl).1 then 0 else 1
              rw [hr]
              exact hy
          show Zs _ _ (am_P 195).2 (103, [(0, .ref 73), (1, .ref 78), (2, .int w), (3, .long (M_nl I 78 D.1 0))], [.long to, .ref 78, .ref 73, .ref 73]) (HH I1 J1 R T) _
          refine Z_c1 rfl rfl rfl (hE1) ?_
          show Zs _ _ (am_P 195).2 (106, [(0, .ref 73), (1, .ref 78), (2, .int w), (3, .long (M_nl I 78 D.1 0))], [.int w1.1, .ref 73]) (HH w1.2.1 w1.2.2 R T) _
          refine Z_jump 1 rfl ?_
          refine Z_bd (fun (c106 : (0 : Int32) ≤ w1.1) => ?_) (fun (c106 : ¬ ((0 : Int32) ≤ w1.1)) => ?_)
          · refine Z_jump 2 rfl ?_
            show Zs _ _ (am_P 195).2 (117, [(0, .ref 73), (1, .ref 78), (2, .int w), (3, .long (M_nl I 78 D.1 0))], []) (HH (sf w1.2.1 73 28 (0 : Int32)) w1.2.2 R T) _
            refine Z_jump 1 rfl ?_
            show Zs _ _ (am_P 195).2 (118, [(0, .ref 73), (1, .ref 78), (2, .int w), (3, .long (M_nl I 78 D.1 0))], [.int (1 : Int32)]) (HH (sf w1.2.1 73 28 (0 : Int32)) w1.2.2 R T) _
            refine Z_rI rfl (by first | exact am_nw0 _ | exact am_nw01 | rfl | assumption) ?_
            first | exact Y 0 (if_pos c106).symm | exact Y 1 (if_neg c106).symm
          · refine Z_jump 3 rfl ?_
            show Zs _ _ (am_P 195).2 (117, [(0, .ref 73), (1, .ref 78), (2, .int w), (3, .long (M_nl I 78 D.1 0))], []) (HH (sf w1.2.1 73 28 (1 : Int32)) w1.2.2 R T) _
            refine Z_jump 1 rfl ?_
            show Zs _ _ (am_P 195).2 (118, [(0, .ref 73), (1, .ref 78), (2, .int w), (3, .long (M_nl I 78 D.1 0))], [.int (1 : Int32)]) (HH (sf w1.2.1 73 28 (1 : Int32)) w1.2.2 R T) _
            refine Z_rI rfl (by first | exact am_nw0 _ | exact am_nw01 | rfl | assumption) ?_
            first | exact Y 0 (if_pos c106).symm | exact Y 1 (if_neg c106).symm
        rcases hw with ⟨rfl, rfl⟩ | ⟨rfl, rfl⟩ | ⟨rfl, rfl⟩
        · have hr : rsF I1 J1 D num 0 vl = ((seF I1 J1 D 78 (J1 73 34)).1, (seF I1 J1 D 78 (J1 73 34)).2.1 78) := by rw [ev]; exact if_pos rfl
          refine Z_jump 4 rfl ?_
          refine Z_bd (fun c56 => absurd c56 ((show ¬ I1 73 27 = 0 by rw [hd1]; decide))) (fun c56 => ?_)
          refine Z_jump 3 rfl ?_
          refine Z_bn (fun c63 => absurd (ht) c63) (fun c63 => ?_)
          refine Z_jump 9 rfl ?_
          show Zs _ _ (am_P 195).2 (103, [(0, .ref 73), (1, .ref 78), (2, .int (7 : Int32)), (3, .long (M_nl I 78 D.1 0))], [.long (J1 73 34), .ref 78, .ref 73, .ref 73]) (HH I1 J1 R T) _
          exact F _ hr
        · have hr : rsF I1 J1 D num 1 vl = ((seF I1 J1 D 78 (M_nl I 78 D.1 0 + J1 73 34)).1, (seF I1 J1 D 78 (M_nl I 78 D.1 0 + J1 73 34)).2.1 78) := by
            rw [ev, hnum]
            unfold rsF
            rw [if_neg (by decide), if_pos rfl]
          refine Z_jump 4 rfl ?_
          refine Z_bd (fun c56 => absurd c56 ((show ¬ I1 73 27 = 0 by rw [hd1]; decide))) (fun c56 => ?_)
          refine Z_jump 3 rfl ?_
          refine Z_bn (fun c63 => absurd (ht) c63) (fun c63 => ?_)
          refine Z_jump 14 rfl ?_
          show Zs _ _ (am_P 195).2 (103, [(0, .ref 73), (1, .ref 78), (2, .int (8 : Int32)), (3, .long (M_nl I 78 D.1 0))], [.long ((M_nl I 78 D.1 0) + (J1 73 34)), .ref 78, .ref 73, .ref 73]) (HH I1 J1 R T) _
          exact F _ hr
        · have hr : rsF I1 J1 D num 2 vl = ((seF I1 J1 D 78 (M_nl I 78 D.1 0 - J1 73 34)).1, (seF I1 J1 D 78 (M_nl I 78 D.1 0 - J1 73 34)).2.1 78) := by
            rw [ev, hnum]
            unfold rsF
            rw [if_neg (by decide), if_neg (by decide), if_pos rfl]
          refine Z_jump 4 rfl ?_
          refine Z_bd (fun c56 => absurd c56 ((show ¬ I1 73 27 = 0 by rw [hd1]; decide))) (fun c56 => ?_)
          refine Z_jump 3 rfl ?_
          refine Z_bn (fun c63 => absurd (ht) c63) (fun c63 => ?_)
          refine Z_jump 13 rfl ?_
          show Zs _ _ (am_P 195).2 (103, [(0, .ref 73), (1, .ref 78), (2, .int (9 : Int32)), (3, .long (M_nl I 78 D.1 0))], [.long ((M_nl I 78 D.1 0) - (J1 73 34)), .ref 78, .ref 73, .ref 73]) (HH I1 J1 R T) _
          exact F _ hr
    by_cases hS : wS tx s (tE tx c s)
    · rw [if_pos hS] at hq
      rw [wc_wS hS] at h19
      refine Z_jump 4 rfl ?_
      refine Z_bn (fun c6 => absurd (h16) c6) (fun c6 => ?_)
      refine Z_jump 2 rfl ?_
      show Zs _ _ (am_P 195).2 (13, [(0, .ref 73), (1, .ref 78)], [.int (I 73 19)]) (HH I J R T) _
      refine Z_eqI (y := (7 : Int32)) (h19) ?_
      show Zs _ _ (am_P 195).2 (13, [(0, .ref 73), (1, .ref 78)], [.int (7 : Int32)]) (HH I J R T) _
      refine Z_jump 5 rfl ?_
      show Zs _ _ (am_P 195).2 (36, [(0, .ref 73), (1, .ref 78), (2, .int (7 : Int32))], []) (HH I J R T) _
      exact ex _ 0 (by decide) hq
    · rw [if_neg hS] at hq
      by_cases hA : wA tx s (tE tx c s)
      · rw [if_pos hA] at hq
        rw [wc_wA hA] at h19
        refine Z_jump 4 rfl ?_
        refine Z_bn (fun c6 => absurd (h16) c6) (fun c6 => ?_)
        refine Z_jump 2 rfl ?_
        show Zs _ _ (am_P 195).2 (13, [(0, .ref 73), (1, .ref 78)], [.int (I 73 19)]) (HH I J R T) _
        refine Z_eqI (y := (8 : Int32)) (h19) ?_
        show Zs _ _ (am_P 195).2 (13, [(0, .ref 73), (1, .ref 78)], [.int (8 : Int32)]) (HH I J R T) _
        refine Z_jump 8 rfl ?_
        show Zs _ _ (am_P 195).2 (36, [(0, .ref 73), (1, .ref 78), (2, .int (8 : Int32))], []) (HH I J R T) _
        exact ex _ 1 (by decide) hq
      · rw [if_neg hA] at hq
        by_cases hB : wB tx s (tE tx c s)
        · rw [if_pos hB] at hq
          rw [wc_wB hB] at h19
          refine Z_jump 4 rfl ?_
          refine Z_bn (fun c6 => absurd (h16) c6) (fun c6 => ?_)
          refine Z_jump 2 rfl ?_
          show Zs _ _ (am_P 195).2 (13, [(0, .ref 73), (1, .ref 78)], [.int (I 73 19)]) (HH I J R T) _
          refine Z_eqI (y := (9 : Int32)) (h19) ?_
          show Zs _ _ (am_P 195).2 (13, [(0, .ref 73), (1, .ref 78)], [.int (9 : Int32)]) (HH I J R T) _
          refine Z_jump 11 rfl ?_
          show Zs _ _ (am_P 195).2 (36, [(0, .ref 73), (1, .ref 78), (2, .int (9 : Int32))], []) (HH I J R T) _
          exact ex _ 2 (by decide) hq
        · rw [if_neg hB] at hq
          by_cases hC : wC tx s (tE tx c s)
          · rw [if_pos hC] at hq
            rw [wc_wC hC] at h19
            cases hq
            have k0 : clF I 78 D.1 73 = I 73 := clF_c (by decide)
            have hM1 : MT tx c (clF I 78 D.1) := MT_W (J := J) (J' := J) hM (UW_cl hn6)
            have hr : rsF I J D num 3 0 = (0, clF I 78 D.1 78) := by
              unfold rsF
              rw [if_neg (by decide), if_neg (by decide), if_neg (by decide), if_pos rfl]
            refine Z_jump 4 rfl ?_
            refine Z_bn (fun c6 => absurd (h16) c6) (fun c6 => ?_)
            refine Z_jump 2 rfl ?_
            show Zs _ _ (am_P 195).2 (13, [(0, .ref 73), (1, .ref 78)], [.int (I 73 19)]) (HH I J R T) _
            refine Z_eqI (y := (10 : Int32)) (h19) ?_
            show Zs _ _ (am_P 195).2 (13, [(0, .ref 73), (1, .ref 78)], [.int (10 : Int32)]) (HH I J R T) _
            refine Z_jump 17 rfl ?_
            refine Z_bd (fun c129 => absurd c129 ((show ¬ I 73 27 = 0 by rw [hd]; decide))) (fun c129 => ?_)
            refine Z_jump 2 rfl ?_
            show Zs _ _ (am_P 195).2 (134, [(0, .ref 73), (1, .ref 78), (2, .int (10 : Int32))], [.ref 78, .ref 73]) (HH I J R T) _
            refine Z_c0 rfl rfl rfl (m_clears5 hD) ?_
            show Zs _ _ (am_P 195).2 (137, [(0, .ref 73), (1, .ref 78), (2, .int (10 : Int32))], []) (HH (clF I 78 D.1) J R T) _
            refine Z_jump 1 rfl ?_
            show Zs _ _ (am_P 195).2 (138, [(0, .ref 73), (1, .ref 78), (2, .int (10 : Int32))], [.ref 73]) (HH (clF I 78 D.1) J R T) _
            refine Z_cQ rfl rfl rfl (m_reads (d := d + 3) hM1 ((congrFun k0 _).trans h14) hE.2) (fun v h1 hq => ?_)
            obtain ⟨rfl, I3, J3, rfl, u3, t15, t14, tK⟩ := hq
            show Zs _ _ (am_P 195).2 (141, [(0, .ref 73), (1, .ref 78), (2, .int (10 : Int32))], []) (HH I3 J3 R T) _
            refine Z_jump 1 rfl ?_
            show Zs _ _ (am_P 195).2 (142, [(0, .ref 73), (1, .ref 78), (2, .int (10 : Int32))], [.int (1 : Int32)]) (HH I3 J3 R T) _
            refine Z_rI rfl (by first | exact am_nw0 _ | exact am_nw01 | rfl | assumption) ?_
            have e27 : I3 73 27 = I 73 27 := (u3.2.1 27 (by decide) (by decide) (by decide) (by decide) (by decide)).trans (congrFun k0 _)
            have e28 : I3 73 28 = 0 := (u3.2.1 28 (by decide) (by decide) (by decide) (by decide) (by decide)).trans ((congrFun k0 _).trans ht0)
            refine ⟨I3, J3, rfl, UW_t (UW_cl (J := J) hn6) (UW_R u3), TB_R (I := clF I 78 D.1) ⟨by rw [k0]; exact Or.inl ht0, fun _ => by rw [k0]; exact ht0⟩ u3, e27, (u3.2.1 22 (by decide) (by decide) (by decide) (by decide) (by decide)).trans (congrFun k0 _), rfl, ⟨tS_c hE.2, t15, t14, tK⟩, Or.inr ⟨rfl, I, J, rfl, hD, ?_, ?_⟩⟩
            · rw [u3.1 78 (by decide)]
              show _ = (rsF I J D num 3 0).2
              rw [hr]
            · rw [e28]
              show _ = if 0 ≤ (rsF I J D num 3 0).1 then (0 : Int32) else 1
              rw [hr, if_pos (show (0 : Int32) ≤ 0 by decide)]
          · rw [if_neg hC] at hq
            by_cases hY : wY tx s (tE tx c s)
            · rw [if_pos hY] at hq
              rw [wc_wY hY] at h19
              refine Z_jump 4 rfl ?_
              refine Z_bn (fun c6 => absurd (h16) c6) (fun c6 => ?_)
              refine Z_jump 2 rfl ?_
              show Zs _ _ (am_P 195).2 (13, [(0, .ref 73), (1, .ref 78)], [.int (I 73 19)]) (HH I J R T) _
              refine Z_eqI (y := (11 : Int32)) (h19) ?_
              show Zs _ _ (am_P 195).2 (13, [(0, .ref 73), (1, .ref 78)], [.int (11 : Int32)]) (HH I J R T) _
              refine Z_jump 23 rfl ?_
              show Zs _ _ (am_P 195).2 (157, [(0, .ref 73), (1, .ref 78), (2, .int (11 : Int32))], [.int ((I 73 0) - (1 : Int32)), .int (0 : Int32), .ref 73]) (HH I J R T) _
              refine Z_cQ rfl rfl rfl (Ze_deep (d := d + 5) (by omega) (m_numberedI (d := d) (tx := tx) (c := c) hM h14 hE.2 (show (0 : Int32).toInt = 0 from rfl) (show (I 73 0 - 1).toInt = (D.1 : Int) - 1 by rw [hn]; exact nIm1 hn6))) (fun v h1 hr => ?_)
              obtain ⟨I1, J1, rfl, u1, g15, g14, hr⟩ := hr
              have b1 := tS_c (tx := tx) hE.2
              have b1' := tE_c (tx := tx) b1
              have hd1 : I1 73 27 = 1 := (u1.2.1 27 (by decide) (by decide) (by decide) (by decide) (by decide)).trans hd
              have ht1 : I1 73 28 = 0 := (u1.2.1 28 (by decide) (by decide) (by decide) (by decide) (by decide)).trans ht0
              have h22 : I1 73 22 = I 73 22 := u1.2.1 22 (by decide) (by decide) (by decide) (by decide) (by decide)
              have e5 : I1 78 = I 78 := u1.1 78 (by decide)
              rcases hr with ⟨hT1, rfl, g18⟩ | ⟨hT1, rfl⟩
              · rw [if_pos hT1] at hq
                cases hq
                have hDk : DMf D I1 := DM_W hD (UW_R u1)
                have hkk : nv tx (tS tx c (tE tx c s)) (tE tx c (tS tx c (tE tx c s))) < D.1 := by have := hT1.2.2.2; omega
                have e18 : (J1 73 18).toInt32 = nI (nv tx (tS tx c (tE tx c s)) (tE tx c (tS tx c (tE tx c s)))) := by rw [g18]; exact lN_32 (by omega)
                have hE1 := m_carries5 (sc := sc) (d := d + 2) (R := R) (T := T) (J := J1) (x := nI (nv tx (tS tx c (tE tx c s)) (tE tx c (tS tx c (tE tx c s))))) hDk rfl hkk
                have hu := UW_ca (I := I1) (J := J1) (D := D) (r := nv tx (tS tx c (tE tx c s)) (tE tx c (tS tx c (tE tx c s))))
                have k0 : (caF I1 D 78 (nv tx (tS tx c (tE tx c s)) (tE tx c (tS tx c (tE tx c s))))).2 73 = I1 73 := caF_c (by decide)
                have hr : rsF I1 J1 D num 4 (lN (nv tx (tS tx c (tE tx c s)) (tE tx c (tS tx c (tE tx c s))))) = ((caF I1 D 78 (nv tx (tS tx c (tE tx c s)) (tE tx c (tS tx c (tE tx c s))))).1, (caF I1 D 78 (nv tx (tS tx c (tE tx c s)) (tE tx c (tS tx c (tE tx c s))))).2 78) := by
                  unfold rsF
                  rw [if_neg (by decide), if_neg (by decide), if_neg (by decide), if_neg (by decide), lN_32 (by omega), nI_clamp (by omega)]
                generalize caF I1 D 78 (nv tx (tS tx c (tE tx c s)) (tE tx c (tS tx c (tE tx c s)))) = w1 at hE1 hu k0 hr
                have G : ∀ (y : Int32), y = (if 0 ≤ w1.1 then 0 else 1) → Zs sc (d + 7) (am_P 195).2 (199, [(0, .ref 73), (1, .ref 78), (2, .int 11)], []) (HH (sf w1.2 73 28 y) J1 R T) (YV tx c D num (nx tx c (nx tx c s), 4, lN (nv tx (nx tx c s) (tE tx c (nx tx c s))), 1) I J R T) := fun y hy => by
                  have hy1 : y = 0 ∨ y = 1 := by
                    rw [hy]
                    by_cases z : 0 ≤ w1.1
                    · exact Or.inl (if_pos z)
                    · exact Or.inr (if_neg z)
                  have hM1 : MT tx c (sf w1.2 73 28 y) := MT_W (J := J1) (J' := J1) (MT_W (J := J1) (J' := J1) (MT_R hM u1) hu) (UW_f (by omega))
                  have e14 : sf w1.2 73 28 y 73 14 = nI (tE tx c (tS tx c (tE tx c s))) := by rw [sf_k (by decide), k0]; exact g14
                  refine Z_jump 1 rfl ?_
                  show Zs _ _ (am_P 195).2 (200, [(0, .ref 73), (1, .ref 78), (2, .int (11 : Int32))], [.ref 73]) (HH (sf w1.2 73 28 y) J1 R T) _
                  refine Z_cQ rfl rfl rfl (m_reads (d := d + 3) hM1 e14 b1'.2) (fun v h1 hq => ?_)
                  obtain ⟨rfl, I3, J3, rfl, u3, t15, t14, tK⟩ := hq
                  show Zs _ _ (am_P 195).2 (203, [(0, .ref 73), (1, .ref 78), (2, .int (11 : Int32))], []) (HH I3 J3 R T) _
                  refine Z_jump 1 rfl ?_
                  show Zs _ _ (am_P 195).2 (204, [(0, .ref 73), (1, .ref 78), (2, .int (11 : Int32))], [.int (1 : Int32)]) (HH I3 J3 R T) _
                  refine Z_rI rfl (by first | exact am_nw0 _ | exact am_nw01 | rfl | assumption) ?_
                  have e27 : I3 73 27 = I 73 27 := by rw [u3.2.1 27 (by decide) (by decide) (by decide) (by decide) (by decide), sf_k (by decide), k0, hd1, hd]
                  refine ⟨I3, J3, rfl, UW_t (UW_R u1) (UW_t hu (UW_t (UW_f (J := J1) (by omega)) (UW_R u3))), TB_R (I := sf w1.2 73 28 y) ⟨by rw [sf_s]; exact hy1, fun z => by rw [sf_k (by decide), k0, hd1] at z; exact absurd z (by decide)⟩ u3, e27, by rw [u3.2.1 22 (by decide) (by decide) (by decide) (by decide) (by decide), sf_k (by decide), k0]; exact h22, rfl, ⟨tS_c b1'.2, t15, t14, tK⟩, Or.inr ⟨rfl, I1, J1, e5, hDk, ?_, ?_⟩⟩
                  · rw [u3.1 78 (by decide), sf_c (by decide)]
                    show w1.2 78 = (rsF I1 J1 D num 4 (lN (nv tx (tS tx c (tE tx c s)) (tE tx c (tS tx c (tE tx c s)))))).2
                    rw [hr]
                  · rw [u3.2.1 28 (by decide) (by decide) (by decide) (by decide) (by decide), sf_s]
                    show y = if 0 ≤ (rsF I1 J1 D num 4 (lN (nv tx (tS tx c (tE tx c s)) (tE tx c (tS tx c (tE tx c s)))))).1 then 0 else 1
                    rw [hr]
                    exact hy
                refine Z_jump 4 rfl ?_
                show Zs _ _ (am_P 195).2 (170, [(0, .ref 73), (1, .ref 78), (2, .int (11 : Int32))], [.int (I1 73 28), .ref 73]) (HH I1 J1 R T) _
                refine Z_eqI (y := (0 : Int32)) (ht1) ?_
                show Zs _ _ (am_P 195).2 (170, [(0, .ref 73), (1, .ref 78), (2, .int (11 : Int32))], [.int (0 : Int32), .ref 73]) (HH I1 J1 R T) _
                refine Z_jump 3 rfl ?_
                refine Z_bd (fun c174 => absurd c174 ((show ¬ I1 73 27 = 0 by rw [hd1]; decide))) (fun c174 => ?_)
                refine Z_jump 5 rfl ?_
                show Zs _ _ (am_P 195).2 (184, [(0, .ref 73), (1, .ref 78), (2, .int (11 : Int32))], [.int (Int64.toInt32 (J1 73 18)), .ref 78, .ref 73, .int (0 : Int32), .ref 73]) (HH I1 J1 R T) _
                refine Z_eqI (y := (nI (nv tx (tS tx c (tE tx c s)) (tE tx c (tS tx c (tE tx c s)))))) (e18) ?_
                show Zs _ _ (am_P 195).2 (184, [(0, .ref 73), (1, .ref 78), (2, .int (11 : Int32))], [.int (nI (nv tx (tS tx c (tE tx c s)) (tE tx c (tS tx c (tE tx c s))))), .ref 78, .ref 73, .int (0 : Int32), .ref 73]) (HH I1 J1 R T) _
                show Zs _ _ (am_P 195).2 (184, [(0, .ref 73), (1, .ref 78), (2, .int (11 : Int32))], [.int (nI (nv tx (tS tx c (tE tx c s)) (tE tx c (tS tx c (tE tx c s))))), .ref 78, .ref 73, .int (0 : Int32), .ref 73]) (HH I1 J1 R T) _
                refine Z_c1 rfl rfl rfl (hE1) ?_
                show Zs _ _ (am_P 195).2 (187, [(0, .ref 73), (1, .ref 78), (2, .int (11 : Int32))], [.int w1.1, .int (0 : Int32), .ref 73]) (HH w1.2 J1 R T) _
                refine Z_jump 1 rfl ?_
                refine Z_bd (fun (c187 : (0 : Int32) ≤ w1.1) => ?_) (fun (c187 : ¬ ((0 : Int32) ≤ w1.1)) => ?_)
                · refine Z_jump 3 rfl ?_
                  show Zs _ _ (am_P 195).2 (199, [(0, .ref 73), (1, .ref 78), (2, .int (11 : Int32))], []) (HH (sf w1.2 73 28 (0 : Int32)) J1 R T) _
                  show Zs _ _ (am_P 195).2 (199, [(0, .ref 73), (1, .ref 78), (2, .int (11 : Int32))], []) (HH (sf w1.2 73 28 (0 : Int32)) J1 R T) _
                  first | exact G 0 (if_pos c187).symm | exact G 1 (if_neg c187).symm
                · refine Z_jump 4 rfl ?_
                  show Zs _ _ (am_P 195).2 (199, [(0, .ref 73), (1, .ref 78), (2, .int (11 : Int32))], []) (HH (sf w1.2 73 28 (1 : Int32)) J1 R T) _
                  show Zs _ _ (am_P 195).2 (199, [(0, .ref 73), (1, .ref 78), (2, .int (11 : Int32))], []) (HH (sf w1.2 73 28 (1 : Int32)) J1 R T) _
                  first | exact G 0 (if_pos c187).symm | exact G 1 (if_neg c187).symm
              · rw [if_neg hT1] at hq
                cases hq
            · rw [if_neg hY] at hq
              cases hq
  · obtain ⟨n1, n2, n3, n4, n5⟩ := noV hw
    unfold sStmt at hq
    rw [if_neg n1, if_neg n2, if_neg n3, if_neg n4, if_neg n5] at hq
    cases hq
/-- the statements from the token at s on, j done already: how many were done in all, and the row behind them -/
def RM2 (tx : Nat → Nat) (c : Nat) (D : FD) : Nat → Nat → Nat → hI → Nat → (Nat → Int32) → Prop
  | 0, _, _, _, _, _ => False
  | k + 1, j, s, I, jj, rf => ∃ I2 q, DMf D I ∧ sStmt tx c D.1 (M_nl I 78 D.1 0) s = .inr q ∧ DOm D (M_nl I 78 D.1 0) q (I 78) I2 ∧
    ((I2 73 28 = 1 ∧ jj = j ∧ rf = I2 78) ∨ (I2 73 28 = 0 ∧ ((q.1 = c ∧ jj = j + 1 ∧ rf = I2 78) ∨ (q.1 < c ∧ tx q.1 = 59 ∧ j + 1 < 12 ∧ ∃ I3, I3 78 = I2 78 ∧ RM2 tx c D k (j + 1) (nx tx c q.1) I3 jj rf))))
/-- the number of a row within its rods is small -/
def NB (D : FD) (r : Nat → Int32) : Prop := ∀ I, DMf D I → I 78 = r → LBd (M_nl I 78 D.1 0)
end STV

