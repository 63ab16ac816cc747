/-! The class: run. -/
section RN2
variable {sc : Nat × (Nat → Int32)} {d : Nat} {R : hR} {T : am_H} {Q : Option Value → am_H → Prop} {tx : Nat → Nat} {c : Nat}
def AG (I I' : hI) : Prop := ∀ a, a ≠ 1 → a ≠ 3 → I' a = I a
theorem AG_r (I : hI) : AG I I := fun _ _ _ => rfl
theorem AG_t {I I1 I2 : hI} (h : AG I I1) (g : AG I1 I2) : AG I I2 := fun a h1 h3 => (g a h1 h3).trans (h a h1 h3)
theorem lN_32 {k : Nat} (h : k ≤ 6) : (lN k).toInt32 = nI k := by
  rcases (show k = 0 ∨ k = 1 ∨ k = 2 ∨ k = 3 ∨ k = 4 ∨ k = 5 ∨ k = 6 by omega) with rfl | rfl | rfl | rfl | rfl | rfl | rfl <;> rfl
theorem sStmt_vb {n s : Nat} {num : Int64} {q : Nat × Nat × Int64 × Int32} (hn : n ≤ 6) (h : sStmt tx c n num s = .inr q) : q.2.1 ≤ 4 ∧ (q.2.1 = 4 → ∃ k, k < n ∧ q.2.2.1.toInt32 = nI k) := by
  have ex : ∀ v, v < 4 → sE tx c num s v = .inr q → q.2.1 ≤ 4 ∧ (q.2.1 = 4 → ∃ k, k < n ∧ q.2.2.1.toInt32 = nI k) := fun v hv hs => by
    unfold sE at hs
    cases hx : sx tx c num 500 1 (nx tx c s) 0 (0, 0, 0) 1 with
    | inl p => rw [hx] at hs; cases hs
    | inr w =>
      rw [hx] at hs
      obtain ⟨s2, vl, fl⟩ := w
      cases hs
      exact ⟨Nat.le_of_lt hv, fun z => absurd (show v = 4 from z) (by omega)⟩
  unfold sStmt at h
  split at h
  · exact ex 0 (by omega) h
  · split at h
    · exact ex 1 (by omega) h
    · split at h
      · exact ex 2 (by omega) h
      · split at h
        · cases h; exact ⟨show 3 ≤ 4 by omega, fun z => absurd (show 3 = 4 from z) (by omega)⟩
        · split at h
          · split at h
            · rename_i hT
              cases h
              have := hT.2.2.2
              refine ⟨Nat.le_refl 4, fun _ => ⟨_, ?_, lN_32 ?_⟩⟩
              · omega
              · omega
            · cases h
          · cases h
theorem dsF_c {I : hI} {D : FD} {vb c : Nat} {vl : Int64} {fl : Int32} (h : c < 4 ∨ 17 < c) (h0 : c ≠ 22) (h1 : c ≠ 23) (h2 : c ≠ 24) : (dsF I D vb vl fl).2 c = I c := by
  unfold dsF bo
  split
  · rfl
  · split
    · exact stF_c h h0 h1 h2
    · split
      · exact stF_c h h0 h1 h2
      · split
        · exact stF_c h h0 h1 h2
        · split
          · exact pbl_c h0 h1 h2 _ _ _
          · exact coF_c h h0 h1 h2
theorem dsF_BS {I : hI} {D : FD} {vb : Nat} {vl : Int64} {fl : Int32} (ho : ∀ k, k < D.1 → okR (D.2.1 k)) (hB : BS I) : BS (dsF I D vb vl fl).2 := by
  unfold dsF bo
  split
  · exact hB
  · split
    · exact stF_BS (by omega) ho hB
    · split
      · exact stF_BS (by omega) ho hB
      · split
        · exact stF_BS (by omega) ho hB
        · split
          · exact BS_of hB (pbl_c (by decide) (by decide) (by decide) _ _ _)
          · exact coF_BS (by omega) ho hB
theorem dsF_01 {I : hI} {D : FD} {vb : Nat} {vl : Int64} {fl : Int32} : (dsF I D vb vl fl).1 = 0 ∨ (dsF I D vb vl fl).1 = 1 := by
  have b01 : ∀ w : Int32 × hI, (bo w).1 = 0 ∨ (bo w).1 = 1 := fun w => by unfold bo; dsimp only; split <;> simp
  unfold dsF
  split
  · exact Or.inl rfl
  · split
    · exact b01 _
    · split
      · exact b01 _
      · split
        · exact b01 _
        · split
          · exact Or.inr rfl
          · exact b01 _
/-- the statements from the token at s on, j done already: how many were done in all, and the state behind them -/
def RN (tx : Nat → Nat) (c : Nat) (D : FD) : Nat → Nat → Nat → hI → Nat → hI → Prop
  | 0, _, _, _, _, _ => False
  | k + 1, j, s, I, jj, If => ∃ I1 q, AG I I1 ∧ sStmt tx c D.1 (cnl I D D.1 0 0 1) s = .inr q ∧
    (((dsF I1 D q.2.1 q.2.2.1 q.2.2.2).1 = 0 ∧ jj = j ∧ If = (dsF I1 D q.2.1 q.2.2.1 q.2.2.2).2) ∨
     ((dsF I1 D q.2.1 q.2.2.1 q.2.2.2).1 = 1 ∧ ((q.1 = c ∧ jj = j + 1 ∧ If = (dsF I1 D q.2.1 q.2.2.1 q.2.2.2).2) ∨
      (q.1 < c ∧ tx q.1 = 59 ∧ j + 1 < 12 ∧ ∃ I3, AG (dsF I1 D q.2.1 q.2.2.1 q.2.2.2).2 I3 ∧ RN tx c D k (j + 1) (nx tx c q.1) I3 jj If))))
theorem sQ_i {n k j s nn : Nat} (h : sQ tx c n (k + 1) j s = .inr nn) : ∃ s2, sP tx c n s = .inr s2 ∧ (s2 = c ∨ (s2 ≠ c ∧ tx s2 = 59 ∧ j + 1 < 12 ∧ sQ tx c n k (j + 1) (nx tx c s2) = .inr nn)) := by
  rcases hp : sP tx c n s with p | s2
  · rw [sQ_l hp] at h; cases h
  · rw [sQ_r hp] at h
    refine ⟨s2, rfl, ?_⟩
    by_cases e : s2 = c
    · exact Or.inl e
    · rw [if_neg e] at h
      by_cases e2 : tx s2 = 59 ∧ j + 1 < 12
      · rw [if_pos e2] at h
        exact Or.inr ⟨e, e2.1, e2.2, h⟩
      · rw [if_neg e2] at h; cases h
theorem nx_c {s : Nat} (h : s ≤ c) : nx tx c s ≤ c := tS_c (tE_c h).2
theorem sP_le {n s : Nat} (hs : s ≤ c) : (∀ p, sP tx c n s = .inl p → p ≤ c) ∧ (∀ q, sP tx c n s = .inr q → q ≤ c) := by
  have ha := ss_adv (tx := tx) (c := c) 500 1 (nx tx c s) 0 (nx_c hs)
  have h3 : (∀ p, ss tx c 500 1 (nx tx c s) 0 = .inl p → p ≤ c) ∧ (∀ q, ss tx c 500 1 (nx tx c s) 0 = .inr q → q ≤ c) := ⟨ha.1, fun q hq => (ha.2 q hq).1⟩
  have hr : ∀ x, x ≤ c → (∀ p, (Sum.inr x : Nat ⊕ Nat) = .inl p → p ≤ c) ∧ (∀ q, (Sum.inr x : Nat ⊕ Nat) = .inr q → q ≤ c) := fun x hx => ⟨fun p h => (by cases h), fun q h => (by cases h; exact hx)⟩
  have hl : ∀ x, x ≤ c → (∀ p, (Sum.inl x : Nat ⊕ Nat) = .inl p → p ≤ c) ∧ (∀ q, (Sum.inl x : Nat ⊕ Nat) = .inr q → q ≤ c) := fun x hx => ⟨fun p h => (by cases h; exact hx), fun q h => (by cases h)⟩
  unfold sP
  split
  · exact h3
  · split
    · exact h3
    · split
      · exact h3
      · split
        · exact hr _ (nx_c hs)
        · split
          · split
            · exact hr _ (nx_c (nx_c hs))
            · exact hl _ (nx_c hs)
          · exact hl _ hs
theorem sQ_le {n : Nat} : ∀ (k j s p : Nat), s ≤ c → sQ tx c n k j s = .inl p → p ≤ c
  | 0, j, s, p, hs, h => by cases h; exact Nat.zero_le c
  | k + 1, j, s, p, hs, h => by
    have hl := sP_le (tx := tx) (c := c) (n := n) hs
    rcases hp : sP tx c n s with p2 | s2
    · rw [sQ_l hp] at h; cases h; exact hl.1 _ hp
    · rw [sQ_r hp] at h
      have h2 := hl.2 _ hp
      by_cases e : s2 = c
      · rw [if_pos e] at h; cases h
      · rw [if_neg e] at h
        by_cases e2 : tx s2 = 59 ∧ j + 1 < 12
        · rw [if_pos e2] at h
          exact sQ_le k (j + 1) _ p (nx_c h2) h
        · rw [if_neg e2] at h; cases h; exact h2
theorem c_run_e {J : hJ} {I : hI} {y : Int32} {jj : Nat} (hy : y = nI jj) (H : Q (some (.int (nI jj))) (HH (sf I 1 1 0) J R T)) : Zs sc d (am_P 95).2 (40, [(0, .ref 0), (1, .int y), (2, .int 0)], []) (HH I J R T) Q := by
  subst hy
  refine Z_jump 6 rfl ?_
  show Zs _ _ (am_P 95).2 (104, [(0, .ref 0), (1, .int (nI jj)), (2, .int (0 : Int32))], []) (HH (sf I 1 1 (0 : Int32)) J R T) _
  refine Z_jump 1 rfl ?_
  show Zs _ _ (am_P 95).2 (105, [(0, .ref 0), (1, .int (nI jj)), (2, .int (0 : Int32))], [.int (nI jj)]) (HH (sf I 1 1 (0 : Int32)) J R T) _
  refine Z_rI rfl (by first | exact am_nw0 _ | exact am_nw01 | rfl | assumption) ?_
  exact H
theorem c_run_l {D : FD} {nn : Nat} : ∀ (k j s : Nat) (I : hI) (J : hJ) (y : Int32), j + k = 12 → y = nI j → CTK tx c s I → I 1 2 = -1 → DC 18 D I R T → BS I → sQ tx c D.1 k j s = .inr nn → (∀ jj If Jf, RN tx c D k j s I jj If → jj ≤ 12 → (∀ a, a ≠ 3 → Jf a = J a) → Q (some (.int (nI jj))) (HH (sf If 1 1 0) Jf R T)) → Zs sc (d + 520) (am_P 95).2 (40, [(0, .ref 0), (1, .int y), (2, .int 1)], []) (HH I J R T) Q
  | 0, j, s, I, J, y, hj, hy, hK, h2, hD, hB, hs, H => by cases hs
  | k + 1, j, s, I, J, y, hj, hy, hK, h2, hD, hB, hs, H => by
    obtain ⟨s2, hp, hs2⟩ := sQ_i hs
    have hst := sStmt_sP (tx := tx) (c := c) (n := D.1) (num := cnl I D D.1 0 0 1) (s := s)
    rw [hp] at hst
    rcases hq0 : sStmt tx c D.1 (cnl I D D.1 0 0 1) s with p | q
    · rw [hq0] at hst; cases hst
    · rw [hq0] at hst
      have es : q.1 = s2 := by cases hst; rfl
      have hvb := sStmt_vb hD.2.1 hq0
      have hk12 : ¬ (12 : Int32) ≤ y := by rw [hy]; exact nI_ge (b := 12) (by omega) (by omega)
      have ey : y + 1 = nI (j + 1) := by rw [hy]; exact nI_1 j
      refine Z_jump 5 rfl ?_
      refine Z_bd (fun c47 => absurd c47 (hk12)) (fun c47 => ?_)
      refine Z_jump 8 rfl ?_
      show Zs _ _ (am_P 95).2 (66, [(0, .ref 0), (1, .int y), (2, .int (1 : Int32))], [.ref 0, .int (I 18 1), .ref 1, .ref 3]) (HH I J R T) _
      refine Z_c1 rfl rfl rfl (c_theNumber hD) ?_
      show Zs _ _ (am_P 95).2 (69, [(0, .ref 0), (1, .int y), (2, .int (1 : Int32))], [.long (cnl I D D.1 0 0 1), .int (I 18 1), .ref 1, .ref 3]) (HH I J R T) _
      show Zs _ _ (am_P 95).2 (69, [(0, .ref 0), (1, .int y), (2, .int (1 : Int32))], [.long (cnl I D D.1 0 0 1), .int (I 18 1), .ref 1, .ref 3]) (HH I J R T) _
      refine Z_cQ rfl rfl rfl (c_readStatement (num := cnl I D D.1 0 0 1) hK h2 hD.1 hD.2.1) (fun v h1 hq => ?_)
      rw [hq0] at hq
      obtain ⟨rfl, I1, J1, rfl, u1, w1, C1, g1, g2, g3, g4, g5⟩ := hq
      show Zs _ _ (am_P 95).2 (72, [(0, .ref 0), (1, .int y), (2, .int (1 : Int32))], []) (HH I1 J1 R T) _
      show Zs _ _ (am_P 95).2 (72, [(0, .ref 0), (1, .int y), (2, .int (1 : Int32))], []) (HH I1 J1 R T) _
      skip
      have hD1 : DC 18 D I1 R T := DC_of hD (u1 18 (by decide) (by decide)) rfl
      have hB1 : BS I1 := BS_of hB (u1 8 (by decide) (by decide))
      have hds := c_doStatement (sc := sc) (d := d + 507) (J := J1) hD1 hB1 g3 hvb.1 g4 g5 hvb.2
      have hD2 : DC 18 D (dsF I1 D q.2.1 q.2.2.1 q.2.2.2).2 R T := DC_of hD1 (dsF_c (by omega) (by omega) (by omega) (by omega)) rfl
      have hB2 := dsF_BS (vb := q.2.1) (vl := q.2.2.1) (fl := q.2.2.2) (DC_ok hD1) hB1
      have hK2 : CTK tx c q.1 (dsF I1 D q.2.1 q.2.2.1 q.2.2.2).2 := CTK_x g2 (dsF_c (by omega) (by omega) (by omega) (by omega)) (dsF_c (by omega) (by omega) (by omega) (by omega))
      have h12 : (dsF I1 D q.2.1 q.2.2.1 q.2.2.2).2 1 2 = -1 := (congrFun (dsF_c (by omega) (by omega) (by omega) (by omega)) 2).trans g1
      rcases dsF_01 (I := I1) (D := D) (vb := q.2.1) (vl := q.2.2.1) (fl := q.2.2.2) with e0 | e1
      · have w := H j _ J1 ⟨I1, q, u1, hq0, Or.inl ⟨e0, rfl, rfl⟩⟩ (by omega) w1
        rw [e0] at hds
        refine Z_jump 1 rfl ?_
        show Zs _ _ (am_P 95).2 (73, [(0, .ref 0), (1, .int y), (2, .int (1 : Int32))], [.ref 0]) (HH I1 J1 R T) _
        refine Z_c1 rfl rfl rfl (hds) ?_
        show Zs _ _ (am_P 95).2 (76, [(0, .ref 0), (1, .int y), (2, .int (1 : Int32))], [.int (0 : Int32)]) (HH (dsF I1 D q.2.1 q.2.2.1 q.2.2.2).2 J1 R T) _
        refine Z_jump 3 rfl ?_
        show Zs _ _ (am_P 95).2 (40, [(0, .ref 0), (1, .int y), (2, .int (0 : Int32))], []) (HH (dsF I1 D q.2.1 q.2.2.1 q.2.2.2).2 J1 R T) _
        exact c_run_e hy w
      · rw [e1] at hds
        refine Z_jump 1 rfl ?_
        show Zs _ _ (am_P 95).2 (73, [(0, .ref 0), (1, .int y), (2, .int (1 : Int32))], [.ref 0]) (HH I1 J1 R T) _
        refine Z_c1 rfl rfl rfl (hds) ?_
        show Zs _ _ (am_P 95).2 (76, [(0, .ref 0), (1, .int y), (2, .int (1 : Int32))], [.int (1 : Int32)]) (HH (dsF I1 D q.2.1 q.2.2.1 q.2.2.2).2 J1 R T) _
        refine Z_jump 7 rfl ?_
        show Zs _ _ (am_P 95).2 (89, [(0, .ref 0), (1, .int (y + 1)), (2, .int (1 : Int32))], [.int (y + 1), .ref 1]) (HH (dsF I1 D q.2.1 q.2.2.1 q.2.2.2).2 J1 R T) _
        skip
        refine Z_cQ rfl rfl rfl (Ze_deep (d := 4) (by omega) (c_another (d := 0) hK2 h12 ey (by omega))) (fun v h1 hq => ?_)
        rcases hq with ⟨a1, rfl, rfl⟩ | ⟨a1, a2, a3, rfl, I3, rfl, a4, a5, a6⟩ | ⟨a1, a2, rfl, rfl⟩
        · have w := H (j + 1) _ J1 ⟨I1, q, u1, hq0, Or.inr ⟨e1, Or.inl ⟨a1, rfl, rfl⟩⟩⟩ (by omega) w1
          show Zs _ _ _ (92, [(0, .ref 0), (1, .int (y + 1)), (2, .int 1)], [.int 0]) _ _
          refine Z_jump 2 rfl ?_
          show Zs _ _ (am_P 95).2 (40, [(0, .ref 0), (1, .int (y + 1)), (2, .int (0 : Int32))], []) (HH (dsF I1 D q.2.1 q.2.2.1 q.2.2.2).2 J1 R T) _
          exact c_run_e ey w
        · rcases hs2 with z | ⟨z1, z2, z3, z4⟩
          · exact absurd (es.trans z) (by omega)
          · rw [← es] at z4
            show Zs _ _ _ (92, [(0, .ref 0), (1, .int (y + 1)), (2, .int 1)], [.int 1]) _ _
            have a5' : AG (dsF I1 D q.2.1 q.2.2.1 q.2.2.2).2 I3 := fun a h1 _ => a5 a h1
            refine Z_jump 2 rfl ?_
            show Zs _ _ (am_P 95).2 (40, [(0, .ref 0), (1, .int (y + 1)), (2, .int (1 : Int32))], []) (HH I3 J1 R T) _
            refine c_run_l k (j + 1) _ I3 J1 _ (by omega) ey a4 a6 (DC_of hD2 (a5 18 (by decide)) rfl) (BS_of hB2 (a5 8 (by decide))) z4 (fun jj If Jf q1 q2 q3 => ?_)
            exact H jj If Jf ⟨I1, q, u1, hq0, Or.inr ⟨e1, Or.inr ⟨a1, a2, a3, I3, a5', q1⟩⟩⟩ q2 (fun a ha => (q3 a ha).trans (w1 a ha))
        · rcases hs2 with z | ⟨z1, z2, z3, z4⟩
          · exact absurd (es.trans z) (by omega)
          · exact absurd ⟨es ▸ z2, z3⟩ a2
def RUq (tx : Nat → Nat) (c : Nat) (D : FD) (m : Nat) (I : hI) (J : hJ) (R : hR) (T : am_H) (r : Option Value) (h : am_H) : Prop :=
  (∃ p I1 J1, sQ tx c D.1 12 0 (tS tx c 0) = .inl p ∧ AG I I1 ∧ (∀ a, a ≠ 3 → J1 a = J a) ∧ CT tx c I1 ∧ r = some (.int (-4)) ∧ h = HH I1 J1 R T) ∨
  (∃ nn I1 J1 I2 R2 I3 jj If Jf, sQ tx c D.1 12 0 (tS tx c 0) = .inr nn ∧ AG I I1 ∧ (∀ a, a ≠ 3 → J1 a = J a) ∧ RMq m I1 J1 R T none (HH I2 J1 R2 T) ∧ CTo I2 I3 ∧ RN tx c D 12 0 (tS tx c 0) I3 jj If ∧ jj ≤ 12 ∧ (∀ a, a ≠ 3 → Jf a = J a) ∧ r = some (.int (nI jj)) ∧ h = HH (sf If 1 1 0) Jf R2 T)
theorem c_run {I : hI} {J : hJ} {D : FD} {m : Nat} (hC : CT tx c I) (hD : DC 18 D I R T) (hB : BS I) (hp : I 0 9 = nI m) (hm : m ≤ 8) (hP : PR R) : Ze sc (d + 522) 95 [.ref 0] (HH I J R T) (RUq tx c D m I J R T) := by
  refine Ze_of (Nat.le_of_ble_eq_true rfl) ?_
  refine Z_jump 7 rfl ?_
  show Zs _ _ (am_P 95).2 (15, [(0, .ref 0)], [.int (I 18 1), .ref 1, .ref 3]) (HH I J R T) _
  refine Z_cQ rfl rfl rfl (c_check (n := D.1) hC hD.1 hD.2.1) (fun v h1 hq => ?_)
  obtain ⟨I1, J1, rfl, u1, w1, C1, rfl⟩ := hq
  rw [sRead_sQ]
  show Zs _ _ (am_P 95).2 (18, [(0, .ref 0)], [.int (fq (sQ tx c D.1 12 0 (tS tx c 0)))]) (HH I1 J1 R T) _
  show Zs _ _ (am_P 95).2 (18, [(0, .ref 0)], [.int (fq (sQ tx c D.1 12 0 (tS tx c 0)))]) (HH I1 J1 R T) _
  skip
  rcases hs : sQ tx c D.1 12 0 (tS tx c 0) with p | nn
  · have hne : ¬ nI p = -1 := nI_m1 (c := c) (sQ_le _ _ _ _ (tS_c (Nat.zero_le c)) hs) hC.2.1
    refine Z_jump 2 rfl ?_
    refine Z_bd (fun c19 => absurd c19 (hne)) (fun c19 => ?_)
    refine Z_jump 1 rfl ?_
    show Zs _ _ (am_P 95).2 (24, [(0, .ref 0)], [.int (-4 : Int32)]) (HH I1 J1 R T) _
    refine Z_rI rfl (by first | exact am_nw0 _ | exact am_nw01 | rfl | assumption) ?_
    exact Or.inl ⟨p, I1, J1, hs, u1, w1, C1, rfl, rfl⟩
  · refine Z_jump 3 rfl ?_
    show Zs _ _ (am_P 95).2 (26, [(0, .ref 0)], [.ref 0]) (HH I1 J1 R T) _
    refine Z_cQ rfl rfl rfl (Ze_deep (d := 3) (by omega) (c_remember (d := 0) (m := m) ((congrFun (u1 0 (by decide) (by decide)) 9).trans hp) hm hP)) (fun v h1 hq => ?_)
    have hq0 := hq
    obtain ⟨rfl, I2, R2, a1, rfl, h1, h2, h3, h4, h5, h6, h7⟩ := hq
    have hst := past_st h6
    have C2 : CT tx c I2 := CT_of C1 (congrFun (h7.1 1 (by omega) (by omega) (by omega) (by omega)) 1) (h7.1 2 (by omega) (by omega) (by omega) (by omega))
    show Zs _ _ (am_P 95).2 (29, [(0, .ref 0)], []) (HH I2 J1 R2 T) _
    refine Z_jump 2 rfl ?_
    show Zs _ _ (am_P 95).2 (33, [(0, .ref 0)], [.ref 1]) (HH I2 J1 R2 T) _
    refine Z_cQ rfl rfl rfl (Ze_deep (d := 3) (by omega) (c_beginQ (d := 0) C2)) (fun v h1 hq => ?_)
    obtain ⟨rfl, I3, rfl, k1, k2, k3⟩ := hq
    show Zs _ _ (am_P 95).2 (36, [(0, .ref 0)], []) (HH I3 J1 R2 T) _
    refine Z_jump 4 rfl ?_
    show Zs _ _ (am_P 95).2 (40, [(0, .ref 0), (1, .int (0 : Int32)), (2, .int (1 : Int32))], []) (HH I3 J1 R2 T) _
    have e18 : I3 18 = I 18 := (k2 18 (by decide)).trans ((h7.1 18 (by omega) (by omega) (by omega) (by omega)).trans (u1 18 (by decide) (by decide)))
    have e8 : I3 8 = I 8 := (k2 8 (by decide)).trans ((h7.1 8 (by omega) (by omega) (by omega) (by omega)).trans (u1 8 (by decide) (by decide)))
    refine c_run_l 12 0 _ I3 J1 _ (by omega) rfl k1 k3 (DC_of hD e18 (h3 19 (by decide))) (BS_of hB e8) hs (fun jj If Jf q1 q2 q3 => ?_)
    exact Or.inr ⟨nn, I1, J1, I2, R2, I3, jj, If, Jf, hs, u1, w1, hq0, k2, q1, q2, fun a ha => (q3 a ha).trans (w1 a ha), rfl, rfl⟩
theorem RN_c {D : FD} {a : Nat} (h : a = 0 ∨ a = 2 ∨ (17 < a ∧ a < 22) ∨ 24 < a) : ∀ (k j s : Nat) (I : hI) (jj : Nat) (If : hI), RN tx c D k j s I jj If → If a = I a
  | 0, j, s, I, jj, If, hr => hr.elim
  | k + 1, j, s, I, jj, If, hr => by
    obtain ⟨I1, q, u1, hq0, ⟨_, _, rfl⟩ | ⟨_, ⟨_, _, rfl⟩ | ⟨_, _, _, I3, u3, hr'⟩⟩⟩ := hr
    · rw [dsF_c (by omega) (by omega) (by omega) (by omega)]; exact u1 a (by omega) (by omega)
    · rw [dsF_c (by omega) (by omega) (by omega) (by omega)]; exact u1 a (by omega) (by omega)
    · rw [RN_c h k (j + 1) _ I3 jj If hr', u3 a (by omega) (by omega), dsF_c (by omega) (by omega) (by omega) (by omega)]; exact u1 a (by omega) (by omega)
theorem RN_BS {D : FD} (ho : ∀ k, k < D.1 → okR (D.2.1 k)) : ∀ (k j s : Nat) (I : hI) (jj : Nat) (If : hI), BS I → RN tx c D k j s I jj If → BS If
  | 0, j, s, I, jj, If, hB, hr => hr.elim
  | k + 1, j, s, I, jj, If, hB, hr => by
    obtain ⟨I1, q, u1, hq0, ⟨_, _, rfl⟩ | ⟨_, ⟨_, _, rfl⟩ | ⟨_, _, _, I3, u3, hr'⟩⟩⟩ := hr
    · exact dsF_BS ho (BS_of hB (u1 8 (by decide) (by decide)))
    · exact dsF_BS ho (BS_of hB (u1 8 (by decide) (by decide)))
    · exact RN_BS ho k (j + 1) _ I3 jj If (BS_of (dsF_BS ho (BS_of hB (u1 8 (by decide) (by decide)))) (u3 8 (by decide) (by decide))) hr'
end RN2

