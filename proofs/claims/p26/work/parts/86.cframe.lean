/-! The class reads a clause of a frame's text. -/
def FCq (tx : Nat → Nat) (c k : Nat) (res : Nat ⊕ (Nat × FD)) (I : hI) (J : hJ) (R : hR) (T : am_H) (h : am_H) : Prop := ∃ I' R' T', h = HH I' J R' T' ∧ (∀ a, a ≠ 1 → a ≠ 20 → I' a = I a) ∧ (∀ a, a ≠ 21 → R' a = R a) ∧ TX k T T' ∧ CT tx c I' ∧ (match res with
  | .inl p => p ≤ c ∧ I' 1 2 = nI p
  | .inr (e, D') => e ≤ c ∧ I' 1 2 = -1 ∧ CTK tx c (tS tx c e) I' ∧ DC 20 D' I' R' T')
theorem nI_m1 {p c : Nat} (h : p ≤ c) (hc : c ≤ 160) : ¬ nI p = -1 := fun z => by
  have h3 := congrArg Int32.toInt z
  rw [nI_toInt (by omega)] at h3
  have h4 : (-1 : Int32).toInt = -1 := rfl
  omega
section CFR
variable {sc : Nat × (Nat → Int32)} {d : Nat} {I : hI} {J : hJ} {R : hR} {T : am_H} {Q : Option Value → am_H → Prop} {tx : Nat → Nat} {c : Nat}
theorem c_soundN (h2 : ¬ I 1 2 = -1) : am_E sc (d + 1) 57 [.ref 1] (HH I J R T) (some (.int 0)) (HH I J R T) := by
  have w := c_isSound (sc := sc) (d := d) (I := I) (J := J) (R := R) (T := T)
  rw [if_neg h2] at w
  exact w
theorem c_soundY (h2 : I 1 2 = -1) : am_E sc (d + 1) 57 [.ref 1] (HH I J R T) (some (.int 1)) (HH I J R T) := by
  have w := c_isSound (sc := sc) (d := d) (I := I) (J := J) (R := R) (T := T)
  rw [if_pos h2] at w
  exact w
theorem c_failY {s : Nat} (hs : I 1 3 = nI s) (h2 : I 1 2 = -1) : am_E sc (d + 1) 58 [.ref 1] (HH I J R T) none (HH (sf I 1 2 (nI s)) J R T) := by
  have w := c_fail (sc := sc) (d := d) (J := J) (R := R) (T := T) hs
  rw [if_pos h2] at w
  exact w
theorem c_takeI {s md : Nat} {m lo hi : Int32} {lo' hi' : Int} (hK : CTK tx c s I) (h2 : I 1 2 = -1) (hm : m = nI md) (h7 : md ≤ 7) (hl : lo.toInt = lo') (hh : hi.toInt = hi') : Ze sc (d + 3) 62 [.ref 1, .int m, .int lo, .int hi] (HH I J R T) (TNq tx c s md lo' hi' I J R T) := by
  have w := c_take (sc := sc) (d := d) (J := J) (R := R) (T := T) (lo := lo) (hi := hi) hK h2 hm h7
  rw [hl, hh] at w
  exact w
theorem okR_mk {kd b l g : Nat} (h1 : kd ≤ 3) (h2 : (2 : Int) ≤ b) (h3 : (b : Int) ≤ 16) (h4 : (1 : Int) ≤ l) (h5 : (l : Int) ≤ 9) (h6 : (g : Int) ≤ 3) (h7 : kd = 0 → g = 0) : okR (kd, b, l, g) := ⟨h1, ⟨by show 2 ≤ b; omega, by show b ≤ 16; omega⟩, ⟨by show 1 ≤ l; omega, by show l ≤ 9; omega⟩, by show g ≤ 3; omega, h7⟩
theorem FC_f {s : Nat} {I1 : hI} (hK : CTK tx c s I1) (hI : ∀ a, a ≠ 1 → I1 a = I a) : FCq tx c 1 (.inl s) I J R T (HH (sf I1 1 2 (nI s)) J R T) :=
  ⟨_, R, T, rfl, fun a h1 h2 => by rw [sf_c h1]; exact hI a h1, fun _ _ => rfl, TX_w (TX_0 T) (by omega), CT_of hK.1 rfl rfl, hK.2.1, rfl⟩
theorem C_fc {p : Nat} {I1 : hI} (hp : p ≤ c) (hc : c ≤ 160) : ¬ sf I1 1 2 (nI p) 1 2 = -1 := by
  rw [sf_s]; exact nI_m1 hp hc
/-- kind 0, behind a fault -/
theorem c_rr0_34 {s : Nat} {v : Int32} (hs : I 1 3 = nI s) (h2 : ¬ I 1 2 = -1) : Zs sc (d + 4) (am_P 9).2 (34, [(0, .ref 20), (1, .ref 1), (2, .int 0)], [.int v]) (HH I J R T) (fun r h => r = none ∧ h = HH I J R T) := by
  refine Z_jump 5 rfl ?_
  show Zs _ _ (am_P 9).2 (40, [(0, .ref 20), (1, .ref 1), (2, .int (0 : Int32)), (3, .int v)], [.int (9 : Int32), .int (1 : Int32), .int (2 : Int32), .ref 1]) (HH I J R T) _
  refine Z_c1 rfl rfl rfl (c_take_u hs h2) ?_
  show Zs _ _ (am_P 9).2 (43, [(0, .ref 20), (1, .ref 1), (2, .int (0 : Int32)), (3, .int v)], [.int (0 : Int32)]) (HH I J R T) _
  refine Z_jump 7 rfl ?_
  show Zs _ _ (am_P 9).2 (63, [(0, .ref 20), (1, .ref 1), (2, .int (0 : Int32)), (3, .int v), (4, .int (0 : Int32)), (5, .int (0 : Int32))], [.ref 1]) (HH I J R T) _
  refine Z_c1 rfl rfl rfl (c_soundN h2) ?_
  show Zs _ _ (am_P 9).2 (66, [(0, .ref 20), (1, .ref 1), (2, .int (0 : Int32)), (3, .int v), (4, .int (0 : Int32)), (5, .int (0 : Int32))], [.int (0 : Int32)]) (HH I J R T) _
  refine Z_jump 1 rfl ?_
  show Zs _ _ (am_P 9).2 (97, [(0, .ref 20), (1, .ref 1), (2, .int (0 : Int32)), (3, .int v), (4, .int (0 : Int32)), (5, .int (0 : Int32))], []) (HH I J R T) _
  refine Z_ret rfl rfl rfl ?_
  exact ⟨rfl, rfl⟩
theorem c_rr0_43 {s : Nat} {v w : Int32} (hs : I 1 3 = nI s) (h2 : ¬ I 1 2 = -1) : Zs sc (d + 4) (am_P 9).2 (43, [(0, .ref 20), (1, .ref 1), (2, .int 0), (3, .int w)], [.int v]) (HH I J R T) (fun r h => r = none ∧ h = HH I J R T) := by
  refine Z_jump 7 rfl ?_
  show Zs _ _ (am_P 9).2 (63, [(0, .ref 20), (1, .ref 1), (2, .int (0 : Int32)), (3, .int w), (4, .int v), (5, .int (0 : Int32))], [.ref 1]) (HH I J R T) _
  refine Z_c1 rfl rfl rfl (c_soundN h2) ?_
  show Zs _ _ (am_P 9).2 (66, [(0, .ref 20), (1, .ref 1), (2, .int (0 : Int32)), (3, .int w), (4, .int v), (5, .int (0 : Int32))], [.int (0 : Int32)]) (HH I J R T) _
  refine Z_jump 1 rfl ?_
  show Zs _ _ (am_P 9).2 (97, [(0, .ref 20), (1, .ref 1), (2, .int (0 : Int32)), (3, .int w), (4, .int v), (5, .int (0 : Int32))], []) (HH I J R T) _
  refine Z_ret rfl rfl rfl ?_
  exact ⟨rfl, rfl⟩
theorem c_rr0_60 {v w u : Int32} (h2 : ¬ I 1 2 = -1) : Zs sc (d + 4) (am_P 9).2 (60, [(0, .ref 20), (1, .ref 1), (2, .int 0), (3, .int w), (4, .int u)], [.int v]) (HH I J R T) (fun r h => r = none ∧ h = HH I J R T) := by
  refine Z_jump 2 rfl ?_
  show Zs _ _ (am_P 9).2 (63, [(0, .ref 20), (1, .ref 1), (2, .int (0 : Int32)), (3, .int w), (4, .int u), (5, .int v)], [.ref 1]) (HH I J R T) _
  refine Z_c1 rfl rfl rfl (c_soundN h2) ?_
  show Zs _ _ (am_P 9).2 (66, [(0, .ref 20), (1, .ref 1), (2, .int (0 : Int32)), (3, .int w), (4, .int u), (5, .int v)], [.int (0 : Int32)]) (HH I J R T) _
  refine Z_jump 1 rfl ?_
  show Zs _ _ (am_P 9).2 (97, [(0, .ref 20), (1, .ref 1), (2, .int (0 : Int32)), (3, .int w), (4, .int u), (5, .int v)], []) (HH I J R T) _
  refine Z_ret rfl rfl rfl ?_
  exact ⟨rfl, rfl⟩
/-- kind 0, all read -/
theorem c_rr0_ok {s e b l : Nat} {D : FD} {I0 : hI} (hK : CTK tx c (tS tx c e) I) (he : e ≤ c) (h2 : I 1 2 = -1) (hI : ∀ a, a ≠ 1 → I a = I0 a) (hD : DC 20 D I R T) (h6 : D.1 < 6) (hq : okR (0, b, l, 0)) : Zs sc (d + 4) (am_P 9).2 (62, [(0, .ref 20), (1, .ref 1), (2, .int 0), (3, .int (nI b)), (4, .int (nI l)), (5, .int (nI 0))], []) (HH I J R T) (fun r h => r = none ∧ FCq tx c 1 (.inr (e, fPush D (0, b, l, 0))) I0 J R T h) := by
  have hm := hD.1
  refine Z_jump 1 rfl ?_
  show Zs _ _ (am_P 9).2 (63, [(0, .ref 20), (1, .ref 1), (2, .int (0 : Int32)), (3, .int (nI b)), (4, .int (nI l)), (5, .int (nI 0))], [.ref 1]) (HH I J R T) _
  refine Z_c1 rfl rfl rfl (c_soundY h2) ?_
  show Zs _ _ (am_P 9).2 (66, [(0, .ref 20), (1, .ref 1), (2, .int (0 : Int32)), (3, .int (nI b)), (4, .int (nI l)), (5, .int (nI 0))], [.int (1 : Int32)]) (HH I J R T) _
  refine Z_jump 9 rfl ?_
  show Zs _ _ (am_P 9).2 (83, [(0, .ref 20), (1, .ref 1), (2, .int (0 : Int32)), (3, .int (nI b)), (4, .int (nI l)), (5, .int (nI 0))], [.int (nI 0), .int (nI l), .int (nI b), .int (0 : Int32), .int (I 20 1), .ref 21]) (HH I J R T) _
  refine Z_c1 rfl rfl rfl (c_make0) ?_
  show Zs _ _ (am_P 9).2 (86, [(0, .ref 20), (1, .ref 1), (2, .int (0 : Int32)), (3, .int (nI b)), (4, .int (nI l)), (5, .int (nI 0))], [.ref (99 + T.length), .int (I 20 1), .ref 21]) (HH I J R (T ++ [rodC (0, b, l, 0)])) _
  show Zs _ _ (am_P 9).2 (86, [(0, .ref 20), (1, .ref 1), (2, .int (0 : Int32)), (3, .int (nI b)), (4, .int (nI l)), (5, .int (nI 0))], [.ref (99 + T.length), .int (I 20 1), .ref 21]) (HH I J R (T ++ [rodC (0, b, l, 0)])) _
  refine Z_aasR (D.1) rfl rfl (HH_at T.length (app_at T _)) (rfl) (hm) (by omega) (by decide) ?_
  show Zs _ _ (am_P 9).2 (87, [(0, .ref 20), (1, .ref 1), (2, .int (0 : Int32)), (3, .int (nI b)), (4, .int (nI l)), (5, .int (nI 0))], []) (HH I J (sr R 21 (D.1) (some (99 + T.length))) (T ++ [rodC (0, b, l, 0)])) _
  refine Z_jump 6 rfl ?_
  show Zs _ _ (am_P 9).2 (97, [(0, .ref 20), (1, .ref 1), (2, .int (0 : Int32)), (3, .int (nI b)), (4, .int (nI l)), (5, .int (nI 0))], []) (HH (sf I 20 1 ((I 20 1) + (1 : Int32))) J (sr R 21 (D.1) (some (99 + T.length))) (T ++ [rodC (0, b, l, 0)])) _
  show Zs _ _ (am_P 9).2 (97, [(0, .ref 20), (1, .ref 1), (2, .int (0 : Int32)), (3, .int (nI b)), (4, .int (nI l)), (5, .int (nI 0))], []) (HH (sf I 20 1 ((I 20 1) + (1 : Int32))) J (sr R 21 (D.1) (some (99 + T.length))) (T ++ [rodC (0, b, l, 0)])) _
  refine Z_ret rfl rfl rfl ?_
  refine ⟨rfl, _, _, _, rfl, fun a h1 h3 => ?_, fun a h1 => up_ne h1, ⟨[_], rfl, Nat.le_refl 1, Nat.le_refl 3⟩, CT_of hK.1 rfl rfl, he, h2, hK, ?_⟩
  · rw [sf_c h3]; exact hI a h1
  refine ⟨?_, by show D.1 + 1 ≤ 6; omega, hD.2.2.1, fun k hk => ?_⟩
  · show I 20 1 + 1 = nI (D.1 + 1)
    rw [hm]; exact nI_1 D.1
  have hk : k < D.1 + 1 := hk
  by_cases ek : k = D.1
  · subst ek
    refine ⟨?_, T.length, ?_, ?_⟩
    · show okR (va_up D.2.1 D.1 (0, b, l, 0) D.1)
      rw [up_same]; exact hq
    · show sr R 21 D.1 (some (99 + T.length)) 21 D.1 = _
      unfold sr; rw [up_same, up_same]
    · show (T ++ [rodC (0, b, l, 0)])[T.length]? = some (rodC (va_up D.2.1 D.1 (0, b, l, 0) D.1))
      rw [up_same]; exact app_at T _
  · obtain ⟨g1, a, g2, g3⟩ := hD.2.2.2 k (by omega)
    refine ⟨?_, a, ?_, ?_⟩
    · show okR (va_up D.2.1 D.1 (0, b, l, 0) k)
      rw [up_ne ek]; exact g1
    · show sr R 21 D.1 (some (99 + T.length)) 21 k = _
      unfold sr; rw [up_same, up_ne ek]; exact g2
    · show (T ++ [rodC (0, b, l, 0)])[a]? = some (rodC (va_up D.2.1 D.1 (0, b, l, 0) k))
      rw [up_ne ek, List.getElem?_append_left (List.getElem?_eq_some_iff.mp g3).1]; exact g3
theorem c_readRod0 {s : Nat} {D : FD} (hK : CTK tx c s I) (h2 : I 1 2 = -1) (hD : DC 20 D I R T) : Ze sc (d + 5) 9 [.ref 20, .ref 1, .int 0] (HH I J R T) (fun r h => r = none ∧ FCq tx c 1 (fRod tx c s (tE tx c s) 0 D) I J R T h) := by
  refine Ze_of (Nat.le_of_ble_eq_true rfl) ?_
  have hc := hK.1.2.1
  have h6 := hD.2.1
  have e14 : I 20 1 < 6 ↔ D.1 < 6 := by rw [hD.1]; exact nI_ltI (b := 6) (by omega) (by omega)
  by_cases hm : D.1 = 6
  · have ef : fRod tx c s (tE tx c s) 0 D = .inl s := by unfold fRod; rw [if_pos hm]
    rw [ef]
    refine Z_jump 8 rfl ?_
    show Zs _ _ (am_P 9).2 (14, [(0, .ref 20), (1, .ref 1), (2, .int (0 : Int32))], [.int (6 : Int32), .int (I 20 1)]) (HH I J R T) _
    refine Z_jump 1 rfl ?_
    refine Z_bd (fun c14 => absurd c14 ((fun z => absurd (e14.mp z) (by omega)))) (fun c14 => ?_)
    refine Z_jump 1 rfl ?_
    show Zs _ _ (am_P 9).2 (18, [(0, .ref 20), (1, .ref 1), (2, .int (0 : Int32))], [.ref 1]) (HH I J R T) _
    refine Z_c0 rfl rfl rfl (c_failY hK.2.2.1 h2) ?_
    show Zs _ _ (am_P 9).2 (21, [(0, .ref 20), (1, .ref 1), (2, .int (0 : Int32))], []) (HH (sf I 1 2 (nI s)) J R T) _
    show Zs _ _ (am_P 9).2 (21, [(0, .ref 20), (1, .ref 1), (2, .int (0 : Int32))], []) (HH (sf I 1 2 (nI s)) J R T) _
    refine Z_ret rfl rfl rfl ?_
    exact ⟨rfl, FC_f hK (fun _ _ => rfl)⟩
  · refine Z_jump 8 rfl ?_
    show Zs _ _ (am_P 9).2 (14, [(0, .ref 20), (1, .ref 1), (2, .int (0 : Int32))], [.int (6 : Int32), .int (I 20 1)]) (HH I J R T) _
    refine Z_jump 1 rfl ?_
    refine Z_bd (fun c14 => ?_) (fun c14 => absurd ((e14.mpr (by omega))) c14)
    refine Z_jump 1 rfl ?_
    show Zs _ _ (am_P 9).2 (23, [(0, .ref 20), (1, .ref 1), (2, .int (0 : Int32))], [.ref 1]) (HH I J R T) _
    refine Z_cQ rfl rfl rfl (c_stepQ hK) (fun v h1 hq => ?_)
    obtain ⟨rfl, I1, rfl, K1, u1, f1⟩ := hq
    show Zs _ _ (am_P 9).2 (26, [(0, .ref 20), (1, .ref 1), (2, .int (0 : Int32))], []) (HH I1 J R T) _
    refine Z_jump 4 rfl ?_
    show Zs _ _ (am_P 9).2 (31, [(0, .ref 20), (1, .ref 1), (2, .int (0 : Int32))], [.int (16 : Int32), .int (2 : Int32), .int (2 : Int32), .ref 1]) (HH I1 J R T) _
    refine Z_cQ rfl rfl rfl (c_takeI (md := 2) K1 (f1.trans h2) rfl (by omega) (show (2 : Int32).toInt = 2 from rfl) (show (16 : Int32).toInt = 16 from rfl)) (fun v h1 hq => ?_)
    rcases hq with ⟨hT1, rfl, I2, rfl, K2, u2, f2⟩ | ⟨hT1, rfl, rfl⟩
    · refine Z_jump 5 rfl ?_
      show Zs _ _ (am_P 9).2 (40, [(0, .ref 20), (1, .ref 1), (2, .int (0 : Int32)), (3, .int (nI (nv tx (tS tx c (tE tx c s)) (tE tx c (tS tx c (tE tx c s))))))], [.int (9 : Int32), .int (1 : Int32), .int (2 : Int32), .ref 1]) (HH I2 J R T) _
      refine Z_cQ rfl rfl rfl (c_takeI (md := 2) K2 f2 rfl (by omega) (show (1 : Int32).toInt = 1 from rfl) (show (9 : Int32).toInt = 9 from rfl)) (fun v h1 hq => ?_)
      rcases hq with ⟨hT2, rfl, I3, rfl, K3, u3, f3⟩ | ⟨hT2, rfl, rfl⟩
      · refine Z_jump 6 rfl ?_
        show Zs _ _ (am_P 9).2 (62, [(0, .ref 20), (1, .ref 1), (2, .int (0 : Int32)), (3, .int (nI (nv tx (tS tx c (tE tx c s)) (tE tx c (tS tx c (tE tx c s)))))), (4, .int (nI (nv tx (tS tx c (tE tx c (tS tx c (tE tx c s)))) (tE tx c (tS tx c (tE tx c (tS tx c (tE tx c s)))))))), (5, .int (0 : Int32))], []) (HH I3 J R T) _
        have ef : fRod tx c s (tE tx c s) 0 D = .inr (tE tx c (tS tx c (tE tx c (tS tx c (tE tx c s)))), fPush D (0, nv tx (tS tx c (tE tx c s)) (tE tx c (tS tx c (tE tx c s))), nv tx (tS tx c (tE tx c (tS tx c (tE tx c s)))) (tE tx c (tS tx c (tE tx c (tS tx c (tE tx c s))))), 0)) := by unfold fRod; rw [if_neg hm, if_pos hT1, if_pos hT2, if_pos rfl]
        rw [ef]
        exact c_rr0_ok (s := s) K3 (tE_c K2.2.1).2 f3 (fun a ha => (u3 a ha).trans ((u2 a ha).trans (u1 a ha))) (DC_of hD (show I3 20 = I 20 from (u3 20 (by decide)).trans ((u2 20 (by decide)).trans (u1 20 (by decide)))) rfl) (by omega) (okR_mk (by omega) hT1.2.2.1 hT1.2.2.2 hT2.2.2.1 hT2.2.2.2 (by omega) (fun _ => rfl))
      · have ef : fRod tx c s (tE tx c s) 0 D = .inl (tS tx c (tE tx c (tS tx c (tE tx c s)))) := by unfold fRod; rw [if_neg hm, if_pos hT1, if_neg hT2]
        rw [ef]
        exact Zs_mono (c_rr0_43 (s := (tS tx c (tE tx c (tS tx c (tE tx c s))))) K2.2.2.1 (C_fc K2.2.1 hc)) (fun r h' q => ⟨q.1, by rw [q.2]; exact FC_f K2 (fun a ha => (u2 a ha).trans (u1 a ha))⟩)
    · have ef : fRod tx c s (tE tx c s) 0 D = .inl (tS tx c (tE tx c s)) := by unfold fRod; rw [if_neg hm, if_neg hT1]
      rw [ef]
      exact Zs_mono (c_rr0_34 (s := (tS tx c (tE tx c s))) K1.2.2.1 (C_fc K1.2.1 hc)) (fun r h' q => ⟨q.1, by rw [q.2]; exact FC_f K1 u1⟩)
/-- kind 1, behind a fault -/
theorem c_rr1_34 {s : Nat} {v : Int32} (hs : I 1 3 = nI s) (h2 : ¬ I 1 2 = -1) : Zs sc (d + 4) (am_P 9).2 (34, [(0, .ref 20), (1, .ref 1), (2, .int 1)], [.int v]) (HH I J R T) (fun r h => r = none ∧ h = HH I J R T) := by
  refine Z_jump 5 rfl ?_
  show Zs _ _ (am_P 9).2 (40, [(0, .ref 20), (1, .ref 1), (2, .int (1 : Int32)), (3, .int v)], [.int (9 : Int32), .int (1 : Int32), .int (2 : Int32), .ref 1]) (HH I J R T) _
  refine Z_c1 rfl rfl rfl (c_take_u hs h2) ?_
  show Zs _ _ (am_P 9).2 (43, [(0, .ref 20), (1, .ref 1), (2, .int (1 : Int32)), (3, .int v)], [.int (0 : Int32)]) (HH I J R T) _
  refine Z_jump 7 rfl ?_
  show Zs _ _ (am_P 9).2 (57, [(0, .ref 20), (1, .ref 1), (2, .int (1 : Int32)), (3, .int v), (4, .int (0 : Int32))], [.int (3 : Int32), .int (0 : Int32), .int (2 : Int32), .ref 1]) (HH I J R T) _
  refine Z_c1 rfl rfl rfl (c_take_u hs h2) ?_
  show Zs _ _ (am_P 9).2 (60, [(0, .ref 20), (1, .ref 1), (2, .int (1 : Int32)), (3, .int v), (4, .int (0 : Int32))], [.int (0 : Int32)]) (HH I J R T) _
  refine Z_jump 2 rfl ?_
  show Zs _ _ (am_P 9).2 (63, [(0, .ref 20), (1, .ref 1), (2, .int (1 : Int32)), (3, .int v), (4, .int (0 : Int32)), (5, .int (0 : Int32))], [.ref 1]) (HH I J R T) _
  refine Z_c1 rfl rfl rfl (c_soundN h2) ?_
  show Zs _ _ (am_P 9).2 (66, [(0, .ref 20), (1, .ref 1), (2, .int (1 : Int32)), (3, .int v), (4, .int (0 : Int32)), (5, .int (0 : Int32))], [.int (0 : Int32)]) (HH I J R T) _
  refine Z_jump 1 rfl ?_
  show Zs _ _ (am_P 9).2 (97, [(0, .ref 20), (1, .ref 1), (2, .int (1 : Int32)), (3, .int v), (4, .int (0 : Int32)), (5, .int (0 : Int32))], []) (HH I J R T) _
  refine Z_ret rfl rfl rfl ?_
  exact ⟨rfl, rfl⟩
theorem c_rr1_43 {s : Nat} {v w : Int32} (hs : I 1 3 = nI s) (h2 : ¬ I 1 2 = -1) : Zs sc (d + 4) (am_P 9).2 (43, [(0, .ref 20), (1, .ref 1), (2, .int 1), (3, .int w)], [.int v]) (HH I J R T) (fun r h => r = none ∧ h = HH I J R T) := by
  refine Z_jump 7 rfl ?_
  show Zs _ _ (am_P 9).2 (57, [(0, .ref 20), (1, .ref 1), (2, .int (1 : Int32)), (3, .int w), (4, .int v)], [.int (3 : Int32), .int (0 : Int32), .int (2 : Int32), .ref 1]) (HH I J R T) _
  refine Z_c1 rfl rfl rfl (c_take_u hs h2) ?_
  show Zs _ _ (am_P 9).2 (60, [(0, .ref 20), (1, .ref 1), (2, .int (1 : Int32)), (3, .int w), (4, .int v)], [.int (0 : Int32)]) (HH I J R T) _
  refine Z_jump 2 rfl ?_
  show Zs _ _ (am_P 9).2 (63, [(0, .ref 20), (1, .ref 1), (2, .int (1 : Int32)), (3, .int w), (4, .int v), (5, .int (0 : Int32))], [.ref 1]) (HH I J R T) _
  refine Z_c1 rfl rfl rfl (c_soundN h2) ?_
  show Zs _ _ (am_P 9).2 (66, [(0, .ref 20), (1, .ref 1), (2, .int (1 : Int32)), (3, .int w), (4, .int v), (5, .int (0 : Int32))], [.int (0 : Int32)]) (HH I J R T) _
  refine Z_jump 1 rfl ?_
  show Zs _ _ (am_P 9).2 (97, [(0, .ref 20), (1, .ref 1), (2, .int (1 : Int32)), (3, .int w), (4, .int v), (5, .int (0 : Int32))], []) (HH I J R T) _
  refine Z_ret rfl rfl rfl ?_
  exact ⟨rfl, rfl⟩
theorem c_rr1_60 {v w u : Int32} (h2 : ¬ I 1 2 = -1) : Zs sc (d + 4) (am_P 9).2 (60, [(0, .ref 20), (1, .ref 1), (2, .int 1), (3, .int w), (4, .int u)], [.int v]) (HH I J R T) (fun r h => r = none ∧ h = HH I J R T) := by
  refine Z_jump 2 rfl ?_
  show Zs _ _ (am_P 9).2 (63, [(0, .ref 20), (1, .ref 1), (2, .int (1 : Int32)), (3, .int w), (4, .int u), (5, .int v)], [.ref 1]) (HH I J R T) _
  refine Z_c1 rfl rfl rfl (c_soundN h2) ?_
  show Zs _ _ (am_P 9).2 (66, [(0, .ref 20), (1, .ref 1), (2, .int (1 : Int32)), (3, .int w), (4, .int u), (5, .int v)], [.int (0 : Int32)]) (HH I J R T) _
  refine Z_jump 1 rfl ?_
  show Zs _ _ (am_P 9).2 (97, [(0, .ref 20), (1, .ref 1), (2, .int (1 : Int32)), (3, .int w), (4, .int u), (5, .int v)], []) (HH I J R T) _
  refine Z_ret rfl rfl rfl ?_
  exact ⟨rfl, rfl⟩
/-- kind 1, all read -/
theorem c_rr1_ok {s e b l g : Nat} {D : FD} {I0 : hI} (hK : CTK tx c (tS tx c e) I) (he : e ≤ c) (h2 : I 1 2 = -1) (hI : ∀ a, a ≠ 1 → I a = I0 a) (hD : DC 20 D I R T) (h6 : D.1 < 6) (hq : okR (1, b, l, g)) : Zs sc (d + 4) (am_P 9).2 (62, [(0, .ref 20), (1, .ref 1), (2, .int 1), (3, .int (nI b)), (4, .int (nI l)), (5, .int (nI g))], []) (HH I J R T) (fun r h => r = none ∧ FCq tx c 1 (.inr (e, fPush D (1, b, l, g))) I0 J R T h) := by
  have hm := hD.1
  refine Z_jump 1 rfl ?_
  show Zs _ _ (am_P 9).2 (63, [(0, .ref 20), (1, .ref 1), (2, .int (1 : Int32)), (3, .int (nI b)), (4, .int (nI l)), (5, .int (nI g))], [.ref 1]) (HH I J R T) _
  refine Z_c1 rfl rfl rfl (c_soundY h2) ?_
  show Zs _ _ (am_P 9).2 (66, [(0, .ref 20), (1, .ref 1), (2, .int (1 : Int32)), (3, .int (nI b)), (4, .int (nI l)), (5, .int (nI g))], [.int (1 : Int32)]) (HH I J R T) _
  refine Z_jump 9 rfl ?_
  show Zs _ _ (am_P 9).2 (83, [(0, .ref 20), (1, .ref 1), (2, .int (1 : Int32)), (3, .int (nI b)), (4, .int (nI l)), (5, .int (nI g))], [.int (nI g), .int (nI l), .int (nI b), .int (1 : Int32), .int (I 20 1), .ref 21]) (HH I J R T) _
  refine Z_c1 rfl rfl rfl (c_make1) ?_
  show Zs _ _ (am_P 9).2 (86, [(0, .ref 20), (1, .ref 1), (2, .int (1 : Int32)), (3, .int (nI b)), (4, .int (nI l)), (5, .int (nI g))], [.ref (99 + T.length), .int (I 20 1), .ref 21]) (HH I J R (T ++ [rodC (1, b, l, g)])) _
  show Zs _ _ (am_P 9).2 (86, [(0, .ref 20), (1, .ref 1), (2, .int (1 : Int32)), (3, .int (nI b)), (4, .int (nI l)), (5, .int (nI g))], [.ref (99 + T.length), .int (I 20 1), .ref 21]) (HH I J R (T ++ [rodC (1, b, l, g)])) _
  refine Z_aasR (D.1) rfl rfl (HH_at T.length (app_at T _)) (rfl) (hm) (by omega) (by decide) ?_
  show Zs _ _ (am_P 9).2 (87, [(0, .ref 20), (1, .ref 1), (2, .int (1 : Int32)), (3, .int (nI b)), (4, .int (nI l)), (5, .int (nI g))], []) (HH I J (sr R 21 (D.1) (some (99 + T.length))) (T ++ [rodC (1, b, l, g)])) _
  refine Z_jump 6 rfl ?_
  show Zs _ _ (am_P 9).2 (97, [(0, .ref 20), (1, .ref 1), (2, .int (1 : Int32)), (3, .int (nI b)), (4, .int (nI l)), (5, .int (nI g))], []) (HH (sf I 20 1 ((I 20 1) + (1 : Int32))) J (sr R 21 (D.1) (some (99 + T.length))) (T ++ [rodC (1, b, l, g)])) _
  show Zs _ _ (am_P 9).2 (97, [(0, .ref 20), (1, .ref 1), (2, .int (1 : Int32)), (3, .int (nI b)), (4, .int (nI l)), (5, .int (nI g))], []) (HH (sf I 20 1 ((I 20 1) + (1 : Int32))) J (sr R 21 (D.1) (some (99 + T.length))) (T ++ [rodC (1, b, l, g)])) _
  refine Z_ret rfl rfl rfl ?_
  refine ⟨rfl, _, _, _, rfl, fun a h1 h3 => ?_, fun a h1 => up_ne h1, ⟨[_], rfl, Nat.le_refl 1, Nat.le_refl 3⟩, CT_of hK.1 rfl rfl, he, h2, hK, ?_⟩
  · rw [sf_c h3]; exact hI a h1
  refine ⟨?_, by show D.1 + 1 ≤ 6; omega, hD.2.2.1, fun k hk => ?_⟩
  · show I 20 1 + 1 = nI (D.1 + 1)
    rw [hm]; exact nI_1 D.1
  have hk : k < D.1 + 1 := hk
  by_cases ek : k = D.1
  · subst ek
    refine ⟨?_, T.length, ?_, ?_⟩
    · show okR (va_up D.2.1 D.1 (1, b, l, g) D.1)
      rw [up_same]; exact hq
    · show sr R 21 D.1 (some (99 + T.length)) 21 D.1 = _
      unfold sr; rw [up_same, up_same]
    · show (T ++ [rodC (1, b, l, g)])[T.length]? = some (rodC (va_up D.2.1 D.1 (1, b, l, g) D.1))
      rw [up_same]; exact app_at T _
  · obtain ⟨g1, a, g2, g3⟩ := hD.2.2.2 k (by omega)
    refine ⟨?_, a, ?_, ?_⟩
    · show okR (va_up D.2.1 D.1 (1, b, l, g) k)
      rw [up_ne ek]; exact g1
    · show sr R 21 D.1 (some (99 + T.length)) 21 k = _
      unfold sr; rw [up_same, up_ne ek]; exact g2
    · show (T ++ [rodC (1, b, l, g)])[a]? = some (rodC (va_up D.2.1 D.1 (1, b, l, g) k))
      rw [up_ne ek, List.getElem?_append_left (List.getElem?_eq_some_iff.mp g3).1]; exact g3
theorem c_readRod1 {s : Nat} {D : FD} (hK : CTK tx c s I) (h2 : I 1 2 = -1) (hD : DC 20 D I R T) : Ze sc (d + 5) 9 [.ref 20, .ref 1, .int 1] (HH I J R T) (fun r h => r = none ∧ FCq tx c 1 (fRod tx c s (tE tx c s) 1 D) I J R T h) := by
  refine Ze_of (Nat.le_of_ble_eq_true rfl) ?_
  have hc := hK.1.2.1
  have h6 := hD.2.1
  have e14 : I 20 1 < 6 ↔ D.1 < 6 := by rw [hD.1]; exact nI_ltI (b := 6) (by omega) (by omega)
  by_cases hm : D.1 = 6
  · have ef : fRod tx c s (tE tx c s) 1 D = .inl s := by unfold fRod; rw [if_pos hm]
    rw [ef]
    refine Z_jump 8 rfl ?_
    show Zs _ _ (am_P 9).2 (14, [(0, .ref 20), (1, .ref 1), (2, .int (1 : Int32))], [.int (6 : Int32), .int (I 20 1)]) (HH I J R T) _
    refine Z_jump 1 rfl ?_
    refine Z_bd (fun c14 => absurd c14 ((fun z => absurd (e14.mp z) (by omega)))) (fun c14 => ?_)
    refine Z_jump 1 rfl ?_
    show Zs _ _ (am_P 9).2 (18, [(0, .ref 20), (1, .ref 1), (2, .int (1 : Int32))], [.ref 1]) (HH I J R T) _
    refine Z_c0 rfl rfl rfl (c_failY hK.2.2.1 h2) ?_
    show Zs _ _ (am_P 9).2 (21, [(0, .ref 20), (1, .ref 1), (2, .int (1 : Int32))], []) (HH (sf I 1 2 (nI s)) J R T) _
    show Zs _ _ (am_P 9).2 (21, [(0, .ref 20), (1, .ref 1), (2, .int (1 : Int32))], []) (HH (sf I 1 2 (nI s)) J R T) _
    refine Z_ret rfl rfl rfl ?_
    exact ⟨rfl, FC_f hK (fun _ _ => rfl)⟩
  · refine Z_jump 8 rfl ?_
    show Zs _ _ (am_P 9).2 (14, [(0, .ref 20), (1, .ref 1), (2, .int (1 : Int32))], [.int (6 : Int32), .int (I 20 1)]) (HH I J R T) _
    refine Z_jump 1 rfl ?_
    refine Z_bd (fun c14 => ?_) (fun c14 => absurd ((e14.mpr (by omega))) c14)
    refine Z_jump 1 rfl ?_
    show Zs _ _ (am_P 9).2 (23, [(0, .ref 20), (1, .ref 1), (2, .int (1 : Int32))], [.ref 1]) (HH I J R T) _
    refine Z_cQ rfl rfl rfl (c_stepQ hK) (fun v h1 hq => ?_)
    obtain ⟨rfl, I1, rfl, K1, u1, f1⟩ := hq
    show Zs _ _ (am_P 9).2 (26, [(0, .ref 20), (1, .ref 1), (2, .int (1 : Int32))], []) (HH I1 J R T) _
    refine Z_jump 4 rfl ?_
    show Zs _ _ (am_P 9).2 (31, [(0, .ref 20), (1, .ref 1), (2, .int (1 : Int32))], [.int (16 : Int32), .int (2 : Int32), .int (2 : Int32), .ref 1]) (HH I1 J R T) _
    refine Z_cQ rfl rfl rfl (c_takeI (md := 2) K1 (f1.trans h2) rfl (by omega) (show (2 : Int32).toInt = 2 from rfl) (show (16 : Int32).toInt = 16 from rfl)) (fun v h1 hq => ?_)
    rcases hq with ⟨hT1, rfl, I2, rfl, K2, u2, f2⟩ | ⟨hT1, rfl, rfl⟩
    · refine Z_jump 5 rfl ?_
      show Zs _ _ (am_P 9).2 (40, [(0, .ref 20), (1, .ref 1), (2, .int (1 : Int32)), (3, .int (nI (nv tx (tS tx c (tE tx c s)) (tE tx c (tS tx c (tE tx c s))))))], [.int (9 : Int32), .int (1 : Int32), .int (2 : Int32), .ref 1]) (HH I2 J R T) _
      refine Z_cQ rfl rfl rfl (c_takeI (md := 2) K2 f2 rfl (by omega) (show (1 : Int32).toInt = 1 from rfl) (show (9 : Int32).toInt = 9 from rfl)) (fun v h1 hq => ?_)
      rcases hq with ⟨hT2, rfl, I3, rfl, K3, u3, f3⟩ | ⟨hT2, rfl, rfl⟩
      · refine Z_jump 7 rfl ?_
        show Zs _ _ (am_P 9).2 (57, [(0, .ref 20), (1, .ref 1), (2, .int (1 : Int32)), (3, .int (nI (nv tx (tS tx c (tE tx c s)) (tE tx c (tS tx c (tE tx c s)))))), (4, .int (nI (nv tx (tS tx c (tE tx c (tS tx c (tE tx c s)))) (tE tx c (tS tx c (tE tx c (tS tx c (tE tx c s))))))))], [.int (3 : Int32), .int (0 : Int32), .int (2 : Int32), .ref 1]) (HH I3 J R T) _
        refine Z_cQ rfl rfl rfl (c_takeI (md := 2) K3 f3 rfl (by omega) (show (0 : Int32).toInt = 0 from rfl) (show (3 : Int32).toInt = 3 from rfl)) (fun v h1 hq => ?_)
        rcases hq with ⟨hT3, rfl, I4, rfl, K4, u4, f4⟩ | ⟨hT3, rfl, rfl⟩
        · refine Z_jump 1 rfl ?_
          show Zs _ _ (am_P 9).2 (62, [(0, .ref 20), (1, .ref 1), (2, .int (1 : Int32)), (3, .int (nI (nv tx (tS tx c (tE tx c s)) (tE tx c (tS tx c (tE tx c s)))))), (4, .int (nI (nv tx (tS tx c (tE tx c (tS tx c (tE tx c s)))) (tE tx c (tS tx c (tE tx c (tS tx c (tE tx c s)))))))), (5, .int (nI (nv tx (tS tx c (tE tx c (tS tx c (tE tx c (tS tx c (tE tx c s)))))) (tE tx c (tS tx c (tE tx c (tS tx c (tE tx c (tS tx c (tE tx c s))))))))))], []) (HH I4 J R T) _
          have ef : fRod tx c s (tE tx c s) 1 D = .inr (tE tx c (tS tx c (tE tx c (tS tx c (tE tx c (tS tx c (tE tx c s)))))), fPush D (1, nv tx (tS tx c (tE tx c s)) (tE tx c (tS tx c (tE tx c s))), nv tx (tS tx c (tE tx c (tS tx c (tE tx c s)))) (tE tx c (tS tx c (tE tx c (tS tx c (tE tx c s))))), nv tx (tS tx c (tE tx c (tS tx c (tE tx c (tS tx c (tE tx c s)))))) (tE tx c (tS tx c (tE tx c (tS tx c (tE tx c (tS tx c (tE tx c s))))))))) := by unfold fRod; rw [if_neg hm, if_pos hT1, if_pos hT2, if_neg (by decide), if_pos hT3]
          rw [ef]
          exact c_rr1_ok (s := s) K4 (tE_c K3.2.1).2 f4 (fun a ha => (u4 a ha).trans ((u3 a ha).trans ((u2 a ha).trans (u1 a ha)))) (DC_of hD (show I4 20 = I 20 from (u4 20 (by decide)).trans ((u3 20 (by decide)).trans ((u2 20 (by decide)).trans (u1 20 (by decide))))) rfl) (by omega) (okR_mk (by omega) hT1.2.2.1 hT1.2.2.2 hT2.2.2.1 hT2.2.2.2 hT3.2.2.2 (fun z => absurd z (by decide)))
        · have ef : fRod tx c s (tE tx c s) 1 D = .inl (tS tx c (tE tx c (tS tx c (tE tx c (tS tx c (tE tx c s)))))) := by unfold fRod; rw [if_neg hm, if_pos hT1, if_pos hT2, if_neg (by decide), if_neg hT3]
          rw [ef]
          exact Zs_mono (c_rr1_60 (C_fc K3.2.1 hc)) (fun r h' q => ⟨q.1, by rw [q.2]; exact FC_f K3 (fun a ha => (u3 a ha).trans ((u2 a ha).trans (u1 a ha)))⟩)
      · have ef : fRod tx c s (tE tx c s) 1 D = .inl (tS tx c (tE tx c (tS tx c (tE tx c s)))) := by unfold fRod; rw [if_neg hm, if_pos hT1, if_neg hT2]
        rw [ef]
        exact Zs_mono (c_rr1_43 (s := (tS tx c (tE tx c (tS tx c (tE tx c s))))) K2.2.2.1 (C_fc K2.2.1 hc)) (fun r h' q => ⟨q.1, by rw [q.2]; exact FC_f K2 (fun a ha => (u2 a ha).trans (u1 a ha))⟩)
    · have ef : fRod tx c s (tE tx c s) 1 D = .inl (tS tx c (tE tx c s)) := by unfold fRod; rw [if_neg hm, if_neg hT1]
      rw [ef]
      exact Zs_mono (c_rr1_34 (s := (tS tx c (tE tx c s))) K1.2.2.1 (C_fc K1.2.1 hc)) (fun r h' q => ⟨q.1, by rw [q.2]; exact FC_f K1 u1⟩)
/-- kind 2, behind a fault -/
theorem c_rr2_34 {s : Nat} {v : Int32} (hs : I 1 3 = nI s) (h2 : ¬ I 1 2 = -1) : Zs sc (d + 4) (am_P 9).2 (34, [(0, .ref 20), (1, .ref 1), (2, .int 2)], [.int v]) (HH I J R T) (fun r h => r = none ∧ h = HH I J R T) := by
  refine Z_jump 5 rfl ?_
  show Zs _ _ (am_P 9).2 (40, [(0, .ref 20), (1, .ref 1), (2, .int (2 : Int32)), (3, .int v)], [.int (9 : Int32), .int (1 : Int32), .int (2 : Int32), .ref 1]) (HH I J R T) _
  refine Z_c1 rfl rfl rfl (c_take_u hs h2) ?_
  show Zs _ _ (am_P 9).2 (43, [(0, .ref 20), (1, .ref 1), (2, .int (2 : Int32)), (3, .int v)], [.int (0 : Int32)]) (HH I J R T) _
  refine Z_jump 7 rfl ?_
  show Zs _ _ (am_P 9).2 (57, [(0, .ref 20), (1, .ref 1), (2, .int (2 : Int32)), (3, .int v), (4, .int (0 : Int32))], [.int (3 : Int32), .int (0 : Int32), .int (2 : Int32), .ref 1]) (HH I J R T) _
  refine Z_c1 rfl rfl rfl (c_take_u hs h2) ?_
  show Zs _ _ (am_P 9).2 (60, [(0, .ref 20), (1, .ref 1), (2, .int (2 : Int32)), (3, .int v), (4, .int (0 : Int32))], [.int (0 : Int32)]) (HH I J R T) _
  refine Z_jump 2 rfl ?_
  show Zs _ _ (am_P 9).2 (63, [(0, .ref 20), (1, .ref 1), (2, .int (2 : Int32)), (3, .int v), (4, .int (0 : Int32)), (5, .int (0 : Int32))], [.ref 1]) (HH I J R T) _
  refine Z_c1 rfl rfl rfl (c_soundN h2) ?_
  show Zs _ _ (am_P 9).2 (66, [(0, .ref 20), (1, .ref 1), (2, .int (2 : Int32)), (3, .int v), (4, .int (0 : Int32)), (5, .int (0 : Int32))], [.int (0 : Int32)]) (HH I J R T) _
  refine Z_jump 1 rfl ?_
  show Zs _ _ (am_P 9).2 (97, [(0, .ref 20), (1, .ref 1), (2, .int (2 : Int32)), (3, .int v), (4, .int (0 : Int32)), (5, .int (0 : Int32))], []) (HH I J R T) _
  refine Z_ret rfl rfl rfl ?_
  exact ⟨rfl, rfl⟩
theorem c_rr2_43 {s : Nat} {v w : Int32} (hs : I 1 3 = nI s) (h2 : ¬ I 1 2 = -1) : Zs sc (d + 4) (am_P 9).2 (43, [(0, .ref 20), (1, .ref 1), (2, .int 2), (3, .int w)], [.int v]) (HH I J R T) (fun r h => r = none ∧ h = HH I J R T) := by
  refine Z_jump 7 rfl ?_
  show Zs _ _ (am_P 9).2 (57, [(0, .ref 20), (1, .ref 1), (2, .int (2 : Int32)), (3, .int w), (4, .int v)], [.int (3 : Int32), .int (0 : Int32), .int (2 : Int32), .ref 1]) (HH I J R T) _
  refine Z_c1 rfl rfl rfl (c_take_u hs h2) ?_
  show Zs _ _ (am_P 9).2 (60, [(0, .ref 20), (1, .ref 1), (2, .int (2 : Int32)), (3, .int w), (4, .int v)], [.int (0 : Int32)]) (HH I J R T) _
  refine Z_jump 2 rfl ?_
  show Zs _ _ (am_P 9).2 (63, [(0, .ref 20), (1, .ref 1), (2, .int (2 : Int32)), (3, .int w), (4, .int v), (5, .int (0 : Int32))], [.ref 1]) (HH I J R T) _
  refine Z_c1 rfl rfl rfl (c_soundN h2) ?_
  show Zs _ _ (am_P 9).2 (66, [(0, .ref 20), (1, .ref 1), (2, .int (2 : Int32)), (3, .int w), (4, .int v), (5, .int (0 : Int32))], [.int (0 : Int32)]) (HH I J R T) _
  refine Z_jump 1 rfl ?_
  show Zs _ _ (am_P 9).2 (97, [(0, .ref 20), (1, .ref 1), (2, .int (2 : Int32)), (3, .int w), (4, .int v), (5, .int (0 : Int32))], []) (HH I J R T) _
  refine Z_ret rfl rfl rfl ?_
  exact ⟨rfl, rfl⟩
theorem c_rr2_60 {v w u : Int32} (h2 : ¬ I 1 2 = -1) : Zs sc (d + 4) (am_P 9).2 (60, [(0, .ref 20), (1, .ref 1), (2, .int 2), (3, .int w), (4, .int u)], [.int v]) (HH I J R T) (fun r h => r = none ∧ h = HH I J R T) := by
  refine Z_jump 2 rfl ?_
  show Zs _ _ (am_P 9).2 (63, [(0, .ref 20), (1, .ref 1), (2, .int (2 : Int32)), (3, .int w), (4, .int u), (5, .int v)], [.ref 1]) (HH I J R T) _
  refine Z_c1 rfl rfl rfl (c_soundN h2) ?_
  show Zs _ _ (am_P 9).2 (66, [(0, .ref 20), (1, .ref 1), (2, .int (2 : Int32)), (3, .int w), (4, .int u), (5, .int v)], [.int (0 : Int32)]) (HH I J R T) _
  refine Z_jump 1 rfl ?_
  show Zs _ _ (am_P 9).2 (97, [(0, .ref 20), (1, .ref 1), (2, .int (2 : Int32)), (3, .int w), (4, .int u), (5, .int v)], []) (HH I J R T) _
  refine Z_ret rfl rfl rfl ?_
  exact ⟨rfl, rfl⟩
/-- kind 2, all read -/
theorem c_rr2_ok {s e b l g : Nat} {D : FD} {I0 : hI} (hK : CTK tx c (tS tx c e) I) (he : e ≤ c) (h2 : I 1 2 = -1) (hI : ∀ a, a ≠ 1 → I a = I0 a) (hD : DC 20 D I R T) (h6 : D.1 < 6) (hq : okR (2, b, l, g)) : Zs sc (d + 4) (am_P 9).2 (62, [(0, .ref 20), (1, .ref 1), (2, .int 2), (3, .int (nI b)), (4, .int (nI l)), (5, .int (nI g))], []) (HH I J R T) (fun r h => r = none ∧ FCq tx c 1 (.inr (e, fPush D (2, b, l, g))) I0 J R T h) := by
  have hm := hD.1
  refine Z_jump 1 rfl ?_
  show Zs _ _ (am_P 9).2 (63, [(0, .ref 20), (1, .ref 1), (2, .int (2 : Int32)), (3, .int (nI b)), (4, .int (nI l)), (5, .int (nI g))], [.ref 1]) (HH I J R T) _
  refine Z_c1 rfl rfl rfl (c_soundY h2) ?_
  show Zs _ _ (am_P 9).2 (66, [(0, .ref 20), (1, .ref 1), (2, .int (2 : Int32)), (3, .int (nI b)), (4, .int (nI l)), (5, .int (nI g))], [.int (1 : Int32)]) (HH I J R T) _
  refine Z_jump 9 rfl ?_
  show Zs _ _ (am_P 9).2 (83, [(0, .ref 20), (1, .ref 1), (2, .int (2 : Int32)), (3, .int (nI b)), (4, .int (nI l)), (5, .int (nI g))], [.int (nI g), .int (nI l), .int (nI b), .int (2 : Int32), .int (I 20 1), .ref 21]) (HH I J R T) _
  refine Z_c1 rfl rfl rfl (c_make2) ?_
  show Zs _ _ (am_P 9).2 (86, [(0, .ref 20), (1, .ref 1), (2, .int (2 : Int32)), (3, .int (nI b)), (4, .int (nI l)), (5, .int (nI g))], [.ref (99 + T.length), .int (I 20 1), .ref 21]) (HH I J R (T ++ [rodC (2, b, l, g)])) _
  show Zs _ _ (am_P 9).2 (86, [(0, .ref 20), (1, .ref 1), (2, .int (2 : Int32)), (3, .int (nI b)), (4, .int (nI l)), (5, .int (nI g))], [.ref (99 + T.length), .int (I 20 1), .ref 21]) (HH I J R (T ++ [rodC (2, b, l, g)])) _
  refine Z_aasR (D.1) rfl rfl (HH_at T.length (app_at T _)) (rfl) (hm) (by omega) (by decide) ?_
  show Zs _ _ (am_P 9).2 (87, [(0, .ref 20), (1, .ref 1), (2, .int (2 : Int32)), (3, .int (nI b)), (4, .int (nI l)), (5, .int (nI g))], []) (HH I J (sr R 21 (D.1) (some (99 + T.length))) (T ++ [rodC (2, b, l, g)])) _
  refine Z_jump 6 rfl ?_
  show Zs _ _ (am_P 9).2 (97, [(0, .ref 20), (1, .ref 1), (2, .int (2 : Int32)), (3, .int (nI b)), (4, .int (nI l)), (5, .int (nI g))], []) (HH (sf I 20 1 ((I 20 1) + (1 : Int32))) J (sr R 21 (D.1) (some (99 + T.length))) (T ++ [rodC (2, b, l, g)])) _
  show Zs _ _ (am_P 9).2 (97, [(0, .ref 20), (1, .ref 1), (2, .int (2 : Int32)), (3, .int (nI b)), (4, .int (nI l)), (5, .int (nI g))], []) (HH (sf I 20 1 ((I 20 1) + (1 : Int32))) J (sr R 21 (D.1) (some (99 + T.length))) (T ++ [rodC (2, b, l, g)])) _
  refine Z_ret rfl rfl rfl ?_
  refine ⟨rfl, _, _, _, rfl, fun a h1 h3 => ?_, fun a h1 => up_ne h1, ⟨[_], rfl, Nat.le_refl 1, Nat.le_refl 3⟩, CT_of hK.1 rfl rfl, he, h2, hK, ?_⟩
  · rw [sf_c h3]; exact hI a h1
  refine ⟨?_, by show D.1 + 1 ≤ 6; omega, hD.2.2.1, fun k hk => ?_⟩
  · show I 20 1 + 1 = nI (D.1 + 1)
    rw [hm]; exact nI_1 D.1
  have hk : k < D.1 + 1 := hk
  by_cases ek : k = D.1
  · subst ek
    refine ⟨?_, T.length, ?_, ?_⟩
    · show okR (va_up D.2.1 D.1 (2, b, l, g) D.1)
      rw [up_same]; exact hq
    · show sr R 21 D.1 (some (99 + T.length)) 21 D.1 = _
      unfold sr; rw [up_same, up_same]
    · show (T ++ [rodC (2, b, l, g)])[T.length]? = some (rodC (va_up D.2.1 D.1 (2, b, l, g) D.1))
      rw [up_same]; exact app_at T _
  · obtain ⟨g1, a, g2, g3⟩ := hD.2.2.2 k (by omega)
    refine ⟨?_, a, ?_, ?_⟩
    · show okR (va_up D.2.1 D.1 (2, b, l, g) k)
      rw [up_ne ek]; exact g1
    · show sr R 21 D.1 (some (99 + T.length)) 21 k = _
      unfold sr; rw [up_same, up_ne ek]; exact g2
    · show (T ++ [rodC (2, b, l, g)])[a]? = some (rodC (va_up D.2.1 D.1 (2, b, l, g) k))
      rw [up_ne ek, List.getElem?_append_left (List.getElem?_eq_some_iff.mp g3).1]; exact g3
theorem c_readRod2 {s : Nat} {D : FD} (hK : CTK tx c s I) (h2 : I 1 2 = -1) (hD : DC 20 D I R T) : Ze sc (d + 5) 9 [.ref 20, .ref 1, .int 2] (HH I J R T) (fun r h => r = none ∧ FCq tx c 1 (fRod tx c s (tE tx c s) 2 D) I J R T h) := by
  refine Ze_of (Nat.le_of_ble_eq_true rfl) ?_
  have hc := hK.1.2.1
  have h6 := hD.2.1
  have e14 : I 20 1 < 6 ↔ D.1 < 6 := by rw [hD.1]; exact nI_ltI (b := 6) (by omega) (by omega)
  by_cases hm : D.1 = 6
  · have ef : fRod tx c s (tE tx c s) 2 D = .inl s := by unfold fRod; rw [if_pos hm]
    rw [ef]
    refine Z_jump 8 rfl ?_
    show Zs _ _ (am_P 9).2 (14, [(0, .ref 20), (1, .ref 1), (2, .int (2 : Int32))], [.int (6 : Int32), .int (I 20 1)]) (HH I J R T) _
    refine Z_jump 1 rfl ?_
    refine Z_bd (fun c14 => absurd c14 ((fun z => absurd (e14.mp z) (by omega)))) (fun c14 => ?_)
    refine Z_jump 1 rfl ?_
    show Zs _ _ (am_P 9).2 (18, [(0, .ref 20), (1, .ref 1), (2, .int (2 : Int32))], [.ref 1]) (HH I J R T) _
    refine Z_c0 rfl rfl rfl (c_failY hK.2.2.1 h2) ?_
    show Zs _ _ (am_P 9).2 (21, [(0, .ref 20), (1, .ref 1), (2, .int (2 : Int32))], []) (HH (sf I 1 2 (nI s)) J R T) _
    show Zs _ _ (am_P 9).2 (21, [(0, .ref 20), (1, .ref 1), (2, .int (2 : Int32))], []) (HH (sf I 1 2 (nI s)) J R T) _
    refine Z_ret rfl rfl rfl ?_
    exact ⟨rfl, FC_f hK (fun _ _ => rfl)⟩
  · refine Z_jump 8 rfl ?_
    show Zs _ _ (am_P 9).2 (14, [(0, .ref 20), (1, .ref 1), (2, .int (2 : Int32))], [.int (6 : Int32), .int (I 20 1)]) (HH I J R T) _
    refine Z_jump 1 rfl ?_
    refine Z_bd (fun c14 => ?_) (fun c14 => absurd ((e14.mpr (by omega))) c14)
    refine Z_jump 1 rfl ?_
    show Zs _ _ (am_P 9).2 (23, [(0, .ref 20), (1, .ref 1), (2, .int (2 : Int32))], [.ref 1]) (HH I J R T) _
    refine Z_cQ rfl rfl rfl (c_stepQ hK) (fun v h1 hq => ?_)
    obtain ⟨rfl, I1, rfl, K1, u1, f1⟩ := hq
    show Zs _ _ (am_P 9).2 (26, [(0, .ref 20), (1, .ref 1), (2, .int (2 : Int32))], []) (HH I1 J R T) _
    refine Z_jump 4 rfl ?_
    show Zs _ _ (am_P 9).2 (31, [(0, .ref 20), (1, .ref 1), (2, .int (2 : Int32))], [.int (16 : Int32), .int (2 : Int32), .int (2 : Int32), .ref 1]) (HH I1 J R T) _
    refine Z_cQ rfl rfl rfl (c_takeI (md := 2) K1 (f1.trans h2) rfl (by omega) (show (2 : Int32).toInt = 2 from rfl) (show (16 : Int32).toInt = 16 from rfl)) (fun v h1 hq => ?_)
    rcases hq with ⟨hT1, rfl, I2, rfl, K2, u2, f2⟩ | ⟨hT1, rfl, rfl⟩
    · refine Z_jump 5 rfl ?_
      show Zs _ _ (am_P 9).2 (40, [(0, .ref 20), (1, .ref 1), (2, .int (2 : Int32)), (3, .int (nI (nv tx (tS tx c (tE tx c s)) (tE tx c (tS tx c (tE tx c s))))))], [.int (9 : Int32), .int (1 : Int32), .int (2 : Int32), .ref 1]) (HH I2 J R T) _
      refine Z_cQ rfl rfl rfl (c_takeI (md := 2) K2 f2 rfl (by omega) (show (1 : Int32).toInt = 1 from rfl) (show (9 : Int32).toInt = 9 from rfl)) (fun v h1 hq => ?_)
      rcases hq with ⟨hT2, rfl, I3, rfl, K3, u3, f3⟩ | ⟨hT2, rfl, rfl⟩
      · refine Z_jump 7 rfl ?_
        show Zs _ _ (am_P 9).2 (57, [(0, .ref 20), (1, .ref 1), (2, .int (2 : Int32)), (3, .int (nI (nv tx (tS tx c (tE tx c s)) (tE tx c (tS tx c (tE tx c s)))))), (4, .int (nI (nv tx (tS tx c (tE tx c (tS tx c (tE tx c s)))) (tE tx c (tS tx c (tE tx c (tS tx c (tE tx c s))))))))], [.int (3 : Int32), .int (0 : Int32), .int (2 : Int32), .ref 1]) (HH I3 J R T) _
        refine Z_cQ rfl rfl rfl (c_takeI (md := 2) K3 f3 rfl (by omega) (show (0 : Int32).toInt = 0 from rfl) (show (3 : Int32).toInt = 3 from rfl)) (fun v h1 hq => ?_)
        rcases hq with ⟨hT3, rfl, I4, rfl, K4, u4, f4⟩ | ⟨hT3, rfl, rfl⟩
        · refine Z_jump 1 rfl ?_
          show Zs _ _ (am_P 9).2 (62, [(0, .ref 20), (1, .ref 1), (2, .int (2 : Int32)), (3, .int (nI (nv tx (tS tx c (tE tx c s)) (tE tx c (tS tx c (tE tx c s)))))), (4, .int (nI (nv tx (tS tx c (tE tx c (tS tx c (tE tx c s)))) (tE tx c (tS tx c (tE tx c (tS tx c (tE tx c s)))))))), (5, .int (nI (nv tx (tS tx c (tE tx c (tS tx c (tE tx c (tS tx c (tE tx c s)))))) (tE tx c (tS tx c (tE tx c (tS tx c (tE tx c (tS tx c (tE tx c s))))))))))], []) (HH I4 J R T) _
          have ef : fRod tx c s (tE tx c s) 2 D = .inr (tE tx c (tS tx c (tE tx c (tS tx c (tE tx c (tS tx c (tE tx c s)))))), fPush D (2, nv tx (tS tx c (tE tx c s)) (tE tx c (tS tx c (tE tx c s))), nv tx (tS tx c (tE tx c (tS tx c (tE tx c s)))) (tE tx c (tS tx c (tE tx c (tS tx c (tE tx c s))))), nv tx (tS tx c (tE tx c (tS tx c (tE tx c (tS tx c (tE tx c s)))))) (tE tx c (tS tx c (tE tx c (tS tx c (tE tx c (tS tx c (tE tx c s))))))))) := by unfold fRod; rw [if_neg hm, if_pos hT1, if_pos hT2, if_neg (by decide), if_pos hT3]
          rw [ef]
          exact c_rr2_ok (s := s) K4 (tE_c K3.2.1).2 f4 (fun a ha => (u4 a ha).trans ((u3 a ha).trans ((u2 a ha).trans (u1 a ha)))) (DC_of hD (show I4 20 = I 20 from (u4 20 (by decide)).trans ((u3 20 (by decide)).trans ((u2 20 (by decide)).trans (u1 20 (by decide))))) rfl) (by omega) (okR_mk (by omega) hT1.2.2.1 hT1.2.2.2 hT2.2.2.1 hT2.2.2.2 hT3.2.2.2 (fun z => absurd z (by decide)))
        · have ef : fRod tx c s (tE tx c s) 2 D = .inl (tS tx c (tE tx c (tS tx c (tE tx c (tS tx c (tE tx c s)))))) := by unfold fRod; rw [if_neg hm, if_pos hT1, if_pos hT2, if_neg (by decide), if_neg hT3]
          rw [ef]
          exact Zs_mono (c_rr2_60 (C_fc K3.2.1 hc)) (fun r h' q => ⟨q.1, by rw [q.2]; exact FC_f K3 (fun a ha => (u3 a ha).trans ((u2 a ha).trans (u1 a ha)))⟩)
      · have ef : fRod tx c s (tE tx c s) 2 D = .inl (tS tx c (tE tx c (tS tx c (tE tx c s)))) := by unfold fRod; rw [if_neg hm, if_pos hT1, if_neg hT2]
        rw [ef]
        exact Zs_mono (c_rr2_43 (s := (tS tx c (tE tx c (tS tx c (tE tx c s))))) K2.2.2.1 (C_fc K2.2.1 hc)) (fun r h' q => ⟨q.1, by rw [q.2]; exact FC_f K2 (fun a ha => (u2 a ha).trans (u1 a ha))⟩)
    · have ef : fRod tx c s (tE tx c s) 2 D = .inl (tS tx c (tE tx c s)) := by unfold fRod; rw [if_neg hm, if_neg hT1]
      rw [ef]
      exact Zs_mono (c_rr2_34 (s := (tS tx c (tE tx c s))) K1.2.2.1 (C_fc K1.2.1 hc)) (fun r h' q => ⟨q.1, by rw [q.2]; exact FC_f K1 u1⟩)
/-- kind 3, behind a fault -/
theorem c_rr3_34 {s : Nat} {v : Int32} (hs : I 1 3 = nI s) (h2 : ¬ I 1 2 = -1) : Zs sc (d + 4) (am_P 9).2 (34, [(0, .ref 20), (1, .ref 1), (2, .int 3)], [.int v]) (HH I J R T) (fun r h => r = none ∧ h = HH I J R T) := by
  refine Z_jump 5 rfl ?_
  show Zs _ _ (am_P 9).2 (40, [(0, .ref 20), (1, .ref 1), (2, .int (3 : Int32)), (3, .int v)], [.int (9 : Int32), .int (1 : Int32), .int (2 : Int32), .ref 1]) (HH I J R T) _
  refine Z_c1 rfl rfl rfl (c_take_u hs h2) ?_
  show Zs _ _ (am_P 9).2 (43, [(0, .ref 20), (1, .ref 1), (2, .int (3 : Int32)), (3, .int v)], [.int (0 : Int32)]) (HH I J R T) _
  refine Z_jump 7 rfl ?_
  show Zs _ _ (am_P 9).2 (57, [(0, .ref 20), (1, .ref 1), (2, .int (3 : Int32)), (3, .int v), (4, .int (0 : Int32))], [.int (3 : Int32), .int (0 : Int32), .int (2 : Int32), .ref 1]) (HH I J R T) _
  refine Z_c1 rfl rfl rfl (c_take_u hs h2) ?_
  show Zs _ _ (am_P 9).2 (60, [(0, .ref 20), (1, .ref 1), (2, .int (3 : Int32)), (3, .int v), (4, .int (0 : Int32))], [.int (0 : Int32)]) (HH I J R T) _
  refine Z_jump 2 rfl ?_
  show Zs _ _ (am_P 9).2 (63, [(0, .ref 20), (1, .ref 1), (2, .int (3 : Int32)), (3, .int v), (4, .int (0 : Int32)), (5, .int (0 : Int32))], [.ref 1]) (HH I J R T) _
  refine Z_c1 rfl rfl rfl (c_soundN h2) ?_
  show Zs _ _ (am_P 9).2 (66, [(0, .ref 20), (1, .ref 1), (2, .int (3 : Int32)), (3, .int v), (4, .int (0 : Int32)), (5, .int (0 : Int32))], [.int (0 : Int32)]) (HH I J R T) _
  refine Z_jump 1 rfl ?_
  show Zs _ _ (am_P 9).2 (97, [(0, .ref 20), (1, .ref 1), (2, .int (3 : Int32)), (3, .int v), (4, .int (0 : Int32)), (5, .int (0 : Int32))], []) (HH I J R T) _
  refine Z_ret rfl rfl rfl ?_
  exact ⟨rfl, rfl⟩
theorem c_rr3_43 {s : Nat} {v w : Int32} (hs : I 1 3 = nI s) (h2 : ¬ I 1 2 = -1) : Zs sc (d + 4) (am_P 9).2 (43, [(0, .ref 20), (1, .ref 1), (2, .int 3), (3, .int w)], [.int v]) (HH I J R T) (fun r h => r = none ∧ h = HH I J R T) := by
  refine Z_jump 7 rfl ?_
  show Zs _ _ (am_P 9).2 (57, [(0, .ref 20), (1, .ref 1), (2, .int (3 : Int32)), (3, .int w), (4, .int v)], [.int (3 : Int32), .int (0 : Int32), .int (2 : Int32), .ref 1]) (HH I J R T) _
  refine Z_c1 rfl rfl rfl (c_take_u hs h2) ?_
  show Zs _ _ (am_P 9).2 (60, [(0, .ref 20), (1, .ref 1), (2, .int (3 : Int32)), (3, .int w), (4, .int v)], [.int (0 : Int32)]) (HH I J R T) _
  refine Z_jump 2 rfl ?_
  show Zs _ _ (am_P 9).2 (63, [(0, .ref 20), (1, .ref 1), (2, .int (3 : Int32)), (3, .int w), (4, .int v), (5, .int (0 : Int32))], [.ref 1]) (HH I J R T) _
  refine Z_c1 rfl rfl rfl (c_soundN h2) ?_
  show Zs _ _ (am_P 9).2 (66, [(0, .ref 20), (1, .ref 1), (2, .int (3 : Int32)), (3, .int w), (4, .int v), (5, .int (0 : Int32))], [.int (0 : Int32)]) (HH I J R T) _
  refine Z_jump 1 rfl ?_
  show Zs _ _ (am_P 9).2 (97, [(0, .ref 20), (1, .ref 1), (2, .int (3 : Int32)), (3, .int w), (4, .int v), (5, .int (0 : Int32))], []) (HH I J R T) _
  refine Z_ret rfl rfl rfl ?_
  exact ⟨rfl, rfl⟩
theorem c_rr3_60 {v w u : Int32} (h2 : ¬ I 1 2 = -1) : Zs sc (d + 4) (am_P 9).2 (60, [(0, .ref 20), (1, .ref 1), (2, .int 3), (3, .int w), (4, .int u)], [.int v]) (HH I J R T) (fun r h => r = none ∧ h = HH I J R T) := by
  refine Z_jump 2 rfl ?_
  show Zs _ _ (am_P 9).2 (63, [(0, .ref 20), (1, .ref 1), (2, .int (3 : Int32)), (3, .int w), (4, .int u), (5, .int v)], [.ref 1]) (HH I J R T) _
  refine Z_c1 rfl rfl rfl (c_soundN h2) ?_
  show Zs _ _ (am_P 9).2 (66, [(0, .ref 20), (1, .ref 1), (2, .int (3 : Int32)), (3, .int w), (4, .int u), (5, .int v)], [.int (0 : Int32)]) (HH I J R T) _
  refine Z_jump 1 rfl ?_
  show Zs _ _ (am_P 9).2 (97, [(0, .ref 20), (1, .ref 1), (2, .int (3 : Int32)), (3, .int w), (4, .int u), (5, .int v)], []) (HH I J R T) _
  refine Z_ret rfl rfl rfl ?_
  exact ⟨rfl, rfl⟩
/-- kind 3, all read -/
theorem c_rr3_ok {s e b l g : Nat} {D : FD} {I0 : hI} (hK : CTK tx c (tS tx c e) I) (he : e ≤ c) (h2 : I 1 2 = -1) (hI : ∀ a, a ≠ 1 → I a = I0 a) (hD : DC 20 D I R T) (h6 : D.1 < 6) (hq : okR (3, b, l, g)) : Zs sc (d + 4) (am_P 9).2 (62, [(0, .ref 20), (1, .ref 1), (2, .int 3), (3, .int (nI b)), (4, .int (nI l)), (5, .int (nI g))], []) (HH I J R T) (fun r h => r = none ∧ FCq tx c 1 (.inr (e, fPush D (3, b, l, g))) I0 J R T h) := by
  have hm := hD.1
  refine Z_jump 1 rfl ?_
  show Zs _ _ (am_P 9).2 (63, [(0, .ref 20), (1, .ref 1), (2, .int (3 : Int32)), (3, .int (nI b)), (4, .int (nI l)), (5, .int (nI g))], [.ref 1]) (HH I J R T) _
  refine Z_c1 rfl rfl rfl (c_soundY h2) ?_
  show Zs _ _ (am_P 9).2 (66, [(0, .ref 20), (1, .ref 1), (2, .int (3 : Int32)), (3, .int (nI b)), (4, .int (nI l)), (5, .int (nI g))], [.int (1 : Int32)]) (HH I J R T) _
  refine Z_jump 9 rfl ?_
  show Zs _ _ (am_P 9).2 (83, [(0, .ref 20), (1, .ref 1), (2, .int (3 : Int32)), (3, .int (nI b)), (4, .int (nI l)), (5, .int (nI g))], [.int (nI g), .int (nI l), .int (nI b), .int (3 : Int32), .int (I 20 1), .ref 21]) (HH I J R T) _
  refine Z_c1 rfl rfl rfl (c_make3) ?_
  show Zs _ _ (am_P 9).2 (86, [(0, .ref 20), (1, .ref 1), (2, .int (3 : Int32)), (3, .int (nI b)), (4, .int (nI l)), (5, .int (nI g))], [.ref (99 + T.length), .int (I 20 1), .ref 21]) (HH I J R (T ++ [rodC (3, b, l, g)])) _
  show Zs _ _ (am_P 9).2 (86, [(0, .ref 20), (1, .ref 1), (2, .int (3 : Int32)), (3, .int (nI b)), (4, .int (nI l)), (5, .int (nI g))], [.ref (99 + T.length), .int (I 20 1), .ref 21]) (HH I J R (T ++ [rodC (3, b, l, g)])) _
  refine Z_aasR (D.1) rfl rfl (HH_at T.length (app_at T _)) (rfl) (hm) (by omega) (by decide) ?_
  show Zs _ _ (am_P 9).2 (87, [(0, .ref 20), (1, .ref 1), (2, .int (3 : Int32)), (3, .int (nI b)), (4, .int (nI l)), (5, .int (nI g))], []) (HH I J (sr R 21 (D.1) (some (99 + T.length))) (T ++ [rodC (3, b, l, g)])) _
  refine Z_jump 6 rfl ?_
  show Zs _ _ (am_P 9).2 (97, [(0, .ref 20), (1, .ref 1), (2, .int (3 : Int32)), (3, .int (nI b)), (4, .int (nI l)), (5, .int (nI g))], []) (HH (sf I 20 1 ((I 20 1) + (1 : Int32))) J (sr R 21 (D.1) (some (99 + T.length))) (T ++ [rodC (3, b, l, g)])) _
  show Zs _ _ (am_P 9).2 (97, [(0, .ref 20), (1, .ref 1), (2, .int (3 : Int32)), (3, .int (nI b)), (4, .int (nI l)), (5, .int (nI g))], []) (HH (sf I 20 1 ((I 20 1) + (1 : Int32))) J (sr R 21 (D.1) (some (99 + T.length))) (T ++ [rodC (3, b, l, g)])) _
  refine Z_ret rfl rfl rfl ?_
  refine ⟨rfl, _, _, _, rfl, fun a h1 h3 => ?_, fun a h1 => up_ne h1, ⟨[_], rfl, Nat.le_refl 1, Nat.le_refl 3⟩, CT_of hK.1 rfl rfl, he, h2, hK, ?_⟩
  · rw [sf_c h3]; exact hI a h1
  refine ⟨?_, by show D.1 + 1 ≤ 6; omega, hD.2.2.1, fun k hk => ?_⟩
  · show I 20 1 + 1 = nI (D.1 + 1)
    rw [hm]; exact nI_1 D.1
  have hk : k < D.1 + 1 := hk
  by_cases ek : k = D.1
  · subst ek
    refine ⟨?_, T.length, ?_, ?_⟩
    · show okR (va_up D.2.1 D.1 (3, b, l, g) D.1)
      rw [up_same]; exact hq
    · show sr R 21 D.1 (some (99 + T.length)) 21 D.1 = _
      unfold sr; rw [up_same, up_same]
    · show (T ++ [rodC (3, b, l, g)])[T.length]? = some (rodC (va_up D.2.1 D.1 (3, b, l, g) D.1))
      rw [up_same]; exact app_at T _
  · obtain ⟨g1, a, g2, g3⟩ := hD.2.2.2 k (by omega)
    refine ⟨?_, a, ?_, ?_⟩
    · show okR (va_up D.2.1 D.1 (3, b, l, g) k)
      rw [up_ne ek]; exact g1
    · show sr R 21 D.1 (some (99 + T.length)) 21 k = _
      unfold sr; rw [up_same, up_ne ek]; exact g2
    · show (T ++ [rodC (3, b, l, g)])[a]? = some (rodC (va_up D.2.1 D.1 (3, b, l, g) k))
      rw [up_ne ek, List.getElem?_append_left (List.getElem?_eq_some_iff.mp g3).1]; exact g3
theorem c_readRod3 {s : Nat} {D : FD} (hK : CTK tx c s I) (h2 : I 1 2 = -1) (hD : DC 20 D I R T) : Ze sc (d + 5) 9 [.ref 20, .ref 1, .int 3] (HH I J R T) (fun r h => r = none ∧ FCq tx c 1 (fRod tx c s (tE tx c s) 3 D) I J R T h) := by
  refine Ze_of (Nat.le_of_ble_eq_true rfl) ?_
  have hc := hK.1.2.1
  have h6 := hD.2.1
  have e14 : I 20 1 < 6 ↔ D.1 < 6 := by rw [hD.1]; exact nI_ltI (b := 6) (by omega) (by omega)
  by_cases hm : D.1 = 6
  · have ef : fRod tx c s (tE tx c s) 3 D = .inl s := by unfold fRod; rw [if_pos hm]
    rw [ef]
    refine Z_jump 8 rfl ?_
    show Zs _ _ (am_P 9).2 (14, [(0, .ref 20), (1, .ref 1), (2, .int (3 : Int32))], [.int (6 : Int32), .int (I 20 1)]) (HH I J R T) _
    refine Z_jump 1 rfl ?_
    refine Z_bd (fun c14 => absurd c14 ((fun z => absurd (e14.mp z) (by omega)))) (fun c14 => ?_)
    refine Z_jump 1 rfl ?_
    show Zs _ _ (am_P 9).2 (18, [(0, .ref 20), (1, .ref 1), (2, .int (3 : Int32))], [.ref 1]) (HH I J R T) _
    refine Z_c0 rfl rfl rfl (c_failY hK.2.2.1 h2) ?_
    show Zs _ _ (am_P 9).2 (21, [(0, .ref 20), (1, .ref 1), (2, .int (3 : Int32))], []) (HH (sf I 1 2 (nI s)) J R T) _
    show Zs _ _ (am_P 9).2 (21, [(0, .ref 20), (1, .ref 1), (2, .int (3 : Int32))], []) (HH (sf I 1 2 (nI s)) J R T) _
    refine Z_ret rfl rfl rfl ?_
    exact ⟨rfl, FC_f hK (fun _ _ => rfl)⟩
  · refine Z_jump 8 rfl ?_
    show Zs _ _ (am_P 9).2 (14, [(0, .ref 20), (1, .ref 1), (2, .int (3 : Int32))], [.int (6 : Int32), .int (I 20 1)]) (HH I J R T) _
    refine Z_jump 1 rfl ?_
    refine Z_bd (fun c14 => ?_) (fun c14 => absurd ((e14.mpr (by omega))) c14)
    refine Z_jump 1 rfl ?_
    show Zs _ _ (am_P 9).2 (23, [(0, .ref 20), (1, .ref 1), (2, .int (3 : Int32))], [.ref 1]) (HH I J R T) _
    refine Z_cQ rfl rfl rfl (c_stepQ hK) (fun v h1 hq => ?_)
    obtain ⟨rfl, I1, rfl, K1, u1, f1⟩ := hq
    show Zs _ _ (am_P 9).2 (26, [(0, .ref 20), (1, .ref 1), (2, .int (3 : Int32))], []) (HH I1 J R T) _
    refine Z_jump 4 rfl ?_
    show Zs _ _ (am_P 9).2 (31, [(0, .ref 20), (1, .ref 1), (2, .int (3 : Int32))], [.int (16 : Int32), .int (2 : Int32), .int (2 : Int32), .ref 1]) (HH I1 J R T) _
    refine Z_cQ rfl rfl rfl (c_takeI (md := 2) K1 (f1.trans h2) rfl (by omega) (show (2 : Int32).toInt = 2 from rfl) (show (16 : Int32).toInt = 16 from rfl)) (fun v h1 hq => ?_)
    rcases hq with ⟨hT1, rfl, I2, rfl, K2, u2, f2⟩ | ⟨hT1, rfl, rfl⟩
    · refine Z_jump 5 rfl ?_
      show Zs _ _ (am_P 9).2 (40, [(0, .ref 20), (1, .ref 1), (2, .int (3 : Int32)), (3, .int (nI (nv tx (tS tx c (tE tx c s)) (tE tx c (tS tx c (tE tx c s))))))], [.int (9 : Int32), .int (1 : Int32), .int (2 : Int32), .ref 1]) (HH I2 J R T) _
      refine Z_cQ rfl rfl rfl (c_takeI (md := 2) K2 f2 rfl (by omega) (show (1 : Int32).toInt = 1 from rfl) (show (9 : Int32).toInt = 9 from rfl)) (fun v h1 hq => ?_)
      rcases hq with ⟨hT2, rfl, I3, rfl, K3, u3, f3⟩ | ⟨hT2, rfl, rfl⟩
      · refine Z_jump 7 rfl ?_
        show Zs _ _ (am_P 9).2 (57, [(0, .ref 20), (1, .ref 1), (2, .int (3 : Int32)), (3, .int (nI (nv tx (tS tx c (tE tx c s)) (tE tx c (tS tx c (tE tx c s)))))), (4, .int (nI (nv tx (tS tx c (tE tx c (tS tx c (tE tx c s)))) (tE tx c (tS tx c (tE tx c (tS tx c (tE tx c s))))))))], [.int (3 : Int32), .int (0 : Int32), .int (2 : Int32), .ref 1]) (HH I3 J R T) _
        refine Z_cQ rfl rfl rfl (c_takeI (md := 2) K3 f3 rfl (by omega) (show (0 : Int32).toInt = 0 from rfl) (show (3 : Int32).toInt = 3 from rfl)) (fun v h1 hq => ?_)
        rcases hq with ⟨hT3, rfl, I4, rfl, K4, u4, f4⟩ | ⟨hT3, rfl, rfl⟩
        · refine Z_jump 1 rfl ?_
          show Zs _ _ (am_P 9).2 (62, [(0, .ref 20), (1, .ref 1), (2, .int (3 : Int32)), (3, .int (nI (nv tx (tS tx c (tE tx c s)) (tE tx c (tS tx c (tE tx c s)))))), (4, .int (nI (nv tx (tS tx c (tE tx c (tS tx c (tE tx c s)))) (tE tx c (tS tx c (tE tx c (tS tx c (tE tx c s)))))))), (5, .int (nI (nv tx (tS tx c (tE tx c (tS tx c (tE tx c (tS tx c (tE tx c s)))))) (tE tx c (tS tx c (tE tx c (tS tx c (tE tx c (tS tx c (tE tx c s))))))))))], []) (HH I4 J R T) _
          have ef : fRod tx c s (tE tx c s) 3 D = .inr (tE tx c (tS tx c (tE tx c (tS tx c (tE tx c (tS tx c (tE tx c s)))))), fPush D (3, nv tx (tS tx c (tE tx c s)) (tE tx c (tS tx c (tE tx c s))), nv tx (tS tx c (tE tx c (tS tx c (tE tx c s)))) (tE tx c (tS tx c (tE tx c (tS tx c (tE tx c s))))), nv tx (tS tx c (tE tx c (tS tx c (tE tx c (tS tx c (tE tx c s)))))) (tE tx c (tS tx c (tE tx c (tS tx c (tE tx c (tS tx c (tE tx c s))))))))) := by unfold fRod; rw [if_neg hm, if_pos hT1, if_pos hT2, if_neg (by decide), if_pos hT3]
          rw [ef]
          exact c_rr3_ok (s := s) K4 (tE_c K3.2.1).2 f4 (fun a ha => (u4 a ha).trans ((u3 a ha).trans ((u2 a ha).trans (u1 a ha)))) (DC_of hD (show I4 20 = I 20 from (u4 20 (by decide)).trans ((u3 20 (by decide)).trans ((u2 20 (by decide)).trans (u1 20 (by decide))))) rfl) (by omega) (okR_mk (by omega) hT1.2.2.1 hT1.2.2.2 hT2.2.2.1 hT2.2.2.2 hT3.2.2.2 (fun z => absurd z (by decide)))
        · have ef : fRod tx c s (tE tx c s) 3 D = .inl (tS tx c (tE tx c (tS tx c (tE tx c (tS tx c (tE tx c s)))))) := by unfold fRod; rw [if_neg hm, if_pos hT1, if_pos hT2, if_neg (by decide), if_neg hT3]
          rw [ef]
          exact Zs_mono (c_rr3_60 (C_fc K3.2.1 hc)) (fun r h' q => ⟨q.1, by rw [q.2]; exact FC_f K3 (fun a ha => (u3 a ha).trans ((u2 a ha).trans (u1 a ha)))⟩)
      · have ef : fRod tx c s (tE tx c s) 3 D = .inl (tS tx c (tE tx c (tS tx c (tE tx c s)))) := by unfold fRod; rw [if_neg hm, if_pos hT1, if_neg hT2]
        rw [ef]
        exact Zs_mono (c_rr3_43 (s := (tS tx c (tE tx c (tS tx c (tE tx c s))))) K2.2.2.1 (C_fc K2.2.1 hc)) (fun r h' q => ⟨q.1, by rw [q.2]; exact FC_f K2 (fun a ha => (u2 a ha).trans (u1 a ha))⟩)
    · have ef : fRod tx c s (tE tx c s) 3 D = .inl (tS tx c (tE tx c s)) := by unfold fRod; rw [if_neg hm, if_neg hT1]
      rw [ef]
      exact Zs_mono (c_rr3_34 (s := (tS tx c (tE tx c s))) K1.2.2.1 (C_fc K1.2.1 hc)) (fun r h' q => ⟨q.1, by rw [q.2]; exact FC_f K1 u1⟩)
end CFR

