/-! ways and time: both sides answer alike where they stand alike. -/
section WEQ
theorem lN_i32 (k : Nat) : (lN k).toInt32 = nI k := by
  refine Int32.toInt_inj.mp ?_
  show ((Int64.ofNat k).toInt32).toInt = (Int32.ofNat k).toInt
  rw [Int64.toInt_toInt32, Int64.toInt_ofNat', Int32.toInt_ofNat', Int.bmod_bmod_of_dvd (by decide)]
theorem isP_w {D : FD} {v : StV} {o : Nat} {st : Int32} {I : hI} {J : hJ} {x : Int32} (ho : o ≠ 82) (h6 : D.1 ≤ 6) (hD : DMf D I) (hV : RV D v o st I) (hx : M_num x) : (isP I J D o st x.toInt64).1 = (if 0 < cn D v D.1 0 x.toInt.toNat then 1 else 0) ∧ (isP I J D o st x.toInt64).2.2 81 0 = lN (cn D v D.1 0 x.toInt.toNat) ∧ ∃ m, (isP I J D o st x.toInt64).2.1 82 0 = nI m ∧ m ≤ 1000000000 ∧ isMin 1000000000 (fun t => WY D v D.1 0 x.toInt.toNat t) m := by
  have z0 : (0 : Int64).toInt = 0 := rfl
  have z9 : (1000000000 : Int64).toInt = 1000000000 := rfl
  have e64 : x.toInt64.toInt = x.toInt := Int32.toInt_toInt64 x
  have h1 := isP_v (J := J) (due := x.toInt64) ho h6 hD hV
  rw [e64] at h1
  have hc := lay_v (J := J) (due := x.toInt64) ho h6 hD hV (by omega) (by omega) 0 (Nat.zero_le _) 0 (by omega)
  rw [lay_7, e64, show D.1 - 0 = D.1 from rfl, show x.toInt - ((0 : Nat) : Int) = x.toInt by omega] at hc
  have ec : cnz D v D.1 0 x.toInt = cn D v D.1 0 x.toInt.toNat := by unfold cnz; rw [if_neg (by omega)]
  rw [ec] at hc
  have e2 : (isP I J D o st x.toInt64).2 = lay I J D o st x.toInt64 := by
    unfold isP
    rw [if_neg (by rw [fi_ltL, e64]; omega), if_pos (by rw [fi_leL, e64]; omega)]
  rw [e2, h1]
  obtain ⟨c1, m, c2, c3, c4⟩ := hc
  refine ⟨?_, c1, m, c2, c3, min_c c4 (fun t => ⟨fun z => ⟨hx.1, z⟩, fun z => z.2⟩)⟩
  by_cases c : 0 < cn D v D.1 0 x.toInt.toNat
  · rw [if_pos c, if_pos ⟨hx.1, hx.2, c⟩]
  · rw [if_neg c, if_neg (fun z => c z.2.2)]
theorem ways_eq {D : FD} {v : StV} {I I1 : hI} {J1 : hJ} {x : Int32} (h6 : D.1 ≤ 6) (hD : DMf D I1) (hC : CV D v 22 I) (hR : RV D v 78 (I1 78 12) I1) : (wyF I D x).1 = (wyM I1 J1 D x).1 := by
  have okr := fun k hk => (hD.2.2.2 k hk).1
  have hvb : ∀ i, i < D.1 → v.1 i ≤ 9 ∧ v.2.1 i ≤ 9 := fun i hi => (hC i hi).2.1
  unfold wyF wyM
  by_cases c : M_num x
  · rw [if_pos c, if_pos c]
    obtain ⟨a1, a2, _⟩ := isP_w (J := J1) (by decide) h6 hD hR c
    have hl := ldF_v (I := I) (by decide) h6 okr hC
    rw [hoF_v h6 okr hvb ldF_13 hl.1 hl.2]
    have ec : cnz D v D.1 0 x.toInt64.toInt = cn D v D.1 0 x.toInt.toNat := by
      rw [Int32.toInt_toInt64]
      unfold cnz
      rw [if_neg (by have := c.1; omega)]
    rw [ec]
    dsimp only
    rw [a1, a2, lN_i32]
    by_cases c2 : 0 < cn D v D.1 0 x.toInt.toNat
    · rw [if_pos c2, if_neg (by decide)]
    · rw [if_neg c2, if_pos rfl, show cn D v D.1 0 x.toInt.toNat = 0 by omega]
      rfl
  · rw [if_neg c, if_neg c]
theorem time_eq {D : FD} {v : StV} {I I1 : hI} {J1 : hJ} {x : Int32} (h6 : D.1 ≤ 6) (hD : DMf D I1) (hC : CV D v 22 I) (hR : RV D v 78 (I1 78 12) I1) : (tiF I D x).1 = (tiM I1 J1 D x).1 := by
  have okr := fun k hk => (hD.2.2.2 k hk).1
  have hvb : ∀ i, i < D.1 → v.1 i ≤ 9 ∧ v.2.1 i ≤ 9 := fun i hi => (hC i hi).2.1
  have hbp : ∀ i, i < D.1 → 0 < bs D i := fun i hi => Nat.lt_of_lt_of_le (by decide) (okr i hi).2.1.1
  unfold tiF tiM lcF
  by_cases c : M_num x
  · rw [if_pos c, if_pos c]
    obtain ⟨a1, _, m, a2, a3, a4⟩ := isP_w (J := J1) (by decide) h6 hD hR c
    have hl := ldF_v (I := I) (by decide) h6 okr hC
    obtain ⟨m', b1, b2, _⟩ := leF_v (V := x.toInt64) h6 okr hvb ldF_13 hl.1 hl.2
    rw [Int32.toInt_toInt64] at b2
    dsimp only
    rw [a1, a2, b1]
    have hlt : ∀ t, WY D v D.1 0 x.toInt.toNat t → t ≤ 45 * D.1 := fun t ht => WY_le okr hvb _ _ _ _ (by omega) ht
    by_cases c2 : 0 < cn D v D.1 0 x.toInt.toNat
    · obtain ⟨t, ht⟩ := (cn_pos hbp D.1 0 _ (by omega)).mp c2
      have l1 := a4.1 t ht
      have l2 := b2.1 t ⟨c.1, ht⟩
      have l3 := hlt t ht
      have w1 : WY D v D.1 0 x.toInt.toNat m := a4.2.resolve_right (fun z => by omega)
      have w2 : WYz D v D.1 0 x.toInt m' := b2.2.resolve_right (fun z => by omega)
      have e : m' = m := Nat.le_antisymm (b2.1 m ⟨c.1, w1⟩) (a4.1 m' w2.2)
      rw [if_pos c2, e, if_pos (show nI m < (1048576 : Int32) from (nI_ltI (b := 1048576) (by omega) (by omega)).mpr (by omega)), if_neg (show ¬ (1 : Int32) = 0 by decide)]
    · have no : ∀ t, ¬ WY D v D.1 0 x.toInt.toNat t := fun t ht => c2 ((cn_pos hbp D.1 0 _ (by omega)).mpr ⟨t, ht⟩)
      have e : m' = 1048576 := (b2.2.resolve_left (fun z => no _ z.2)).1
      rw [if_neg c2, e, if_neg (show ¬ nI 1048576 < (1048576 : Int32) by decide), if_pos (show (0 : Int32) = 0 from rfl)]
  · rw [if_neg c, if_neg c]
end WEQ

