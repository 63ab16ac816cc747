/-! set: what both sides leave. -/
section MSV
theorem WY_x {D : FD} {v : StV} (h6 : D.1 ≤ 6) (ho : ∀ i, i < D.1 → okR (D.2.1 i)) : ∀ (k i x t : Nat), i + k ≤ D.1 → WY D v k i x t → x + 3 ≤ 3 * 16 ^ k
  | 0, i, x, t, hi, h => by rw [h.1]; decide
  | k + 1, i, x, t, hi, h => by
    obtain ⟨l, g, y, t', ha, e, hw, _⟩ := h
    have hq := ho i (by omega)
    have h1 := (slv (D := D) (i := i) (by omega) hq ha.1 ha.2.1).2
    have h2 := WY_x h6 ho k (i + 1) y t' (by omega) hw
    have h3 : y * bs D i ≤ y * 16 := Nat.mul_le_mul_left _ hq.2.1.2
    rw [Nat.pow_succ]
    omega
theorem sel_w {o : Nat} (ho : o ≠ 83) : ∀ (n r : Nat) (I : hI), r + n ≤ 6 → (∀ q, r ≤ q → q < r + n → sel o n r I o q = I 83 q ∧ sel o n r I o (6 + q) = I 83 (6 + q)) ∧ ∀ q, (q < r ∨ (r + n ≤ q ∧ q < 6 + r) ∨ 6 + r + n ≤ q) → sel o n r I o q = I o q
  | 0, r, I, hr => ⟨fun q a b => by omega, fun q _ => rfl⟩
  | n + 1, r, I, hr => by
    have ih := sel_w ho n (r + 1) (se1 o r I) (by omega)
    have e10 : se1 o r I 83 = I 83 := by unfold se1; rw [sf_c (Ne.symm ho), sf_c (Ne.symm ho)]
    rw [e10] at ih
    unfold sel
    refine ⟨fun q q1 q2 => ?_, fun q hq => ?_⟩
    · by_cases e : q = r
      · subst e
        rw [ih.2 q (by omega), ih.2 (6 + q) (by omega)]
        unfold se1
        rw [sf_k (by omega), sf_s, sf_s, sf_c (Ne.symm ho)]
        exact ⟨rfl, rfl⟩
      · exact ih.1 q (by omega) (by omega)
    · rw [ih.2 q (by omega)]
      unfold se1
      rw [sf_k (by omega), sf_k (by omega)]
/-- the reference's set -/
theorem seF_w {D : FD} {v : StV} {o : Nat} {I : hI} {J : hJ} {V : Int64} (ho : o = 78 ∨ o = 79) (h6 : D.1 ≤ 6) (hD : DMf D I) (hV : RV D v o (I o 12) I) : ((∀ t, ¬ WYz D v D.1 0 V.toInt t) ∧ (seF I J D o V).1 = -1 ∧ (seF I J D o V).2.1 o = I o) ∨ ∃ x m f, V.toInt = (x : Nat) ∧ WY D v D.1 0 x m ∧ (∀ t, WY D v D.1 0 x t → m ≤ t) ∧ GW D v D.1 0 x m f ∧ (seF I J D o V).1 = nI m ∧ (∀ q, q < D.1 → (seF I J D o V).2.1 o q = nI (f q % 10) ∧ (seF I J D o V).2.1 o (6 + q) = nI (f q / 10)) ∧ (seF I J D o V).2.1 o 12 = I o 12 ∧ (seF I J D o V).2.1 o 13 = cap (I o 13 + nI m) := by
  have okr := fun k hk => (hD.2.2.2 k hk).1
  have hvb : ∀ i, i < D.1 → v.1 i ≤ 9 ∧ v.2.1 i ≤ 9 := fun i hi => (hV i hi).2.1
  have hbp : ∀ i, i < D.1 → 0 < bs D i := fun i hi => Nat.lt_of_lt_of_le (by decide) (okr i hi).2.1.1
  have o9 : o ≠ 82 := by rcases ho with rfl | rfl <;> decide
  have o10 : o ≠ 83 := by rcases ho with rfl | rfl <;> decide
  have z0 : (0 : Int64).toInt = 0 := rfl
  have z9 : (1000000000 : Int64).toInt = 1000000000 := rfl
  have h1 := isP_v (J := J) (due := V) o9 h6 hD hV
  unfold seF
  by_cases c : 0 ≤ V.toInt ∧ V.toInt ≤ 1000000000 ∧ 0 < cn D v D.1 0 V.toInt.toNat
  · rw [if_pos c] at h1
    have e2 : (isP I J D o (I o 12) V).2 = lay I J D o (I o 12) V := by
      unfold isP
      rw [if_neg (by rw [fi_ltL]; omega), if_pos (by rw [fi_leL]; omega)]
    rw [h1, if_neg (by decide), e2]
    refine Or.inr ?_
    obtain ⟨x, hx⟩ : ∃ x : Nat, V.toInt = x := ⟨V.toInt.toNat, (Int.toNat_of_nonneg c.1).symm⟩
    have hR := lay_v (J := J) (due := V) o9 h6 hD hV c.1 c.2.1
    have hU := lay_DU (I := I) (J := J) (D := D) (o := o) (st := I o 12) c.1 c.2.1
    have h7 := lay_7 (D := D) (o := o) (st := I o 12) (I := I) (J := J) (due := V)
    have kI : ∀ a, a ≠ 82 → (lay I J D o (I o 12) V).1 a = I a := fun a ha => lay_I ha
    have hD2 := DMf_9 hD kI
    have hV2 : RV D v o ((lay I J D o (I o 12) V).1 o 12) (lay I J D o (I o 12) V).1 := by
      rw [kI o o9]
      exact RV_of hV (kI o o9)
    obtain ⟨_, m, c2, c3, c4⟩ := hR 0 (Nat.zero_le _) 0 (by omega)
    rw [h7, hx, show D.1 - 0 = D.1 from rfl, show (x : Int) - ((0 : Nat) : Int) = x by omega] at c4
    have c2' : (lay I J D o (I o 12) V).1 82 0 = nI m := c2
    rw [hx, Int.toNat_natCast] at c
    have hmin : isMin 1000000000 (fun t => WY D v D.1 0 x t) m := min_c c4 (fun t => ⟨fun z => ⟨by omega, by rw [Int.toNat_natCast]; exact z⟩, fun z => by have := z.2; rw [Int.toNat_natCast] at this; exact this⟩)
    obtain ⟨t, ht⟩ := (cn_pos hbp D.1 0 x (by omega)).mp c.2.2
    have l1 := hmin.1 t ht
    have l2 := WY_le okr hvb _ _ _ _ (by omega) ht
    have w1 : WY D v D.1 0 x m := hmin.2.resolve_right (fun z => by omega)
    obtain ⟨⟨f, hf, hv⟩, _⟩ := duF_w (J := (lay I J D o (I o 12) V).2) o10 h6 hU D.1 0 0 x m _ (by omega) (by omega) hD2 hV2 hR (by rw [h7, hx]; omega) w1 hmin.1
    have hs := sel_w o10 D.1 0 (duF (lay I J D o (I o 12) V).2 D o ((lay I J D o (I o 12) V).1 o 12) D.1 0 0 (lay I J D o (I o 12) V).1) (by omega)
    have hd : ∀ a, a ≠ 83 → a ≠ 82 → duF (lay I J D o (I o 12) V).2 D o ((lay I J D o (I o 12) V).1 o 12) D.1 0 0 (lay I J D o (I o 12) V).1 a = I a := fun a h1 h2 => by rw [duF_c h1, kI a h2]
    refine ⟨x, m, f, hx, w1, hmin.1, hf, c2', fun q hq => ?_, ?_, ?_⟩
    · have s1 := hs.1 q (Nat.zero_le q) (by omega)
      have s2 := hv q (Nat.zero_le q) hq
      dsimp only
      rw [sf_k (by omega), sf_k (by omega), s1.1, s1.2]
      exact ⟨s2.2.1, s2.2.2⟩
    · dsimp only
      rw [sf_k (by decide), hs.2 12 (by omega), hd o o10 o9]
    · dsimp only
      rw [sf_s, hs.2 13 (by omega), hd o o10 o9, c2']
  · rw [if_neg c] at h1
    rw [h1, if_pos rfl]
    refine Or.inl ⟨fun t z => c ⟨z.1, ?_, (cn_pos hbp D.1 0 _ (by omega)).mpr ⟨t, z.2⟩⟩, rfl, isP_I o9⟩
    have b := WY_x h6 okr D.1 0 _ t (by omega) z.2
    have p := p16 h6
    have := z.1
    omega
end MSV

