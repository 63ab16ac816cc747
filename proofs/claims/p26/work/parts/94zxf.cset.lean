/-! The class's set. -/
section CST
theorem leF_cc {I : hI} {n c : Nat} {V : Int64} (h2 : c ≠ 12) (h3 : c ≠ 13) : (leF I n V).2 c = I c := by
  unfold leF
  split
  · rfl
  · split
    · rw [lfF_c h2, aimF_c h2 h3]
    · rfl
theorem stF_w {D : FD} {v : StV} {a : Nat} {I : hI} {V : Int64} (ha : 14 ≤ a) (h6 : D.1 ≤ 6) (okr : ∀ i, i < D.1 → okR (D.2.1 i)) (hC : CV D v a I) : ((∀ t, ¬ WYz D v D.1 0 V.toInt t) ∧ (stF I D a V).1 = -1 ∧ (stF I D a V).2 a = I a ∧ (stF I D a V).2 (a + 1) = I (a + 1) ∧ (stF I D a V).2 (a + 2) = I (a + 2)) ∨ ∃ x m f, V.toInt = (x : Nat) ∧ WY D v D.1 0 x m ∧ (∀ t, WY D v D.1 0 x t → m ≤ t) ∧ GW D v D.1 0 x m f ∧ (stF I D a V).1 = nI m ∧ (∀ q, q < D.1 → (stF I D a V).2 (a + 1) q = nI (f q % 10) ∧ (stF I D a V).2 (a + 2) q = nI (f q / 10)) ∧ (stF I D a V).2 a 2 = I a 2 ∧ (stF I D a V).2 a 3 = (if (1000000 : Int32) < I a 3 + nI m then 1000000 else I a 3 + nI m) := by
  have hvb : ∀ i, i < D.1 → v.1 i ≤ 9 ∧ v.2.1 i ≤ 9 := fun i hi => (hC i hi).2.1
  have hl := ldF_v (I := I) (by omega) h6 okr hC
  obtain ⟨m, e1, hm, hx⟩ := leF_v (V := V) h6 okr hvb ldF_13 hl.1 hl.2
  have kL : ∀ c, 14 ≤ c → (leF (ldF I D a 0) D.1 V).2 c = I c := fun c hc => by
    rw [leF_cc (by omega) (by omega), ldF_c (by omega) (by omega) (by omega) (by omega) (by omega) (by omega) (by omega) (by omega)]
  have hmF := min_le hm (fun t ht => by have := WY_le okr hvb _ _ _ _ (by omega) ht.2; omega)
  unfold stF
  rw [e1]
  by_cases c : m < 1048576
  · rw [if_pos (show nI m < (1048576 : Int32) from (nI_ltI (b := 1048576) (by omega) (by omega)).mpr c)]
    obtain ⟨x, ex, x31, hw, hmi, hT, hM⟩ := hx c
    refine Or.inr ?_
    have el : (if (leF (ldF I D a 0) D.1 V).2 4 13 ≤ 0 then 0 else am_rd 6 ((leF (ldF I D a 0) D.1 V).2 13) 0) = nI x := by
      rw [hT.sz]
      by_cases z : D.1 = 0
      · rw [z, if_pos (show nI 0 ≤ (0 : Int32) by decide)]
        rw [z] at hw
        rw [hw.1]
        rfl
      · rw [if_neg (show ¬ nI D.1 ≤ (0 : Int32) from nI_ge (a := 0) (b := D.1) (by omega) (by omega))]
        exact (am_rdK (i := 0) rfl (by decide) (by decide)).trans (hT.tpI 0 (by omega))
    obtain ⟨⟨f, hf, hv⟩, _⟩ := pal_v (a := a) ha D.1 0 x m _ (by omega) x31 (fun _ => Nat.le_refl _) hw hmi hT hM
    have ep : paF (leF (ldF I D a 0) D.1 V).2 a D.1 = pal a D.1 0 (nI x) (leF (ldF I D a 0) D.1 V).2 := by
      unfold paF
      rw [el]
    refine ⟨x, m, f, ex, hw, hmi, hf, rfl, fun q hq => ?_, ?_, ?_⟩
    · dsimp only
      unfold spF
      rw [sf_c (by omega), sf_c (by omega), ep]
      exact hv q (Nat.zero_le q) hq
    · dsimp only
      unfold spF
      rw [sf_k (by decide), ep, pal_c (by omega) (by omega) (by omega), kL a ha]
    · dsimp only
      unfold spF
      rw [sf_s, ep, pal_c (by omega) (by omega) (by omega), kL a ha]
  · rw [if_neg (show ¬ nI m < (1048576 : Int32) from fun z => c ((nI_ltI (b := 1048576) (by omega) (by omega)).mp z))]
    refine Or.inl ⟨fun t z => ?_, rfl, kL a ha, kL _ (by omega), kL _ (by omega)⟩
    have := hm.1 t z
    have := WY_le okr hvb _ _ _ _ (by omega) z.2
    omega
/-- set: the same answer, and they stand alike behind it -/
theorem set_eq {D : FD} {v : StV} {a o : Nat} {I I1 : hI} {J1 : hJ} {V : Int64} (ha : 14 ≤ a) (ho : o = 78 ∨ o = 79) (hD : DMf D I1) (h6 : D.1 ≤ 6) (hC : CV D v a I) (hR : RV D v o (I1 o 12) I1) (hsp : I a 3 = I1 o 13) : (stF I D a V).1 = (seF I1 J1 D o V).1 ∧ (∃ v' : StV, v'.2.2 = v.2.2 ∧ CV D v' a (stF I D a V).2 ∧ RV D v' o ((seF I1 J1 D o V).2.1 o 12) (seF I1 J1 D o V).2.1) ∧ (stF I D a V).2 a 3 = (seF I1 J1 D o V).2.1 o 13 := by
  have okr := fun k hk => (hD.2.2.2 k hk).1
  have hbp : ∀ i, i < D.1 → 0 < bs D i := fun i hi => Nat.lt_of_lt_of_le (by decide) (okr i hi).2.1.1
  rcases stF_w (V := V) ha h6 okr hC with ⟨n1, e1, p0, p1, p2⟩ | ⟨x, m, f, ex, hw, hmi, hf, e1, hv, e2, e3⟩
  · rcases seF_w (J := J1) (V := V) ho h6 hD hR with ⟨_, g1, g2⟩ | ⟨y, m', f', ey, hw', _⟩
    · refine ⟨by rw [e1, g1], ⟨v, rfl, CV_of hC p0 p1 p2, ?_⟩, by rw [p0, g2, hsp]⟩
      rw [g2]
      exact RV_of hR g2
    · refine absurd ⟨by rw [ey]; omega, ?_⟩ (n1 m')
      rw [ey, Int.toNat_natCast]
      exact hw'
  · rcases seF_w (J := J1) (V := V) ho h6 hD hR with ⟨n1, _, _⟩ | ⟨y, m', f', ey, hw', hmi', hf', g1, hv', g2, g3⟩
    · refine absurd ⟨by rw [ex]; omega, ?_⟩ (n1 m)
      rw [ex, Int.toNat_natCast]
      exact hw
    · have exy : x = y := by omega
      subst exy
      have em : m = m' := Nat.le_antisymm (hmi m' hw') (hmi' m hw)
      subst em
      have ef := GW_u hbp D.1 0 x m (by omega) hf hf'
      have hal : ∀ q, q < D.1 → f q % 10 ≤ 9 ∧ f q / 10 ≤ 9 := fun q hq => by
        refine ⟨by omega, ?_⟩
        have gw : ∀ (k i x m : Nat), i + k ≤ D.1 → GW D v k i x m f → ∀ q, i ≤ q → q < i + k → f q / 10 ≤ (D.2.1 q).2.2.2 := fun k => by
          induction k with
          | zero => exact fun i x m _ _ q a b => by omega
          | succ k ih =>
            intro i x m hi h q a b
            obtain ⟨h1, y, t, _, _, _, h5⟩ := h
            by_cases e : q = i
            · rw [e]; exact h1.1.1
            · exact ih (i + 1) y t (by omega) h5 q (by omega) (by omega)
        have := gw D.1 0 x m (by omega) hf q (Nat.zero_le q) (by omega)
        have := (okr q hq).2.2.2.1
        omega
      refine ⟨by rw [e1, g1], ⟨(fun q => f q % 10, fun q => f q / 10, v.2.2), rfl, fun i hi => ?_, fun i hi => ?_⟩, ?_⟩
      · have := hv i hi
        rw [e2]
        exact ⟨this, hal i hi, (hC i hi).2.2⟩
      · have h := hv' i hi
        have e := ef i (Nat.zero_le i) (by omega)
        rw [← e] at h
        rw [g2]
        exact ⟨h, hal i hi, (hR i hi).2.2⟩
      · rw [e3, g3, hsp]
        rfl
end CST

