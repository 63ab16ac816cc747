/-! The class's aim and least. -/
section CL9
def tpx (D : FD) (x : Nat) : Nat → Nat
  | 0 => x
  | i + 1 => tpx D x i / bs D i
theorem tpx_le {D : FD} {x : Nat} : ∀ i, tpx D x i ≤ x
  | 0 => Nat.le_refl x
  | i + 1 => Nat.le_trans (Nat.div_le_self _ _) (tpx_le i)
theorem aml_v {D : FD} {x : Nat} (hx : x < 2 ^ 31) (h6 : D.1 ≤ 6) (ho : ∀ i, i < D.1 → okR (D.2.1 i)) : ∀ (k i : Nat) (I : hI), i + k = D.1 → (∀ q, q < D.1 → I 8 q = nI (bs D q)) → (∀ q, q < i → I 13 q = nI (tpx D x q)) → ∀ q, q < D.1 → aml k i (nI (tpx D x i)) I 13 q = nI (tpx D x q)
  | 0, i, I, hi, hb, h => fun q hq => h q (by omega)
  | k + 1, i, I, hi, hb, h => by
    have hq := ho i (by omega)
    have b2 : 2 ≤ bs D i := hq.2.1.1
    have b16 : bs D i ≤ 16 := hq.2.1.2
    have ht := tpx_le (D := D) (x := x) i
    have eb : baseF (sf I 13 i (nI (tpx D x i))) (nI i) = nI (bs D i) := by
      unfold baseF
      rw [am_rdK rfl (by omega) (by decide), sf_c (by decide), hb i (by omega), if_neg]
      exact fun z => by
        have z2 := (nI_ltI (b := 2) (by omega) (by omega)).mp z
        omega
    unfold aml
    rw [eb, n_div (by omega) b2 (by omega)]
    refine aml_v hx h6 ho k (i + 1) _ (by omega) (fun q hq => by rw [sf_c (by decide)]; exact hb q hq) (fun q hq => ?_)
    by_cases e : q = i
    · rw [e, sf_s]
    · rw [sf_k e]; exact h q (by omega)
theorem aim_v {D : FD} {v : StV} {I : hI} {x : Nat} (hx : x < 2 ^ 31) (h6 : D.1 ≤ 6) (ho : ∀ i, i < D.1 → okR (D.2.1 i)) (hvb : ∀ i, i < D.1 → v.1 i ≤ 9 ∧ v.2.1 i ≤ 9) (hs : I 4 13 = nI D.1) (hF : ∀ q, q < D.1 → FTr D v q I) (hB : ∀ q, q ≤ D.1 → BD D v q I) : Tbl D v (tpx D x) (aimF I D.1 (nI x)) ∧ MK D v (tpx D x) (aimF I D.1 (nI x)) := by
  have k : ∀ c, c ≠ 12 → c ≠ 13 → aimF I D.1 (nI x) c = I c := fun c h1 h2 => aimF_c h1 h2
  refine ⟨⟨h6, ho, hvb, by rw [k 4 (by decide) (by decide)]; exact hs, fun q hq => FTr_of (hF q hq) (fun s hs c hc => by rw [k c (by omega) (by omega)]) (by rw [k 8 (by decide) (by decide)]) (by rw [k 9 (by decide) (by decide)]), fun q hq => BD_of (hB q hq) (by rw [k 10 (by decide) (by decide)]) (by rw [k 11 (by decide) (by decide)]), fun q _ => Nat.lt_of_le_of_lt (tpx_le q) hx, fun q _ => rfl, ?_⟩, fun i d hi hd => Or.inl ?_⟩
  · unfold aimF
    refine aml_v hx h6 ho D.1 0 _ (by omega) (fun q hq => ?_) (fun q hq => absurd hq (Nat.not_lt_zero q))
    rw [up_ne (by decide)]
    exact (hF q hq).2.1
  · unfold aimF
    rw [aml_c (by decide), up_same]
    unfold am_fill
    rw [if_pos (by omega)]
/-- least -/
theorem leF_v {D : FD} {v : StV} {I : hI} {V : Int64} (h6 : D.1 ≤ 6) (ho : ∀ i, i < D.1 → okR (D.2.1 i)) (hvb : ∀ i, i < D.1 → v.1 i ≤ 9 ∧ v.2.1 i ≤ 9) (hs : I 4 13 = nI D.1) (hF : ∀ q, q < D.1 → FTr D v q I) (hB : ∀ q, q ≤ D.1 → BD D v q I) : ∃ m, (leF I D.1 V).1 = nI m ∧ isMin 1048576 (fun t => WYz D v D.1 0 V.toInt t) m ∧ (m < 1048576 → ∃ x : Nat, V.toInt = x ∧ x < 2 ^ 31 ∧ WY D v D.1 0 x m ∧ (∀ t, WY D v D.1 0 x t → m ≤ t) ∧ Tbl D v (tpx D x) (leF I D.1 V).2 ∧ MK D v (tpx D x) (leF I D.1 V).2) := by
  obtain ⟨f, M, e1, e2, b1, b2, hw⟩ := hB 0 (Nat.zero_le _)
  have hp := p16 (k := D.1 - 0) (by omega)
  have ef : ((nI f).toInt64).toInt = f := by rw [Int32.toInt_toInt64, nI_toInt (by omega)]
  have eM : ((nI M).toInt64).toInt = M := by rw [Int32.toInt_toInt64, nI_toInt (by omega)]
  have r1 : am_rd 7 (I 11) 0 = nI f := (am_rdK (i := 0) rfl (by decide) (by decide)).trans e1
  have r2 : am_rd 7 (I 10) 0 = nI M := (am_rdK (i := 0) rfl (by decide) (by decide)).trans e2
  unfold leF
  rw [r1, r2]
  by_cases c1 : V < (nI f).toInt64
  · rw [if_pos c1]
    rw [fi_ltL, ef] at c1
    refine ⟨1048576, rfl, min_0 _ (fun t z => ?_), fun z => by omega⟩
    have := hw _ t z.2
    have := z.1
    omega
  · rw [if_neg c1]
    rw [fi_ltL, ef] at c1
    by_cases c2 : V ≤ (nI M).toInt64
    · rw [if_pos c2]
      rw [fi_leL, eM] at c2
      have hx : V.toInt = (V.toInt.toNat : Int) := (Int.toNat_of_nonneg (by omega)).symm
      have e32 : V.toInt32 = nI V.toInt.toNat := by
        rw [fi_eq, tl_32 (by omega) (by omega), nI_toInt (by omega)]
        exact hx
      rw [e32]
      generalize V.toInt.toNat = x at hx
      have hx31 : x < 2 ^ 31 := by omega
      obtain ⟨hT, hM⟩ := aim_v hx31 h6 ho hvb hs hF hB
      obtain ⟨m, em, hm, hM2⟩ := lfF_v 7 0 (Nat.zero_le _) (by omega) _ x hT hM hx31 (fun _ => Nat.le_refl _)
      have em' : (lfF 7 (aimF I D.1 (nI x)) 0 (nI x)).1 = nI m := em
      refine ⟨m, em', min_c hm (fun t => ?_), fun hlt => ⟨x, hx, hx31, hm.2.resolve_right (fun z => by omega), hm.1, Tbl_of hT (fun c h => lfF_c h _ _ _ _), hM2⟩⟩
      unfold WYz
      rw [hx, Int.toNat_natCast]
      exact ⟨fun z => z.2, fun z => ⟨by omega, z⟩⟩
    · rw [if_neg c2]
      rw [fi_leL, eM] at c2
      refine ⟨1048576, rfl, min_0 _ (fun t z => ?_), fun z => by omega⟩
      have := hw _ t z.2
      have := z.1
      omega
end CL9

