/-! nearest and span: both sides answer alike. -/
section NEA
def Pz (D : FD) (v : StV) (z : Int) : Prop := 0 ≤ z ∧ SHw D v D.1 0 z.toNat
theorem isP_P {D : FD} {v : StV} {I : hI} {J : hJ} {due : Int64} (hD : DMf D I) (hR : RV D v 78 (I 78 12) I) : (isP I J D 78 (I 78 12) due).1 = 0 ↔ ¬ Pz D v due.toInt := by
  have h6 := hD.2.1
  have okr := fun k hk => (hD.2.2.2 k hk).1
  have hbp : ∀ i, i < D.1 → 0 < bs D i := fun i hi => Nat.lt_of_lt_of_le (by decide) (okr i hi).2.1.1
  rw [isP_v (J := J) (due := due) (by decide) h6 hD hR]
  by_cases c : 0 ≤ due.toInt ∧ due.toInt ≤ 1000000000 ∧ 0 < cn D v D.1 0 due.toInt.toNat
  · rw [if_pos c]
    refine ⟨fun z => absurd z (show ¬ (1 : Int32) = 0 by decide), fun z => absurd ⟨c.1, (cn_pos hbp D.1 0 _ (by omega)).mp c.2.2⟩ z⟩
  · rw [if_neg c]
    refine ⟨fun _ z => c ⟨z.1, ?_, (cn_pos hbp D.1 0 _ (by omega)).mpr z.2⟩, fun _ => rfl⟩
    obtain ⟨t, ht⟩ := z.2
    have b := WY_x h6 okr D.1 0 _ t (by omega) ht
    have p := p16 h6
    have := z.1
    omega
/-- the nearest, k further off or more -/
def NR (P : Int → Prop) (x : Int) : Nat → Nat → Int → Prop
  | 0, _, r => r = -1
  | n + 1, k, r => (P (x - k) ∧ r = x - k) ∨ (¬ P (x - k) ∧ P (x + k) ∧ r = x + k) ∨ (¬ P (x - k) ∧ ¬ P (x + k) ∧ NR P x n (k + 1) r)
theorem NR_u {P : Int → Prop} {x : Int} : ∀ (n k : Nat) (r r' : Int), NR P x n k r → NR P x n k r' → r = r'
  | 0, k, r, r', h, h' => by
    have a : r = -1 := h
    have b : r' = -1 := h'
    rw [a, b]
  | n + 1, k, r, r', h, h' => by
    rcases h with ⟨a, e⟩ | ⟨a, b, e⟩ | ⟨a, b, e⟩
    · rcases h' with ⟨a', e'⟩ | ⟨a', _⟩ | ⟨a', _⟩
      · rw [e, e']
      · exact absurd a a'
      · exact absurd a a'
    · rcases h' with ⟨a', e'⟩ | ⟨a', b', e'⟩ | ⟨a', b', _⟩
      · exact absurd a' a
      · rw [e, e']
      · exact absurd b b'
    · rcases h' with ⟨a', e'⟩ | ⟨a', b', e'⟩ | ⟨a', b', e'⟩
      · exact absurd a' a
      · exact absurd b' b
      · exact NR_u n (k + 1) r r' e e'
theorem NR_0 {P : Int → Prop} {x : Int} : ∀ (n k : Nat), (∀ j : Nat, k ≤ j → j < k + n → ¬ P (x - j) ∧ ¬ P (x + j)) → NR P x n k (-1)
  | 0, k, h => rfl
  | n + 1, k, h => Or.inr (Or.inr ⟨(h k (Nat.le_refl k) (by omega)).1, (h k (Nat.le_refl k) (by omega)).2, NR_0 n (k + 1) (fun j a b => h j (by omega) (by omega))⟩)
theorem ner_v {D : FD} {v : StV} {x : Int32} (hx : 0 ≤ x.toInt ∧ x.toInt ≤ 1000000000) : ∀ (n k : Nat) (I : hI) (J : hJ), k + n = 501 → DMf D I → RV D v 78 (I 78 12) I → NR (Pz D v) x.toInt n k (ner D x n k I J).1.toInt
  | 0, k, I, J, hk, hD, hR => rfl
  | n + 1, k, I, J, hk, hD, hR => by
    have ek : (nI k).toInt = k := nI_toInt (by omega)
    have es : (x - nI k).toInt = x.toInt - k := by rw [ti_sub (by omega) (by omega), ek]
    have ea : (x + nI k).toInt = x.toInt + k := by rw [ti_add (by omega) (by omega), ek]
    have e1 : (x - nI k).toInt64.toInt = x.toInt - k := by rw [tl_i, es]
    have e2 : (x.toInt64 + (nI k).toInt64).toInt = x.toInt + k := by rw [tl_add (by rw [tl_i, tl_i, ek]; omega) (by rw [tl_i, tl_i, ek]; omega), tl_i, tl_i, ek]
    have a1 := isP_P (J := J) (due := (x - nI k).toInt64) hD hR
    rw [e1] at a1
    have k9 : ∀ a, a ≠ 82 → (isP I J D 78 (I 78 12) (x - nI k).toInt64).2.1 a = I a := fun a ha => isP_I ha
    have hD1 := DMf_9 hD k9
    have hR1 : RV D v 78 ((isP I J D 78 (I 78 12) (x - nI k).toInt64).2.1 78 12) (isP I J D 78 (I 78 12) (x - nI k).toInt64).2.1 := by
      rw [k9 78 (by decide)]
      exact RV_of hR (k9 78 (by decide))
    unfold ner
    generalize isP I J D 78 (I 78 12) (x - nI k).toInt64 = w at a1 hD1 hR1 ⊢
    by_cases c : w.1 = 0
    · rw [if_pos c]
      have a2 := isP_P (J := w.2.2) (due := x.toInt64 + (nI k).toInt64) hD1 hR1
      rw [e2] at a2
      have k9' : ∀ a, a ≠ 82 → (isP w.2.1 w.2.2 D 78 (w.2.1 78 12) (x.toInt64 + (nI k).toInt64)).2.1 a = w.2.1 a := fun a ha => isP_I ha
      have hD2 := DMf_9 hD1 k9'
      have hR2 : RV D v 78 ((isP w.2.1 w.2.2 D 78 (w.2.1 78 12) (x.toInt64 + (nI k).toInt64)).2.1 78 12) (isP w.2.1 w.2.2 D 78 (w.2.1 78 12) (x.toInt64 + (nI k).toInt64)).2.1 := by
        rw [k9' 78 (by decide)]
        exact RV_of hR1 (k9' 78 (by decide))
      generalize isP w.2.1 w.2.2 D 78 (w.2.1 78 12) (x.toInt64 + (nI k).toInt64) = u at a2 hD2 hR2 ⊢
      by_cases c2 : u.1 = 0
      · rw [if_pos c2]
        exact Or.inr (Or.inr ⟨a1.mp c, a2.mp c2, ner_v hx n (k + 1) _ _ (by omega) hD2 hR2⟩)
      · rw [if_neg c2]
        exact Or.inr (Or.inl ⟨a1.mp c, Classical.not_not.mp (fun z => c2 (a2.mpr z)), ea⟩)
    · rw [if_neg c]
      exact Or.inl ⟨Classical.not_not.mp (fun z => c (a1.mpr z)), es⟩
/-- what the sieve says of a number that is near -/
theorem isf_z {D : FD} {v : StV} {I : hI} {lo hi : Nat} {z : Int32} (h : SVr D v 0 lo hi I) (hz : z.toInt ≤ 1500000000) (hw : Pz D v z.toInt → lo ≤ z.toInt.toNat ∧ z.toInt.toNat ≤ hi) : isfP I 0 z ↔ Pz D v z.toInt := by
  by_cases c : 0 ≤ z.toInt
  · have ez : z = nI z.toInt.toNat := by rw [fi_eq, nI_toInt (by omega)]; omega
    have f := isf_v (x := z.toInt.toNat) (by decide) h (by omega)
    rw [← ez] at f
    rw [f]
    exact ⟨fun y => ⟨c, y.2.2⟩, fun y => ⟨(hw y).1, (hw y).2, y.2⟩⟩
  · refine ⟨fun y => ?_, fun y => absurd y.1 c⟩
    have y1 := y.1
    rw [rd_7 (by decide), h.1, fi_lt, nI_toInt (by have := h.2.2.2.1; omega)] at y1
    omega
theorem nsl_v {D : FD} {v : StV} {I : hI} {lo hi : Nat} {x : Int32} (hx : 0 ≤ x.toInt ∧ x.toInt ≤ 1000000000) (h : SVr D v 0 lo hi I) (hw : ∀ z : Int, x.toInt - 500 ≤ z → z ≤ x.toInt + 500 → Pz D v z → lo ≤ z.toNat ∧ z.toNat ≤ hi) : ∀ (k o : Nat), o + k = 501 → NR (Pz D v) x.toInt k o (nsl I x k o).toInt
  | 0, o, hk => rfl
  | k + 1, o, hk => by
    have ek : (nI o).toInt = o := nI_toInt (by omega)
    have es : (x - nI o).toInt = x.toInt - o := by rw [ti_sub (by omega) (by omega), ek]
    have ea : (x + nI o).toInt = x.toInt + o := by rw [ti_add (by omega) (by omega), ek]
    have f1 := isf_z (z := x - nI o) h (by omega) (fun y => hw _ (by omega) (by omega) y)
    have f2 := isf_z (z := x + nI o) h (by omega) (fun y => hw _ (by omega) (by omega) y)
    rw [es] at f1
    rw [ea] at f2
    unfold nsl
    by_cases c : isfP I 0 (x - nI o)
    · rw [if_pos c]
      exact Or.inl ⟨f1.mp c, es⟩
    · rw [if_neg c]
      by_cases c2 : isfP I 0 (x + nI o)
      · rw [if_pos c2]
        exact Or.inr (Or.inl ⟨fun z => c (f1.mpr z), f2.mp c2, ea⟩)
      · rw [if_neg c2]
        exact Or.inr (Or.inr ⟨fun z => c (f1.mpr z), fun z => c2 (f2.mpr z), nsl_v hx h hw k (o + 1) (by omega)⟩)
theorem TBL_ld {D : FD} {v : StV} {I : hI} (h6 : D.1 ≤ 6) (okr : ∀ i, i < D.1 → okR (D.2.1 i)) (hC : CV D v 22 I) : TBL D v (ldF I D 22 0) := ⟨ldF_13, (ldF_v (I := I) (by decide) h6 okr hC).1, (ldF_v (I := I) (by decide) h6 okr hC).2⟩
theorem near_c {D : FD} {v : StV} {I : hI} {x : Int32} (h6 : D.1 ≤ 6) (okr : ∀ i, i < D.1 → okR (D.2.1 i)) (hC : CV D v 22 I) (hx : 0 ≤ x.toInt ∧ x.toInt ≤ 1000000000) : NR (Pz D v) x.toInt 501 0 (nsF (ldF I D 22 0) D.1 x).1.toInt := by
  have hvb : ∀ i, i < D.1 → v.1 i ≤ 9 ∧ v.2.1 i ≤ 9 := fun i hi => (hC i hi).2.1
  have hT := TBL_ld h6 okr hC
  obtain ⟨f, M, e1, e2, b1, b2, hb⟩ := hT.2.2 0 (Nat.zero_le _)
  have p := p16 (k := D.1 - 0) (by omega)
  obtain ⟨m, f1, f2, _⟩ := leF_v (V := x.toInt64) h6 okr hvb ldF_13 hT.2.1 hT.2.2
  rw [tl_i] at f2
  obtain ⟨X, eX⟩ : ∃ X : Nat, x.toInt = X := ⟨_, (Int.toNat_of_nonneg hx.1).symm⟩
  have z5 : (500 : Int32).toInt = 500 := rfl
  have es : (x - 500).toInt = (X : Int) - 500 := by rw [ti_sub (by omega) (by omega), eX, z5]
  have ea : (x + 500).toInt = (X : Int) + 500 := by rw [ti_add (by omega) (by omega), eX, z5]
  have r1 : am_rd 7 (ldF I D 22 0 11) 0 = nI f := (am_rdK (i := 0) rfl (by decide) (by decide)).trans e1
  have r2 : am_rd 7 (ldF I D 22 0 10) 0 = nI M := (am_rdK (i := 0) rfl (by decide) (by decide)).trans e2
  have ef : (nI f).toInt = f := nI_toInt (by omega)
  have eM : (nI M).toInt = M := nI_toInt (by omega)
  obtain ⟨lo, elo, hlo⟩ : ∃ lo : Nat, nFr (ldF I D 22 0) x = nI lo ∧ ((X < f + 500 ∧ lo = f) ∨ (f + 500 ≤ X ∧ lo = X - 500)) := by
    unfold nFr
    rw [r1]
    by_cases c : X < f + 500
    · rw [if_pos (by rw [fi_lt, es, ef]; omega)]; exact ⟨f, rfl, Or.inl ⟨c, rfl⟩⟩
    · rw [if_neg (by rw [fi_lt, es, ef]; omega)]
      exact ⟨X - 500, by rw [fi_eq, es, nI_toInt (by omega)]; omega, Or.inr ⟨by omega, rfl⟩⟩
  obtain ⟨hi, ehi, hhi⟩ : ∃ hi : Nat, nUp (ldF I D 22 0) x = nI hi ∧ ((M < X + 500 ∧ hi = M) ∨ (X + 500 ≤ M ∧ hi = X + 500)) := by
    unfold nUp
    rw [r2]
    by_cases c : M < X + 500
    · rw [if_pos (by rw [fi_lt, ea, eM]; omega)]; exact ⟨M, rfl, Or.inl ⟨c, rfl⟩⟩
    · rw [if_neg (by rw [fi_lt, ea, eM]; omega)]
      exact ⟨X + 500, by rw [fi_eq, ea, nI_toInt (by omega)]; omega, Or.inr ⟨by omega, rfl⟩⟩
  have hw : ∀ z : Int, x.toInt - 500 ≤ z → z ≤ x.toInt + 500 → Pz D v z → lo ≤ z.toNat ∧ z.toNat ≤ hi := fun z y1 y2 y => by
    obtain ⟨y0, t, ht⟩ := y
    have := hb z.toNat t ht
    omega
  have n0 : x.toInt - ((0 : Nat) : Int) = x.toInt := by omega
  have n0' : x.toInt + ((0 : Nat) : Int) = x.toInt := by omega
  unfold nsF
  rw [elo, ehi, f1]
  by_cases c1 : lo ≤ hi
  · rw [if_pos (nI_le c1 (by omega))]
    by_cases c2 : 1048576 ≤ m
    · have np : ¬ Pz D v x.toInt := fun ⟨y0, t, ht⟩ => by
        have l1 := f2.1 t ⟨y0, ht⟩
        have l2 := WY_le okr hvb D.1 0 _ t (by omega) ht
        omega
      have hm := min_le f2 (fun t ht => by have := WY_le okr hvb D.1 0 _ t (by omega) ht.2; omega)
      rw [if_pos (show (1048576 : Int32) ≤ nI m from nI_le (a := 1048576) c2 (by omega))]
      refine Or.inr (Or.inr ⟨by rw [n0]; exact np, by rw [n0']; exact np, ?_⟩)
      exact nsl_v hx (sit_v (lo := lo) (hi := hi) h6 okr hvb (by omega) (by omega) (TBL_of hT (fun c hc => leF_cc (by omega) (by omega))) (if_neg (nI_pos (by omega))) rfl) hw 500 1 (by omega)
    · have hm : WYz D v D.1 0 x.toInt m := f2.2.resolve_right (fun z => by omega)
      rw [if_neg (show ¬ (1048576 : Int32) ≤ nI m from nI_ge (b := 1048576) (by omega) (by omega))]
      exact Or.inl ⟨by rw [n0]; exact ⟨hm.1, m, hm.2⟩, n0.symm⟩
  · rw [if_neg (fun z => c1 ((nI_leI (by omega) (by omega)).mp z))]
    refine NR_0 501 0 (fun j _ j2 => ⟨fun y => ?_, fun y => ?_⟩)
    · have := hw _ (by omega) (by omega) y; omega
    · have := hw _ (by omega) (by omega) y; omega
theorem near_eq {D : FD} {v : StV} {I I1 : hI} {J1 : hJ} {x : Int32} (hD : DMf D I1) (hC : CV D v 22 I) (hR : RV D v 78 (I1 78 12) I1) : (neF I D x).1 = (neM I1 J1 D x).1 := by
  have h6 := hD.2.1
  have okr := fun k hk => (hD.2.2.2 k hk).1
  unfold neF neM
  by_cases c : M_num x
  · rw [if_pos c, if_pos c, fi_eq]
    exact NR_u 501 0 _ _ (near_c h6 okr hC c) (ner_v c 501 0 I1 J1 (by omega) hD hR)
  · rw [if_neg c, if_neg c]
/-- the first number behind f that can't be shown -/
def GP (P : Int → Prop) (f : Int) : Nat → Nat → Int → Prop
  | 0, _, r => r = -1
  | n + 1, k, r => (¬ P (f + k) ∧ r = f + k) ∨ (P (f + k) ∧ GP P f n (k + 1) r)
theorem GP_u {P : Int → Prop} {f : Int} : ∀ (n k : Nat) (r r' : Int), GP P f n k r → GP P f n k r' → r = r'
  | 0, k, r, r', h, h' => by
    have a : r = -1 := h
    have b : r' = -1 := h'
    rw [a, b]
  | n + 1, k, r, r', h, h' => by
    rcases h with ⟨a, e⟩ | ⟨a, e⟩
    · rcases h' with ⟨a', e'⟩ | ⟨a', _⟩
      · rw [e, e']
      · exact absurd a' a
    · rcases h' with ⟨a', e'⟩ | ⟨a', e'⟩
      · exact absurd a a'
      · exact GP_u n (k + 1) r r' e e'
theorem spn_v {D : FD} {v : StV} {f : Int64} (hf : 0 ≤ f.toInt ∧ f.toInt ≤ 1000000000) : ∀ (n k : Nat) (I : hI) (J : hJ), k + n = 501 → DMf D I → RV D v 78 (I 78 12) I → GP (Pz D v) f.toInt n k (spn D f n k I J).1.toInt
  | 0, k, I, J, hk, hD, hR => rfl
  | n + 1, k, I, J, hk, hD, hR => by
    have ek : (nI k).toInt = k := nI_toInt (by omega)
    have e2 : (f + (nI k).toInt64).toInt = f.toInt + k := by rw [tl_add (by rw [tl_i, ek]; omega) (by rw [tl_i, ek]; omega), tl_i, ek]
    have a1 := isP_P (J := J) (due := f + (nI k).toInt64) hD hR
    rw [e2] at a1
    have k9 : ∀ a, a ≠ 82 → (isP I J D 78 (I 78 12) (f + (nI k).toInt64)).2.1 a = I a := fun a ha => isP_I ha
    have hD1 := DMf_9 hD k9
    have hR1 : RV D v 78 ((isP I J D 78 (I 78 12) (f + (nI k).toInt64)).2.1 78 12) (isP I J D 78 (I 78 12) (f + (nI k).toInt64)).2.1 := by
      rw [k9 78 (by decide)]
      exact RV_of hR (k9 78 (by decide))
    unfold spn
    generalize isP I J D 78 (I 78 12) (f + (nI k).toInt64) = w at a1 hD1 hR1 ⊢
    by_cases c : w.1 = 0
    · rw [if_pos c]
      exact Or.inl ⟨a1.mp c, e2⟩
    · rw [if_neg c]
      exact Or.inr ⟨Classical.not_not.mp (fun z => c (a1.mpr z)), spn_v hf n (k + 1) _ _ (by omega) hD1 hR1⟩
theorem gpl_v {D : FD} {v : StV} {I : hI} {F : Nat} (hF : F ≤ 1000000000) (h : SVr D v 0 (F + 1) (F + 500) I) : ∀ (k j : Nat), j + k = 501 → 1 ≤ j → GP (Pz D v) F k j (gpl I k (nI (F + j))).toInt
  | 0, j, hk, hj => rfl
  | k + 1, j, hk, hj => by
    have ez : (nI (F + j)).toInt = (F : Int) + j := by rw [nI_toInt (by omega)]; omega
    have f1 := isf_z (z := nI (F + j)) h (by omega) (fun _ => by rw [ez]; omega)
    rw [ez] at f1
    unfold gpl
    by_cases c : isfP I 0 (nI (F + j))
    · rw [if_pos c, nI_1]
      exact Or.inr ⟨f1.mp c, gpl_v hF h k (j + 1) (by omega) (by omega)⟩
    · rw [if_neg c]
      exact Or.inl ⟨fun z => c (f1.mpr z), ez⟩
theorem nbw_b {D : FD} {w : Nat → Nat} (okr : ∀ i, i < D.1 → okR (D.2.1 i)) (hw : ∀ i, i < D.1 → w i ≤ 39) : ∀ k i, i + k ≤ D.1 → nbw D w k i + 3 ≤ 3 * 16 ^ k
  | 0, i, hi => by unfold nbw; decide
  | k + 1, i, hi => by
    have h1 := hw i (by omega)
    have h2 := nbw_b okr hw k (i + 1) (by omega)
    have h3 : bs D i * nbw D w k (i + 1) ≤ 16 * nbw D w k (i + 1) := Nat.mul_le_mul_right _ (okr i (by omega)).2.1.2
    unfold nbw
    rw [Nat.pow_succ]
    omega
theorem span_eq {D : FD} {v : StV} {I I1 : hI} {J1 : hJ} {w : Int32} (hD : DMf D I1) (hw : VW D v) (hC : CV D v 22 I) (hR : RV D v 78 (I1 78 12) I1) : (spaF I D w).1 = (spM I1 J1 D w).1 := by
  have h6 := hD.2.1
  have okr := fun k hk => (hD.2.2.2 k hk).1
  have hvb : ∀ i, i < D.1 → v.1 i ≤ 9 ∧ v.2.1 i ≤ 9 := fun i hi => (hC i hi).2.1
  have b0 : ∀ i, i < D.1 → w0 D v i ≤ 39 := fun i hi => by
    have := (slv (D := D) (i := i) (by omega) (okr i hi) (al_0 hw hi).1.1 (al_0 hw hi).1.2.1).2
    unfold w0
    omega
  have b1 : ∀ i, i < D.1 → w1 D v i ≤ 39 := fun i hi => by
    have := (slv (D := D) (i := i) (by omega) (okr i hi) (al_0 hw hi).2.1 (al_0 hw hi).2.2.1).2
    unfold w1
    omega
  have n0 := nbw_b okr b0 D.1 0 (by omega)
  have n1 := nbw_b okr b1 D.1 0 (by omega)
  have p := p16 h6
  have x := ldF_x (I := I) (a := 22) (by decide) h6 okr hw hC 0 (Nat.zero_le _)
  have r1 : am_rd 7 (ldF I D 22 0 11) 0 = nI (nbw D (w0 D v) D.1 0) := (am_rdK (i := 0) rfl (by decide) (by decide)).trans x.1
  have r2 : am_rd 7 (ldF I D 22 0 10) 0 = nI (nbw D (w1 D v) D.1 0) := (am_rdK (i := 0) rfl (by decide) (by decide)).trans x.2
  have h0 := how_n (D := D) (w := w0 D v) D.1 0
  have h1 := how_n (D := D) (w := w1 D v) D.1 0
  rw [Nat.zero_add] at h0 h1
  have d0 : edF I1 D 0 = lN (nbw D (w0 D v) D.1 0) := (ed_v (mo := 0) hD hR rfl (Or.inl ⟨rfl, rfl⟩) b0 D.1 0 (Nat.le_refl _)).trans (congrArg lN h0)
  have d1 : edF I1 D 1 = lN (nbw D (w1 D v) D.1 0) := (ed_v (mo := 1) hD hR rfl (Or.inr ⟨by decide, rfl⟩) b1 D.1 0 (Nat.le_refl _)).trans (congrArg lN h1)
  have z0 : (0 : Int32).toInt = 0 := rfl
  have z2 : (2 : Int32).toInt = 2 := rfl
  unfold spaF spM
  by_cases c : 0 ≤ w.toInt ∧ w.toInt ≤ 2
  · rw [if_neg (show ¬ w < 0 by rw [fi_lt]; omega), if_pos (show w ≤ 2 by rw [fi_le]; omega), if_pos c]
    by_cases c0 : w = 0
    · rw [if_pos c0, c0, if_neg (show ¬ (2 : Int32) ≤ 0 by decide), if_pos rfl]
      dsimp only
      rw [r2, d1, nI_l (by omega)]
    · rw [if_neg c0]
      by_cases c1 : w = 1
      · rw [if_pos c1, c1, if_neg (show ¬ (2 : Int32) ≤ 1 by decide), if_neg (show ¬ (1 : Int32) = 0 by decide)]
        dsimp only
        rw [r1, d0, nI_l (by omega)]
      · have y0 : ¬ w.toInt = 0 := fun z => c0 (by rw [fi_eq]; exact z)
        have y1 : ¬ w.toInt = 1 := fun z => c1 (by rw [fi_eq]; exact z)
        rw [if_neg c1, if_pos (show (2 : Int32) ≤ w by rw [fi_le]; omega), r1, d0]
        dsimp only
        have eF : (lN (nbw D (w0 D v) D.1 0)).toInt = (nbw D (w0 D v) D.1 0 : Nat) := lN_toInt (by omega)
        have g1 := spn_v (v := v) (f := lN (nbw D (w0 D v) D.1 0)) (by rw [eF]; omega) 500 1 I1 J1 (by omega) hD hR
        rw [eF] at g1
        have hT := TBL_ld h6 okr hC
        have e1 : nI (nbw D (w0 D v) D.1 0) + 1 = nI (nbw D (w0 D v) D.1 0 + 1) := nI_1 _
        have e5 : nI (nbw D (w0 D v) D.1 0) + 500 = nI (nbw D (w0 D v) D.1 0 + 500) := nI_add _ 500
        have sv := sit_v (I := ldF I D 22 0) (lo := nbw D (w0 D v) D.1 0 + 1) (hi := nbw D (w0 D v) D.1 0 + 500) (fr := nI (nbw D (w0 D v) D.1 0 + 1)) (up := nI (nbw D (w0 D v) D.1 0 + 500)) h6 okr hvb (by omega) (by omega) hT (if_neg (nI_pos (by omega))) rfl
        have g2 := gpl_v (F := nbw D (w0 D v) D.1 0) (by omega) sv 500 1 (by omega) (by omega)
        unfold gpF
        rw [e1, e5, fi_eqL, tl_i]
        exact GP_u 500 1 _ _ g2 g1
  · by_cases c0 : w < 0
    · rw [if_pos c0, if_neg c]
    · rw [if_neg c0, if_neg (show ¬ w ≤ 2 by rw [fi_le]; rw [fi_lt] at c0; omega), if_neg c]
variable {sc : Nat × (Nat → Int32)} {d1 d2 : Nat} {I : hI} {J : hJ} {R : hR} {T : am_H} {s : AS} {D : FD}
theorem VW_s (h6 : D.1 ≤ 6) (okr : ∀ i, i < D.1 → okR (D.2.1 i)) (hW : WS D s) : VW D (Rv s.1) := fun i hi => ⟨(Rv_b h6 okr hW.1 hi).2.2.1, (Rv_b h6 okr hW.1 hi).2.2.2⟩
theorem p_spanV {w : Int32} (h : LI I R T) : Ze sc (d1 + 8) 109 [.ref 0, .int w] (HH I J R T) (PL True sc (d2 + 7) 216 [.ref 73, .int w] T) := by
  obtain ⟨tx, c, D, m, sn, s, hC, hM, hW, hS⟩ := h
  have k1 : kQ I (spaF I D w).2 := by
    unfold spaF
    split
    · exact kQ_0 I
    · split
      · split
        · exact ld_Q
        · split
          · exact ld_Q
          · exact kQ_t ld_Q sit_Q
      · exact kQ_0 I
  have hM1 := MX_Q hM k1
  have k2 : kR (spaF I D w).2 (spM (spaF I D w).2 J D w).2.1 := fun a _ h9 _ => by
    unfold spM
    split
    · split
      · exact spn_I h9 _ _ _ _
      · split <;> rfl
    · rfl
  exact pq_l hC hM hW hS (cs_span hC.1) (c_span hC.1.2.1 hC.1.2.2.2.1.1 hC.1.2.2.2.1.2.2.2) k1 (fun z => ms_span z) (m_span hM1.1.2.1) k2 (fun _ => span_eq hM1.1.2.1 (VW_s hC.1.2.1.2.1 (DC_ok hC.1.2.1) hW) (CV_s hC hW) (RV_s hM1 hW))
theorem p_nearestV {v : Int32} (h : LI I R T) : Ze sc (d1 + 12) 110 [.ref 0, .int v] (HH I J R T) (PI True sc (d2 + 7) 217 [.ref 73, .int v] T) := by
  obtain ⟨tx, c, D, m, sn, s, hC, hM, hW, hS⟩ := h
  have k1 : kQ I (neF I D v).2 := by
    unfold neF
    split
    · unfold nsF
      split
      · split
        · exact kQ_t ld_Q (kQ_t le_Q sit_Q)
        · exact kQ_t ld_Q le_Q
      · exact ld_Q
    · exact kQ_0 I
  have hM1 := MX_Q hM k1
  have k2 : kR (neF I D v).2 (neM (neF I D v).2 J D v).2.1 := fun a _ h9 _ => by
    unfold neM
    split
    · exact ner_I h9 _ _ _ _
    · rfl
  exact pq_i hC hM hW hS (cs_nearest hC.1) (c_nearest hC.1.2.1 hC.1.2.2.2.1.1 hC.1.2.2.2.1.2.2.2) k1 (fun z => ms_nearest z) (m_nearest hM1.1.2.1) k2 (fun _ => near_eq hM1.1.2.1 (CV_s hC hW) (RV_s hM1 hW))
end NEA

