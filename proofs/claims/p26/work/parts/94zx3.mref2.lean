/-! The reference's table (2): a cell, a row, all rows. -/
section MR2
theorem smn_c {f g : Nat → Nat} : ∀ n, (∀ j, j < n → f j = g j) → smn f n = smn g n
  | 0, h => rfl
  | n + 1, h => by
    unfold smn
    rw [smn_c n (fun j hj => h j (by omega)), h n (by omega)]
theorem smn_0 {f : Nat → Nat} : ∀ n, (∀ j, j < n → f j = 0) → smn f n = 0
  | 0, h => rfl
  | n + 1, h => by
    unfold smn
    rw [smn_0 n (fun j hj => h j (by omega)), h n (by omega)]
def gz (D : FD) (v : StV) (k r : Nat) (z : Int) (h l : Nat) : Nat := if 0 ≤ z ∧ fit D v r z.toNat l h then cn D v k (r + 1) ((z.toNat - vl D r l h) / bs D r) else 0
def Gz (D : FD) (v : StV) (k r : Nat) (z : Int) (h : Nat) : Nat := smn (gz D v k r z h) ((D.2.1 r).2.2.1 + 1)
theorem Gz_s {D : FD} {v : StV} {k r : Nat} {z : Int} : cnz D v (k + 1) r z = smn (Gz D v k r z) ((D.2.1 r).2.2.2 + 1) := by
  unfold cnz
  by_cases c : z < 0
  · rw [if_pos c]
    refine (smn_0 _ (fun h _ => smn_0 _ (fun l _ => ?_))).symm
    exact if_neg (fun x => by have := x.1; omega)
  · rw [if_neg c]
    unfold cn
    refine smn_c _ (fun h _ => smn_c _ (fun l _ => ?_))
    unfold gz
    by_cases f : fit D v r z.toNat l h
    · rw [if_pos f, if_pos (show 0 ≤ z ∧ fit D v r z.toNat l h from ⟨by omega, f⟩)]
    · rw [if_neg f, if_neg (fun x => f x.2)]
theorem Cd_lt {D : FD} {v : StV} {k r l h t : Nat} {z : Int} (ho : ∀ i, i < D.1 → okR (D.2.1 i)) (hv : ∀ i, i < D.1 → v.1 i ≤ 9 ∧ v.2.1 i ≤ 9) (hi : r + 1 + k ≤ D.1) (h6 : D.1 ≤ 6) (hc : Cd D v k r z l h t) : t < 1000000 := by
  obtain ⟨ha, y, t', _, hw, e⟩ := hc
  have h1 := cst_le (ho r (by omega)) (hv r (by omega)) ha
  have h2 := WY_le ho hv k (r + 1) y t' hi hw
  omega
theorem lyl_v {D : FD} {v : StV} {I : hI} {J : hJ} {o r c hi A : Nat} {st : Int32} (h6 : D.1 ≤ 6) (hD : DMf D I) (hU : DU J D) (hV : RV D v o st I) (hr : r < D.1) (hc : c ≤ 63) (hW : RW D v (r + 1) I J) (hh : hi ≤ (D.2.1 r).2.2.2) : ∀ (k lo m : Nat) (P : Nat → Prop), lo + k = (D.2.1 r).2.2.1 + 1 → isMin 1000000000 P m → (∀ t, P t → t < 1000000) →
    ∃ m', lyl I J D o st r (nI c) hi k lo (lN (A + smn (gz D v (D.1 - (r + 1)) r ((J 80 r).toInt - c) hi) lo), nI m) = (lN (A + smn (gz D v (D.1 - (r + 1)) r ((J 80 r).toInt - c) hi) (lo + k)), nI m') ∧ isMin 1000000000 (fun t => P t ∨ ∃ l, lo ≤ l ∧ l < lo + k ∧ Cd D v (D.1 - (r + 1)) r ((J 80 r).toInt - c) l hi t) m'
  | 0, lo, m, P, hl, hP, hPb => ⟨m, rfl, min_c hP (fun t => ⟨fun z => z.elim id (fun ⟨l, a, b, _⟩ => by omega), Or.inl⟩)⟩
  | k + 1, lo, m, P, hl, hP, hPb => by
    obtain ⟨m1, e1, h1⟩ := lyS_v (M := A + smn (gz D v (D.1 - (r + 1)) r ((J 80 r).toInt - c) hi) lo) h6 hD hU hV hr hc hW hh (show lo ≤ (D.2.1 r).2.2.1 by omega) hP hPb
    have okr := fun k hk => (hD.2.2.2 k hk).1
    have hvb : ∀ i, i < D.1 → v.1 i ≤ 9 ∧ v.2.1 i ≤ 9 := fun i hi => (hV i hi).2.1
    obtain ⟨m2, e2, h2⟩ := lyl_v (A := A) h6 hD hU hV hr hc hW hh k (lo + 1) m1 _ (by omega) h1 (fun t ht => ht.elim (hPb t) (fun z => Cd_lt okr hvb (by omega) h6 z))
    refine ⟨m2, ?_, min_c h2 (fun t => ⟨fun z => ?_, fun z => ?_⟩)⟩
    · unfold lyl
      rw [e1, Nat.add_assoc A]
      rw [show lo + 1 + k = lo + (k + 1) by omega] at e2
      exact e2
    · rcases z with z | ⟨l, a, b, z⟩
      · exact Or.inl (Or.inl z)
      · by_cases e : l = lo
        · subst e; exact Or.inl (Or.inr z)
        · exact Or.inr ⟨l, by omega, by omega, z⟩
    · rcases z with (z | z) | ⟨l, a, b, z⟩
      · exact Or.inl z
      · exact Or.inr ⟨lo, by omega, by omega, z⟩
      · exact Or.inr ⟨l, by omega, by omega, z⟩
theorem lyh_v {D : FD} {v : StV} {I : hI} {J : hJ} {o r c : Nat} {st : Int32} (h6 : D.1 ≤ 6) (hD : DMf D I) (hU : DU J D) (hV : RV D v o st I) (hr : r < D.1) (hc : c ≤ 63) (hW : RW D v (r + 1) I J) : ∀ (k hi m : Nat) (P : Nat → Prop), hi + k = (D.2.1 r).2.2.2 + 1 → isMin 1000000000 P m → (∀ t, P t → t < 1000000) →
    ∃ m', lyh I J D o st r (nI c) k hi (lN (smn (Gz D v (D.1 - (r + 1)) r ((J 80 r).toInt - c)) hi), nI m) = (lN (smn (Gz D v (D.1 - (r + 1)) r ((J 80 r).toInt - c)) (hi + k)), nI m') ∧ isMin 1000000000 (fun t => P t ∨ ∃ h l, hi ≤ h ∧ h < hi + k ∧ l ≤ (D.2.1 r).2.2.1 ∧ Cd D v (D.1 - (r + 1)) r ((J 80 r).toInt - c) l h t) m'
  | 0, hi, m, P, hl, hP, hPb => ⟨m, rfl, min_c hP (fun t => ⟨fun z => z.elim id (fun ⟨h, l, a, b, _⟩ => by omega), Or.inl⟩)⟩
  | k + 1, hi, m, P, hl, hP, hPb => by
    obtain ⟨m1, e1, h1⟩ := lyl_v (A := smn (Gz D v (D.1 - (r + 1)) r ((J 80 r).toInt - c)) hi) h6 hD hU hV hr hc hW (show hi ≤ (D.2.1 r).2.2.2 by omega) ((D.2.1 r).2.2.1 + 1) 0 m P (by omega) hP hPb
    have okr := fun k hk => (hD.2.2.2 k hk).1
    have hvb : ∀ i, i < D.1 → v.1 i ≤ 9 ∧ v.2.1 i ≤ 9 := fun i hi => (hV i hi).2.1
    obtain ⟨m2, e2, h2⟩ := lyh_v h6 hD hU hV hr hc hW k (hi + 1) m1 _ (by omega) h1 (fun t ht => ht.elim (hPb t) (fun ⟨_, _, _, z⟩ => Cd_lt okr hvb (by omega) h6 z))
    refine ⟨m2, ?_, min_c h2 (fun t => ⟨fun z => ?_, fun z => ?_⟩)⟩
    · unfold lyh
      rw [Nat.zero_add] at e1
      have e1' : lyl I J D o st r (nI c) hi ((D.2.1 r).2.2.1 + 1) 0 (lN (smn (Gz D v (D.1 - (r + 1)) r ((J 80 r).toInt - c)) hi), nI m) = (lN (smn (Gz D v (D.1 - (r + 1)) r ((J 80 r).toInt - c)) (hi + 1)), nI m1) := e1
      rw [e1', show hi + (k + 1) = hi + 1 + k by omega]
      exact e2
    · rcases z with z | ⟨h, l, a, b, e, z⟩
      · exact Or.inl (Or.inl z)
      · by_cases e : h = hi
        · subst e; exact Or.inl (Or.inr ⟨l, by omega, by omega, z⟩)
        · exact Or.inr ⟨h, l, by omega, by omega, by omega, z⟩
    · rcases z with (z | ⟨l, a, b, z⟩) | ⟨h, l, a, b, e, z⟩
      · exact Or.inl z
      · exact Or.inr ⟨hi, l, by omega, by omega, by omega, z⟩
      · exact Or.inr ⟨h, l, by omega, by omega, e, z⟩
/-- a cell of row r -/
def CW (D : FD) (v : StV) (r : Nat) (I : hI) (J : hJ) (c : Nat) : Prop := J 81 (64 * r + c) = lN (cnz D v (D.1 - r) r ((J 80 r).toInt - c)) ∧ ∃ m, I 82 (64 * r + c) = nI m ∧ m ≤ 1000000000 ∧ isMin 1000000000 (fun t => WYz D v (D.1 - r) r ((J 80 r).toInt - c) t) m
theorem CW_of {D : FD} {v : StV} {r c : Nat} {I I' : hI} {J J' : hJ} (h : CW D v r I J c) (e1 : J' 81 (64 * r + c) = J 81 (64 * r + c)) (e2 : I' 82 (64 * r + c) = I 82 (64 * r + c)) (e3 : J' 80 = J 80) : CW D v r I' J' c := by
  unfold CW at h ⊢
  rw [e1, e2, e3]
  exact h
theorem lyC_v {D : FD} {v : StV} {I : hI} {J : hJ} {o r c : Nat} {st : Int32} (h6 : D.1 ≤ 6) (hD : DMf D I) (hU : DU J D) (hV : RV D v o st I) (hr : r < D.1) (hc : c ≤ 63) (hW : RW D v (r + 1) I J) : (lyC I J D o st r (nI c)).1 = lN (cnz D v (D.1 - r) r ((J 80 r).toInt - c)) ∧ ∃ m, (lyC I J D o st r (nI c)).2 = nI m ∧ m ≤ 1000000000 ∧ isMin 1000000000 (fun t => WYz D v (D.1 - r) r ((J 80 r).toInt - c) t) m := by
  obtain ⟨m, e, h⟩ := lyh_v h6 hD hU hV hr hc hW ((D.2.1 r).2.2.2 + 1) 0 1000000000 (fun _ => False) (by omega) (min_0 _ (fun _ => id)) (fun _ z => z.elim)
  rw [Nat.zero_add, ← Gz_s, show D.1 - (r + 1) + 1 = D.1 - r by omega] at e
  have e' : lyC I J D o st r (nI c) = (lN (cnz D v (D.1 - r) r ((J 80 r).toInt - c)), nI m) := e
  have okr := fun k hk => (hD.2.2.2 k hk).1
  have hvb : ∀ i, i < D.1 → v.1 i ≤ 9 ∧ v.2.1 i ≤ 9 := fun i hi => (hV i hi).2.1
  have h' : isMin 1000000000 (fun t => WYz D v (D.1 - r) r ((J 80 r).toInt - c) t) m := min_c h (fun t => by
    rw [show D.1 - r = D.1 - (r + 1) + 1 by omega, WYz_s]
    constructor
    · intro ⟨a, l, x, y, z⟩
      exact Or.inr ⟨a, l, by omega, by omega, y, z⟩
    · intro z
      rcases z with z | ⟨a, l, _, x, y, z⟩
      · exact z.elim
      · exact ⟨a, l, by omega, y, z⟩)
  rw [e']
  exact ⟨rfl, m, rfl, min_le h' (fun t ht => by have := WYz_lt okr hvb (by omega) h6 t ht; omega), h'⟩
theorem RV_of {D : FD} {v : StV} {o : Nat} {st : Int32} {I I' : hI} (h : RV D v o st I) (e : I' o = I o) : RV D v o st I' := fun i hi => by rw [e]; exact h i hi
theorem lyR_v {D : FD} {v : StV} {o r : Nat} {st : Int32} (ho : o ≠ 82) (h6 : D.1 ≤ 6) (hr : r < D.1) : ∀ (k c : Nat) (I : hI) (J : hJ), c + k = 64 → DMf D I → DU J D → RV D v o st I → RW D v (r + 1) I J → (∀ j, j < c → CW D v r I J j) → RW D v r (lyR D o st r k c I J).1 (lyR D o st r k c I J).2
  | 0, c, I, J, hc, hD, hU, hV, hW, hp => fun j hj => hp j (by omega)
  | k + 1, c, I, J, hc, hD, hU, hV, hW, hp => by
    unfold lyR
    have hC := lyC_v h6 hD hU hV hr (show c ≤ 63 by omega) hW
    refine lyR_v ho h6 hr k (c + 1) _ _ (by omega) (DMf_9 hD (fun a ha => sf_c ha)) (DU_of hU (sl_c (by decide))) (RV_of hV (sf_c ho)) (RW_of hW (fun j hj => sl_k (by omega)) (fun j hj => sf_k (by omega)) (sl_c (by decide))) (fun j hj => ?_)
    by_cases e : j = c
    · subst e
      unfold CW lcI lcJ
      rw [sf_s, sl_s, sl_c (by decide)]
      exact hC
    · exact CW_of (hp j (by omega)) (sl_k (by omega)) (sf_k (by omega)) (sl_c (by decide))
theorem lyR_kI {D : FD} {o r j : Nat} {st : Int32} (h : 64 * r + 64 ≤ j) : ∀ (k c : Nat) (I : hI) (J : hJ), c + k = 64 → (lyR D o st r k c I J).1 82 j = I 82 j
  | 0, c, I, J, hc => rfl
  | k + 1, c, I, J, hc => by
    unfold lyR
    rw [lyR_kI h k (c + 1) _ _ (by omega)]
    exact sf_k (by omega)
theorem lyR_kJ {D : FD} {o r j : Nat} {st : Int32} (h : 64 * r + 64 ≤ j) : ∀ (k c : Nat) (I : hI) (J : hJ), c + k = 64 → (lyR D o st r k c I J).2 81 j = J 81 j
  | 0, c, I, J, hc => rfl
  | k + 1, c, I, J, hc => by
    unfold lyR
    rw [lyR_kJ h k (c + 1) _ _ (by omega)]
    exact sl_k (by omega)
/-- all rows -/
theorem lyA_v {D : FD} {v : StV} {o : Nat} {st : Int32} (ho : o ≠ 82) (h6 : D.1 ≤ 6) : ∀ (r : Nat) (I : hI) (J : hJ), r ≤ D.1 → DMf D I → DU J D → RV D v o st I → (∀ q, r ≤ q → q ≤ D.1 → RW D v q I J) → ∀ q, q ≤ D.1 → RW D v q (lyA D o st r I J).1 (lyA D o st r I J).2
  | 0, I, J, hr, hD, hU, hV, hp => fun q hq => hp q (by omega) hq
  | r + 1, I, J, hr, hD, hU, hV, hp => by
    unfold lyA
    refine lyA_v ho h6 r _ _ (by omega) (DMf_9 hD (fun a ha => lyR_I ha _ _ _ _)) (DU_of hU (lyR_J (by decide) _ _ _ _)) (RV_of hV (lyR_I ho _ _ _ _)) (fun q h1 h2 => ?_)
    by_cases e : q = r
    · subst e
      exact lyR_v ho h6 (by omega) 64 0 I J (by omega) hD hU hV (hp (q + 1) (by omega) (by omega)) (fun j hj => absurd hj (Nat.not_lt_zero j))
    · exact RW_of (hp q (by omega) h2) (fun j hj => lyR_kJ (by omega) 64 0 I J (by omega)) (fun j hj => lyR_kI (by omega) 64 0 I J (by omega)) (lyR_J (by decide) _ _ _ _)
theorem ly2_v {D : FD} {v : StV} (h0 : ∀ J : hJ, True) : ∀ (k c : Nat) (I : hI) (J : hJ), c + k = 64 → 0 ≤ (J 80 D.1).toInt → (∀ j, j < c → CW D v D.1 I J j) → RW D v D.1 (ly2 D.1 k c I J).1 (ly2 D.1 k c I J).2
  | 0, c, I, J, hc, h0', hp => fun j hj => hp j (by omega)
  | k + 1, c, I, J, hc, h0', hp => by
    unfold ly2
    refine ly2_v h0 k (c + 1) _ _ (by omega) (by rw [sl_c (by decide)]; exact h0') (fun j hj => ?_)
    by_cases e : j = c
    · subst e
      have ec : ((nI j).toInt64).toInt = j := by rw [Int32.toInt_toInt64, nI_toInt (by omega)]
      unfold CW
      rw [sf_s, sl_s, sl_c (by decide), Nat.sub_self]
      by_cases q : J 80 D.1 = (nI j).toInt64
      · rw [if_pos q, if_pos q]
        have q' : (J 80 D.1).toInt = j := by rw [q, ec]
        rw [q', Int.sub_self]
        refine ⟨rfl, 0, rfl, by omega, fun t _ => Nat.zero_le t, Or.inl ⟨Int.le_refl 0, rfl, rfl⟩⟩
      · rw [if_neg q, if_neg q]
        have q' : (J 80 D.1).toInt ≠ j := fun z => q ((fi_eqL _ _).mpr (by rw [z, ec]))
        refine ⟨?_, 1000000000, rfl, Nat.le_refl _, min_0 _ (fun t z => q' ?_)⟩
        · have : cnz D v 0 D.1 ((J 80 D.1).toInt - j) = 0 := by
            unfold cnz cn
            split
            · rfl
            · exact if_neg (by omega)
          rw [this]
          rfl
        · have := z.1
          have := z.2.1
          omega
    · exact CW_of (hp j (by omega)) (sl_k (by omega)) (sf_k (by omega)) (sl_c (by decide))
/-- what lay leaves -/
theorem lay_v {D : FD} {v : StV} {o : Nat} {st : Int32} {I : hI} {J : hJ} {due : Int64} (ho : o ≠ 82) (h6 : D.1 ≤ 6) (hD : DMf D I) (hV : RV D v o st I) (h1 : 0 ≤ due.toInt) (h2 : due.toInt ≤ 1000000000) : ∀ q, q ≤ D.1 → RW D v q (lay I J D o st due).1 (lay I J D o st due).2 := by
  have okr := fun k hk => (hD.2.2.2 k hk).1
  have hU := ly1_DU (J := J) (D := D) h1 h2
  unfold lay ly0
  refine lyA_v ho h6 D.1 _ _ (Nat.le_refl _) (DMf_9 hD (fun a ha => ly2_I ha _ _ _ _)) (DU_of hU (ly2_J (by decide) _ _ _ _)) (RV_of hV (ly2_I ho _ _ _ _)) (fun q q1 q2 => ?_)
  have e : q = D.1 := by omega
  subst e
  exact ly2_v (fun _ => trivial) 64 0 I _ (by omega) (DU_b hU okr D.1 (Nat.le_refl _)).1 (fun j hj => absurd hj (Nat.not_lt_zero j))
theorem lay_7 {D : FD} {o : Nat} {st : Int32} {I : hI} {J : hJ} {due : Int64} : (lay I J D o st due).2 80 0 = due := by
  unfold lay ly0
  rw [lyA_J (by decide), ly2_J (by decide), ly1_k _ _ _ (Nat.le_refl 0), sl_s]
theorem lN_pos {k : Nat} (h : k < 2 ^ 62) : lN k ≤ 0 ↔ k = 0 := by
  rw [fi_leL, show (lN k).toInt = (k : Int) from Int64.toInt_ofNat_of_lt (by omega)]
  have z0 : (0 : Int64).toInt = 0 := rfl
  omega
/-- isShown says whether a way is there -/
theorem isP_v {D : FD} {v : StV} {o : Nat} {st : Int32} {I : hI} {J : hJ} {due : Int64} (ho : o ≠ 82) (h6 : D.1 ≤ 6) (hD : DMf D I) (hV : RV D v o st I) : (isP I J D o st due).1 = if 0 ≤ due.toInt ∧ due.toInt ≤ 1000000000 ∧ 0 < cn D v D.1 0 due.toInt.toNat then 1 else 0 := by
  have okr := fun k hk => (hD.2.2.2 k hk).1
  have z0 : (0 : Int64).toInt = 0 := rfl
  have z9 : (1000000000 : Int64).toInt = 1000000000 := rfl
  unfold isP
  by_cases c1 : due < 0
  · rw [if_pos c1]
    rw [fi_ltL] at c1
    rw [if_neg (by omega)]
  · rw [if_neg c1]
    rw [fi_ltL] at c1
    by_cases c2 : due ≤ 1000000000
    · rw [if_pos c2]
      rw [fi_leL] at c2
      have h := (lay_v (J := J) (due := due) ho h6 hD hV (by omega) (by omega) 0 (Nat.zero_le _) 0 (by omega)).1
      have hb := cn_le (v := v) okr D.1 0 due.toInt.toNat (by omega)
      have hb2 : (40 : Nat) ^ D.1 ≤ 40 ^ 6 := Nat.pow_le_pow_right (by omega) h6
      rw [lay_7] at h
      have e : cnz D v (D.1 - 0) 0 (due.toInt - ((0 : Nat) : Int)) = cn D v D.1 0 due.toInt.toNat := by
        unfold cnz
        rw [if_neg (by omega)]
        simp
      rw [e] at h
      have h' : (lay I J D o st due).2 81 0 = lN (cn D v D.1 0 due.toInt.toNat) := h
      dsimp only
      rw [h']
      have hl := lN_pos (k := cn D v D.1 0 due.toInt.toNat) (by omega)
      by_cases c3 : cn D v D.1 0 due.toInt.toNat = 0
      · rw [if_pos (hl.mpr c3), if_neg (by omega)]
      · rw [if_neg (fun z => c3 (hl.mp z)), if_pos (by omega)]
    · rw [if_neg c2]
      rw [fi_leL] at c2
      rw [if_neg (by omega)]
end MR2

