/-! The reference's table is the mathematics'. -/
section MRF
theorem fi_nI {a b : Nat} (ha : a < 2 ^ 31) (hb : b < 2 ^ 31) : nI a = nI b ↔ a = b := nI_eq ha hb
def isMin (F : Nat) (P : Nat → Prop) (m : Nat) : Prop := (∀ t, P t → m ≤ t) ∧ (P m ∨ (m = F ∧ ∀ t, ¬ P t))
theorem min_le {F : Nat} {P : Nat → Prop} {m : Nat} (h : isMin F P m) (hb : ∀ t, P t → t < F) : m ≤ F := by
  rcases h.2 with a | ⟨a, _⟩
  · exact Nat.le_of_lt (hb m a)
  · exact Nat.le_of_eq a
theorem min_c {F : Nat} {P P' : Nat → Prop} {m : Nat} (h : isMin F P m) (e : ∀ t, P' t ↔ P t) : isMin F P' m := by
  refine ⟨fun t ht => h.1 t ((e t).mp ht), ?_⟩
  rcases h.2 with a | ⟨a, b⟩
  · exact Or.inl ((e m).mpr a)
  · exact Or.inr ⟨a, fun t ht => b t ((e t).mp ht)⟩
theorem min_u {F : Nat} {P : Nat → Prop} {m m' : Nat} (h : isMin F P m) (h' : isMin F P m') : m = m' := by
  rcases h.2 with a | ⟨a, b⟩
  · rcases h'.2 with a' | ⟨a', b'⟩
    · exact Nat.le_antisymm (h.1 _ a') (h'.1 _ a)
    · exact absurd a (b' m)
  · rcases h'.2 with a' | ⟨a', b'⟩
    · exact absurd a' (b m')
    · rw [a, a']
theorem min_0 (F : Nat) {P : Nat → Prop} (h : ∀ t, ¬ P t) : isMin F P F := ⟨fun t ht => absurd ht (h t), Or.inr ⟨rfl, h⟩⟩
/-- one more choice -/
theorem min_add {F a m m1 : Nat} {P R : Nat → Prop} (h : isMin F P m) (hb : ∀ t, P t → t < F) (h1 : isMin F R m1) (hb1 : ∀ t, R t → a + t < F) : isMin F (fun t => P t ∨ ∃ t', R t' ∧ t = a + t') (if m ≤ a + m1 then m else a + m1) := by
  have hmF := min_le h hb
  by_cases c : m ≤ a + m1
  · rw [if_pos c]
    refine ⟨fun t ht => ?_, ?_⟩
    · rcases ht with x | ⟨t', x, e⟩
      · exact h.1 t x
      · have := h1.1 t' x; omega
    · rcases h.2 with x | ⟨x, y⟩
      · exact Or.inl (Or.inl x)
      · rcases h1.2 with z | ⟨z, w⟩
        · have := hb1 m1 z; omega
        · refine Or.inr ⟨x, fun t ht => ?_⟩
          rcases ht with u | ⟨t', u, _⟩
          · exact y t u
          · exact w t' u
  · rw [if_neg c]
    rcases h1.2 with z | ⟨z, w⟩
    · refine ⟨fun t ht => ?_, Or.inl (Or.inr ⟨m1, z, rfl⟩)⟩
      rcases ht with x | ⟨t', x, e⟩
      · have := h.1 t x; omega
      · have := h1.1 t' x; omega
    · omega
/-- the same over numbers below 0: none -/
def WYz (D : FD) (v : StV) (k i : Nat) (z : Int) (t : Nat) : Prop := 0 ≤ z ∧ WY D v k i z.toNat t
def cnz (D : FD) (v : StV) (k i : Nat) (z : Int) : Nat := if z < 0 then 0 else cn D v k i z.toNat
/-- a choice for rod r, and what costs it with the rods behind -/
def Cd (D : FD) (v : StV) (k r : Nat) (z : Int) (l h t : Nat) : Prop := alw D v r l h ∧ ∃ y t' : Nat, z = (vl D r l h : Int) + y * bs D r ∧ WY D v k (r + 1) y t' ∧ t = cst D v r l h + t'
theorem WYz_s {D : FD} {v : StV} {k r : Nat} {z : Int} {t : Nat} : WYz D v (k + 1) r z t ↔ ∃ h l, h ≤ (D.2.1 r).2.2.2 ∧ l ≤ (D.2.1 r).2.2.1 ∧ Cd D v k r z l h t := by
  constructor
  · intro ⟨h0, l, h, y, t', ha, e, hw, et⟩
    refine ⟨h, l, ha.2.1, ha.1, ha, y, t', ?_, hw, et⟩
    have e2 : (z.toNat : Int) = (vl D r l h + y * bs D r : Nat) := by rw [e]
    rw [Int.toNat_of_nonneg h0] at e2
    rw [e2]
    simp
  · intro ⟨h, l, _, _, ha, y, t', e, hw, et⟩
    have h0 : 0 ≤ z := by
      have : (0 : Int) ≤ (y : Int) * (bs D r : Int) := Int.mul_nonneg (by omega) (by omega)
      omega
    refine ⟨h0, l, h, y, t', ha, ?_, hw, et⟩
    have e2 : (z.toNat : Int) = ((vl D r l h + y * bs D r : Nat) : Int) := by
      rw [Int.toNat_of_nonneg h0, e]
      simp
    exact Int.ofNat_inj.mp e2
/-- a row of the reference as a standing -/
def RV (D : FD) (v : StV) (o : Nat) (st : Int32) (I : hI) : Prop := ∀ i, i < D.1 → (I o i = nI (v.1 i) ∧ I o (6 + i) = nI (v.2.1 i)) ∧ (v.1 i ≤ 9 ∧ v.2.1 i ≤ 9) ∧ (M_bit st (nI i) 0 ↔ v.2.2 i 0 = true) ∧ (M_bit st (nI i) 1 ↔ v.2.2 i 1 = true)
theorem may_alw {D : FD} {v : StV} {o r l h : Nat} {st : Int32} {I : hI} (hV : RV D v o st I) (hr : r < D.1) (ho : okR (D.2.1 r)) (hl : l ≤ (D.2.1 r).2.2.1) (hh : h ≤ (D.2.1 r).2.2.2) : M_may I o st r (nI l) (nI h) ↔ alw D v r l h := by
  obtain ⟨⟨e1, e2⟩, ⟨b1, b2⟩, k1, k2⟩ := hV r hr
  have h9 := ho.2.2.1.2
  have h3 := ho.2.2.2.1
  unfold M_may
  rw [e1, e2, k1, k2, fi_nI (by omega) (by omega), fi_nI (by omega) (by omega)]
  constructor
  · intro ⟨x, y⟩
    exact ⟨hl, hh, fun z => x.resolve_left (fun w => w z), fun z => y.resolve_left (fun w => w z)⟩
  · intro ⟨_, _, x, y⟩
    constructor
    · by_cases z : v.2.2 r 0 = true
      · exact Or.inr (x z)
      · exact Or.inl z
    · by_cases z : v.2.2 r 1 = true
      · exact Or.inr (y z)
      · exact Or.inl z
theorem ab_ad {a b : Nat} (ha : a < 2 ^ 31) (hb : b < 2 ^ 31) : M_ab (nI a) (nI b) = nI (ad a b) := by
  unfold M_ab ad
  by_cases c : a < b
  · rw [if_pos ((nI_ltI ha hb).mpr c), if_pos c, nI_subI (by omega)]
  · rw [if_neg (fun z => c ((nI_ltI ha hb).mp z)), if_neg c, nI_subI (by omega)]
theorem tk_v {q : RD4} (h : q.1 ≤ 3) : M_tk (nI q.1) 0 = nI (ltv q) ∧ M_tk (nI q.1) 1 = nI (htv q) := by
  obtain ⟨kd, b, l, g⟩ := q
  rcases kd_c h with rfl | rfl | rfl | rfl <;> exact ⟨rfl, rfl⟩
theorem ch_cst {D : FD} {v : StV} {o r l h : Nat} {st : Int32} {I : hI} (hD : DMf D I) (hV : RV D v o st I) (hr : r < D.1) (hl : l ≤ 9) (hh : h ≤ 9) : M_ch I o r (nI l) (nI h) = nI (cst D v r l h) := by
  obtain ⟨⟨e1, e2⟩, ⟨b1, b2⟩, _, _⟩ := hV r hr
  have hq := hD.2.2.2 r hr
  have tk := tk_v hq.1.1
  unfold M_ch cst
  rw [e1, e2, show I 74 r = nI (D.2.1 r).1 from hq.2.1, tk.1, tk.2, ab_ad (by omega) (by omega), ab_ad (by omega) (by omega), ← nI_add]
  congr 1
  · exact (Int32.ofNat_mul _ _).symm
  · exact (Int32.ofNat_mul _ _).symm
/-- where a choice leads -/
theorem onF_v {J : hJ} {D : FD} (hU : DU J D) (ho : ∀ k, k < D.1 → okR (D.2.1 k)) {r c w : Nat} (hr : r < D.1) (hc : c ≤ 63) (hw : w ≤ 39) : (onF J D r (nI c) (nI w) < 0 ∧ ∀ y : Nat, (J 80 r).toInt - c ≠ (w : Int) + y * bs D r) ∨ (∃ y k : Nat, k ≤ 63 ∧ onF J D r (nI c) (nI w) = nI k ∧ (J 80 r).toInt - c = (w : Int) + y * bs D r ∧ (J 80 (r + 1)).toInt - k = y) := by
  have z0 : (0 : Int64).toInt = 0 := rfl
  have z64 : (64 : Int64).toInt = 64 := rfl
  have m1 : (-1 : Int32) < 0 := by decide
  dsimp only [bs]
  have h0 := DU_b hU ho r (by omega)
  have h1 := DU_b hU ho (r + 1) (by omega)
  have hb := bsL_b (ho r hr)
  have hbb := (ho r hr).2.1
  have ec : (nI c).toInt = c := nI_toInt (by omega)
  have ew : (nI w).toInt = w := nI_toInt (by omega)
  have hl := lfO_t hU ho hr (c := nI c) (s := nI w) (by omega) (by omega)
  rw [ec, ew] at hl
  unfold onF
  by_cases c1 : lfO J r (nI c) (nI w) < 0
  · rw [if_pos c1]
    rw [fi_ltL] at c1
    refine Or.inl ⟨m1, fun y e => ?_⟩
    have : (0 : Int) ≤ (y : Int) * ((D.2.1 r).2.1 : Int) := Int.mul_nonneg (by omega) (by omega)
    omega
  · rw [if_neg c1]
    rw [fi_ltL] at c1
    have hr0 := tl_rem (x := lfO J r (nI c) (nI w)) (bsL_0 (ho r hr))
    rw [hb.1, Int.tmod_eq_emod_of_nonneg (by omega)] at hr0
    have hed := Int.emod_add_mul_ediv (lfO J r (nI c) (nI w)).toInt ((D.2.1 r).2.1 : Int)
    by_cases c2 : lfO J r (nI c) (nI w) - lfO J r (nI c) (nI w) / bsL D r * bsL D r = 0
    · rw [if_pos c2]
      rw [c2, z0] at hr0
      have hq0 : 0 ≤ (lfO J r (nI c) (nI w)).toInt / ((D.2.1 r).2.1 : Int) := Int.ediv_nonneg (by omega) (by omega)
      obtain ⟨y, hy⟩ : ∃ y : Nat, (lfO J r (nI c) (nI w)).toInt / ((D.2.1 r).2.1 : Int) = y := ⟨_, (Int.toNat_of_nonneg hq0).symm⟩
      have ediv : (lfO J r (nI c) (nI w) / bsL D r).toInt = y := by
        rw [tl_div hb.2.1, hb.1, Int.tdiv_eq_ediv_of_nonneg (by omega), hy]
      have hyl : (y : Int) ≤ (J 80 (r + 1)).toInt := by
        rw [DU_s hU ho hr, ← hy]
        exact Int.ediv_le_ediv (by omega) (by omega)
      have ecr : (crO J D r (nI c) (nI w)).toInt = (J 80 (r + 1)).toInt - y := by
        unfold crO
        rw [tl_sub, ediv] <;> (rw [ediv]; omega)
      have hup : (J 80 (r + 1)).toInt - y ≤ 52 := by
        have e2 : (lfO J r (nI c) (nI w)).toInt / ((D.2.1 r).2.1 : Int) + 52 = ((lfO J r (nI c) (nI w)).toInt + 52 * ((D.2.1 r).2.1 : Int)) / ((D.2.1 r).2.1 : Int) := by
          rw [Int.add_mul_ediv_right _ _ (by omega)]
        have e3 : (J 80 (r + 1)).toInt ≤ ((lfO J r (nI c) (nI w)).toInt + 52 * ((D.2.1 r).2.1 : Int)) / ((D.2.1 r).2.1 : Int) := by
          rw [DU_s hU ho hr]
          exact Int.ediv_le_ediv (by omega) (by omega)
        rw [← e2, hy] at e3
        omega
      rw [if_neg (by rw [fi_leL, ecr, z64]; omega)]
      refine Or.inr ⟨y, ((J 80 (r + 1)).toInt - y).toNat, by omega, ?_, ?_, ?_⟩
      · rw [fi_eq, tl_32 (by omega) (by omega), ecr, nI_toInt (by omega), Int.toNat_of_nonneg (by omega)]
      · rw [hy, ← hr0] at hed
        have : ((D.2.1 r).2.1 : Int) * (y : Int) = (y : Int) * ((D.2.1 r).2.1 : Int) := Int.mul_comm _ _
        omega
      · rw [Int.toNat_of_nonneg (by omega)]; omega
    · rw [if_neg c2]
      refine Or.inl ⟨m1, fun y e => c2 ?_⟩
      rw [fi_eqL, hr0, z0]
      have e4 : (lfO J r (nI c) (nI w)).toInt = (y : Int) * ((D.2.1 r).2.1 : Int) := by omega
      rw [e4]
      exact Int.mul_emod_left _ _
/-- the row of rod r is right -/
def RW (D : FD) (v : StV) (r : Nat) (I : hI) (J : hJ) : Prop := ∀ c, c ≤ 63 → J 81 (64 * r + c) = lN (cnz D v (D.1 - r) r ((J 80 r).toInt - c)) ∧ ∃ m, I 82 (64 * r + c) = nI m ∧ m ≤ 1000000000 ∧ isMin 1000000000 (fun t => WYz D v (D.1 - r) r ((J 80 r).toInt - c) t) m
theorem RW_of {D : FD} {v : StV} {r : Nat} {I I' : hI} {J J' : hJ} (h : RW D v r I J) (e1 : ∀ c, c ≤ 63 → J' 81 (64 * r + c) = J 81 (64 * r + c)) (e2 : ∀ c, c ≤ 63 → I' 82 (64 * r + c) = I 82 (64 * r + c)) (e3 : J' 80 = J 80) : RW D v r I' J' := fun c hc => by rw [e1 c hc, e2 c hc, e3]; exact h c hc
theorem WYz_lt {D : FD} {v : StV} {k i : Nat} {z : Int} (ho : ∀ i, i < D.1 → okR (D.2.1 i)) (hv : ∀ i, i < D.1 → v.1 i ≤ 9 ∧ v.2.1 i ≤ 9) (hi : i + k ≤ D.1) (h6 : D.1 ≤ 6) : ∀ t, WYz D v k i z t → t < 1000000 := fun t h => by
  have := WY_le ho hv k i _ t hi h.2
  omega
/-- one choice more of a cell -/
theorem lyS_v {D : FD} {v : StV} {I : hI} {J : hJ} {o r c hi lo : Nat} {st : Int32} {M m : Nat} {P : Nat → Prop} (h6 : D.1 ≤ 6) (hD : DMf D I) (hU : DU J D) (hV : RV D v o st I) (hr : r < D.1) (hc : c ≤ 63) (hW : RW D v (r + 1) I J) (hh : hi ≤ (D.2.1 r).2.2.2) (hl : lo ≤ (D.2.1 r).2.2.1) (hP : isMin 1000000000 P m) (hPb : ∀ t, P t → t < 1000000) :
    ∃ m', lyS I J D o st r (nI c) hi lo (lN M, nI m) = (lN (M + (if 0 ≤ (J 80 r).toInt - c ∧ fit D v r ((J 80 r).toInt - c).toNat lo hi then cn D v (D.1 - (r + 1)) (r + 1) ((((J 80 r).toInt - c).toNat - vl D r lo hi) / bs D r) else 0)), nI m') ∧ isMin 1000000000 (fun t => P t ∨ Cd D v (D.1 - (r + 1)) r ((J 80 r).toInt - c) lo hi t) m' := by
  have okr := fun k hk => (hD.2.2.2 k hk).1
  have hvb : ∀ i, i < D.1 → v.1 i ≤ 9 ∧ v.2.1 i ≤ 9 := fun i hi => (hV i hi).2.1
  have hq := okr r hr
  have hbp : 0 < bs D r := Nat.lt_of_lt_of_le (by decide) hq.2.1.1
  have hw := wv40 hq hl hh
  have hm9 := min_le hP (fun t ht => by have := hPb t ht; omega)
  have ma := may_alw hV hr hq hl hh
  unfold lyS
  by_cases c1 : M_may I o st r (nI lo) (nI hi)
  · have ha := ma.mp c1
    rw [if_pos c1, shF_n]
    have hcst := cst_le hq (hvb r hr) ha
    rcases onF_v hU okr hr hc hw with ⟨n1, n2⟩ | ⟨y, k, hk, ek, ez, ey⟩
    · rw [if_pos n1]
      refine ⟨m, ?_, min_c hP (fun t => ⟨fun z => z.elim id (fun ⟨_, y, t', e, _, _⟩ => absurd e (n2 y)), Or.inl⟩)⟩
      have hf : ¬ (0 ≤ (J 80 r).toInt - c ∧ fit D v r ((J 80 r).toInt - c).toNat lo hi) := fun z => by
        have e := fit_y hbp z.2
        have e2 : ((((J 80 r).toInt - c).toNat : Nat) : Int) = (vl D r lo hi + ((((J 80 r).toInt - c).toNat - vl D r lo hi) / bs D r) * bs D r : Nat) := by rw [← e]
        rw [Int.toNat_of_nonneg z.1] at e2
        refine n2 ((((J 80 r).toInt - c).toNat - vl D r lo hi) / bs D r) (e2.trans ?_)
        simp [vl]
      rw [if_neg hf, Nat.add_zero]
    · rw [ek, if_neg (nI_pos (by omega))]
      have eK : lyK r (nI k) = 64 * (r + 1) + k := by unfold lyK; rw [nI_clamp (by omega)]
      obtain ⟨w1, m1, w2, w3, w4⟩ := hW k hk
      rw [ey] at w1 w4
      have h0 : 0 ≤ (J 80 r).toInt - c := by
        rw [ez]
        have : (0 : Int) ≤ (y : Int) * (bs D r : Int) := Int.mul_nonneg (by omega) (by omega)
        omega
      have ex : ((J 80 r).toInt - c).toNat = vl D r lo hi + y * bs D r := by
        have e2 : ((((J 80 r).toInt - c).toNat : Nat) : Int) = ((vl D r lo hi + y * bs D r : Nat) : Int) := by
          rw [Int.toNat_of_nonneg h0, ez]
          simp [vl]
        exact Int.ofNat_inj.mp e2
      obtain ⟨hf, eyy⟩ := fit_of hbp ha ex
      have eM : lyM I o r (nI k) (nI lo) (nI hi) = nI (cst D v r lo hi + m1) := by
        unfold lyM
        rw [eK, w2, ch_cst hD hV hr (by have := hq.2.2.1.2; omega) (by have := hq.2.2.2.1; omega), nI_add, Nat.add_comm]
      rw [eM, eK, w1, if_pos (show 0 ≤ (J 80 r).toInt - (c : Int) ∧ fit D v r ((J 80 r).toInt - c).toNat lo hi from ⟨h0, hf⟩), eyy]
      have ec2 : cnz D v (D.1 - (r + 1)) (r + 1) (y : Int) = cn D v (D.1 - (r + 1)) (r + 1) y := by
        unfold cnz
        rw [if_neg (by omega), Int.toNat_natCast]
      have hR : isMin 1000000000 (fun t => WY D v (D.1 - (r + 1)) (r + 1) y t) m1 := min_c w4 (fun t => ⟨fun z => ⟨by omega, by rw [Int.toNat_natCast]; exact z⟩, fun z => by have := z.2; rw [Int.toNat_natCast] at this; exact this⟩)
      refine ⟨if m ≤ cst D v r lo hi + m1 then m else cst D v r lo hi + m1, ?_, ?_⟩
      · dsimp only
        rw [ec2, lN_add]
        congr 1
        by_cases z : m ≤ cst D v r lo hi + m1
        · rw [if_pos z, if_pos (nI_le z (by omega))]
        · rw [if_neg z, if_neg (nI_ge (by omega) (by omega))]
      · refine min_c (min_add hP (fun t ht => by have := hPb t ht; omega) hR (fun t ht => by have := WY_le okr hvb _ _ _ _ (by omega) ht; omega)) (fun t => ⟨fun z => z.elim Or.inl (fun ⟨_, y', t', e, hwy, et⟩ => Or.inr ⟨t', ?_, et⟩), fun z => z.elim Or.inl (fun ⟨t', hwy, et⟩ => Or.inr ⟨ha, y, t', by rw [ez]; simp [vl], hwy, et⟩)⟩)
        have e5 : (y' : Int) * (bs D r : Int) = (y : Int) * (bs D r : Int) := by
          rw [ez] at e
          have : (vl D r lo hi : Int) = ((lo + hi * hwv (D.2.1 r) : Nat) : Int) := rfl
          omega
        have : (y' : Int) = y := Int.eq_of_mul_eq_mul_right (by omega) e5
        have : y' = y := by omega
        rw [← this]
        exact hwy
  · rw [if_neg c1]
    have hna := fun z => c1 (ma.mpr z)
    refine ⟨m, ?_, min_c hP (fun t => ⟨fun z => z.elim id (fun z => absurd z.1 hna), Or.inl⟩)⟩
    rw [if_neg (fun z => hna z.2.1), Nat.add_zero]
end MRF

