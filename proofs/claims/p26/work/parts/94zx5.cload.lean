/-! The class's tables (1): prices, the row of a rod. -/
section CLD
/-- a standing of the class -/
def CV (D : FD) (v : StV) (a : Nat) (I : hI) : Prop := ∀ i, i < D.1 → (I (a + 1) i = nI (v.1 i) ∧ I (a + 2) i = nI (v.2.1 i)) ∧ (v.1 i ≤ 9 ∧ v.2.1 i ≤ 9) ∧ (I a 2 &&& bitF (nI i) 0 = 0 ↔ ¬ v.2.2 i 0 = true) ∧ (I a 2 &&& bitF (nI i) 1 = 0 ↔ ¬ v.2.2 i 1 = true)
theorem CV_of {D : FD} {v : StV} {a : Nat} {I I' : hI} (h : CV D v a I) (e0 : I' a = I a) (e1 : I' (a + 1) = I (a + 1)) (e2 : I' (a + 2) = I (a + 2)) : CV D v a I' := fun i hi => by rw [e0, e1, e2]; exact h i hi
theorem off_v {a b : Nat} (ha : a ≤ 9) (hb : b ≤ 9) : (if 0 ≤ nI a - nI b then nI a - nI b else 0 - (nI a - nI b)) = nI (ad a b) := by
  have z0 : (0 : Int32).toInt = 0 := rfl
  have ea : (nI a).toInt = a := nI_toInt (by omega)
  have eb : (nI b).toInt = b := nI_toInt (by omega)
  have e : (nI a - nI b).toInt = (a : Int) - b := by rw [ti_sub (by omega) (by omega), ea, eb]
  unfold ad
  by_cases c : a < b
  · rw [if_neg (by rw [fi_le]; omega), if_pos c, fi_eq, ti_sub (by omega) (by omega), e, z0, nI_toInt (by omega)]
    omega
  · rw [if_pos (by rw [fi_le]; omega), if_neg c, nI_subI (by omega)]
theorem pr_v {I : hI} {a i n b t : Nat} {q : RD4} {p : Int32} {s : Bool} (hb : bdF I a i p = nI b) (ht : tmF q p = nI t) (hs : I a 2 &&& bitF (nI i) p = 0 ↔ ¬ s = true) (hn : n ≤ 9) (hb9 : b ≤ 9) : priceF I a q i p (nI n) 0 = if s = true → n = b then nI (ad n b * t) else 1048576 := by
  have eo : offF I a i p (nI n) = nI (ad n b) := by unfold offF; rw [hb]; exact off_v hn hb9
  have em : nI (ad n b) * nI t = nI (ad n b * t) := (Int32.ofNat_mul _ _).symm
  have h9 := ad_le hn hb9
  unfold priceF
  rw [eo, ht, em, if_pos rfl]
  by_cases c : I a 2 &&& bitF (nI i) p = 0
  · rw [if_pos c, if_pos (fun z => absurd z (hs.mp c))]
  · have hst : s = true := by
      cases s
      · exact absurd (hs.mpr (by decide)) c
      · rfl
    rw [if_neg c, if_pos rfl]
    have h0 : nI (ad n b) ≤ 0 ↔ n = b := by
      rw [fi_le, nI_toInt (by omega)]
      have z0 : (0 : Int32).toInt = 0 := rfl
      unfold ad
      split <;> omega
    by_cases e : n = b
    · rw [if_pos (h0.mpr e), if_pos (fun _ => e)]
    · rw [if_neg (fun z => e (h0.mp z)), if_neg (fun z => e (z hst))]
theorem pr0 {I : hI} {D : FD} {v : StV} {a i n : Nat} (hV : CV D v a I) (hi : i < D.1) (hn : n ≤ 9) : priceF I a (D.2.1 i) i 0 (nI n) 0 = if v.2.2 i 0 = true → n = v.1 i then nI (ad n (v.1 i) * ltv (D.2.1 i)) else 1048576 := by
  obtain ⟨⟨e1, e2⟩, ⟨b1, b2⟩, s1, s2⟩ := hV i hi
  exact pr_v (by unfold bdF; rw [if_neg (by decide)]; exact e1) (by unfold tmF; rw [if_neg (by decide)]) s1 hn b1
theorem pr1 {I : hI} {D : FD} {v : StV} {a i n : Nat} (hV : CV D v a I) (hi : i < D.1) (hn : n ≤ 9) : priceF I a (D.2.1 i) i 1 (nI n) 0 = if v.2.2 i 1 = true → n = v.2.1 i then nI (ad n (v.2.1 i) * htv (D.2.1 i)) else 1048576 := by
  obtain ⟨⟨e1, e2⟩, ⟨b1, b2⟩, s1, s2⟩ := hV i hi
  exact pr_v (by unfold bdF; rw [if_pos rfl]; exact e2) (by unfold tmF; rw [if_pos rfl]) s2 hn b2
theorem sl_n {i s : Nat} (hi : i < 6) (hs : s < 40) : slotF (nI i) (nI s) = nI (40 * i + s) := by
  unfold slotF
  have e40 : (40 : Int32) = nI 40 := rfl
  rw [if_neg (nI_pos (by omega)), if_neg (by rw [e40]; exact nI_ge (by omega) (by omega)), e40, show nI i * nI 40 = nI (i * 40) from (Int32.ofNat_mul _ _).symm, nI_add, Nat.mul_comm]
theorem wI_n {I : hI} {c L k : Nat} {v : Int32} (hk : k < L) (hL : L < 2 ^ 31) : wI I c L (nI k) v = sf I c k v := by
  unfold wI sf
  rw [am_wrK rfl hk hL]
theorem acF_n {I : hI} {k : Nat} {h p : Int32} (hk : k < 240) : acF I (nI k) h p = if I 5 k ≤ p then sf I 7 k (I 7 k + 1) else sf (sf (sf I 7 k (I 7 k + 1)) 5 k p) 6 k h := by
  unfold acF
  rw [if_neg (nI_pos (by omega)), am_rdK rfl hk (by decide), am_rdK rfl hk (by decide), wI_n hk (by decide), wI_n hk (by decide), wI_n hk (by decide)]
/-- what the row of rod i holds when the choices of Pr are in -/
def CRw (D : FD) (v : StV) (i : Nat) (Pr : Nat → Nat → Prop) (N : Nat → Nat) (I : hI) : Prop := ∀ s, s < 40 → I 7 (40 * i + s) = nI (N s) ∧ ∃ m, I 5 (40 * i + s) = nI m ∧ m ≤ 1048576 ∧ isMin 1048576 (fun t => ∃ l h, Pr l h ∧ alw D v i l h ∧ vl D i l h = s ∧ t = cst D v i l h) m ∧ (m < 1048576 → ∃ g, I 6 (40 * i + s) = nI g ∧ isF (fun h => ∃ l, Pr l h ∧ alw D v i l h ∧ vl D i l h = s ∧ m = cst D v i l h) g)
theorem CRw_c {D : FD} {v : StV} {i : Nat} {Pr Pr' : Nat → Nat → Prop} {N N' : Nat → Nat} {I I' : hI} (h : CRw D v i Pr N I) (e : ∀ l h, alw D v i l h → (Pr' l h ↔ Pr l h)) (en : ∀ s, s < 40 → N' s = N s) (e5 : ∀ s, s < 40 → I' 5 (40 * i + s) = I 5 (40 * i + s)) (e6 : ∀ s, s < 40 → I' 6 (40 * i + s) = I 6 (40 * i + s)) (e7 : ∀ s, s < 40 → I' 7 (40 * i + s) = I 7 (40 * i + s)) : CRw D v i Pr' N' I' := fun s hs => by
  obtain ⟨a, m, b, b', c, d⟩ := h s hs
  rw [e5 s hs, e6 s hs, e7 s hs, en s hs]
  refine ⟨a, m, b, b', min_c c (fun t => ⟨fun ⟨l, h, x, y, z⟩ => ⟨l, h, (e l h y).mp x, y, z⟩, fun ⟨l, h, x, y, z⟩ => ⟨l, h, (e l h y).mpr x, y, z⟩⟩), fun hm => ?_⟩
  obtain ⟨g, eg, f1, f2⟩ := d hm
  obtain ⟨l, x, y, z⟩ := f1
  exact ⟨g, eg, ⟨l, (e l g y).mpr x, y, z⟩, fun j hj ⟨l, x, y, z⟩ => f2 j hj ⟨l, (e l j y).mp x, y, z⟩⟩
/-- one choice more -/
theorem CRw_s {D : FD} {v : StV} {i l0 g0 : Nat} {Pr : Nat → Nat → Prop} {N : Nat → Nat} {I : hI} (hi : i < 6) (h : CRw D v i Pr N I) (hp : ∀ l h, Pr l h → h ≤ g0) (ha : alw D v i l0 g0) (hv : vl D i l0 g0 < 40) (hc : cst D v i l0 g0 < 1048576) :
    CRw D v i (fun l h => Pr l h ∨ (l = l0 ∧ h = g0)) (fun s => N s + if vl D i l0 g0 = s then 1 else 0) (acF I (nI (40 * i + vl D i l0 g0)) (nI g0) (nI (cst D v i l0 g0))) := by
  rw [acF_n (by omega)]
  intro s hs
  obtain ⟨a, m, b, b', c, d⟩ := h s hs
  by_cases es : vl D i l0 g0 = s
  · rw [es]
    have e1 : I 7 (40 * i + s) + 1 = nI (N s + 1) := by rw [a]; exact nI_1 _
    dsimp only
    rw [if_pos rfl, b]
    by_cases c1 : m ≤ cst D v i l0 g0
    · rw [if_pos (nI_le c1 (by omega))]
      refine ⟨by rw [sf_s]; exact e1, m, by rw [sf_c (by decide)]; exact b, b', ⟨fun t ⟨l, h, x, y, z, w⟩ => ?_, ?_⟩, fun hm => ?_⟩
      · rcases x with x | ⟨rfl, rfl⟩
        · exact c.1 t ⟨l, h, x, y, z, w⟩
        · omega
      · rcases c.2 with ⟨l, h, x, y, z⟩ | ⟨x, y⟩
        · exact Or.inl ⟨l, h, Or.inl x, y, z⟩
        · omega
      · obtain ⟨g, eg, ⟨l, x, y, z⟩, f2⟩ := d hm
        refine ⟨g, by rw [sf_c (by decide)]; exact eg, ⟨l, Or.inl x, y, z⟩, fun j hj ⟨l', x', y', z'⟩ => ?_⟩
        rcases x' with x' | ⟨rfl, rfl⟩
        · exact f2 j hj ⟨l', x', y', z'⟩
        · have := hp l g x
          omega
    · rw [if_neg (nI_ge (by omega) (by omega))]
      refine ⟨by rw [sf_c (by decide), sf_c (by decide), sf_s]; exact e1, cst D v i l0 g0, by rw [sf_c (by decide), sf_s], by omega, ⟨fun t ⟨l, h, x, y, z, w⟩ => ?_, Or.inl ⟨l0, g0, Or.inr ⟨rfl, rfl⟩, ha, es, rfl⟩⟩, fun hm => ⟨g0, by rw [sf_s], ⟨l0, Or.inr ⟨rfl, rfl⟩, ha, es, rfl⟩, fun j hj ⟨l, x, y, z, w⟩ => ?_⟩⟩
      · rcases x with x | ⟨rfl, rfl⟩
        · have := c.1 t ⟨l, h, x, y, z, w⟩
          omega
        · omega
      · rcases x with x | ⟨rfl, rfl⟩
        · have := c.1 _ ⟨l, j, x, y, z, w⟩
          omega
        · omega
  · dsimp only
    rw [if_neg es, Nat.add_zero]
    have k7 : ∀ (J : hI) (c : Nat) (x : Int32), sf J c (40 * i + vl D i l0 g0) x c (40 * i + s) = J c (40 * i + s) := fun J c x => sf_k (by omega)
    have hI : ∀ c, c = 5 ∨ c = 6 ∨ c = 7 → (if I 5 (40 * i + vl D i l0 g0) ≤ nI (cst D v i l0 g0) then sf I 7 (40 * i + vl D i l0 g0) (I 7 (40 * i + vl D i l0 g0) + 1) else sf (sf (sf I 7 (40 * i + vl D i l0 g0) (I 7 (40 * i + vl D i l0 g0) + 1)) 5 (40 * i + vl D i l0 g0) (nI (cst D v i l0 g0))) 6 (40 * i + vl D i l0 g0) (nI g0)) c (40 * i + s) = I c (40 * i + s) := fun c hc => by
      split
      · rcases hc with rfl | rfl | rfl
        · rw [sf_c (by decide)]
        · rw [sf_c (by decide)]
        · rw [k7]
      · rcases hc with rfl | rfl | rfl
        · rw [sf_c (by decide), k7, sf_c (by decide)]
        · rw [k7, sf_c (by decide), sf_c (by decide)]
        · rw [sf_c (by decide), sf_c (by decide), k7]
    rw [hI 5 (by decide), hI 6 (by decide), hI 7 (by decide)]
    have hn : ∀ l h, (Pr l h ∨ l = l0 ∧ h = g0) → vl D i l h = s → Pr l h := fun l h x z => x.resolve_right (fun w => es (by rw [← w.1, ← w.2]; exact z))
    refine ⟨a, m, b, b', min_c c (fun t => ⟨fun ⟨l, h, x, y, z, w⟩ => ⟨l, h, hn l h x z, y, z, w⟩, fun ⟨l, h, x, y⟩ => ⟨l, h, Or.inl x, y⟩⟩), fun hm => ?_⟩
    obtain ⟨g, eg, ⟨l, x, y⟩, f2⟩ := d hm
    exact ⟨g, eg, ⟨l, Or.inl x, y⟩, fun j hj ⟨l, x, y, z, w⟩ => f2 j hj ⟨l, hn l j x z, y, z, w⟩⟩
end CLD

