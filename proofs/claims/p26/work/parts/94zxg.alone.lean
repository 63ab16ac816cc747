/-! The reference's alone: the first of the cheapest choices that show S. -/
section ALN
def Qa (D : FD) (v : StV) (r S j : Nat) : Prop := j / 10 ≤ (D.2.1 r).2.2.2 ∧ j % 10 ≤ (D.2.1 r).2.2.1 ∧ alw D v r (j % 10) (j / 10) ∧ vl D r (j % 10) (j / 10) = S
def ca (D : FD) (v : StV) (r j : Nat) : Nat := cst D v r (j % 10) (j / 10)
theorem al1_v {D : FD} {v : StV} {I : hI} {o r S k : Nat} (hD : DMf D I) (hV : RV D v o (I o 12) I) (hr : r < D.1) (hS : S < 2 ^ 31) (hk : k < 40) : (Qa D v r S k → al1 I D o r (nI S) k = nI (ca D v r k)) ∧ (¬ Qa D v r S k → al1 I D o r (nI S) k = 1000000000) := by
  have hq := (hD.2.2.2 r hr).1
  have h3 := hq.2.2.2.1
  have h9 := hq.2.2.1.2
  unfold al1
  by_cases c1 : nI (D.2.1 r).2.2.2 < nI (k / 10)
  · rw [if_pos c1]
    rw [nI_ltI (by omega) (by omega)] at c1
    exact ⟨fun z => by have := z.1; omega, fun _ => rfl⟩
  · rw [if_neg c1]
    rw [nI_ltI (by omega) (by omega)] at c1
    by_cases c2 : nI (D.2.1 r).2.2.1 < nI (k % 10)
    · rw [if_pos c2]
      rw [nI_ltI (by omega) (by omega)] at c2
      exact ⟨fun z => by have := z.2.1; omega, fun _ => rfl⟩
    · rw [if_neg c2]
      rw [nI_ltI (by omega) (by omega)] at c2
      have hl : k % 10 ≤ (D.2.1 r).2.2.1 := by omega
      have hh : k / 10 ≤ (D.2.1 r).2.2.2 := by omega
      have ma := may_alw hV hr hq hl hh
      have hw := wv40 hq hl hh
      by_cases c3 : M_may I o (I o 12) r (nI (k % 10)) (nI (k / 10))
      · rw [if_pos c3, shF_n]
        have eq := nI_eq (a := k % 10 + k / 10 * hwv (D.2.1 r)) (b := S) (by omega) hS
        by_cases c4 : k % 10 + k / 10 * hwv (D.2.1 r) = S
        · rw [if_pos (eq.mpr c4), ch_cst hD hV hr (by omega) (by omega)]
          exact ⟨fun _ => rfl, fun z => absurd ⟨hh, hl, ma.mp c3, c4⟩ z⟩
        · rw [if_neg (fun z => c4 (eq.mp z))]
          exact ⟨fun z => absurd z.2.2.2 c4, fun _ => rfl⟩
      · rw [if_neg c3]
        exact ⟨fun z => absurd (ma.mpr z.2.2.1) c3, fun _ => rfl⟩
def Ia (D : FD) (v : StV) (r S k : Nat) (b le : Int32) : Prop := ((∀ j, j < k → ¬ Qa D v r S j) ∧ b = -1 ∧ le = 1000000000) ∨ ∃ j, j < k ∧ Qa D v r S j ∧ b = nI j ∧ le = nI (ca D v r j) ∧ ∀ j', j' < k → Qa D v r S j' → ca D v r j ≤ ca D v r j' ∧ (j' < j → ca D v r j < ca D v r j')
theorem all_v {D : FD} {v : StV} {I : hI} {o r S : Nat} (hD : DMf D I) (hV : RV D v o (I o 12) I) (hr : r < D.1) (hS : S < 2 ^ 31) : ∀ (n k : Nat) (b le : Int32), k + n = 40 → Ia D v r S k b le → ∃ le', Ia D v r S 40 (all I D o r (nI S) n k b le) le'
  | 0, k, b, le, hk, h => ⟨le, by rw [Nat.add_zero] at hk; rw [← hk]; exact h⟩
  | n + 1, k, b, le, hk, h => by
    have hq := (hD.2.2.2 r hr).1
    have z9 : (1000000000 : Int32).toInt = 1000000000 := rfl
    have hcb : ∀ j, Qa D v r S j → ca D v r j ≤ 45 := fun j hj => cst_le hq (hV r hr).2.1 hj.2.2.1
    have a1 := al1_v (S := S) hD hV hr hS (show k < 40 by omega)
    unfold all
    by_cases c : Qa D v r S k
    · rw [a1.1 c]
      have hk45 := hcb k c
      rcases h with ⟨h1, h2, h3⟩ | ⟨j, h1, h2, h3, h4, h5⟩
      · rw [h3, if_neg (by rw [fi_le, nI_toInt (by omega)]; omega)]
        refine all_v hD hV hr hS n (k + 1) _ _ (by omega) (Or.inr ⟨k, by omega, c, rfl, rfl, fun j' hj' hq' => ?_⟩)
        by_cases e : j' = k
        · rw [e]; exact ⟨Nat.le_refl _, fun z => by omega⟩
        · exact absurd hq' (h1 j' (by omega))
      · have hj45 := hcb j h2
        by_cases c2 : ca D v r j ≤ ca D v r k
        · rw [h4, if_pos (nI_le c2 (by omega)), ← h4]
          refine all_v hD hV hr hS n (k + 1) _ _ (by omega) (Or.inr ⟨j, by omega, h2, h3, h4, fun j' hj' hq' => ?_⟩)
          by_cases e : j' = k
          · rw [e]; exact ⟨c2, fun z => by omega⟩
          · exact h5 j' (by omega) hq'
        · rw [h4, if_neg (nI_ge (by omega) (by omega))]
          refine all_v hD hV hr hS n (k + 1) _ _ (by omega) (Or.inr ⟨k, by omega, c, rfl, rfl, fun j' hj' hq' => ?_⟩)
          by_cases e : j' = k
          · rw [e]; exact ⟨Nat.le_refl _, fun z => by omega⟩
          · have := (h5 j' (by omega) hq').1
            exact ⟨by omega, fun _ => by omega⟩
    · rw [a1.2 c]
      have hle : le ≤ 1000000000 := by
        rw [fi_le]
        rcases h with ⟨_, _, h3⟩ | ⟨j, _, h2, _, h4, _⟩
        · rw [h3]; omega
        · have := hcb j h2
          rw [h4, nI_toInt (by omega)]
          omega
      rw [if_pos hle]
      refine all_v hD hV hr hS n (k + 1) _ _ (by omega) ?_
      rcases h with ⟨h1, h2, h3⟩ | ⟨j, h1, h2, h3, h4, h5⟩
      · refine Or.inl ⟨fun j hj hq' => ?_, h2, h3⟩
        by_cases e : j = k
        · rw [e] at hq'; exact c hq'
        · exact h1 j (by omega) hq'
      · refine Or.inr ⟨j, by omega, h2, h3, h4, fun j' hj' hq' => ?_⟩
        by_cases e : j' = k
        · rw [e] at hq'; exact absurd hq' c
        · exact h5 j' (by omega) hq'
theorem alF_v {D : FD} {v : StV} {I : hI} {o r S : Nat} (hD : DMf D I) (hV : RV D v o (I o 12) I) (hr : r < D.1) (hS : S < 2 ^ 31) : ∃ le', Ia D v r S 40 (alF I D o r (nI S)) le' := all_v hD hV hr hS 40 0 (-1) 1000000000 (by omega) (Or.inl ⟨fun j hj => absurd hj (Nat.not_lt_zero j), rfl, rfl⟩)
end ALN

