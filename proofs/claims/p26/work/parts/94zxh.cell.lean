/-! A cell of the class's table: the first of the cheapest choices that show S. -/
section CEL
theorem cell_v {D : FD} {v : StV} {I : hI} {i S : Nat} (hi : i < D.1) (h6 : D.1 ≤ 6) (hq : okR (D.2.1 i)) (hv : v.1 i ≤ 9 ∧ v.2.1 i ≤ 9) (h : FTr D v i I) (hS : S < 40) : ((∀ j, ¬ Qa D v i S j) ∧ I 5 (40 * i + S) = nI 1048576) ∨ ∃ j, j < 40 ∧ Qa D v i S j ∧ (∀ j', Qa D v i S j' → ca D v i j ≤ ca D v i j' ∧ (j' < j → ca D v i j < ca D v i j')) ∧ I 5 (40 * i + S) = nI (ca D v i j) ∧ I 6 (40 * i + S) = nI (j / 10) := by
  have h3 := hq.2.2.2.1
  have h9 := hq.2.2.1.2
  obtain ⟨_, c, e5, cF, cm, cg⟩ := h.1 S hS
  have toQ : ∀ l g, alw D v i l g → vl D i l g = S → Qa D v i S (10 * g + l) ∧ ca D v i (10 * g + l) = cst D v i l g := fun l g ha hvl => by
    have := ha.1
    unfold Qa ca
    rw [show (10 * g + l) / 10 = g by omega, show (10 * g + l) % 10 = l by omega]
    exact ⟨⟨ha.2.1, ha.1, ha, hvl⟩, rfl⟩
  have lo : ∀ j, Qa D v i S j → c ≤ ca D v i j := fun j hj => cm.1 _ ⟨_, _, trivial, hj.2.2.1, hj.2.2.2, rfl⟩
  by_cases c1 : c < 1048576
  · obtain ⟨g, e6, ⟨l, _, ha, hvl, hc⟩, hf⟩ := cg c1
    obtain ⟨q1, q2⟩ := toQ l g ha hvl
    have a1 := ha.1
    have a2 := ha.2.1
    refine Or.inr ⟨10 * g + l, by omega, q1, fun j' hj' => ⟨by rw [q2, ← hc]; exact lo j' hj', fun hlt => ?_⟩, by rw [e5, q2, hc], by rw [e6, show (10 * g + l) / 10 = g by omega]⟩
    rw [q2, ← hc]
    by_cases e : c = ca D v i j'
    · have n1 : ¬ j' / 10 < g := fun z => hf _ z ⟨_, trivial, hj'.2.2.1, hj'.2.2.2, e⟩
      have n2 : j' / 10 = g := by omega
      have h4 := hj'.2.2.2
      unfold vl at h4 hvl
      rw [n2] at h4
      omega
    · have := lo j' hj'
      omega
  · refine Or.inl ⟨fun j hj => ?_, by rw [e5]; congr 1; omega⟩
    have l1 := lo j hj
    have l2 : ca D v i j ≤ 45 := cst_le hq hv hj.2.2.1
    omega
theorem fst_u {D : FD} {v : StV} {i S j k : Nat} (hj : Qa D v i S j) (hk : Qa D v i S k) (h1 : ∀ j', Qa D v i S j' → ca D v i j ≤ ca D v i j' ∧ (j' < j → ca D v i j < ca D v i j')) (h2 : ∀ j', j' < 40 → Qa D v i S j' → ca D v i k ≤ ca D v i j' ∧ (j' < k → ca D v i k < ca D v i j')) (hj4 : j < 40) : j = k := by
  have a := h1 k hk
  have b := h2 j hj4 hj
  rcases Nat.lt_trichotomy j k with c | c | c
  · have := b.2 c; omega
  · exact c
  · have := a.2 c; omega
/-- alone and the cell say the same -/
theorem al_cell {D : FD} {v : StV} {I I1 : hI} {o i S : Nat} (hi : i < D.1) (h6 : D.1 ≤ 6) (hD : DMf D I1) (hV : RV D v o (I1 o 12) I1) (h : FTr D v i I) (hS : S < 40) : ((∀ j, ¬ Qa D v i S j) ∧ I 5 (40 * i + S) = nI 1048576 ∧ alF I1 D o i (nI S) = -1) ∨ ∃ j, j < 40 ∧ Qa D v i S j ∧ I 5 (40 * i + S) = nI (ca D v i j) ∧ I 6 (40 * i + S) = nI (j / 10) ∧ alF I1 D o i (nI S) = nI j := by
  have hq := (hD.2.2.2 i hi).1
  obtain ⟨le, ha⟩ := alF_v (S := S) hD hV hi (by omega)
  rcases cell_v hi h6 hq (hV i hi).2.1 h hS with ⟨n1, e5⟩ | ⟨j, j4, hj, hf, e5, e6⟩
  · rcases ha with ⟨_, e, _⟩ | ⟨k, _, hk, _⟩
    · exact Or.inl ⟨n1, e5, e⟩
    · exact absurd hk (n1 k)
  · rcases ha with ⟨n1, _⟩ | ⟨k, k4, hk, e, _, hf2⟩
    · exact absurd hj (n1 j j4)
    · have := fst_u hj hk hf hf2 j4
      subst this
      exact Or.inr ⟨j, j4, hj, e5, e6, e⟩
end CEL

