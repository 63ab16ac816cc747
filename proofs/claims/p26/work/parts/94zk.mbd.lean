/-! The reference: beads stay small numbers. -/
section MBD
def b9 (x : Int32) : Prop := -9 ≤ x.toInt ∧ x.toInt ≤ 9
/-- the beads of a row -/
def BR (o : Nat) (I : hI) : Prop := ∀ k, k < 12 → b9 (I o k)
theorem BR_of {o : Nat} {I I' : hI} (h : BR o I) (e : I' o = I o) : BR o I' := fun k hk => by rw [e]; exact h k hk
theorem duI_k {I : hI} {r j : Nat} {b : Int32} (h1 : j ≠ r) (h2 : j ≠ 6 + r) : duI I r b 83 j = I 83 j := by
  unfold duI
  rw [sf_k h2, sf_k h1]
theorem duF_k {J : hJ} {D : FD} {o : Nat} {st : Int32} {j : Nat} : ∀ (n r : Nat) (c : Int32) (I : hI), r + n ≤ 6 → j < r → duF J D o st n r c I 83 j = I 83 j ∧ duF J D o st n r c I 83 (6 + j) = I 83 (6 + j)
  | 0, r, c, I, h, hj => ⟨rfl, rfl⟩
  | n + 1, r, c, I, h, hj => by
    unfold duF
    have ih := duF_k (J := J) (D := D) (o := o) (st := st) (j := j) n (r + 1) (onF J D r c (shF D r (dL (duB I J D o st r c)) (dH (duB I J D o st r c)))) (duI I r (duB I J D o st r c)) (by omega) (by omega)
    rw [ih.1, ih.2, duI_k (by omega) (by omega), duI_k (by omega) (by omega)]
    exact ⟨rfl, rfl⟩
theorem duF_v {J : hJ} {D : FD} {o : Nat} {st : Int32} (ho : ∀ k, k < D.1 → okR (D.2.1 k)) : ∀ (n r : Nat) (c : Int32) (I : hI), r + n = D.1 → D.1 ≤ 6 → ∀ j, r ≤ j → j < D.1 → b9 (duF J D o st n r c I 83 j) ∧ b9 (duF J D o st n r c I 83 (6 + j))
  | 0, r, c, I, h, h6, j, h1, h2 => absurd h2 (by omega)
  | n + 1, r, c, I, h, h6, j, h1, h2 => by
    unfold duF
    by_cases e : j = r
    · subst e
      have hk : okK D j (duB I J D o st j c) := dul_ok (ho j h2) 40 0 _ (by omega) (Or.inl rfl)
      have hb := okK_b (ho j h2) hk
      generalize duB I J D o st j c = b at hb ⊢
      have ih := duF_k (J := J) (D := D) (o := o) (st := st) (j := j) n (j + 1) (onF J D j c (shF D j (dL b) (dH b))) (duI I j b) (by omega) (by omega)
      rw [ih.1, ih.2]
      unfold duI
      rw [sf_k (by omega), sf_s, sf_s]
      exact ⟨⟨by omega, by omega⟩, ⟨by omega, by omega⟩⟩
    · exact duF_v ho n (r + 1) _ _ (by omega) h6 j (by omega) h2
theorem se1_v {o r : Nat} {I : hI} (ho : o = 78 ∨ o = 79) (hr : r < 6) (h : BR o I) (hd : b9 (I 83 r) ∧ b9 (I 83 (6 + r))) : BR o (se1 o r I) := by
  intro k hk
  unfold se1
  by_cases e : k = 6 + r
  · subst e
    rw [sf_s, sf_c (by omega)]
    exact hd.2
  · rw [sf_k e]
    by_cases e2 : k = r
    · subst e2
      rw [sf_s]
      exact hd.1
    · rw [sf_k e2]; exact h k hk
theorem sel_v {o : Nat} (ho : o = 78 ∨ o = 79) : ∀ (n r : Nat) (I : hI), r + n ≤ 6 → BR o I → (∀ j, r ≤ j → j < r + n → b9 (I 83 j) ∧ b9 (I 83 (6 + j))) → BR o (sel o n r I)
  | 0, r, I, hn, h, hd => h
  | n + 1, r, I, hn, h, hd => by
    unfold sel
    refine sel_v ho n (r + 1) _ (by omega) (se1_v ho (by omega) h (hd r (by omega) (by omega))) (fun j h1 h2 => ?_)
    have := hd j (by omega) (by omega)
    unfold se1
    rw [sf_c (by omega), sf_c (by omega)]
    exact this
theorem BR_13 {o : Nat} {I : hI} {v : Int32} (h : BR o I) : BR o (sf I o 13 v) := fun k hk => by rw [sf_k (by omega)]; exact h k hk
theorem seF_BR {I : hI} {J : hJ} {D : FD} {o : Nat} {to : Int64} (ho : o = 78 ∨ o = 79) (hD : DMf D I) (h : BR o I) : BR o (seF I J D o to).2.1 := by
  have okr := fun k hk => (hD.2.2.2 k hk).1
  have h6 := hD.2.1
  unfold seF
  split
  · exact BR_of h (isP_I (by omega))
  · dsimp only
    refine BR_13 (sel_v ho _ _ _ (by omega) (BR_of h ?_) (fun j h1 h2 => duF_v okr _ _ _ _ (by omega) h6 j h1 (by omega)))
    rw [duF_c (by omega), isP_I (by omega)]
/-- where alone() ends -/
def okA (b : Int32) : Prop := b = -1 ∨ ∃ k, k < 40 ∧ b = nI k
theorem all_ok {I : hI} {D : FD} {o r : Nat} {sh : Int32} : ∀ (n k : Nat) (b le : Int32), k + n ≤ 40 → okA b → okA (all I D o r sh n k b le)
  | 0, k, b, le, hk, h => h
  | n + 1, k, b, le, hk, h => by
    unfold all
    split
    · exact all_ok n (k + 1) _ _ (by omega) h
    · exact all_ok n (k + 1) _ _ (by omega) (Or.inr ⟨k, by omega, rfl⟩)
theorem okA_b {b : Int32} (h : okA b) : b9 (dL b) ∧ b9 (dH b) := by
  rcases h with rfl | ⟨k, hk, rfl⟩
  · exact ⟨⟨by decide, by decide⟩, ⟨by decide, by decide⟩⟩
  · have e1 : dL (nI k) = nI (k % 10) := n_m10 (by omega)
    have e2 : dH (nI k) = nI (k / 10) := n_d10 (by omega)
    unfold b9
    rw [e1, e2, nI_toInt (by omega), nI_toInt (by omega)]
    omega
theorem caF_BR {I : hI} {D : FD} {o r : Nat} (h : BR o I) : BR o (caF I D o r).2 := by
  have a1 := okA_b (all_ok (I := I) (D := D) (o := o) (r := r) (sh := M_sh I o r - nI (D.2.1 r).2.1) 40 0 (-1) 1000000000 (by omega) (Or.inl rfl))
  have a2 := okA_b (all_ok (I := I) (D := D) (o := o) (r := r + 1) (sh := M_sh I o (r + 1) + 1) 40 0 (-1) 1000000000 (by omega) (Or.inl rfl))
  have up : ∀ (I : hI) (j : Nat) (v : Int32), BR o I → b9 v → BR o (sf I o j v) := fun I j v hB hv k hk => by
    by_cases e : k = j
    · rw [e, sf_s]; exact hv
    · rw [sf_k e]; exact hB k hk
  unfold caF
  split
  · exact h
  · split
    · exact h
    · split
      · exact h
      · split
        · dsimp only
          refine BR_13 ?_
          unfold caI
          exact up _ _ _ (up _ _ _ (up _ _ _ (up _ _ _ h a1.1) a1.2) a2.1) a2.2
        · exact h
theorem cll_BR {o : Nat} : ∀ (n r : Nat) (t : Int32) (I : hI), r + n ≤ 6 → BR o I → BR o (cll o n r t I).2
  | 0, r, t, I, hn, h => h
  | n + 1, r, t, I, hn, h => by
    unfold cll
    refine cll_BR n (r + 1) _ _ (by omega) (fun k hk => ?_)
    have z : b9 0 := ⟨by decide, by decide⟩
    have h1 : b9 (cLo I o r) := by unfold cLo; split; exact h r (by omega); exact z
    have h2 : b9 (cHi I o r) := by unfold cHi; split; exact h (6 + r) (by omega); exact z
    unfold clI
    by_cases e : k = 6 + r
    · rw [e, sf_s]; exact h2
    · rw [sf_k e]
      by_cases e2 : k = r
      · rw [e2, sf_s]; exact h1
      · rw [sf_k e2]; exact h k hk
theorem clF_BR {I : hI} {o n : Nat} (hn : n ≤ 6) (h : BR o I) : BR o (clF I o n) := BR_13 (cll_BR n 0 0 I (by omega) h)
end MBD

