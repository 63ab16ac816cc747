/-! The reference's methods on the law's heap: loops that copy. -/
section AMO
variable {sc : Nat × (Nat → Int32)} {d : Nat} {I : hI} {J : hJ} {R : hR} {T : am_H} {h : am_H}
/-- copyNow(): tried becomes now -/
theorem m_copyNow_l : ∀ (k i : Nat) (I : hI), i + k = 14 → am_S sc d (am_P 206).2 (2, [(0, .ref 73), (1, .int (nI i))], []) (HH I J R T) none (HH (va_up I 79 (fun j => if i ≤ j ∧ j < 14 then I 78 j else I 79 j)) J R T)
  | 0, i, I, hi => by
    have e : i = 14 := by omega
    subst e
    refine S_jump 3 rfl ?_
    refine S_bd (fun c_ => ?_) (fun c_ => absurd (show (14 : Int32) ≤ nI 14 by decide) c_)
    refine S_retQ rfl rfl rfl rfl ?_
    have hf : (fun j => if 14 ≤ j ∧ j < 14 then I 78 j else I 79 j) = I 79 := by
      funext j
      exact if_neg (by omega)
    rw [hf, up_id]
  | k + 1, i, I, hi => by
    refine S_jump 3 rfl ?_
    refine S_bd (fun c_ => absurd c_ (nI_ge (a := i) (b := 14) (by omega) (by omega))) (fun c_ => ?_)
    refine S_jump 6 rfl ?_
    refine S_ial rfl rfl (vp_in_nI (by omega) (by omega)) ?_
    refine S_ias rfl rfl (vp_in_nI (by omega) (by omega)) ?_
    refine S_jump 2 rfl ?_
    rw [nI_clamp (show i < 2 ^ 31 by omega), HH_a79]
    have w := m_copyNow_l k (i + 1) (va_up I 79 (upd (I 79) i (I 78 i))) (by omega)
    rw [up_up] at w
    rw [← nI_1] at w
    have hf : (fun j => if i + 1 ≤ j ∧ j < 14 then va_up I 79 (upd (I 79) i (I 78 i)) 78 j else va_up I 79 (upd (I 79) i (I 78 i)) 79 j) = (fun j => if i ≤ j ∧ j < 14 then I 78 j else I 79 j) := by
      funext j
      rw [up_same, up_ne (show (78 : Nat) ≠ 79 by decide)]
      unfold upd
      by_cases h1 : j = i
      · subst h1
        rw [if_neg (by omega), if_pos rfl, if_pos (by omega)]
      · rw [if_neg h1]
        by_cases h2 : i ≤ j ∧ j < 14
        · rw [if_pos (by omega), if_pos h2]
        · rw [if_neg (by omega), if_neg h2]
    rw [hf] at w
    exact w
theorem m_copyNow : am_E sc (d + 1) 206 [.ref 73] (HH I J R T) none (HH (va_up I 79 (fun j => if j < 14 then I 78 j else I 79 j)) J R T) := by
  refine E_of (Nat.le_of_ble_eq_true rfl) ?_
  refine S_jump 2 rfl ?_
  have w := m_copyNow_l (sc := sc) (d := d) (J := J) (R := R) (T := T) 14 0 I (by omega)
  have hf : (fun j => if 0 ≤ j ∧ j < 14 then I 78 j else I 79 j) = (fun j => if j < 14 then I 78 j else I 79 j) := by
    funext j
    by_cases h : j < 14
    · rw [if_pos ⟨Nat.zero_le j, h⟩, if_pos h]
    · rw [if_neg (fun z => h z.2), if_neg h]
  rw [hf] at w
  exact w
end AMO

