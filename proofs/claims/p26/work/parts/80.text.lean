/-! Texts: letters as natural numbers, tokens. -/
abbrev pL (t : Nat) : Prop := 97 ≤ t ∧ t ≤ 122
abbrev pD (t : Nat) : Prop := 48 ≤ t ∧ t ≤ 57
def pLb (t : Nat) : Bool := decide (pL t)
def pDb (t : Nat) : Bool := decide (pD t)
def pSb (t : Nat) : Bool := decide (t = 32)
/-- the first place from i on that is at the end or not p -/
def rn (p : Nat → Bool) (tx : Nat → Nat) (c : Nat) : Nat → Nat → Nat
  | 0, i => i
  | k + 1, i => bif decide (i < c) && p (tx i) then rn p tx c k (i + 1) else i
def ru (p : Nat → Bool) (tx : Nat → Nat) (c i : Nat) : Nat := rn p tx c (c - i) i
theorem ru_in {p : Nat → Bool} {tx : Nat → Nat} {c i : Nat} (hi : i < c) (hp : p (tx i) = true) : ru p tx c i = ru p tx c (i + 1) := by
  unfold ru
  obtain ⟨k, hk⟩ : ∃ k, c - i = k + 1 := ⟨c - i - 1, by omega⟩
  rw [hk, show c - (i + 1) = k by omega]
  show (bif decide (i < c) && p (tx i) then rn p tx c k (i + 1) else i) = _
  rw [decide_eq_true hi, hp]
  rfl
theorem ru_out {p : Nat → Bool} {tx : Nat → Nat} {c i : Nat} (h : ¬ (i < c ∧ p (tx i) = true)) : ru p tx c i = i := by
  unfold ru
  cases hk : c - i with
  | zero => rfl
  | succ k =>
    show (bif decide (i < c) && p (tx i) then rn p tx c k (i + 1) else i) = _
    have hi : i < c := by omega
    have hp : p (tx i) = false := by
      cases hp : p (tx i) with
      | true => exact absurd ⟨hi, hp⟩ h
      | false => rfl
    rw [hp, Bool.and_false]
    rfl
theorem rn_le (p : Nat → Bool) (tx : Nat → Nat) (c : Nat) : ∀ k i, i ≤ rn p tx c k i
  | 0, i => Nat.le_refl i
  | k + 1, i => by
    show i ≤ bif decide (i < c) && p (tx i) then rn p tx c k (i + 1) else i
    cases decide (i < c) && p (tx i) with
    | true => exact Nat.le_trans (Nat.le_succ i) (rn_le p tx c k (i + 1))
    | false => exact Nat.le_refl i
theorem rn_c (p : Nat → Bool) (tx : Nat → Nat) (c : Nat) : ∀ k i, i ≤ c → rn p tx c k i ≤ c
  | 0, i, h => h
  | k + 1, i, h => by
    show (bif decide (i < c) && p (tx i) then rn p tx c k (i + 1) else i) ≤ c
    by_cases hi : i < c
    · cases decide (i < c) && p (tx i) with
      | true => exact rn_c p tx c k (i + 1) (by omega)
      | false => exact h
    · rw [decide_eq_false hi]
      exact h
theorem ru_le (p : Nat → Bool) (tx : Nat → Nat) (c i : Nat) : i ≤ ru p tx c i := rn_le p tx c _ i
theorem ru_c {p : Nat → Bool} {tx : Nat → Nat} {c i : Nat} (h : i ≤ c) : ru p tx c i ≤ c := rn_c p tx c _ i h
/-- all between is p -/
theorem rn_all (p : Nat → Bool) (tx : Nat → Nat) (c : Nat) : ∀ k i j, i ≤ j → j < rn p tx c k i → p (tx j) = true
  | 0, i, j, h1, h2 => absurd h2 (by show ¬ j < i; omega)
  | k + 1, i, j, h1, h2 => by
    have h2 : j < bif decide (i < c) && p (tx i) then rn p tx c k (i + 1) else i := h2
    cases hb : decide (i < c) && p (tx i) with
    | true =>
      rw [hb] at h2
      have hp : p (tx i) = true := (Bool.and_eq_true _ _ ▸ hb : _ ∧ _).2
      by_cases e : j = i
      · rw [e]; exact hp
      · exact rn_all p tx c k (i + 1) j (by omega) h2
    | false =>
      rw [hb] at h2
      exact absurd h2 (by show ¬ j < i; omega)
theorem ru_all {p : Nat → Bool} {tx : Nat → Nat} {c i j : Nat} (h1 : i ≤ j) (h2 : j < ru p tx c i) : p (tx j) = true := rn_all p tx c _ i j h1 h2
/-- where the next token starts, and where it stops -/
def tS (tx : Nat → Nat) (c i : Nat) : Nat := ru pSb tx c i
def tE (tx : Nat → Nat) (c s : Nat) : Nat := if s < c then (if pL (tx s) then ru pLb tx c (s + 1) else if pD (tx s) then ru pDb tx c (s + 1) else s + 1) else s
theorem tS_le (tx : Nat → Nat) (c i : Nat) : i ≤ tS tx c i := ru_le _ _ _ _
theorem tS_c {tx : Nat → Nat} {c i : Nat} (h : i ≤ c) : tS tx c i ≤ c := ru_c h
theorem tE_lt {tx : Nat → Nat} {c s : Nat} (h : s < c) : s < tE tx c s ∧ tE tx c s ≤ c := by
  unfold tE
  rw [if_pos h]
  by_cases h1 : pL (tx s)
  · rw [if_pos h1]
    exact ⟨ru_le pLb tx c (s + 1), ru_c (by omega)⟩
  · rw [if_neg h1]
    by_cases h2 : pD (tx s)
    · rw [if_pos h2]
      exact ⟨ru_le pDb tx c (s + 1), ru_c (by omega)⟩
    · rw [if_neg h2]
      omega
theorem tE_c {tx : Nat → Nat} {c s : Nat} (h : s ≤ c) : s ≤ tE tx c s ∧ tE tx c s ≤ c := by
  by_cases h1 : s < c
  · have := tE_lt (tx := tx) h1
    omega
  · unfold tE
    rw [if_neg h1]
    omega
/-- the number that the digits from s to e tell -/
def nvl (tx : Nat → Nat) : Nat → Nat → Nat → Nat
  | _, a, 0 => a
  | s, a, k + 1 => nvl tx (s + 1) (a * 10 + (tx s - 48)) k
def nv (tx : Nat → Nat) (s e : Nat) : Nat := nvl tx s 0 (e - s)
theorem nvl_lt (tx : Nat → Nat) : ∀ (k s a : Nat), (∀ j, s ≤ j → j < s + k → pD (tx j)) → nvl tx s a k < (a + 1) * 10 ^ k
  | 0, s, a, h => by show a < (a + 1) * 1; omega
  | k + 1, s, a, h => by
    have h0 := h s (Nat.le_refl s) (by omega)
    have w := nvl_lt tx k (s + 1) (a * 10 + (tx s - 48)) (fun j h1 h2 => h j (by omega) (by omega))
    show nvl tx (s + 1) (a * 10 + (tx s - 48)) k < _
    refine Nat.lt_of_lt_of_le w ?_
    rw [Nat.pow_succ, Nat.mul_comm (10 ^ k) 10, ← Nat.mul_assoc]
    exact Nat.mul_le_mul_right _ (by omega)
/-- the words -/
abbrev wF (tx : Nat → Nat) (s e : Nat) : Prop := e = s + 5 ∧ tx s = 102 ∧ tx (s + 1) = 114 ∧ tx (s + 2) = 97 ∧ tx (s + 3) = 109 ∧ tx (s + 4) = 101
abbrev wK (tx : Nat → Nat) (s e : Nat) : Prop := e = s + 5 ∧ tx s = 115 ∧ tx (s + 1) = 116 ∧ tx (s + 2) = 117 ∧ tx (s + 3) = 99 ∧ tx (s + 4) = 107
abbrev wP (tx : Nat → Nat) (s e : Nat) : Prop := e = s + 5 ∧ tx s = 112 ∧ tx (s + 1) = 108 ∧ tx (s + 2) = 97 ∧ tx (s + 3) = 105 ∧ tx (s + 4) = 110
abbrev wV (tx : Nat → Nat) (s e : Nat) : Prop := e = s + 4 ∧ tx s = 102 ∧ tx (s + 1) = 105 ∧ tx (s + 2) = 118 ∧ tx (s + 3) = 101
abbrev wW (tx : Nat → Nat) (s e : Nat) : Prop := e = s + 4 ∧ tx s = 115 ∧ tx (s + 1) = 108 ∧ tx (s + 2) = 111 ∧ tx (s + 3) = 119
abbrev wH (tx : Nat → Nat) (s e : Nat) : Prop := e = s + 4 ∧ tx s = 104 ∧ tx (s + 1) = 101 ∧ tx (s + 2) = 105 ∧ tx (s + 3) = 114
abbrev wS (tx : Nat → Nat) (s e : Nat) : Prop := e = s + 3 ∧ tx s = 115 ∧ tx (s + 1) = 101 ∧ tx (s + 2) = 116
abbrev wA (tx : Nat → Nat) (s e : Nat) : Prop := e = s + 3 ∧ tx s = 97 ∧ tx (s + 1) = 100 ∧ tx (s + 2) = 100
abbrev wB (tx : Nat → Nat) (s e : Nat) : Prop := e = s + 3 ∧ tx s = 115 ∧ tx (s + 1) = 117 ∧ tx (s + 2) = 98
abbrev wC (tx : Nat → Nat) (s e : Nat) : Prop := e = s + 5 ∧ tx s = 99 ∧ tx (s + 1) = 108 ∧ tx (s + 2) = 101 ∧ tx (s + 3) = 97 ∧ tx (s + 4) = 114
abbrev wY (tx : Nat → Nat) (s e : Nat) : Prop := e = s + 5 ∧ tx s = 99 ∧ tx (s + 1) = 97 ∧ tx (s + 2) = 114 ∧ tx (s + 3) = 114 ∧ tx (s + 4) = 121
def wcode (tx : Nat → Nat) (s e : Nat) : Nat := if wF tx s e then 1 else if wP tx s e then 2 else if wV tx s e then 3 else if wW tx s e then 4 else if wH tx s e then 5 else if wK tx s e then 6 else if wS tx s e then 7 else if wA tx s e then 8 else if wB tx s e then 9 else if wC tx s e then 10 else if wY tx s e then 11 else 0

