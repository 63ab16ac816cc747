/-! The reference: carries, clears; set, carry, ways, time, pushed. -/
section ML6
variable {sc : Nat × (Nat → Int32)} {d : Nat} {R : hR} {T : am_H} {Q : Option Value → am_H → Prop}
def ca1 (I : hI) (D : FD) (o r : Nat) : Int32 := alF I D o r (M_sh I o r - nI (D.2.1 r).2.1)
def ca2 (I : hI) (D : FD) (o r : Nat) : Int32 := alF I D o (r + 1) (M_sh I o (r + 1) + 1)
def caT (I : hI) (D : FD) (o r : Nat) : Int32 := M_ch I o r (dL (ca1 I D o r)) (dH (ca1 I D o r)) + M_ch I o (r + 1) (dL (ca2 I D o r)) (dH (ca2 I D o r))
def caI (I : hI) (o r : Nat) (a b : Int32) : hI := sf (sf (sf (sf I o r (dL a)) o (6 + r) (dH a)) o (r + 1) (dL b)) o (6 + r + 1) (dH b)
def caF (I : hI) (D : FD) (o r : Nat) : Int32 × hI :=
  if M_sh I o r < nI (D.2.1 r).2.1 then (-1, I) else if nI r = nI D.1 - 1 then (-1, I) else if ca1 I D o r < 0 then (-1, I) else if 0 ≤ ca2 I D o r then
    (caT I D o r, sf (caI I o r (ca1 I D o r) (ca2 I D o r)) o 13 (cap (caI I o r (ca1 I D o r) (ca2 I D o r) o 13 + caT I D o r)))
  else (-1, I)
theorem caF_c {I : hI} {D : FD} {o r a : Nat} (h : a ≠ o) : (caF I D o r).2 a = I a := by
  unfold caF
  split
  · rfl
  · split
    · rfl
    · split
      · rfl
      · split
        · show sf _ o 13 _ a = _
          unfold caI
          rw [sf_c h, sf_c h, sf_c h, sf_c h, sf_c h]
        · rfl
def cLo (I : hI) (o r : Nat) : Int32 := if M_bit (I o 12) (nI r) 0 then I o r else 0
def cHi (I : hI) (o r : Nat) : Int32 := if M_bit (I o 12) (nI r) 1 then I o (6 + r) else 0
def clI (I : hI) (o r : Nat) : hI := sf (sf I o r (cLo I o r)) o (6 + r) (cHi I o r)
def cll (o : Nat) : Nat → Nat → Int32 → hI → Int32 × hI
  | 0, _, t, I => (t, I)
  | n + 1, r, t, I => cll o n (r + 1) (t + M_ch I o r (cLo I o r) (cHi I o r)) (clI I o r)
def clF (I : hI) (o n : Nat) : hI := sf (cll o n 0 0 I).2 o 13 (cap ((cll o n 0 0 I).2 o 13 + (cll o n 0 0 I).1))
theorem cll_c {o a : Nat} (h : a ≠ o) : ∀ (n r : Nat) (t : Int32) (I : hI), (cll o n r t I).2 a = I a
  | 0, r, t, I => rfl
  | n + 1, r, t, I => by unfold cll; rw [cll_c h n]; unfold clI; rw [sf_c h, sf_c h]
theorem clF_c {I : hI} {o n a : Nat} (h : a ≠ o) : clF I o n a = I a := by
  unfold clF
  rw [sf_c h, cll_c h]
end ML6

