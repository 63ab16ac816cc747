/-! The reference: tour, kinds. -/
section MLA
variable {sc : Nat × (Nat → Int32)} {d : Nat} {R : hR} {T : am_H} {Q : Option Value → am_H → Prop}
/-- three numbers set one behind the other: the sum of the times, below 0 if one can't be shown -/
def trS (D : FD) (v s : Int32) (I : hI) (J : hJ) : Int32 × hI × hJ := (if 0 ≤ (seF I J D 79 v.toInt64).1 then s + (seF I J D 79 v.toInt64).1 else -1, (seF I J D 79 v.toInt64).2)
def tr3 (D : FD) (x y z : Int32) (I : hI) (J : hJ) : Int32 × hI × hJ :=
  if (trS D x 0 (cpN I) J).1 < 0 then trS D x 0 (cpN I) J else
  if (trS D y (trS D x 0 (cpN I) J).1 (trS D x 0 (cpN I) J).2.1 (trS D x 0 (cpN I) J).2.2).1 < 0 then trS D y (trS D x 0 (cpN I) J).1 (trS D x 0 (cpN I) J).2.1 (trS D x 0 (cpN I) J).2.2
  else trS D z (trS D y (trS D x 0 (cpN I) J).1 (trS D x 0 (cpN I) J).2.1 (trS D x 0 (cpN I) J).2.2).1 (trS D y (trS D x 0 (cpN I) J).1 (trS D x 0 (cpN I) J).2.1 (trS D x 0 (cpN I) J).2.2).2.1 (trS D y (trS D x 0 (cpN I) J).1 (trS D x 0 (cpN I) J).2.1 (trS D x 0 (cpN I) J).2.2).2.2
abbrev trT : Type := Option (Int32 × Int32) × hI × hJ
def trN (D : FD) (x y z o : Int32) (K : hI → hJ → Int32 → Int32 → trT) (I : hI) (J : hJ) (le be : Int32) : trT :=
  if 0 ≤ (tr3 D x y z I J).1 then (if le ≤ (tr3 D x y z I J).1 then K (tr3 D x y z I J).2.1 (tr3 D x y z I J).2.2 le be else K (tr3 D x y z I J).2.1 (tr3 D x y z I J).2.2 (tr3 D x y z I J).1 o) else (none, (tr3 D x y z I J).2)
def tm6 (_ : FD) (_ _ _ : Int32) : hI → hJ → Int32 → Int32 → trT := fun I J le be => (some (le, be), I, J)
def tm5 (D : FD) (a b c : Int32) : hI → hJ → Int32 → Int32 → trT := trN D c b a 5 (tm6 D a b c)
def tm4 (D : FD) (a b c : Int32) : hI → hJ → Int32 → Int32 → trT := trN D c a b 4 (tm5 D a b c)
def tm3 (D : FD) (a b c : Int32) : hI → hJ → Int32 → Int32 → trT := trN D b c a 3 (tm4 D a b c)
def tm2 (D : FD) (a b c : Int32) : hI → hJ → Int32 → Int32 → trT := trN D b a c 2 (tm3 D a b c)
def tm1 (D : FD) (a b c : Int32) : hI → hJ → Int32 → Int32 → trT := trN D a c b 1 (tm2 D a b c)
def tm0 (D : FD) (a b c : Int32) : hI → hJ → Int32 → Int32 → trT := trN D a b c 0 (tm1 D a b c)
def trK (I I' : hI) : Prop := ∀ a, a ≠ 82 → a ≠ 83 → a ≠ 79 → I' a = I a
theorem trS_c {D : FD} {v s : Int32} {I : hI} {J : hJ} : trK I (trS D v s I J).2.1 := fun a h9 h10 h6 => seF_c h9 h10 h6
theorem trK_t {I I1 I2 : hI} (h : trK I I1) (g : trK I1 I2) : trK I I2 := fun a h9 h10 h6 => (g a h9 h10 h6).trans (h a h9 h10 h6)
theorem trK_n {I : hI} : trK I (cpN I) := fun a _ _ h6 => up_ne h6
end MLA
