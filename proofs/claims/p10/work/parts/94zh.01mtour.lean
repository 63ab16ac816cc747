section MLA
variable {sc : Nat × (Nat → Int32)} {d : Nat} {R : hR} {T : am_H} {Q : Option Value → am_H → Prop}
theorem tr3_c {D : FD} {x y z : Int32} {I : hI} {J : hJ} : trK I (tr3 D x y z I J).2.1 := by
  unfold tr3
  split
  · exact trK_t trK_n trS_c
  · split
    · exact trK_t trK_n (trK_t trS_c trS_c)
    · exact trK_t trK_n (trK_t trS_c (trK_t trS_c trS_c))
def jK (J J' : hJ) : Prop := ∀ a, a ≠ 81 → a ≠ 80 → J' a = J a
theorem jK_t {J J1 J2 : hJ} (h : jK J J1) (g : jK J1 J2) : jK J J2 := fun a h8 h7 => (g a h8 h7).trans (h a h8 h7)
theorem trS_j {D : FD} {v s : Int32} {I : hI} {J : hJ} : jK J (trS D v s I J).2.2 := fun a h8 h7 => seF_J h8 h7
theorem tr3_j {D : FD} {x y z : Int32} {I : hI} {J : hJ} : jK J (tr3 D x y z I J).2.2 := by
  unfold tr3
  split
  · exact trS_j
  · split
    · exact jK_t trS_j trS_j
    · exact jK_t trS_j (jK_t trS_j trS_j)
theorem DMf_k {D : FD} {I I' : hI} (h : DMf D I) (k : trK I I') : DMf D I' := DMf_of h (k _ (by decide) (by decide) (by decide)) (k _ (by decide) (by decide) (by decide)) (k _ (by decide) (by decide) (by decide)) (k _ (by decide) (by decide) (by decide)) (k _ (by decide) (by decide) (by decide))
def trQ (w : Int32) (R : hR) (T : am_H) (Q : Option Value → am_H → Prop) (x : trT) : Prop := Q (some (.int (match x.1 with
  | none => -1
  | some p => if w = 0 then p.1 else p.2))) (HH x.2.1 x.2.2 R T)
/-- which number comes at which place of an order: run once over any heap -/
theorem io_00 {h : am_H} : am_E sc (d + 7) 219 [.int (0 : Int32), .int (0 : Int32)] h (some (.int (0 : Int32))) h := E_run 40 rfl
theorem io_01 {h : am_H} : am_E sc (d + 7) 219 [.int (0 : Int32), .int (1 : Int32)] h (some (.int (1 : Int32))) h := E_run 40 rfl
theorem io_02 {h : am_H} : am_E sc (d + 7) 219 [.int (0 : Int32), .int (2 : Int32)] h (some (.int (2 : Int32))) h := E_run 40 rfl
end MLA
