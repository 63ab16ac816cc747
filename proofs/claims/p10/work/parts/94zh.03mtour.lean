section MLA
variable {sc : Nat × (Nat → Int32)} {d : Nat} {R : hR} {T : am_H} {Q : Option Value → am_H → Prop}
theorem m_tm6 {D : FD} {a b c w : Int32} {I : hI} {J : hJ} {le be : Int32} (H : trQ w R T Q (tm6 D a b c I J le be)) : Zs sc (d + 7) (am_P 220).2 (60, [(0, .ref 73), (1, .int a), (2, .int b), (3, .int c), (4, .int w), (5, .int be), (6, .int le), (7, .int 6)], []) (HH I J R T) Q := by
  unfold tm6 trQ at H
  dsimp only at H
  refine Z_jump 5 rfl ?_
  refine Z_bn (fun (c199 : ¬ (w = (0 : Int32))) => ?_) (fun (c199 : w = (0 : Int32)) => ?_)
  · refine Z_jump 1 rfl ?_
    show Zs _ _ (am_P 220).2 (209, [(0, .ref 73), (1, .int a), (2, .int b), (3, .int c), (4, .int w), (5, .int be), (6, .int le), (7, .int (6 : Int32))], [.int be]) (HH I J R T) _
    refine Z_rI rfl (by first | exact am_nw0 _ | exact am_nw01 | rfl | assumption) ?_
    rw [if_neg c199] at H
    exact H
  · refine Z_jump 2 rfl ?_
    show Zs _ _ (am_P 220).2 (209, [(0, .ref 73), (1, .int a), (2, .int b), (3, .int c), (4, .int w), (5, .int be), (6, .int le), (7, .int (6 : Int32))], [.int le]) (HH I J R T) _
    refine Z_rI rfl (by first | exact am_nw0 _ | exact am_nw01 | rfl | assumption) ?_
    rw [if_pos c199] at H
    exact H
end MLA
