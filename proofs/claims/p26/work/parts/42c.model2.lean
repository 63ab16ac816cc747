section AMN
variable {sc : Nat × (Nat → Int32)} {d : Nat} {I : hI} {J : hJ} {R : hR} {T : am_H} {h : am_H}
theorem m_beads {k : Nat} {r p : Int32} (hr : r = nI k) (hk : k < 6) : am_E sc (d + 1) 155 [.ref 73, .int r, .int p] (HH I J R T) (some (.int (if p = 0 then I 76 k else I 77 k))) (HH I J R T) := by
  refine E_of (Nat.le_of_ble_eq_true rfl) ?_
  have v : vp_in r 6 := hr ▸ vk hk
  have c : r.toNatClampNeg = k := hr ▸ cl hk
  repeat' (first
    | refine S_bd (fun c_ => ?_) (fun c_ => ?_)
    | refine S_bn (fun c_ => ?_) (fun c_ => ?_)
    | refine S_ial rfl (by first | assumption | rfl | (repeat (first | assumption | exact am_gs_eq (by assumption) | refine am_gs_ne (by first | assumption | decide | omega) ?_))) ?_ ?_
    | refine S_lal rfl (by first | assumption | rfl | (repeat (first | assumption | exact am_gs_eq (by assumption) | refine am_gs_ne (by first | assumption | decide | omega) ?_))) ?_ ?_
    | refine S_ias rfl (by first | assumption | rfl | (repeat (first | assumption | exact am_gs_eq (by assumption) | refine am_gs_ne (by first | assumption | decide | omega) ?_))) ?_ ?_
    | refine S_las rfl (by first | assumption | rfl | (repeat (first | assumption | exact am_gs_eq (by assumption) | refine am_gs_ne (by first | assumption | decide | omega) ?_))) ?_ ?_
    | refine S_1 rfl rfl ?_
    | refine S_gf rfl (by first | assumption | rfl | (repeat (first | assumption | exact am_gs_eq (by assumption) | refine am_gs_ne (by first | assumption | decide | omega) ?_))) rfl rfl ?_
    | refine S_pf rfl (by first | assumption | rfl | (repeat (first | assumption | exact am_gs_eq (by assumption) | refine am_gs_ne (by first | assumption | decide | omega) ?_))) rfl ?_
    | refine S_len rfl (by first | assumption | rfl | (repeat (first | assumption | exact am_gs_eq (by assumption) | refine am_gs_ne (by first | assumption | decide | omega) ?_))) (by decide) ?_
    | refine S_rI rfl ?_ ?_ ?_
    | refine S_retQ rfl rfl rfl ?_ ?_)
  all_goals first | exact v | exact am_nw0 _ | with_reducible rfl | (refine am_ii ?_; rw [if_pos (by assumption)]; exact congrArg (I _) c) | (refine am_ii ?_; rw [if_neg (by assumption)]; exact congrArg (I _) c)
abbrev M_bit (s : Int32) (r : Int32) (p : Int32) : Prop := (s >>> ((2 * r + p) &&& 31)) &&& 1 = 1
abbrev M_may (I : hI) (o : Nat) (s : Int32) (k : Nat) (lo hi : Int32) : Prop := (¬ M_bit s (nI k) 0 ∨ lo = I o k) ∧ (¬ M_bit s (nI k) 1 ∨ hi = I o (6 + k))
end AMN

