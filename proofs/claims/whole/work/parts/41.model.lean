/-! The reference's methods on the law's heap. -/
section AMM
variable {sc : Nat × (Nat → Int32)} {d : Nat} {I : hI} {J : hJ} {R : hR} {T : am_H}
/-- isRod(r) -/
theorem m_isRod {r : Int32} : am_E sc (d + 2) 149 [.ref 73, .int r] (HH I J R T) (some (.int (if (0 : Int64) ≤ r.toInt64 ∧ r.toInt64 ≤ (I 73 0 - 1).toInt64 then 1 else 0))) (HH I J R T) := by
  refine E_of (Nat.le_of_ble_eq_true rfl) ?_
  repeat' (first
    | refine S_1 rfl rfl ?_
    | refine S_bd (fun c_ => ?_) (fun c_ => ?_)
    | refine S_bn (fun c_ => ?_) (fun c_ => ?_)
    | refine S_c1 rfl rfl rfl (k_in) ?_
    | refine S_c0 rfl rfl rfl (k_in) ?_
    | refine S_gf rfl (by first | assumption | (with_reducible rfl) | (repeat (first | assumption | exact am_gs_eq (by assumption) | refine am_gs_ne (by first | assumption | decide | omega) ?_))) rfl rfl ?_
    | refine S_pf rfl (by first | assumption | (with_reducible rfl) | (repeat (first | assumption | exact am_gs_eq (by assumption) | refine am_gs_ne (by first | assumption | decide | omega) ?_))) rfl ?_
    | refine S_len rfl (by first | assumption | (with_reducible rfl) | (repeat (first | assumption | exact am_gs_eq (by assumption) | refine am_gs_ne (by first | assumption | decide | omega) ?_))) (by decide) ?_
    | refine S_ial rfl (by first | assumption | (with_reducible rfl) | (repeat (first | assumption | exact am_gs_eq (by assumption) | refine am_gs_ne (by first | assumption | decide | omega) ?_))) ?_ ?_
    | refine S_lal rfl (by first | assumption | (with_reducible rfl) | (repeat (first | assumption | exact am_gs_eq (by assumption) | refine am_gs_ne (by first | assumption | decide | omega) ?_))) ?_ ?_
    | refine S_ias rfl (by first | assumption | (with_reducible rfl) | (repeat (first | assumption | exact am_gs_eq (by assumption) | refine am_gs_ne (by first | assumption | decide | omega) ?_))) ?_ ?_
    | refine S_las rfl (by first | assumption | (with_reducible rfl) | (repeat (first | assumption | exact am_gs_eq (by assumption) | refine am_gs_ne (by first | assumption | decide | omega) ?_))) ?_ ?_
    | refine S_retQ rfl rfl rfl ?_ ?_
    | refine S_rI rfl ?_ ?_ ?_)
  all_goals first | rfl | exact am_nw01 | skip
/-- erase() -/
theorem m_erase : am_E sc (d + 1) 175 [.ref 73] (HH I J R T) (some (.int (I 73 12))) (HH (va_up I 73 (va_up (I 73) 12 0)) J R T) := by
  refine E_of (Nat.le_of_ble_eq_true rfl) ?_
  repeat' (first
    | refine S_1 rfl rfl ?_
    | refine S_bd (fun c_ => ?_) (fun c_ => ?_)
    | refine S_bn (fun c_ => ?_) (fun c_ => ?_)
    | refine S_c1 rfl rfl rfl (k_in) ?_
    | refine S_c0 rfl rfl rfl (k_in) ?_
    | refine S_gf rfl (by first | assumption | (with_reducible rfl) | (repeat (first | assumption | exact am_gs_eq (by assumption) | refine am_gs_ne (by first | assumption | decide | omega) ?_))) rfl rfl ?_
    | refine S_pf rfl (by first | assumption | (with_reducible rfl) | (repeat (first | assumption | exact am_gs_eq (by assumption) | refine am_gs_ne (by first | assumption | decide | omega) ?_))) rfl ?_
    | refine S_len rfl (by first | assumption | (with_reducible rfl) | (repeat (first | assumption | exact am_gs_eq (by assumption) | refine am_gs_ne (by first | assumption | decide | omega) ?_))) (by decide) ?_
    | refine S_ial rfl (by first | assumption | (with_reducible rfl) | (repeat (first | assumption | exact am_gs_eq (by assumption) | refine am_gs_ne (by first | assumption | decide | omega) ?_))) ?_ ?_
    | refine S_lal rfl (by first | assumption | (with_reducible rfl) | (repeat (first | assumption | exact am_gs_eq (by assumption) | refine am_gs_ne (by first | assumption | decide | omega) ?_))) ?_ ?_
    | refine S_ias rfl (by first | assumption | (with_reducible rfl) | (repeat (first | assumption | exact am_gs_eq (by assumption) | refine am_gs_ne (by first | assumption | decide | omega) ?_))) ?_ ?_
    | refine S_las rfl (by first | assumption | (with_reducible rfl) | (repeat (first | assumption | exact am_gs_eq (by assumption) | refine am_gs_ne (by first | assumption | decide | omega) ?_))) ?_ ?_
    | refine S_retQ rfl rfl rfl ?_ ?_
    | refine S_rI rfl ?_ ?_ ?_)
  all_goals first | rfl | skip
end AMM

