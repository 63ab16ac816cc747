section AMN
variable {sc : Nat × (Nat → Int32)} {d : Nat} {I : hI} {J : hJ} {R : hR} {T : am_H} {h : am_H}
def M_ab (a b : Int32) : Int32 := if a < b then b - a else a - b
def M_ch (I : hI) (o k : Nat) (lo hi : Int32) : Int32 := M_ab lo (I o k) * M_tk (I 74 k) 0 + M_ab hi (I o (6 + k)) * M_tk (I 74 k) 1
theorem m_change {o k : Nat} {r lo hi : Int32} (ho : o = 78 ∨ o = 79) (hr : r = nI k) (hk : k < 6) : am_E sc (d + 3) 158 [.ref 73, .ref o, .int r, .int lo, .int hi] (HH I J R T) (some (.int (M_ch I o k lo hi))) (HH I J R T) := by
  refine E_of (Nat.le_of_ble_eq_true rfl) ?_
  have v0 : vp_in (0 + r) 14 := hr ▸ vk0 hk
  have v6 : vp_in (6 + r) 14 := hr ▸ vk6 hk
  have v : vp_in r 6 := hr ▸ vk hk
  have c : r.toNatClampNeg = k := hr ▸ cl hk
  have c0 : ((0 : Int32) + r).toNatClampNeg = k := hr ▸ cl0 hk
  have c6 : ((6 : Int32) + r).toNatClampNeg = 6 + k := hr ▸ cl6 hk
  rcases ho with rfl | rfl
  all_goals (
    repeat' (first
      | refine S_bd (fun c_ => ?_) (fun c_ => ?_)
      | refine S_bn (fun c_ => ?_) (fun c_ => ?_)
      | refine S_ial rfl (by first | assumption | rfl | (repeat (first | assumption | exact am_gs_eq (by assumption) | refine am_gs_ne (by first | assumption | decide | omega) ?_))) ?_ ?_
      | refine S_lal rfl (by first | assumption | rfl | (repeat (first | assumption | exact am_gs_eq (by assumption) | refine am_gs_ne (by first | assumption | decide | omega) ?_))) ?_ ?_
      | refine S_ias rfl (by first | assumption | rfl | (repeat (first | assumption | exact am_gs_eq (by assumption) | refine am_gs_ne (by first | assumption | decide | omega) ?_))) ?_ ?_
      | refine S_las rfl (by first | assumption | rfl | (repeat (first | assumption | exact am_gs_eq (by assumption) | refine am_gs_ne (by first | assumption | decide | omega) ?_))) ?_ ?_
      | refine S_1 rfl rfl ?_
      | refine S_c1 rfl rfl rfl (m_apart) ?_
      | refine S_c0 rfl rfl rfl (m_apart) ?_
      | refine S_c1 rfl rfl rfl (m_takes) ?_
      | refine S_c0 rfl rfl rfl (m_takes) ?_
      | refine S_gf rfl (by first | assumption | rfl | (repeat (first | assumption | exact am_gs_eq (by assumption) | refine am_gs_ne (by first | assumption | decide | omega) ?_))) rfl rfl ?_
      | refine S_pf rfl (by first | assumption | rfl | (repeat (first | assumption | exact am_gs_eq (by assumption) | refine am_gs_ne (by first | assumption | decide | omega) ?_))) rfl ?_
      | refine S_len rfl (by first | assumption | rfl | (repeat (first | assumption | exact am_gs_eq (by assumption) | refine am_gs_ne (by first | assumption | decide | omega) ?_))) (by decide) ?_
      | refine S_rI rfl ?_ ?_ ?_
      | refine S_retQ rfl rfl rfl ?_ ?_)
  )
  all_goals first | exact v0 | exact v6 | exact v | exact am_nw0 _ | with_reducible rfl | (refine am_ii ?_; show M_ab lo (I _ ((0 : Int32) + r).toNatClampNeg) * M_tk (I _ r.toNatClampNeg) 0 + M_ab hi (I _ ((6 : Int32) + r).toNatClampNeg) * M_tk (I _ r.toNatClampNeg) 1 = _; rw [c0, c6, c]; rfl)
end AMN

