section AMN
variable {sc : Nat × (Nat → Int32)} {d : Nat} {I : hI} {J : hJ} {R : hR} {T : am_H} {h : am_H}
def M_wo (I : hI) (k : Nat) : Int32 := M_wb I (I 74 k) (nI k)
def M_sh (I : hI) (o k : Nat) : Int32 := I o k + I o (6 + k) * M_wo I k
theorem m_worthK {k : Nat} {r : Int32} (hr : r = nI k) (hk : k < 6) : am_E sc (d + 2) 151 [.ref 73, .int r] (HH I J R T) (some (.int (M_wo I k))) (HH I J R T) := by
  subst hr
  have h := m_worth (sc := sc) (d := d) (I := I) (J := J) (R := R) (T := T) (vk hk)
  rw [cl hk] at h
  exact h
theorem m_shows {o k : Nat} {r : Int32} (ho : o = 78 ∨ o = 79) (hr : r = nI k) (hk : k < 6) : am_E sc (d + 3) 154 [.ref 73, .ref o, .int r] (HH I J R T) (some (.int (M_sh I o k))) (HH I J R T) := by
  refine E_of (Nat.le_of_ble_eq_true rfl) ?_
  have v0 : vp_in (0 + r) 14 := hr ▸ vk0 hk
  have v6 : vp_in (6 + r) 14 := hr ▸ vk6 hk
  have c0 : ((0 : Int32) + r).toNatClampNeg = k := hr ▸ cl0 hk
  have c6 : ((6 : Int32) + r).toNatClampNeg = 6 + k := hr ▸ cl6 hk
  rcases ho with rfl | rfl
  all_goals (
    repeat' (first
      | refine S_bd (fun c_ => ?_) (fun c_ => ?_)
      | refine S_bn (fun c_ => ?_) (fun c_ => ?_)
      | refine S_ial rfl (by first | assumption | rfl | (repeat (first | assumption | exact am_gs_eq (by assumption) | refine am_gs_ne (by first | assumption | decide | omega) ?_))) ?_ ?_
      | refine S_lal rfl (by first | assumption | rfl | (repeat (first | assumption | exact am_gs_eq (by assumption) | refine am_gs_ne (by first | assumption | decide | omega) ?_))) ?_ ?_
      | refine S_ias rfl (by first | assumption | rfl | (repeat (first | assumption | exact am_gs_eq (by assumption) | refine am_gs_ne (by first | assumption | decide | omega) ?_))) ?_ ?_
      | refine S_las rfl (by first | assumption | rfl | (repeat (first | assumption | exact am_gs_eq (by assumption) | refine am_gs_ne (by first | assumption | decide | omega) ?_))) ?_ ?_
      | refine S_1 rfl rfl ?_
      | refine S_c1 rfl rfl rfl (m_worthK hr hk) ?_
      | refine S_c0 rfl rfl rfl (m_worthK hr hk) ?_
      | refine S_gf rfl (by first | assumption | rfl | (repeat (first | assumption | exact am_gs_eq (by assumption) | refine am_gs_ne (by first | assumption | decide | omega) ?_))) rfl rfl ?_
      | refine S_pf rfl (by first | assumption | rfl | (repeat (first | assumption | exact am_gs_eq (by assumption) | refine am_gs_ne (by first | assumption | decide | omega) ?_))) rfl ?_
      | refine S_len rfl (by first | assumption | rfl | (repeat (first | assumption | exact am_gs_eq (by assumption) | refine am_gs_ne (by first | assumption | decide | omega) ?_))) (by decide) ?_
      | refine S_rI rfl ?_ ?_ ?_
      | refine S_retQ rfl rfl rfl ?_ ?_)
  )
  all_goals first | exact v0 | exact v6 | exact am_nw0 _ | with_reducible rfl | (refine am_ii ?_; show I _ ((0 : Int32) + r).toNatClampNeg + I _ ((6 : Int32) + r).toNatClampNeg * _ = _; rw [c0, c6]; rfl)
end AMN

