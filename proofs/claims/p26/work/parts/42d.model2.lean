section AMN
variable {sc : Nat × (Nat → Int32)} {d : Nat} {I : hI} {J : hJ} {R : hR} {T : am_H} {h : am_H}
theorem m_may {o k : Nat} {r s lo hi : Int32} (ho : o = 78 ∨ o = 79) (hr : r = nI k) (hk : k < 6) : am_E sc (d + 3) 157 [.ref o, .int s, .int r, .int lo, .int hi] (HH I J R T) (some (.int (if M_may I o s k lo hi then 1 else 0))) (HH I J R T) := by
  refine E_of (Nat.le_of_ble_eq_true rfl) ?_
  have v0 : vp_in (0 + r) 14 := hr ▸ vk0 hk
  have v6 : vp_in (6 + r) 14 := hr ▸ vk6 hk
  have c0 : ((0 : Int32) + r).toNatClampNeg = k := hr ▸ cl0 hk
  have c6 : ((6 : Int32) + r).toNatClampNeg = 6 + k := hr ▸ cl6 hk
  rcases ho with rfl | rfl
  all_goals (
    repeat' (first
      | refine S_bd (fun c_ => ?_) (fun c_ => ?_)
      | refine S_bn (fun c_ => ?_) (fun c_ => ?_)
      | refine S_ial rfl (by first | assumption | rfl | (repeat (first | assumption | exact am_gs_eq (by assumption) | refine am_gs_ne (by first | assumption | decide | omega) ?_))) ?_ ?_
      | refine S_lal rfl (by first | assumption | rfl | (repeat (first | assumption | exact am_gs_eq (by assumption) | refine am_gs_ne (by first | assumption | decide | omega) ?_))) ?_ ?_
      | refine S_ias rfl (by first | assumption | rfl | (repeat (first | assumption | exact am_gs_eq (by assumption) | refine am_gs_ne (by first | assumption | decide | omega) ?_))) ?_ ?_
      | refine S_las rfl (by first | assumption | rfl | (repeat (first | assumption | exact am_gs_eq (by assumption) | refine am_gs_ne (by first | assumption | decide | omega) ?_))) ?_ ?_
      | refine S_1 rfl rfl ?_
      | refine S_c1 rfl rfl rfl (m_isStuck) ?_
      | refine S_c0 rfl rfl rfl (m_isStuck) ?_
      | refine S_gf rfl (by first | assumption | rfl | (repeat (first | assumption | exact am_gs_eq (by assumption) | refine am_gs_ne (by first | assumption | decide | omega) ?_))) rfl rfl ?_
      | refine S_pf rfl (by first | assumption | rfl | (repeat (first | assumption | exact am_gs_eq (by assumption) | refine am_gs_ne (by first | assumption | decide | omega) ?_))) rfl ?_
      | refine S_len rfl (by first | assumption | rfl | (repeat (first | assumption | exact am_gs_eq (by assumption) | refine am_gs_ne (by first | assumption | decide | omega) ?_))) (by decide) ?_
      | refine S_rI rfl ?_ ?_ ?_
      | refine S_retQ rfl rfl rfl ?_ ?_)
  )
  all_goals first | exact v0 | exact v6 | with_reducible rfl | (show am_nw 2 _ = true; rfl) | skip
  all_goals (refine am_ii ?_; subst hr; simp only [if10, o0, o1, o6, c0, c6] at *; first | exact (if_pos ⟨(by first | exact Or.inl (by assumption) | exact Or.inr (by assumption)), (by first | exact Or.inl (by assumption) | exact Or.inr (by assumption))⟩).symm | exact (if_neg (fun z => z.1.elim (fun n => n (by assumption)) (fun n => absurd n (by assumption)))).symm | exact (if_neg (fun z => z.2.elim (fun n => n (by assumption)) (fun n => absurd n (by assumption)))).symm | (rw [if_pos (by simp_all [M_may, M_bit])]; done) | (rw [if_neg (by simp_all [M_may, M_bit])]; done))
end AMN

