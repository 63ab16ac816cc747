/-! The reference's methods on the law's heap: rods. -/
theorem vk {k : Nat} (h : k < 6) : vp_in (nI k) 6 := vp_in_nI h (by omega)
theorem cl {k : Nat} (h : k < 6) : (nI k).toNatClampNeg = k := nI_clamp (by omega)
theorem e0 (k : Nat) : (0 : Int32) + nI k = nI k := by
  rw [show (0 : Int32) = nI 0 from rfl, nI_add, Nat.zero_add]
theorem e6 (k : Nat) : (6 : Int32) + nI k = nI (6 + k) := by
  rw [show (6 : Int32) = nI 6 from rfl, nI_add]
theorem vk0 {k : Nat} (h : k < 6) : vp_in (0 + nI k) 14 := by rw [e0]; exact vp_in_nI (by omega) (by omega)
theorem vk6 {k : Nat} (h : k < 6) : vp_in (6 + nI k) 14 := by rw [e6]; exact vp_in_nI (by omega) (by omega)
theorem cl0 {k : Nat} (h : k < 6) : ((0 : Int32) + nI k).toNatClampNeg = k := by rw [e0]; exact nI_clamp (by omega)
theorem cl6 {k : Nat} (h : k < 6) : ((6 : Int32) + nI k).toNatClampNeg = 6 + k := by rw [e6]; exact nI_clamp (by omega)
theorem if10 {c : Prop} [Decidable c] : ((if c then (1 : Int32) else 0) = 0) ↔ ¬ c := by
  by_cases h : c
  · rw [if_pos h]; exact ⟨fun z => absurd z (by decide), fun z => absurd h z⟩
  · rw [if_neg h]; exact ⟨fun _ => h, fun _ => rfl⟩
theorem o0 : Int32.ofInt 0 = 0 := rfl
theorem o1 : Int32.ofInt 1 = 1 := rfl
theorem o6 : (Int8.ofInt 6).toInt32 = 6 := rfl
theorem am_nw0 (x : Int32) : am_nw 0 x = true := rfl
section AMN
variable {sc : Nat × (Nat → Int32)} {d : Nat} {I : hI} {J : hJ} {R : hR} {T : am_H} {h : am_H}
theorem m_pushedOf {o k : Nat} {r p : Int32} (ho : o = 78 ∨ o = 79) (hr : r = nI k) (hk : k < 6) : am_E sc (d + 1) 153 [.ref o, .int r, .int p] (HH I J R T) (some (.int (if p = 0 then I o k else I o (6 + k)))) (HH I J R T) := by
  refine E_of (Nat.le_of_ble_eq_true rfl) ?_
  have v0 : vp_in (0 + r) 14 := hr ▸ vk0 hk
  have v6 : vp_in (6 + r) 14 := hr ▸ vk6 hk
  have c0 : ((0 : Int32) + r).toNatClampNeg = k := hr ▸ cl0 hk
  have c6 : ((6 : Int32) + r).toNatClampNeg = 6 + k := hr ▸ cl6 hk
  rcases ho with rfl | rfl
  all_goals (
    repeat' (first
      | refine S_bd (fun c_ => ?_) (fun c_ => ?_)
      | refine S_bn (fun c_ => ?_) (fun c_ => ?_)
      | refine S_ial rfl (by first | assumption | rfl | (repeat (first | assumption | exact am_gs_eq (by assumption) | refine am_gs_ne (by first | assumption | decide | omega) ?_))) ?_ ?_
      | refine S_lal rfl (by first | assumption | rfl | (repeat (first | assumption | exact am_gs_eq (by assumption) | refine am_gs_ne (by first | assumption | decide | omega) ?_))) ?_ ?_
      | refine S_ias rfl (by first | assumption | rfl | (repeat (first | assumption | exact am_gs_eq (by assumption) | refine am_gs_ne (by first | assumption | decide | omega) ?_))) ?_ ?_
      | refine S_las rfl (by first | assumption | rfl | (repeat (first | assumption | exact am_gs_eq (by assumption) | refine am_gs_ne (by first | assumption | decide | omega) ?_))) ?_ ?_
      | refine S_1 rfl rfl ?_
      | refine S_gf rfl (by first | assumption | rfl | (repeat (first | assumption | exact am_gs_eq (by assumption) | refine am_gs_ne (by first | assumption | decide | omega) ?_))) rfl rfl ?_
      | refine S_pf rfl (by first | assumption | rfl | (repeat (first | assumption | exact am_gs_eq (by assumption) | refine am_gs_ne (by first | assumption | decide | omega) ?_))) rfl ?_
      | refine S_len rfl (by first | assumption | rfl | (repeat (first | assumption | exact am_gs_eq (by assumption) | refine am_gs_ne (by first | assumption | decide | omega) ?_))) (by decide) ?_
      | refine S_rI rfl ?_ ?_ ?_
      | refine S_retQ rfl rfl rfl ?_ ?_)
  )
  all_goals first | exact v0 | exact v6 | exact am_nw0 _ | with_reducible rfl | (refine am_ii ?_; rw [if_pos (by assumption)]; exact congrArg (I _) c0) | (refine am_ii ?_; rw [if_neg (by assumption)]; exact congrArg (I _) c6)
end AMN

