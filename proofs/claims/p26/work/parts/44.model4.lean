/-! The reference's methods on the law's heap: letters, the number, all that is pushed. -/
theorem i64 (x : Int32) : x.toInt64.toInt = x.toInt := Int32.toInt_toInt64 x
theorem nIm1 {n : Nat} (h : n ≤ 6) : (nI n - 1).toInt = (n : Int) - 1 := by
  rcases (show n = 0 ∨ n = 1 ∨ n = 2 ∨ n = 3 ∨ n = 4 ∨ n = 5 ∨ n = 6 by omega) with rfl | rfl | rfl | rfl | rfl | rfl | rfl <;> rfl
theorem xm1 (x : Int32) : x + Int32.ofInt (-1) = x - 1 := by
  rw [Int32.sub_eq_add_neg]
  rfl
abbrev M_rod (n : Nat) (r : Int32) : Prop := 0 ≤ r.toInt ∧ r.toInt < n
abbrev M_let (v : Int32) : Prop := 0 ≤ v.toInt ∧ v.toInt ≤ 255
section AMP
variable {sc : Nat × (Nat → Int32)} {d : Nat} {I : hI} {J : hJ} {R : hR} {T : am_H} {h : am_H}
theorem m_isRodN {r : Int32} {n : Nat} (hn : I 73 0 = nI n) (h6 : n ≤ 6) : am_E sc (d + 2) 149 [.ref 73, .int r] (HH I J R T) (some (.int (if M_rod n r then 1 else 0))) (HH I J R T) := by
  have w := m_isRod (sc := sc) (d := d) (I := I) (J := J) (R := R) (T := T) (r := r)
  have e : ((0 : Int64) ≤ r.toInt64 ∧ r.toInt64 ≤ (I 73 0 - 1).toInt64) ↔ M_rod n r := by
    rw [hn, fi_leL, fi_leL, i64, i64, nIm1 h6]
    have z : (0 : Int64).toInt = 0 := rfl
    rw [z]
    omega
  simp only [e] at w
  exact w
theorem m_inI {v : Int32} {lo hi : Int64} {a b : Int} (ha : lo.toInt = a) (hb : hi.toInt = b) : am_E sc (d + 1) 145 [.long v.toInt64, .long lo, .long hi] h (some (.int (if a ≤ v.toInt ∧ v.toInt ≤ b then 1 else 0))) h := by
  have w := k_in (sc := sc) (d := d) (h := h) (v := v.toInt64) (lo := lo) (hi := hi)
  have e : (lo ≤ v.toInt64 ∧ v.toInt64 ≤ hi) ↔ (a ≤ v.toInt ∧ v.toInt ≤ b) := by
    rw [fi_leL, fi_leL, i64, ha, hb]
  simp only [e] at w
  exact w
theorem m_isSmall {c : Int32} : am_E sc (d + 2) 177 [.int c] h (some (.int (if 97 ≤ c.toInt ∧ c.toInt ≤ 122 then 1 else 0))) h := by
  refine E_of (Nat.le_of_ble_eq_true rfl) ?_
  repeat' (first
    | refine S_bd (fun c_ => ?_) (fun c_ => ?_)
    | refine S_bn (fun c_ => ?_) (fun c_ => ?_)
    | refine S_ial rfl (by first | assumption | rfl | (repeat (first | assumption | exact am_gs_eq (by assumption) | refine am_gs_ne (by first | assumption | decide | omega) ?_))) ?_ ?_
    | refine S_lal rfl (by first | assumption | rfl | (repeat (first | assumption | exact am_gs_eq (by assumption) | refine am_gs_ne (by first | assumption | decide | omega) ?_))) ?_ ?_
    | refine S_ias rfl (by first | assumption | rfl | (repeat (first | assumption | exact am_gs_eq (by assumption) | refine am_gs_ne (by first | assumption | decide | omega) ?_))) ?_ ?_
    | refine S_las rfl (by first | assumption | rfl | (repeat (first | assumption | exact am_gs_eq (by assumption) | refine am_gs_ne (by first | assumption | decide | omega) ?_))) ?_ ?_
    | refine S_1 rfl rfl ?_
    | refine S_c1 rfl rfl rfl (m_inI (a := 97) (b := 122) rfl rfl) ?_
    | refine S_c0 rfl rfl rfl (m_inI (a := 97) (b := 122) rfl rfl) ?_
    | refine S_gf rfl (by first | assumption | rfl | (repeat (first | assumption | exact am_gs_eq (by assumption) | refine am_gs_ne (by first | assumption | decide | omega) ?_))) rfl rfl ?_
    | refine S_pf rfl (by first | assumption | rfl | (repeat (first | assumption | exact am_gs_eq (by assumption) | refine am_gs_ne (by first | assumption | decide | omega) ?_))) rfl ?_
    | refine S_len rfl (by first | assumption | rfl | (repeat (first | assumption | exact am_gs_eq (by assumption) | refine am_gs_ne (by first | assumption | decide | omega) ?_))) (by decide) ?_
    | refine S_rI rfl ?_ ?_ ?_
    | refine S_retQ rfl rfl rfl ?_ ?_)
  all_goals first | exact am_nw01 | with_reducible rfl
theorem m_isFigure {c : Int32} : am_E sc (d + 2) 178 [.int c] h (some (.int (if 48 ≤ c.toInt ∧ c.toInt ≤ 57 then 1 else 0))) h := by
  refine E_of (Nat.le_of_ble_eq_true rfl) ?_
  repeat' (first
    | refine S_bd (fun c_ => ?_) (fun c_ => ?_)
    | refine S_bn (fun c_ => ?_) (fun c_ => ?_)
    | refine S_ial rfl (by first | assumption | rfl | (repeat (first | assumption | exact am_gs_eq (by assumption) | refine am_gs_ne (by first | assumption | decide | omega) ?_))) ?_ ?_
    | refine S_lal rfl (by first | assumption | rfl | (repeat (first | assumption | exact am_gs_eq (by assumption) | refine am_gs_ne (by first | assumption | decide | omega) ?_))) ?_ ?_
    | refine S_ias rfl (by first | assumption | rfl | (repeat (first | assumption | exact am_gs_eq (by assumption) | refine am_gs_ne (by first | assumption | decide | omega) ?_))) ?_ ?_
    | refine S_las rfl (by first | assumption | rfl | (repeat (first | assumption | exact am_gs_eq (by assumption) | refine am_gs_ne (by first | assumption | decide | omega) ?_))) ?_ ?_
    | refine S_1 rfl rfl ?_
    | refine S_c1 rfl rfl rfl (m_inI (a := 48) (b := 57) rfl rfl) ?_
    | refine S_c0 rfl rfl rfl (m_inI (a := 48) (b := 57) rfl rfl) ?_
    | refine S_gf rfl (by first | assumption | rfl | (repeat (first | assumption | exact am_gs_eq (by assumption) | refine am_gs_ne (by first | assumption | decide | omega) ?_))) rfl rfl ?_
    | refine S_pf rfl (by first | assumption | rfl | (repeat (first | assumption | exact am_gs_eq (by assumption) | refine am_gs_ne (by first | assumption | decide | omega) ?_))) rfl ?_
    | refine S_len rfl (by first | assumption | rfl | (repeat (first | assumption | exact am_gs_eq (by assumption) | refine am_gs_ne (by first | assumption | decide | omega) ?_))) (by decide) ?_
    | refine S_rI rfl ?_ ?_ ?_
    | refine S_retQ rfl rfl rfl ?_ ?_)
  all_goals first | exact am_nw01 | with_reducible rfl
theorem m_isNumber {c : Int32} : am_E sc (d + 2) 204 [.int c] h (some (.int (if 0 ≤ c.toInt ∧ c.toInt ≤ 1000000000 then 1 else 0))) h := by
  refine E_of (Nat.le_of_ble_eq_true rfl) ?_
  repeat' (first
    | refine S_bd (fun c_ => ?_) (fun c_ => ?_)
    | refine S_bn (fun c_ => ?_) (fun c_ => ?_)
    | refine S_ial rfl (by first | assumption | rfl | (repeat (first | assumption | exact am_gs_eq (by assumption) | refine am_gs_ne (by first | assumption | decide | omega) ?_))) ?_ ?_
    | refine S_lal rfl (by first | assumption | rfl | (repeat (first | assumption | exact am_gs_eq (by assumption) | refine am_gs_ne (by first | assumption | decide | omega) ?_))) ?_ ?_
    | refine S_ias rfl (by first | assumption | rfl | (repeat (first | assumption | exact am_gs_eq (by assumption) | refine am_gs_ne (by first | assumption | decide | omega) ?_))) ?_ ?_
    | refine S_las rfl (by first | assumption | rfl | (repeat (first | assumption | exact am_gs_eq (by assumption) | refine am_gs_ne (by first | assumption | decide | omega) ?_))) ?_ ?_
    | refine S_1 rfl rfl ?_
    | refine S_c1 rfl rfl rfl (m_inI (a := 0) (b := 1000000000) rfl rfl) ?_
    | refine S_c0 rfl rfl rfl (m_inI (a := 0) (b := 1000000000) rfl rfl) ?_
    | refine S_gf rfl (by first | assumption | rfl | (repeat (first | assumption | exact am_gs_eq (by assumption) | refine am_gs_ne (by first | assumption | decide | omega) ?_))) rfl rfl ?_
    | refine S_pf rfl (by first | assumption | rfl | (repeat (first | assumption | exact am_gs_eq (by assumption) | refine am_gs_ne (by first | assumption | decide | omega) ?_))) rfl ?_
    | refine S_len rfl (by first | assumption | rfl | (repeat (first | assumption | exact am_gs_eq (by assumption) | refine am_gs_ne (by first | assumption | decide | omega) ?_))) (by decide) ?_
    | refine S_rI rfl ?_ ?_ ?_
    | refine S_retQ rfl rfl rfl ?_ ?_)
  all_goals first | exact am_nw01 | with_reducible rfl
theorem m_isPart {r p : Int32} {n : Nat} (hn : I 73 0 = nI n) (h6 : n ≤ 6) : am_E sc (d + 3) 201 [.ref 73, .int r, .int p] (HH I J R T) (some (.int (if M_rod n r ∧ (0 ≤ p.toInt ∧ p.toInt ≤ 1) then 1 else 0))) (HH I J R T) := by
  refine E_of (Nat.le_of_ble_eq_true rfl) ?_
  repeat' (first
    | refine S_bd (fun c_ => ?_) (fun c_ => ?_)
    | refine S_bn (fun c_ => ?_) (fun c_ => ?_)
    | refine S_ial rfl (by first | assumption | rfl | (repeat (first | assumption | exact am_gs_eq (by assumption) | refine am_gs_ne (by first | assumption | decide | omega) ?_))) ?_ ?_
    | refine S_lal rfl (by first | assumption | rfl | (repeat (first | assumption | exact am_gs_eq (by assumption) | refine am_gs_ne (by first | assumption | decide | omega) ?_))) ?_ ?_
    | refine S_ias rfl (by first | assumption | rfl | (repeat (first | assumption | exact am_gs_eq (by assumption) | refine am_gs_ne (by first | assumption | decide | omega) ?_))) ?_ ?_
    | refine S_las rfl (by first | assumption | rfl | (repeat (first | assumption | exact am_gs_eq (by assumption) | refine am_gs_ne (by first | assumption | decide | omega) ?_))) ?_ ?_
    | refine S_1 rfl rfl ?_
    | refine S_c1 rfl rfl rfl (m_isRodN hn h6) ?_
    | refine S_c0 rfl rfl rfl (m_isRodN hn h6) ?_
    | refine S_c1 rfl rfl rfl (m_inI (a := 0) (b := 1) rfl rfl) ?_
    | refine S_c0 rfl rfl rfl (m_inI (a := 0) (b := 1) rfl rfl) ?_
    | refine S_gf rfl (by first | assumption | rfl | (repeat (first | assumption | exact am_gs_eq (by assumption) | refine am_gs_ne (by first | assumption | decide | omega) ?_))) rfl rfl ?_
    | refine S_pf rfl (by first | assumption | rfl | (repeat (first | assumption | exact am_gs_eq (by assumption) | refine am_gs_ne (by first | assumption | decide | omega) ?_))) rfl ?_
    | refine S_len rfl (by first | assumption | rfl | (repeat (first | assumption | exact am_gs_eq (by assumption) | refine am_gs_ne (by first | assumption | decide | omega) ?_))) (by decide) ?_
    | refine S_rI rfl ?_ ?_ ?_
    | refine S_retQ rfl rfl rfl ?_ ?_)
  all_goals first | with_reducible rfl | (show am_nw 2 _ = true; rfl) | skip
  all_goals (refine am_ii ?_; simp only [if10, M_rod, Classical.not_not] at *; first | (rw [if_pos (by omega)]; rfl) | (rw [if_neg (by omega)]; rfl))
theorem m_letterAt {i : Int32} {c j : Nat} (hc : I 73 12 = nI c) (h160 : c ≤ 160) (hi : i = nI j) (hj : j < 2 ^ 30) : am_E sc (d + 1) 176 [.ref 73, .int i] (HH I J R T) (some (.int (if j < c then I 84 j else -1))) (HH I J R T) := by
  refine E_of (Nat.le_of_ble_eq_true rfl) ?_
  have e : I 73 12 ≤ i ↔ c ≤ j := by rw [hc, hi]; exact nI_leI (by omega) (by omega)
  have cj : i.toNatClampNeg = j := by rw [hi]; exact nI_clamp (by omega)
  repeat' (first
    | refine S_bd (fun c_ => ?_) (fun c_ => ?_)
    | refine S_bn (fun c_ => ?_) (fun c_ => ?_)
    | refine S_ial rfl (by first | assumption | rfl | (repeat (first | assumption | exact am_gs_eq (by assumption) | refine am_gs_ne (by first | assumption | decide | omega) ?_))) ?_ ?_
    | refine S_lal rfl (by first | assumption | rfl | (repeat (first | assumption | exact am_gs_eq (by assumption) | refine am_gs_ne (by first | assumption | decide | omega) ?_))) ?_ ?_
    | refine S_ias rfl (by first | assumption | rfl | (repeat (first | assumption | exact am_gs_eq (by assumption) | refine am_gs_ne (by first | assumption | decide | omega) ?_))) ?_ ?_
    | refine S_las rfl (by first | assumption | rfl | (repeat (first | assumption | exact am_gs_eq (by assumption) | refine am_gs_ne (by first | assumption | decide | omega) ?_))) ?_ ?_
    | refine S_1 rfl rfl ?_
    | refine S_gf rfl (by first | assumption | rfl | (repeat (first | assumption | exact am_gs_eq (by assumption) | refine am_gs_ne (by first | assumption | decide | omega) ?_))) rfl rfl ?_
    | refine S_pf rfl (by first | assumption | rfl | (repeat (first | assumption | exact am_gs_eq (by assumption) | refine am_gs_ne (by first | assumption | decide | omega) ?_))) rfl ?_
    | refine S_len rfl (by first | assumption | rfl | (repeat (first | assumption | exact am_gs_eq (by assumption) | refine am_gs_ne (by first | assumption | decide | omega) ?_))) (by decide) ?_
    | refine S_rI rfl ?_ ?_ ?_
    | refine S_retQ rfl rfl rfl ?_ ?_)
  all_goals first | exact am_nw0 _ | with_reducible rfl | skip
  · refine am_ii ?_
    have h2 := e.mp c_
    rw [if_neg (by omega)]
    rfl
  · rw [hi]
    have h2 : ¬ c ≤ j := fun z => c_ (e.mpr z)
    exact vp_in_nI (by omega) (by omega)
  · refine am_ii ?_
    have h2 : ¬ c ≤ j := fun z => c_ (e.mpr z)
    rw [if_pos (by omega), cj]
theorem m_write {v : Int32} {c : Nat} (hc : I 73 12 = nI c) (h160 : c ≤ 160) : am_E sc (d + 2) 174 [.ref 73, .int v] (HH I J R T) (some (.int (if M_let v then (if c = 160 then -5 else nI (c + 1)) else -3))) (HH (if M_let v ∧ c ≠ 160 then va_up (va_up I 84 (upd (I 84) c v)) 73 (va_up (I 73) 12 (nI (c + 1))) else I) J R T) := by
  refine E_of (Nat.le_of_ble_eq_true rfl) ?_
  have e : I 73 12 = 160 ↔ c = 160 := by rw [hc]; exact nI_eq (b := 160) (by omega) (by omega)
  have cj : (I 73 12).toNatClampNeg = c := by rw [hc]; exact nI_clamp (by omega)
  have e2 : nI (c + 1) = I 73 12 + 1 := by rw [hc]; exact (nI_1 c).symm
  repeat' (first
    | refine S_bd (fun c_ => ?_) (fun c_ => ?_)
    | refine S_bn (fun c_ => ?_) (fun c_ => ?_)
    | refine S_ial rfl (by first | assumption | rfl | (repeat (first | assumption | exact am_gs_eq (by assumption) | refine am_gs_ne (by first | assumption | decide | omega) ?_))) ?_ ?_
    | refine S_lal rfl (by first | assumption | rfl | (repeat (first | assumption | exact am_gs_eq (by assumption) | refine am_gs_ne (by first | assumption | decide | omega) ?_))) ?_ ?_
    | refine S_ias rfl (by first | assumption | rfl | (repeat (first | assumption | exact am_gs_eq (by assumption) | refine am_gs_ne (by first | assumption | decide | omega) ?_))) ?_ ?_
    | refine S_las rfl (by first | assumption | rfl | (repeat (first | assumption | exact am_gs_eq (by assumption) | refine am_gs_ne (by first | assumption | decide | omega) ?_))) ?_ ?_
    | refine S_1 rfl rfl ?_
    | refine S_c1 rfl rfl rfl (m_inI (a := 0) (b := 255) rfl rfl) ?_
    | refine S_c0 rfl rfl rfl (m_inI (a := 0) (b := 255) rfl rfl) ?_
    | refine S_gf rfl (by first | assumption | rfl | (repeat (first | assumption | exact am_gs_eq (by assumption) | refine am_gs_ne (by first | assumption | decide | omega) ?_))) rfl rfl ?_
    | refine S_pf rfl (by first | assumption | rfl | (repeat (first | assumption | exact am_gs_eq (by assumption) | refine am_gs_ne (by first | assumption | decide | omega) ?_))) rfl ?_
    | refine S_len rfl (by first | assumption | rfl | (repeat (first | assumption | exact am_gs_eq (by assumption) | refine am_gs_ne (by first | assumption | decide | omega) ?_))) (by decide) ?_
    | refine S_rI rfl ?_ ?_ ?_
    | refine S_retQ rfl rfl rfl ?_ ?_)
  all_goals first | exact am_nw0 _ | with_reducible rfl | skip
  · have h2 : ¬ c = 160 := fun z => c_ (e.mpr z)
    rw [hc]
    exact vp_in_nI (by omega) (by omega)
  · rename_i c1
    have h2 : ¬ c = 160 := fun z => c_ (e.mpr z)
    have h1 : M_let v := Classical.not_not.mp (fun z => c1 (if10.mpr z))
    refine am_ii ?_
    rw [if_pos h1, if_neg h2, e2]
    rfl
  · rename_i c1
    have h2 : ¬ c = 160 := fun z => c_ (e.mpr z)
    have h1 : M_let v := Classical.not_not.mp (fun z => c1 (if10.mpr z))
    rw [if_pos ⟨h1, h2⟩, e2, ← cj]
    rfl
  · rename_i c1
    have h1 : M_let v := Classical.not_not.mp (fun z => c1 (if10.mpr z))
    refine am_ii ?_
    rw [if_pos h1, if_pos (e.mp c_)]
    rfl
  · rw [if_neg (fun z => z.2 (e.mp c_))]
  · have h1 : ¬ M_let v := if10.mp c_
    refine am_ii ?_
    rw [if_neg h1]
    rfl
  · have h1 : ¬ M_let v := if10.mp c_
    rw [if_neg (fun z => h1 z.1)]
def M_nl (I : hI) (o : Nat) : Nat → Int64 → Int64
  | 0, s => s
  | r + 1, s => M_nl I o r (s * (I 75 r).toInt64 + (M_sh I o r).toInt64)
theorem m_numberOf_l {o : Nat} (ho : o = 78 ∨ o = 79) : ∀ (r : Nat) (x : Int32) (s : Int64), r ≤ 6 → x = nI r - 1 → am_S sc (d + 3) (am_P 159).2 (10, [(0, .ref 73), (1, .ref o), (2, .long s), (4, .int x)], []) (HH I J R T) (some (.long (M_nl I o r s))) (HH I J R T)
  | 0, x, s, hr, hx => by
    refine S_jump 2 rfl ?_
    refine S_bd (fun c_ => ?_) (fun c_ => absurd (show x < 0 by rw [hx]; decide) c_)
    refine S_jump 1 rfl ?_
    exact S_retQ rfl rfl rfl rfl rfl
  | r + 1, x, s, hr, hx => by
    rw [nI_pred] at hx
    have hp : ¬ x < 0 := by rw [hx]; exact nI_pos (by omega)
    have v : vp_in x 6 := hx ▸ vk (by omega)
    have c : x.toNatClampNeg = r := hx ▸ cl (by omega)
    refine S_jump 2 rfl ?_
    refine S_bd (fun c_ => absurd c_ hp) (fun c_ => ?_)
    refine S_jump 4 rfl ?_
    refine S_ial rfl rfl v ?_
    refine S_jump 5 rfl ?_
    refine S_c1 rfl rfl rfl (m_shows ho hx (by omega)) ?_
    refine S_jump 5 rfl ?_
    rw [c]
    exact m_numberOf_l ho r (x + Int32.ofInt (-1)) (s * (I 75 r).toInt64 + (M_sh I o r).toInt64) (by omega) (by rw [xm1, hx])
theorem m_numberOf {o n : Nat} (ho : o = 78 ∨ o = 79) (hn : I 73 0 = nI n) (h6 : n ≤ 6) : am_E sc (d + 4) 159 [.ref 73, .ref o] (HH I J R T) (some (.long (M_nl I o n 0))) (HH I J R T) := by
  refine E_of (Nat.le_of_ble_eq_true rfl) ?_
  refine S_jump 7 rfl ?_
  exact m_numberOf_l ho n _ 0 h6 (by rw [← hn]; rfl)
theorem m_number {n : Nat} (hn : I 73 0 = nI n) (h6 : n ≤ 6) : am_E sc (d + 5) 160 [.ref 73] (HH I J R T) (some (.long (M_nl I 78 n 0))) (HH I J R T) := by
  refine E_of (Nat.le_of_ble_eq_true rfl) ?_
  repeat' (first
    | refine S_bd (fun c_ => ?_) (fun c_ => ?_)
    | refine S_bn (fun c_ => ?_) (fun c_ => ?_)
    | refine S_ial rfl (by first | assumption | rfl | (repeat (first | assumption | exact am_gs_eq (by assumption) | refine am_gs_ne (by first | assumption | decide | omega) ?_))) ?_ ?_
    | refine S_lal rfl (by first | assumption | rfl | (repeat (first | assumption | exact am_gs_eq (by assumption) | refine am_gs_ne (by first | assumption | decide | omega) ?_))) ?_ ?_
    | refine S_ias rfl (by first | assumption | rfl | (repeat (first | assumption | exact am_gs_eq (by assumption) | refine am_gs_ne (by first | assumption | decide | omega) ?_))) ?_ ?_
    | refine S_las rfl (by first | assumption | rfl | (repeat (first | assumption | exact am_gs_eq (by assumption) | refine am_gs_ne (by first | assumption | decide | omega) ?_))) ?_ ?_
    | refine S_1 rfl rfl ?_
    | refine S_c1 rfl rfl rfl (m_numberOf (Or.inl rfl) hn h6) ?_
    | refine S_c0 rfl rfl rfl (m_numberOf (Or.inl rfl) hn h6) ?_
    | refine S_gf rfl (by first | assumption | rfl | (repeat (first | assumption | exact am_gs_eq (by assumption) | refine am_gs_ne (by first | assumption | decide | omega) ?_))) rfl rfl ?_
    | refine S_pf rfl (by first | assumption | rfl | (repeat (first | assumption | exact am_gs_eq (by assumption) | refine am_gs_ne (by first | assumption | decide | omega) ?_))) rfl ?_
    | refine S_len rfl (by first | assumption | rfl | (repeat (first | assumption | exact am_gs_eq (by assumption) | refine am_gs_ne (by first | assumption | decide | omega) ?_))) (by decide) ?_
    | refine S_rI rfl ?_ ?_ ?_
    | refine S_retQ rfl rfl rfl ?_ ?_)
  all_goals with_reducible rfl
end AMP

