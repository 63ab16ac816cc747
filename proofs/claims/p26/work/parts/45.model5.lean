/-! The reference's methods on the law's heap: what is asked of rods and in all. -/
section AMQ
variable {sc : Nat × (Nat → Int32)} {d : Nat} {I : hI} {J : hJ} {R : hR} {T : am_H} {h h' : am_H} {code : List am_I} {r : Option Value}
theorem S_tsO {pc len : Nat} {dd lo hi : Int} {offs : Array Int} {rs : List Nat} {cv : Value} {l : am_L} {st : List Value} {x : Int32} (ha : am_at code pc = some (pc, .tableswitch dd lo hi offs, len, rs, cv)) (hx : x.toInt < lo ∨ hi < x.toInt) (k : am_S sc d code (am_t rs, l, st) h r h') : am_S sc d code (pc, l, .int x :: st) h r h' := by
  refine S_go ha ?_ k
  show am_tsw lo hi rs l (.int x :: st) h = _
  unfold am_tsw
  dsimp only
  rw [if_pos hx]
theorem m_forget : am_E sc (d + 1) 222 [.ref 73] (HH I J R T) (some (.int (I 73 40))) (HH (va_up I 73 (va_up (I 73) 40 0)) J R T) := by
  refine E_of (Nat.le_of_ble_eq_true rfl) ?_
  repeat' (first
    | refine S_bd (fun c_ => ?_) (fun c_ => ?_)
    | refine S_bn (fun c_ => ?_) (fun c_ => ?_)
    | refine S_ial rfl (by first | assumption | rfl | (repeat (first | assumption | exact am_gs_eq (by assumption) | refine am_gs_ne (by first | assumption | decide | omega) ?_))) ?_ ?_
    | refine S_lal rfl (by first | assumption | rfl | (repeat (first | assumption | exact am_gs_eq (by assumption) | refine am_gs_ne (by first | assumption | decide | omega) ?_))) ?_ ?_
    | refine S_ias rfl (by first | assumption | rfl | (repeat (first | assumption | exact am_gs_eq (by assumption) | refine am_gs_ne (by first | assumption | decide | omega) ?_))) ?_ ?_
    | refine S_las rfl (by first | assumption | rfl | (repeat (first | assumption | exact am_gs_eq (by assumption) | refine am_gs_ne (by first | assumption | decide | omega) ?_))) ?_ ?_
    | refine S_1 rfl rfl ?_
    | refine S_gf rfl (by first | assumption | rfl | (repeat (first | assumption | exact am_gs_eq (by assumption) | refine am_gs_ne (by first | assumption | decide | omega) ?_))) rfl rfl ?_
    | refine S_pf rfl (by first | assumption | rfl | (repeat (first | assumption | exact am_gs_eq (by assumption) | refine am_gs_ne (by first | assumption | decide | omega) ?_))) rfl ?_
    | refine S_len rfl (by first | assumption | rfl | (repeat (first | assumption | exact am_gs_eq (by assumption) | refine am_gs_ne (by first | assumption | decide | omega) ?_))) (by decide) ?_
    | refine S_rI rfl ?_ ?_ ?_
    | refine S_retQ rfl rfl rfl ?_ ?_)
  all_goals first | exact am_nw0 _ | rfl
def M_ap (I : hI) : Nat → Int32 → Nat → Int32
  | _, s, 0 => s
  | i, s, k + 1 => M_ap I (i + 1) (s + (I 78 i + I 78 (6 + i))) k
theorem m_allPushed_l {n : Nat} (hn : I 73 0 = nI n) (h6 : n ≤ 6) : ∀ (k i : Nat) (x s : Int32), i + k = n → x = nI i → am_S sc d (am_P 209).2 (4, [(0, .ref 73), (1, .int s), (2, .int x)], []) (HH I J R T) (some (.int (M_ap I i s k))) (HH I J R T)
  | 0, i, x, s, hi, hx => by
    refine S_jump 4 rfl ?_
    refine S_bd (fun c_ => ?_) (fun c_ => absurd (show I 73 0 ≤ x by rw [hn, hx]; exact nI_le (by omega) (by omega)) c_)
    refine S_jump 1 rfl ?_
    exact S_rI rfl (am_nw0 _) rfl rfl
  | k + 1, i, x, s, hi, hx => by
    have hk : i < 6 := by omega
    have v0 : vp_in (0 + x) 14 := hx ▸ vk0 hk
    have v6 : vp_in (6 + x) 14 := hx ▸ vk6 hk
    have c0 : ((0 : Int32) + x).toNatClampNeg = i := hx ▸ cl0 hk
    have c6 : ((6 : Int32) + x).toNatClampNeg = 6 + i := hx ▸ cl6 hk
    refine S_jump 4 rfl ?_
    refine S_bd (fun c_ => absurd c_ (by rw [hn, hx]; exact nI_ge (by omega) (by omega))) (fun c_ => ?_)
    refine S_jump 6 rfl ?_
    refine S_ial rfl rfl v0 ?_
    refine S_jump 5 rfl ?_
    refine S_ial rfl rfl v6 ?_
    refine S_jump 5 rfl ?_
    show am_S sc d (am_P 209).2 (4, [(0, .ref 73), (1, .int (s + (I 78 ((0 : Int32) + x).toNatClampNeg + I 78 ((6 : Int32) + x).toNatClampNeg))), (2, .int (x + 1))], []) (HH I J R T) (some (.int (M_ap I (i + 1) (s + (I 78 i + I 78 (6 + i))) k))) (HH I J R T)
    rw [c0, c6]
    exact m_allPushed_l hn h6 k (i + 1) (x + 1) _ (by omega) (by rw [hx]; exact nI_1 i)
theorem m_allPushed {n : Nat} (hn : I 73 0 = nI n) (h6 : n ≤ 6) : am_E sc (d + 1) 209 [.ref 73] (HH I J R T) (some (.int (M_ap I 0 0 n))) (HH I J R T) := by
  refine E_of (Nat.le_of_ble_eq_true rfl) ?_
  refine S_jump 4 rfl ?_
  exact m_allPushed_l hn h6 n 0 _ _ (by omega) rfl
end AMQ

