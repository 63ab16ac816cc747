/-! Both constructors, computed. -/
def R_1 : hR := (sr (sr (sr (sr (sr (sr (sr (sr (sr (sr (sr (sr (sr (fun _ _ => none) 28 0 (some 29)) 28 1 (some 32)) 28 2 (some 35)) 38 0 (some 39)) 38 1 (some 42)) 38 2 (some 45)) 38 3 (some 48)) 38 4 (some 51)) 38 5 (some 54)) 38 6 (some 57)) 38 7 (some 60)) 63 0 (some 64)) 63 1 (some 67))
set_option maxRecDepth 100000 in
set_option maxHeartbeats 8000000 in
theorem k_initB {sc : Nat × (Nat → Int32)} {d : Nat} : am_E sc (d + 8) 90 [.ref 0] [.inr (9, am_df 9)] none ((HH I_0 J_0 R_1 []).take 73) := E_run 200 rfl
set_option maxRecDepth 100000 in
set_option maxHeartbeats 8000000 in
theorem k_initM {sc : Nat × (Nat → Int32)} {d : Nat} : am_E sc (d + 8) 144 [.ref 73] ((HH I_0 J_0 R_1 []).take 73 ++ [.inr (10, am_df 10)]) none (HH I_0 J_0 R_1 []) := E_run 200 rfl
theorem I0_M {a k : Nat} (h : 73 ≤ a) : I_0 a k = 0 := by
  unfold I_0
  rw [if_neg (by omega), if_neg (by omega), if_neg (by omega)]

