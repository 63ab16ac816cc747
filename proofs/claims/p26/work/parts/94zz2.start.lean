/-! The claim out of the law's loop. -/
section STA
variable {xs : Nat → Int32}
set_option maxRecDepth 100000 in
theorem p_all {L : Nat} (hL : L ≤ 320) : Zs (L, xs) 900 pm_237 (0, [(0, .retAddr 0)], []) [] P3e := by
  refine Z_jump 2 rfl ?_
  refine Z_c0 (h1 := (HH I_0 J_0 R_1 []).take 73) rfl rfl rfl (k_initB (d := 892)) ?_
  refine Z_jump 3 rfl ?_
  refine Z_c0 (h1 := HH I_0 J_0 R_1 []) rfl rfl rfl (k_initM (d := 892)) ?_
  refine Z_jump 3 rfl ?_
  exact lw_loop (sc := (L, xs)) hL 64 0 0 _ I_0 J_0 R_1 [] rfl (by omega) (show L < 0 + 5 * 64 + 5 by omega) LI_0 (Nat.le_refl 0) (Nat.le_refl 0) (by omega)
end STA
set_option maxRecDepth 100000 in
theorem whole_start {p : Program} {e : Env} {s : State} {m : MethodId} {below : List Frame} {meth : Method} {c : Code} (l : Launch) {b L : Nat} {xs : Nat → Int32} (hL : L ≤ 320) (C0 : lw_At p s m meth c b L xs) : W p l e room_1 s m #[Value.ref b] below meth c s.heap [] 0 0 (lw_Z below #[Value.ref b] s) (entryFrame m ([Value.ref b] : List Value).toArray 4) := by
  obtain ⟨r, h', ⟨n0, hn⟩, rfl, I, J, R, T, rfl, h1, h2⟩ := p_all (xs := xs) hL
  exact am_top l C0 (d := 900) (by omega) (hn n0 n0 (Nat.le_refl _) (Nat.le_refl _)) (by rw [HH_ln]; omega) (by rw [HH_sl]; omega)

