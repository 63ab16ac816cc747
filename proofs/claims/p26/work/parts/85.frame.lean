/-! Frame texts: what they tell, clause by clause; rods are made. -/
abbrev RD4 : Type := Nat × Nat × Nat × Nat
/-- a frame: how many rods, what they are, which parts are told to stick -/
abbrev FD : Type := Nat × (Nat → RD4) × Int32
def fPush (D : FD) (q : RD4) : FD := (D.1 + 1, va_up D.2.1 D.1 q, D.2.2)
def fBit (r p : Nat) : Int32 := 1 <<< ((2 * nI r + nI p) &&& 31)
def fStuck (tx : Nat → Nat) (c e : Nat) (D : FD) : Nat ⊕ (Nat × FD) :=
  if TN tx c (tS tx c e) 2 0 ((D.1 : Int) - 1) then
    if TN tx c (tS tx c (tE tx c (tS tx c e))) 2 0 1 then .inr (tE tx c (tS tx c (tE tx c (tS tx c e))), (D.1, D.2.1, D.2.2 ||| fBit (nv tx (tS tx c e) (tE tx c (tS tx c e))) (nv tx (tS tx c (tE tx c (tS tx c e))) (tE tx c (tS tx c (tE tx c (tS tx c e)))))))
    else .inl (tS tx c (tE tx c (tS tx c e)))
  else .inl (tS tx c e)
def fRod (tx : Nat → Nat) (c s e kd : Nat) (D : FD) : Nat ⊕ (Nat × FD) :=
  if D.1 = 6 then .inl s else
  if TN tx c (tS tx c e) 2 2 16 then
    if TN tx c (tS tx c (tE tx c (tS tx c e))) 2 1 9 then
      if kd = 0 then .inr (tE tx c (tS tx c (tE tx c (tS tx c e))), fPush D (0, nv tx (tS tx c e) (tE tx c (tS tx c e)), nv tx (tS tx c (tE tx c (tS tx c e))) (tE tx c (tS tx c (tE tx c (tS tx c e)))), 0))
      else if TN tx c (tS tx c (tE tx c (tS tx c (tE tx c (tS tx c e))))) 2 0 3 then .inr (tE tx c (tS tx c (tE tx c (tS tx c (tE tx c (tS tx c e))))), fPush D (kd, nv tx (tS tx c e) (tE tx c (tS tx c e)), nv tx (tS tx c (tE tx c (tS tx c e))) (tE tx c (tS tx c (tE tx c (tS tx c e)))), nv tx (tS tx c (tE tx c (tS tx c (tE tx c (tS tx c e))))) (tE tx c (tS tx c (tE tx c (tS tx c (tE tx c (tS tx c e))))))))
      else .inl (tS tx c (tE tx c (tS tx c (tE tx c (tS tx c e)))))
    else .inl (tS tx c (tE tx c (tS tx c e)))
  else .inl (tS tx c e)
def fClause (tx : Nat → Nat) (c s : Nat) (D : FD) : Nat ⊕ (Nat × FD) :=
  if wF tx s (tE tx c s) then .inr (tE tx c s, (0, D.2.1, 0)) else if wK tx s (tE tx c s) then fStuck tx c (tE tx c s) D
  else if wP tx s (tE tx c s) then fRod tx c s (tE tx c s) 0 D else if wV tx s (tE tx c s) then fRod tx c s (tE tx c s) 1 D
  else if wW tx s (tE tx c s) then fRod tx c s (tE tx c s) 2 D else if wH tx s (tE tx c s) then fRod tx c s (tE tx c s) 3 D else .inl s
/-- the clauses from the token at s on; n are read already -/
def fRead (tx : Nat → Nat) (c : Nat) : Nat → Nat → Nat → FD → Nat ⊕ (Nat × FD)
  | 0, _, _, _ => .inl 0
  | k + 1, n, s, D => match fClause tx c s D with
    | .inl p => .inl p
    | .inr (e, D') => if tS tx c e = c then .inr (n + 1, D') else if tx (tS tx c e) = 59 ∧ n + 1 < 12 then fRead tx c k (n + 1) (tS tx c (tE tx c (tS tx c e))) D' else .inl (tS tx c e)
/-- rods on the heap -/
def clsOf (kd : Nat) : Nat := if kd = 0 then 3 else if kd = 1 then 0 else if kd = 2 then 4 else 2
def rodC (q : RD4) : va_E := .inr (clsOf q.1, [.int (nI q.2.1), .int (nI q.2.2.1), .int (nI q.2.2.2)])
def okR (q : RD4) : Prop := q.1 ≤ 3 ∧ (2 ≤ q.2.1 ∧ q.2.1 ≤ 16) ∧ (1 ≤ q.2.2.1 ∧ q.2.2.1 ≤ 9) ∧ q.2.2.2 ≤ 3 ∧ (q.1 = 0 → q.2.2.2 = 0)
/-- a frame of the class: f = 18 (the frame) or 20 (the draft) -/
def DC (f : Nat) (D : FD) (I : hI) (R : hR) (T : am_H) : Prop := I f 1 = nI D.1 ∧ D.1 ≤ 6 ∧ I f 2 = D.2.2 ∧ ∀ k, k < D.1 → okR (D.2.1 k) ∧ ∃ a, R (f + 1) k = some (99 + a) ∧ T[a]? = some (rodC (D.2.1 k))
/-- what was made since -/
def TX (k : Nat) (T T' : am_H) : Prop := ∃ l, T' = T ++ l ∧ l.length ≤ k ∧ am_sl l ≤ 3 * k
theorem TX_0 (T : am_H) : TX 0 T T := ⟨[], (List.append_nil T).symm, Nat.le_refl 0, Nat.le_refl 0⟩
theorem TX_w {k j : Nat} {T T' : am_H} (h : TX k T T') (hj : k ≤ j) : TX j T T' := by
  obtain ⟨l, h1, h2, h3⟩ := h
  exact ⟨l, h1, by omega, by omega⟩
theorem TX_t {k j : Nat} {T T1 T2 : am_H} (h : TX k T T1) (g : TX j T1 T2) : TX (k + j) T T2 := by
  obtain ⟨l, rfl, h2, h3⟩ := h
  obtain ⟨m, rfl, g2, g3⟩ := g
  refine ⟨l ++ m, List.append_assoc T l m, by rw [List.length_append]; omega, ?_⟩
  unfold am_sl at *
  rw [List.map_append, List.sum_append]
  omega
theorem TX_g {k a : Nat} {T T' : am_H} {x : va_E} (h : TX k T T') (hx : T[a]? = some x) : T'[a]? = some x := by
  obtain ⟨l, rfl, h2, h3⟩ := h
  rw [List.getElem?_append_left (List.getElem?_eq_some_iff.mp hx).1]
  exact hx
theorem DC_T {f k : Nat} {D : FD} {I : hI} {R : hR} {T T' : am_H} (h : DC f D I R T) (g : TX k T T') : DC f D I R T' :=
  ⟨h.1, h.2.1, h.2.2.1, fun k hk => by
    obtain ⟨h1, a, h2, h3⟩ := h.2.2.2 k hk
    exact ⟨h1, a, h2, TX_g g h3⟩⟩
theorem DC_of {f : Nat} {D : FD} {I I' : hI} {R R' : hR} {T : am_H} (h : DC f D I R T) (h1 : I' f = I f) (h2 : R' (f + 1) = R (f + 1)) : DC f D I' R' T :=
  ⟨by rw [h1]; exact h.1, h.2.1, by rw [h1]; exact h.2.2.1, fun k hk => by rw [h2]; exact h.2.2.2 k hk⟩
section FRM
variable {sc : Nat × (Nat → Int32)} {d : Nat} {I : hI} {J : hJ} {R : hR} {T : am_H} {h : am_H} {Q : Option Value → am_H → Prop} {tx : Nat → Nat} {c : Nat} {code : List am_I}
theorem Z_pf {pc a ci idx len : Nat} {rs : List Nat} {cv : Value} {l : am_L} {st fs : List Value} {v : Value} (ha : am_at code pc = some (pc, .putfield idx, len, rs, cv)) (hh : h[a]? = some (.inr (ci, fs))) (hc : ((rs.drop 2).contains ci && (am_fit (am_t (rs.drop 1)) v && decide (am_t rs < fs.length))) = true) (k : Zs sc d code (pc + 3, l, st) (h.set a (.inr (ci, fs.set (am_t rs) v))) Q) : Zs sc d code (pc, l, v :: .ref a :: st) h Q := Z_lift (fun _ _ => S_pf ha hh hc) k
/-- Rod's own constructor -/
theorem k_rInit {a ci : Nat} {b l g x y z : Int32} (hh : h[a]? = some (.inr (ci, [.int x, .int y, .int z]))) (hci : ci = 0 ∨ ci = 2 ∨ ci = 3 ∨ ci = 4) : am_E sc (d + 1) 18 [.ref a, .int b, .int l, .int g] h none (h.set a (.inr (ci, [.int b, .int l, .int g]))) := by
  refine E_Z (Ze_of (Nat.le_of_ble_eq_true rfl) ?_)
  refine Z_jump 4 rfl ?_
  refine Z_pf (fs := [.int x, .int y, .int z]) rfl hh (by rcases hci with rfl | rfl | rfl | rfl <;> rfl) ?_
  refine Z_jump 2 rfl ?_
  refine Z_pf (fs := [.int b, .int y, .int z]) rfl (am_gs_eq hh) (by rcases hci with rfl | rfl | rfl | rfl <;> rfl) ?_
  rw [am_set_set]
  refine Z_jump 2 rfl ?_
  refine Z_pf (fs := [.int b, .int l, .int z]) rfl (am_gs_eq hh) (by rcases hci with rfl | rfl | rfl | rfl <;> rfl) ?_
  rw [am_set_set]
  refine Z_ret rfl rfl rfl ⟨rfl, rfl⟩
theorem k_fiveInit {a ci : Nat} {b l g x y z : Int32} (hh : h[a]? = some (.inr (ci, [.int x, .int y, .int z]))) (hci : ci = 0 ∨ ci = 2 ∨ ci = 3 ∨ ci = 4) : am_E sc (d + 2) 0 [.ref a, .int b, .int l, .int g] h none (h.set a (.inr (ci, [.int b, .int l, .int g]))) := by
  refine E_Z (Ze_of (Nat.le_of_ble_eq_true rfl) ?_)
  refine Z_jump 4 rfl ?_
  refine Z_c0 rfl rfl rfl (k_rInit hh hci) ?_
  exact Z_ret rfl rfl rfl ⟨rfl, rfl⟩
theorem k_slowInit {a ci : Nat} {b l g x y z : Int32} (hh : h[a]? = some (.inr (ci, [.int x, .int y, .int z]))) (hci : ci = 0 ∨ ci = 2 ∨ ci = 3 ∨ ci = 4) : am_E sc (d + 3) 27 [.ref a, .int b, .int l, .int g] h none (h.set a (.inr (ci, [.int b, .int l, .int g]))) := by
  refine E_Z (Ze_of (Nat.le_of_ble_eq_true rfl) ?_)
  refine Z_jump 4 rfl ?_
  refine Z_c0 rfl rfl rfl (k_fiveInit hh hci) ?_
  exact Z_ret rfl rfl rfl ⟨rfl, rfl⟩
theorem k_heirInit {a ci : Nat} {b l g x y z : Int32} (hh : h[a]? = some (.inr (ci, [.int x, .int y, .int z]))) (hci : ci = 0 ∨ ci = 2 ∨ ci = 3 ∨ ci = 4) : am_E sc (d + 3) 11 [.ref a, .int b, .int l, .int g] h none (h.set a (.inr (ci, [.int b, .int l, .int g]))) := by
  refine E_Z (Ze_of (Nat.le_of_ble_eq_true rfl) ?_)
  refine Z_jump 4 rfl ?_
  refine Z_c0 rfl rfl rfl (k_fiveInit hh hci) ?_
  exact Z_ret rfl rfl rfl ⟨rfl, rfl⟩
theorem k_plainInit {a ci : Nat} {b l x y z : Int32} (hh : h[a]? = some (.inr (ci, [.int x, .int y, .int z]))) (hci : ci = 0 ∨ ci = 2 ∨ ci = 3 ∨ ci = 4) : am_E sc (d + 2) 15 [.ref a, .int b, .int l] h none (h.set a (.inr (ci, [.int b, .int l, .int 0]))) := by
  refine E_Z (Ze_of (Nat.le_of_ble_eq_true rfl) ?_)
  refine Z_jump 4 rfl ?_
  refine Z_c0 rfl rfl rfl (k_rInit hh hci) ?_
  exact Z_ret rfl rfl rfl ⟨rfl, rfl⟩
theorem app_at (h : am_H) (x : va_E) : (h ++ [x])[h.length]? = some x := by
  rw [List.getElem?_append_right (Nat.le_refl _), Nat.sub_self]
  rfl
theorem app_set (h : am_H) (x y : va_E) : (h ++ [x]).set h.length y = h ++ [y] := by
  rw [List.set_append_right _ _ (Nat.le_refl _), Nat.sub_self]
  rfl
theorem HH_at {I : hI} {J : hJ} {R : hR} {T : am_H} {x : va_E} (a : Nat) (h : T[a]? = some x) : (HH I J R T)[99 + a]? = some x := by
  rw [Nat.add_comm]
  exact h
theorem HH_app (I : hI) (J : hJ) (R : hR) (T : am_H) (x : va_E) : HH I J R T ++ [x] = HH I J R (T ++ [x]) := rfl
theorem c_make1 {b l g : Int32} : am_E sc (d + 4) 10 [.int 1, .int b, .int l, .int g] (HH I J R T) (some (.ref (99 + T.length))) (HH I J R (T ++ [.inr (0, [.int b, .int l, .int g])])) := by
  refine E_Z ?_
  rw [← HH_ln I J R T, ← HH_app]
  generalize HH I J R T = h
  refine Ze_of (Nat.le_of_ble_eq_true rfl) ?_
  refine Z_jump 7 rfl ?_
  refine Z_c0 rfl rfl rfl (k_fiveInit (a := h.length) (ci := 0) (x := 0) (y := 0) (z := 0) (app_at h _) (by decide)) ?_
  rw [app_set]
  exact Z_ret rfl rfl rfl ⟨rfl, rfl⟩
theorem c_make2 {b l g : Int32} : am_E sc (d + 4) 10 [.int 2, .int b, .int l, .int g] (HH I J R T) (some (.ref (99 + T.length))) (HH I J R (T ++ [.inr (4, [.int b, .int l, .int g])])) := by
  refine E_Z ?_
  rw [← HH_ln I J R T, ← HH_app]
  generalize HH I J R T = h
  refine Ze_of (Nat.le_of_ble_eq_true rfl) ?_
  refine Z_jump 7 rfl ?_
  refine Z_c0 rfl rfl rfl (k_slowInit (a := h.length) (ci := 4) (x := 0) (y := 0) (z := 0) (app_at h _) (by decide)) ?_
  rw [app_set]
  exact Z_ret rfl rfl rfl ⟨rfl, rfl⟩
theorem c_make3 {b l g : Int32} : am_E sc (d + 4) 10 [.int 3, .int b, .int l, .int g] (HH I J R T) (some (.ref (99 + T.length))) (HH I J R (T ++ [.inr (2, [.int b, .int l, .int g])])) := by
  refine E_Z ?_
  rw [← HH_ln I J R T, ← HH_app]
  generalize HH I J R T = h
  refine Ze_of (Nat.le_of_ble_eq_true rfl) ?_
  refine Z_jump 7 rfl ?_
  refine Z_c0 rfl rfl rfl (k_heirInit (a := h.length) (ci := 2) (x := 0) (y := 0) (z := 0) (app_at h _) (by decide)) ?_
  rw [app_set]
  exact Z_ret rfl rfl rfl ⟨rfl, rfl⟩
theorem c_make0 {b l g : Int32} : am_E sc (d + 4) 10 [.int 0, .int b, .int l, .int g] (HH I J R T) (some (.ref (99 + T.length))) (HH I J R (T ++ [.inr (3, [.int b, .int l, .int 0])])) := by
  refine E_Z ?_
  rw [← HH_ln I J R T, ← HH_app]
  generalize HH I J R T = h
  refine Ze_of (Nat.le_of_ble_eq_true rfl) ?_
  refine Z_jump 6 rfl ?_
  refine Z_c0 rfl rfl rfl (k_plainInit (a := h.length) (ci := 3) (x := 0) (y := 0) (z := 0) (app_at h _) (by decide)) ?_
  rw [app_set]
  exact Z_ret rfl rfl rfl ⟨rfl, rfl⟩
end FRM

