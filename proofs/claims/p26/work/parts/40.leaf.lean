/-! The smallest methods, by contract on the small machine. -/
theorem am_gs_eq {h : am_H} {a : Nat} {x y : va_E} (hh : h[a]? = some y) : (h.set a x)[a]? = some x := by
  rw [List.getElem?_set, if_pos rfl, if_pos (List.getElem?_eq_some_iff.mp hh).1]
theorem am_gs_ne {h : am_H} {a b : Nat} {x y : va_E} (hne : a ≠ b) (hh : h[b]? = some y) : (h.set a x)[b]? = some y := by
  rw [List.getElem?_set, if_neg hne]
  exact hh
theorem am_set_id {h : am_H} {a : Nat} {x : va_E} (hh : h[a]? = some x) : h.set a x = h := by
  refine List.ext_getElem? (fun i => ?_)
  rw [List.getElem?_set]
  by_cases hi : a = i
  · subst hi
    rw [if_pos rfl, if_pos (List.getElem?_eq_some_iff.mp hh).1, hh]
  · rw [if_neg hi]
theorem am_set_set (h : am_H) (a : Nat) (x y : va_E) : (h.set a x).set a y = h.set a y := by
  refine List.ext_getElem? (fun i => ?_)
  by_cases hi : a = i
  · subst hi
    simp [List.getElem?_set]
  · simp [List.getElem?_set, hi]
theorem fi_lt (a b : Int32) : a < b ↔ a.toInt < b.toInt := Int32.lt_iff_toInt_lt
theorem fi_le (a b : Int32) : a ≤ b ↔ a.toInt ≤ b.toInt := Int32.le_iff_toInt_le
theorem fi_eq (a b : Int32) : a = b ↔ a.toInt = b.toInt := Int32.toInt_inj.symm
theorem fi_ltL (a b : Int64) : a < b ↔ a.toInt < b.toInt := Int64.lt_iff_toInt_lt
theorem fi_leL (a b : Int64) : a ≤ b ↔ a.toInt ≤ b.toInt := Int64.le_iff_toInt_le
theorem fi_eqL (a b : Int64) : a = b ↔ a.toInt = b.toInt := Int64.toInt_inj.symm
/-- what lcmp tells -/
theorem lc_lt (x y : Int64) : lg_cmp x y < 0 ↔ x < y := by
  unfold lg_cmp
  by_cases h1 : x > y
  · rw [if_pos h1]
    have : ¬ x < y := by rw [fi_ltL]; have := (fi_ltL y x).mp h1; omega
    exact ⟨fun h => absurd h (by decide), fun h => absurd h this⟩
  · rw [if_neg h1]
    by_cases h2 : x = y
    · rw [if_pos h2]
      subst h2
      exact ⟨fun h => absurd h (by decide), fun h => absurd h (by rw [fi_ltL]; omega)⟩
    · rw [if_neg h2]
      refine ⟨fun _ => ?_, fun _ => by decide⟩
      have h3 : ¬ y.toInt < x.toInt := fun z => h1 ((fi_ltL y x).mpr z)
      have h4 : ¬ x.toInt = y.toInt := fun z => h2 ((fi_eqL x y).mpr z)
      rw [fi_ltL]; omega
theorem lc_gt (x y : Int64) : 0 < lg_cmp x y ↔ y < x := by
  unfold lg_cmp
  by_cases h1 : x > y
  · rw [if_pos h1]
    exact ⟨fun _ => h1, fun _ => by decide⟩
  · rw [if_neg h1]
    refine ⟨fun h => absurd h ?_, fun h => absurd h h1⟩
    by_cases h2 : x = y
    · rw [if_pos h2]; decide
    · rw [if_neg h2]; decide
theorem lc_eq (x y : Int64) : lg_cmp x y = 0 ↔ x = y := by
  unfold lg_cmp
  by_cases h1 : x > y
  · rw [if_pos h1]
    refine ⟨fun h => absurd h (by decide), fun h => ?_⟩
    subst h
    have := (fi_ltL x x).mp h1
    omega
  · rw [if_neg h1]
    by_cases h2 : x = y
    · rw [if_pos h2]; exact ⟨fun _ => h2, fun _ => rfl⟩
    · rw [if_neg h2]; exact ⟨fun h => absurd h (by decide), fun h => absurd h h2⟩
theorem lc_ge (x y : Int64) : 0 ≤ lg_cmp x y ↔ y ≤ x := by
  have h := lc_lt x y
  rw [fi_le, fi_leL]
  rw [fi_lt, fi_ltL] at h
  have z : (0 : Int32).toInt = 0 := rfl
  omega
theorem lc_le (x y : Int64) : lg_cmp x y ≤ 0 ↔ x ≤ y := by
  have h := lc_gt x y
  rw [fi_le, fi_leL]
  rw [fi_lt, fi_ltL] at h
  have z : (0 : Int32).toInt = 0 := rfl
  omega
theorem am_ii {x y : Int32} (h : x = y) : some (Value.int x) = some (Value.int y) := by rw [h]
theorem am_ll {x y : Int64} (h : x = y) : some (Value.long x) = some (Value.long y) := by rw [h]
section AMK
variable {sc : Nat × (Nat → Int32)} {d : Nat} {code : List am_I} {h h' : am_H} {r : Option Value}
theorem S_1 {pc pc1 : Nat} {l l1 : am_L} {st st1 : List Value} {h1 : am_H} {q : am_I} (ha : am_at code pc = some q) (hd : am_do am_df sc q l st h = some (.inl ((pc1, l1, st1), h1))) (k : am_S sc d code (pc1, l1, st1) h1 r h') : am_S sc d code (pc, l, st) h r h' := S_go ha hd k
theorem S_c0 {pc : Nat} {l : am_L} {st : List Value} {q : am_I} {M : Nat} {as rest : List Value} {h1 : am_H} (ha : am_at code pc = some q) (hd : am_do am_df sc q l st h = some (.inr (.inr (M, as, rest)))) (hi : am_isC q.2.1 = true) (e : am_E sc d M as h none h1) (k : am_S sc d code (pc + 3, l, rest) h1 r h') : am_S sc d code (pc, l, st) h r h' := S_call (f := (pc, l, st)) ha hd hi e k
theorem S_c1 {pc : Nat} {l : am_L} {st : List Value} {q : am_I} {M : Nat} {as rest : List Value} {v : Value} {h1 : am_H} (ha : am_at code pc = some q) (hd : am_do am_df sc q l st h = some (.inr (.inr (M, as, rest)))) (hi : am_isC q.2.1 = true) (e : am_E sc d M as h (some v) h1) (k : am_S sc d code (pc + 3, l, v :: rest) h1 r h') : am_S sc d code (pc, l, st) h r h' := S_call (f := (pc, l, st)) ha hd hi e k
theorem S_rI {pc len : Nat} {rs : List Nat} {cv : Value} {l : am_L} {x : Int32} (ha : am_at code pc = some (pc, .ireturn, len, rs, cv)) (hn : am_nw (am_t rs) x = true) (hr : some (.int x) = r) (hh : h = h') : am_S sc d code (pc, l, [.int x]) h r h' := by
  subst hr
  subst hh
  refine S_ret ha ?_ rfl
  show am_ret (am_t rs) [.int x] = _
  unfold am_ret
  dsimp only
  rw [if_pos hn]
theorem am_nw01 {c : Prop} [Decidable c] : am_nw 2 (if c then 1 else 0) = true := by
  by_cases h : c
  · rw [if_pos h]; rfl
  · rw [if_neg h]; rfl
end AMK
section AML
variable {sc : Nat × (Nat → Int32)} {d : Nat} {code : List am_I} {h h' : am_H} {r : Option Value}
theorem S_retQ {f : am_F} {q : am_I} {r0 : Option Value} (ha : am_at code f.1 = some q) (hd : am_do am_df sc q f.2.1 f.2.2 h = some (.inr (.inl r0))) (hi : am_isR q.2.1 = true) (hr : r0 = r) (hh : h = h') : am_S sc d code f h r h' := by
  subst hr
  subst hh
  exact S_ret ha hd hi
theorem S_bd {p : Prop} [Decidable p] {t u : Nat} {l : am_L} {st : List Value} (h1 : p → am_S sc d code (t, l, st) h r h') (h2 : ¬ p → am_S sc d code (u, l, st) h r h') : am_S sc d code (bif decide p then t else u, l, st) h r h' := by
  by_cases hp : p
  · rw [decide_eq_true hp]; exact h1 hp
  · rw [decide_eq_false hp]; exact h2 hp
theorem S_bn {p : Prop} [Decidable p] {t u : Nat} {l : am_L} {st : List Value} (h1 : ¬ p → am_S sc d code (t, l, st) h r h') (h2 : p → am_S sc d code (u, l, st) h r h') : am_S sc d code (bif !decide p then t else u, l, st) h r h' := by
  by_cases hp : p
  · rw [decide_eq_true hp]; exact h2 hp
  · rw [decide_eq_false hp]; exact h1 hp
def am_rd (L : Nat) (f : Nat → Int32) (i : Int32) : Int32 := if i < 0 ∨ Int32.ofNat L ≤ i then 0 else f i.toNatClampNeg
theorem am_rd_out {L : Nat} {f : Nat → Int32} {i : Int32} (h : i < 0 ∨ Int32.ofNat L ≤ i) : am_rd L f i = 0 := if_pos h
theorem am_rd_in {L : Nat} {f : Nat → Int32} {i : Int32} (h1 : ¬ i < 0) (h2 : ¬ Int32.ofNat L ≤ i) : am_rd L f i = f i.toNatClampNeg := if_neg (fun z => z.elim h1 h2)
theorem vp_in_rd {i : Int32} {L : Nat} (hL : L < 2 ^ 31) (h1 : ¬ i < 0) (h2 : ¬ Int32.ofNat L ≤ i) : vp_in i L := by
  refine vp_in_iff.mpr ?_
  have e : (Int32.ofNat L).toInt = (L : Int) := nI_toInt hL
  rw [fi_le, e] at h2
  rw [fi_lt] at h1
  have z : (0 : Int32).toInt = 0 := rfl
  omega
/-- Rows.at -/
theorem k_at {a L : Nat} {f : Nat → Int32} {i : Int32} (hh : h[a]? = some (.inl (0, L, .inl f))) (hL : L < 2 ^ 31) : am_E sc (d + 1) 25 [.ref a, .int i] h (some (.int (am_rd L f i))) h := by
  refine E_of (Nat.le_of_ble_eq_true rfl) ?_
  repeat' (first
    | refine S_bd (fun c_ => ?_) (fun c_ => ?_)
    | refine S_bn (fun c_ => ?_) (fun c_ => ?_)
    | refine S_ial rfl (by first | assumption | rfl | (repeat (first | assumption | exact am_gs_eq (by assumption) | refine am_gs_ne (by first | assumption | decide | omega) ?_))) ?_ ?_
    | refine S_lal rfl (by first | assumption | rfl | (repeat (first | assumption | exact am_gs_eq (by assumption) | refine am_gs_ne (by first | assumption | decide | omega) ?_))) ?_ ?_
    | refine S_ias rfl (by first | assumption | rfl | (repeat (first | assumption | exact am_gs_eq (by assumption) | refine am_gs_ne (by first | assumption | decide | omega) ?_))) ?_ ?_
    | refine S_las rfl (by first | assumption | rfl | (repeat (first | assumption | exact am_gs_eq (by assumption) | refine am_gs_ne (by first | assumption | decide | omega) ?_))) ?_ ?_
    | refine S_1 rfl rfl ?_
    | refine S_gf rfl (by first | assumption | rfl | (repeat (first | assumption | exact am_gs_eq (by assumption) | refine am_gs_ne (by first | assumption | decide | omega) ?_))) rfl rfl ?_
    | refine S_pf rfl (by first | assumption | rfl | (repeat (first | assumption | exact am_gs_eq (by assumption) | refine am_gs_ne (by first | assumption | decide | omega) ?_))) rfl ?_
    | refine S_len rfl (by first | assumption | rfl | (repeat (first | assumption | exact am_gs_eq (by assumption) | refine am_gs_ne (by first | assumption | decide | omega) ?_))) (by decide) ?_
    | refine S_rI rfl ?_ ?_ ?_
    | refine S_retQ rfl rfl rfl ?_ ?_)
  all_goals first | rfl | exact vp_in_rd hL (by assumption) (by assumption) | exact am_ii (am_rd_out (Or.inl (by assumption))).symm | exact am_ii (am_rd_out (Or.inr (by assumption))).symm | exact am_ii (am_rd_in (by assumption) (by assumption)).symm
/-- Rows.put -/
def am_wr (L : Nat) (f : Nat → Int32) (i v : Int32) : Nat → Int32 := if i < 0 ∨ Int32.ofNat L ≤ i then f else upd f i.toNatClampNeg v
theorem am_wr_out {L : Nat} {f : Nat → Int32} {i v : Int32} (h : i < 0 ∨ Int32.ofNat L ≤ i) : am_wr L f i v = f := if_pos h
theorem am_wr_in {L : Nat} {f : Nat → Int32} {i v : Int32} (h1 : ¬ i < 0) (h2 : ¬ Int32.ofNat L ≤ i) : am_wr L f i v = upd f i.toNatClampNeg v := if_neg (fun z => z.elim h1 h2)
theorem k_put {a L : Nat} {f : Nat → Int32} {i v : Int32} (hh : h[a]? = some (.inl (0, L, .inl f))) (hL : L < 2 ^ 31) : am_E sc (d + 1) 26 [.ref a, .int i, .int v] h none (h.set a (.inl (0, L, .inl (am_wr L f i v)))) := by
  refine E_of (Nat.le_of_ble_eq_true rfl) ?_
  repeat' (first
    | refine S_bd (fun c_ => ?_) (fun c_ => ?_)
    | refine S_bn (fun c_ => ?_) (fun c_ => ?_)
    | refine S_ial rfl (by first | assumption | rfl | (repeat (first | assumption | exact am_gs_eq (by assumption) | refine am_gs_ne (by first | assumption | decide | omega) ?_))) ?_ ?_
    | refine S_lal rfl (by first | assumption | rfl | (repeat (first | assumption | exact am_gs_eq (by assumption) | refine am_gs_ne (by first | assumption | decide | omega) ?_))) ?_ ?_
    | refine S_ias rfl (by first | assumption | rfl | (repeat (first | assumption | exact am_gs_eq (by assumption) | refine am_gs_ne (by first | assumption | decide | omega) ?_))) ?_ ?_
    | refine S_las rfl (by first | assumption | rfl | (repeat (first | assumption | exact am_gs_eq (by assumption) | refine am_gs_ne (by first | assumption | decide | omega) ?_))) ?_ ?_
    | refine S_1 rfl rfl ?_
    | refine S_gf rfl (by first | assumption | rfl | (repeat (first | assumption | exact am_gs_eq (by assumption) | refine am_gs_ne (by first | assumption | decide | omega) ?_))) rfl rfl ?_
    | refine S_pf rfl (by first | assumption | rfl | (repeat (first | assumption | exact am_gs_eq (by assumption) | refine am_gs_ne (by first | assumption | decide | omega) ?_))) rfl ?_
    | refine S_len rfl (by first | assumption | rfl | (repeat (first | assumption | exact am_gs_eq (by assumption) | refine am_gs_ne (by first | assumption | decide | omega) ?_))) (by decide) ?_
    | refine S_rI rfl ?_ ?_ ?_
    | refine S_retQ rfl rfl rfl ?_ ?_)
  all_goals first | rfl | exact vp_in_rd hL (by assumption) (by assumption) | (rw [am_wr_out (Or.inl (by assumption)), am_set_id hh]; done) | (rw [am_wr_out (Or.inr (by assumption)), am_set_id hh]; done) | (rw [am_wr_in (by assumption) (by assumption)]; done)
/-- in(v, low, high) -/
theorem k_in {v lo hi : Int64} : am_E sc (d + 1) 145 [.long v, .long lo, .long hi] h (some (.int (if lo ≤ v ∧ v ≤ hi then 1 else 0))) h := by
  refine E_of (Nat.le_of_ble_eq_true rfl) ?_
  repeat' (first
    | refine S_bd (fun c_ => ?_) (fun c_ => ?_)
    | refine S_bn (fun c_ => ?_) (fun c_ => ?_)
    | refine S_ial rfl (by first | assumption | rfl | (repeat (first | assumption | exact am_gs_eq (by assumption) | refine am_gs_ne (by first | assumption | decide | omega) ?_))) ?_ ?_
    | refine S_lal rfl (by first | assumption | rfl | (repeat (first | assumption | exact am_gs_eq (by assumption) | refine am_gs_ne (by first | assumption | decide | omega) ?_))) ?_ ?_
    | refine S_ias rfl (by first | assumption | rfl | (repeat (first | assumption | exact am_gs_eq (by assumption) | refine am_gs_ne (by first | assumption | decide | omega) ?_))) ?_ ?_
    | refine S_las rfl (by first | assumption | rfl | (repeat (first | assumption | exact am_gs_eq (by assumption) | refine am_gs_ne (by first | assumption | decide | omega) ?_))) ?_ ?_
    | refine S_1 rfl rfl ?_
    | refine S_gf rfl (by first | assumption | rfl | (repeat (first | assumption | exact am_gs_eq (by assumption) | refine am_gs_ne (by first | assumption | decide | omega) ?_))) rfl rfl ?_
    | refine S_pf rfl (by first | assumption | rfl | (repeat (first | assumption | exact am_gs_eq (by assumption) | refine am_gs_ne (by first | assumption | decide | omega) ?_))) rfl ?_
    | refine S_len rfl (by first | assumption | rfl | (repeat (first | assumption | exact am_gs_eq (by assumption) | refine am_gs_ne (by first | assumption | decide | omega) ?_))) (by decide) ?_
    | refine S_rI rfl ?_ ?_ ?_
    | refine S_retQ rfl rfl rfl ?_ ?_)
  all_goals first | rfl | skip
  · refine am_ii (if_neg ?_).symm
    rw [lc_lt, fi_ltL] at c_
    rw [fi_leL]; omega
  · refine am_ii (if_neg ?_).symm
    rw [lc_gt, fi_ltL] at c_
    rw [fi_leL, fi_leL]; omega
  · refine am_ii (if_pos ?_).symm
    rename_i c1
    rw [lc_gt, fi_ltL] at c_
    rw [lc_lt, fi_ltL] at c1
    rw [fi_leL, fi_leL]; omega
/-- Arrays.fill -/
def am_fill (n : Nat) (f : Nat → Int32) (v : Int32) (k : Nat) : Nat → Int32 := fun j => if j < k then v else f j
theorem am_fill_s (n : Nat) (f : Nat → Int32) (v : Int32) (k : Nat) : upd (am_fill n f v k) k v = am_fill n f v (k + 1) := by
  funext j
  unfold upd am_fill
  by_cases h : j = k
  · rw [if_pos h, if_pos (by omega)]
  · rw [if_neg h]
    by_cases h2 : j < k
    · rw [if_pos h2, if_pos (by omega)]
    · rw [if_neg h2, if_neg (by omega)]
theorem k_fill_l {a n : Nat} {f : Nat → Int32} {v : Int32} (hn : n < 2 ^ 31) : ∀ (k i : Nat) (h : am_H), i + k = n → h[a]? = some (.inl (0, n, .inl (am_fill n f v i))) → am_S sc d (am_P 235).2 (5, [(0, .ref a), (1, .int v), (2, .int (nI i)), (3, .int (nI n))], []) h none (h.set a (.inl (0, n, .inl (am_fill n f v n))))
  | 0, i, h, hi, hh => by
    have e : i = n := by omega
    subst e
    refine S_jump 3 rfl ?_
    refine S_bd (fun c_ => ?_) (fun c_ => absurd (nI_le (Nat.le_refl i) hn) c_)
    refine S_retQ rfl rfl rfl rfl ?_
    exact (am_set_id hh).symm
  | k + 1, i, h, hi, hh => by
    refine S_jump 3 rfl ?_
    refine S_bd (fun c_ => absurd c_ (nI_ge (by omega) hn)) (fun c_ => ?_)
    refine S_jump 3 rfl ?_
    refine S_ias rfl hh (vp_in_nI (by omega) hn) ?_
    refine S_jump 2 rfl ?_
    have w := k_fill_l (f := f) hn k (i + 1) (h.set a (.inl (0, n, .inl (am_fill n f v (i + 1))))) (by omega) (am_gs_eq hh)
    rw [am_set_set] at w
    rw [nI_clamp (show i < 2 ^ 31 by omega), am_fill_s]
    rw [← nI_1] at w
    exact w
theorem k_fill {a n : Nat} {f : Nat → Int32} {v : Int32} (hn : n < 2 ^ 31) (hh : h[a]? = some (.inl (0, n, .inl f))) : am_E sc (d + 1) 235 [.ref a, .int v] h none (h.set a (.inl (0, n, .inl (am_fill n f v n)))) := by
  refine E_of (Nat.le_of_ble_eq_true rfl) ?_
  refine S_jump 3 rfl ?_
  refine S_len rfl hh (by decide) ?_
  refine S_jump 1 rfl ?_
  refine k_fill_l (f := f) hn n 0 h (by omega) ?_
  rw [hh]
  congr 4
end AML

