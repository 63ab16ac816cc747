/-! THE SMALL MACHINE: what the claim's code does, as a function on lists. References are numbers of cells in the order of making; 'retAddr k' stands for what was there before (0: the script; 1 ..: the text constants; 21 ..: their bytes; 50: a static reference). -/
abbrev am_I : Type := Nat × Instr × Nat × List Nat × Value
abbrev am_L : Type := List (Nat × Value)
abbrev am_H : Type := List va_E
abbrev am_F : Type := Nat × am_L × List Value
abbrev am_O : Type := (am_F × am_H) ⊕ (Option Value) ⊕ (Nat × List Value × List Value)
def am_at (code : List am_I) (pc : Nat) : Option am_I := code.find? (fun q => q.1 == pc)
def am_lg (l : am_L) (i : Nat) : Option Value := (l.find? (fun q => q.1 == i)).map (fun q => q.2)
def am_insr (i : Nat) (v : Value) : am_L → am_L
  | [] => [(i, v)]
  | q :: r => bif Nat.blt i q.1 then (i, v) :: q :: r else q :: am_insr i v r
def am_s1 (l : am_L) (i : Nat) (v : Value) : am_L := am_insr i v (l.filter (fun q => !(q.1 == i) && !(q.1 + 1 == i && q.2.category == 2)))
def am_s2 (l : am_L) (i : Nat) (v : Value) : am_L := am_insr i v (l.filter (fun q => !(q.1 == i) && (!(q.1 == i + 1) && !(q.1 + 1 == i && q.2.category == 2))))
def am_t (rs : List Nat) : Nat := rs.headD 0
def am_fit (ty : Nat) (v : Value) : Bool := match v with
  | .int x => ty == 0 || (ty == 2 && (x == 0 || x == 1))
  | .long _ => ty == 1
  | .null => ty == 3
  | .ref _ => ty == 3
  | _ => false
def am_pop (n : Nat) (st : List Value) : Option (List Value × List Value) := if n ≤ st.length then some ((st.take n).reverse, st.drop n) else none
def am_dis : List Nat → Nat → Option Nat
  | a :: b :: r, c => if a = c then some b else am_dis r c
  | _, _ => none
def am_zero (t : Nat) : (Nat → Int32) ⊕ (Nat → Int64) ⊕ (Nat → UInt32) ⊕ (Nat → UInt64) ⊕ (Nat → Option Nat) := match t with
  | 0 => .inl (fun _ => 0)
  | 1 => .inr (.inl (fun _ => 0))
  | 2 => .inl (fun _ => 0)
  | _ => .inr (.inr (.inr (.inr (fun _ => none))))
/-- may an object of class ci lie in an array of references of kind t? -/
def am_may (t ci : Nat) : Bool := (t == 4 && ci == 5) || (t == 3 && (ci == 0 || ci == 2 || ci == 3 || ci == 4))
def am_call (M : Nat) (as r : List Value) : Option am_O := if (r.map fun v => v.category).sum ≤ 8 then some (.inr (.inr (M, as, r))) else none
def am_ldI (pc i : Nat) (l : am_L) (st : List Value) (h : am_H) : Option am_O := match am_lg l i with
  | some (.int x) => some (.inl ((pc, l, .int x :: st), h))
  | _ => none
theorem am_ldI_inv {pc i : Nat} {l : am_L} {st : List Value} {h : am_H} {o : am_O} (hd : am_ldI pc i l st h = some o) : (∃ (x : Int32), am_lg l i = some (.int x) ∧ o = .inl ((pc, l, .int x :: st), h)) := by
  unfold am_ldI at hd
  split at hd
  · exact ⟨_, by assumption, (Option.some.inj hd).symm⟩
  · cases hd
def am_ldL (pc i : Nat) (l : am_L) (st : List Value) (h : am_H) : Option am_O := match am_lg l i with
  | some (.long x) => some (.inl ((pc, l, .long x :: st), h))
  | _ => none
theorem am_ldL_inv {pc i : Nat} {l : am_L} {st : List Value} {h : am_H} {o : am_O} (hd : am_ldL pc i l st h = some o) : (∃ (x : Int64), am_lg l i = some (.long x) ∧ o = .inl ((pc, l, .long x :: st), h)) := by
  unfold am_ldL at hd
  split at hd
  · exact ⟨_, by assumption, (Option.some.inj hd).symm⟩
  · cases hd
def am_ldA (pc i : Nat) (l : am_L) (st : List Value) (h : am_H) : Option am_O := match am_lg l i with
  | some (.ref x) => some (.inl ((pc, l, .ref x :: st), h))
  | some .null => some (.inl ((pc, l, .null :: st), h))
  | some (.retAddr x) => some (.inl ((pc, l, .retAddr x :: st), h))
  | _ => none
theorem am_ldA_inv {pc i : Nat} {l : am_L} {st : List Value} {h : am_H} {o : am_O} (hd : am_ldA pc i l st h = some o) : (∃ (x : Nat), am_lg l i = some (.ref x) ∧ o = .inl ((pc, l, .ref x :: st), h)) ∨ (am_lg l i = some .null ∧ o = .inl ((pc, l, .null :: st), h)) ∨ (∃ (x : Nat), am_lg l i = some (.retAddr x) ∧ o = .inl ((pc, l, .retAddr x :: st), h)) := by
  unfold am_ldA at hd
  split at hd
  · exact Or.inl (⟨_, by assumption, (Option.some.inj hd).symm⟩)
  · exact Or.inr (Or.inl (⟨by assumption, (Option.some.inj hd).symm⟩))
  · exact Or.inr (Or.inr (⟨_, by assumption, (Option.some.inj hd).symm⟩))
  · cases hd
def am_stI (pc i : Nat) (l : am_L) (st : List Value) (h : am_H) : Option am_O := match st with
  | .int x :: r => some (.inl ((pc, am_s1 l i (.int x), r), h))
  | _ => none
theorem am_stI_inv {pc i : Nat} {l : am_L} {st : List Value} {h : am_H} {o : am_O} (hd : am_stI pc i l st h = some o) : (∃ (x : Int32), ∃ (r : List Value), st = .int x :: r ∧ o = .inl ((pc, am_s1 l i (.int x), r), h)) := by
  unfold am_stI at hd
  split at hd
  · exact ⟨_, _, rfl, (Option.some.inj hd).symm⟩
  · cases hd
def am_stL (pc i : Nat) (l : am_L) (st : List Value) (h : am_H) : Option am_O := match st with
  | .long x :: r => some (.inl ((pc, am_s2 l i (.long x), r), h))
  | _ => none
theorem am_stL_inv {pc i : Nat} {l : am_L} {st : List Value} {h : am_H} {o : am_O} (hd : am_stL pc i l st h = some o) : (∃ (x : Int64), ∃ (r : List Value), st = .long x :: r ∧ o = .inl ((pc, am_s2 l i (.long x), r), h)) := by
  unfold am_stL at hd
  split at hd
  · exact ⟨_, _, rfl, (Option.some.inj hd).symm⟩
  · cases hd
def am_stA (pc i : Nat) (l : am_L) (st : List Value) (h : am_H) : Option am_O := match st with
  | .ref x :: r => some (.inl ((pc, am_s1 l i (.ref x), r), h))
  | .null :: r => some (.inl ((pc, am_s1 l i .null, r), h))
  | .retAddr x :: r => some (.inl ((pc, am_s1 l i (.retAddr x), r), h))
  | _ => none
theorem am_stA_inv {pc i : Nat} {l : am_L} {st : List Value} {h : am_H} {o : am_O} (hd : am_stA pc i l st h = some o) : (∃ (x : Nat), ∃ (r : List Value), st = .ref x :: r ∧ o = .inl ((pc, am_s1 l i (.ref x), r), h)) ∨ (∃ (r : List Value), st = .null :: r ∧ o = .inl ((pc, am_s1 l i .null, r), h)) ∨ (∃ (x : Nat), ∃ (r : List Value), st = .retAddr x :: r ∧ o = .inl ((pc, am_s1 l i (.retAddr x), r), h)) := by
  unfold am_stA at hd
  split at hd
  · exact Or.inl (⟨_, _, rfl, (Option.some.inj hd).symm⟩)
  · exact Or.inr (Or.inl (⟨_, rfl, (Option.some.inj hd).symm⟩))
  · exact Or.inr (Or.inr (⟨_, _, rfl, (Option.some.inj hd).symm⟩))
  · cases hd
def am_inc (pc i : Nat) (n : Int) (l : am_L) (st : List Value) (h : am_H) : Option am_O := match am_lg l i with
  | some (.int x) => some (.inl ((pc + 3, am_s1 l i (.int (x + Int32.ofInt n)), st), h))
  | _ => none
theorem am_inc_inv {pc i : Nat} {n : Int} {l : am_L} {st : List Value} {h : am_H} {o : am_O} (hd : am_inc pc i n l st h = some o) : (∃ (x : Int32), am_lg l i = some (.int x) ∧ o = .inl ((pc + 3, am_s1 l i (.int (x + Int32.ofInt n)), st), h)) := by
  unfold am_inc at hd
  split at hd
  · exact ⟨_, by assumption, (Option.some.inj hd).symm⟩
  · cases hd
def am_b (f : Int32 → Int32 → Int32) (pc : Nat) (l : am_L) (st : List Value) (h : am_H) : Option am_O := match st with
  | .int y :: .int x :: r => some (.inl ((pc + 1, l, .int (f x y) :: r), h))
  | _ => none
theorem am_b_inv {f : Int32 → Int32 → Int32} {pc : Nat} {l : am_L} {st : List Value} {h : am_H} {o : am_O} (hd : am_b f pc l st h = some o) : (∃ (y : Int32), ∃ (x : Int32), ∃ (r : List Value), st = .int y :: .int x :: r ∧ o = .inl ((pc + 1, l, .int (f x y) :: r), h)) := by
  unfold am_b at hd
  split at hd
  · exact ⟨_, _, _, rfl, (Option.some.inj hd).symm⟩
  · cases hd
def am_bL (f : Int64 → Int64 → Int64) (pc : Nat) (l : am_L) (st : List Value) (h : am_H) : Option am_O := match st with
  | .long y :: .long x :: r => some (.inl ((pc + 1, l, .long (f x y) :: r), h))
  | _ => none
theorem am_bL_inv {f : Int64 → Int64 → Int64} {pc : Nat} {l : am_L} {st : List Value} {h : am_H} {o : am_O} (hd : am_bL f pc l st h = some o) : (∃ (y : Int64), ∃ (x : Int64), ∃ (r : List Value), st = .long y :: .long x :: r ∧ o = .inl ((pc + 1, l, .long (f x y) :: r), h)) := by
  unfold am_bL at hd
  split at hd
  · exact ⟨_, _, _, rfl, (Option.some.inj hd).symm⟩
  · cases hd
def am_dv (f : Int32 → Int32 → Int32) (pc : Nat) (l : am_L) (st : List Value) (h : am_H) : Option am_O := match st with
  | .int y :: .int x :: r => if y = 0 then none else some (.inl ((pc + 1, l, .int (f x y) :: r), h))
  | _ => none
theorem am_dv_inv {f : Int32 → Int32 → Int32} {pc : Nat} {l : am_L} {st : List Value} {h : am_H} {o : am_O} (hd : am_dv f pc l st h = some o) : (∃ (y : Int32), ∃ (x : Int32), ∃ (r : List Value), st = .int y :: .int x :: r ∧ ¬ (y = 0) ∧ o = .inl ((pc + 1, l, .int (f x y) :: r), h)) := by
  unfold am_dv at hd
  split at hd
  · split at hd
    · cases hd
    · rename_i hc
      exact ⟨_, _, _, rfl, hc, (Option.some.inj hd).symm⟩
  · cases hd
def am_dvL (f : Int64 → Int64 → Int64) (pc : Nat) (l : am_L) (st : List Value) (h : am_H) : Option am_O := match st with
  | .long y :: .long x :: r => if y = 0 then none else some (.inl ((pc + 1, l, .long (f x y) :: r), h))
  | _ => none
theorem am_dvL_inv {f : Int64 → Int64 → Int64} {pc : Nat} {l : am_L} {st : List Value} {h : am_H} {o : am_O} (hd : am_dvL f pc l st h = some o) : (∃ (y : Int64), ∃ (x : Int64), ∃ (r : List Value), st = .long y :: .long x :: r ∧ ¬ (y = 0) ∧ o = .inl ((pc + 1, l, .long (f x y) :: r), h)) := by
  unfold am_dvL at hd
  split at hd
  · split at hd
    · cases hd
    · rename_i hc
      exact ⟨_, _, _, rfl, hc, (Option.some.inj hd).symm⟩
  · cases hd
def am_u (f : Int32 → Value) (pc : Nat) (l : am_L) (st : List Value) (h : am_H) : Option am_O := match st with
  | .int x :: r => some (.inl ((pc + 1, l, f x :: r), h))
  | _ => none
theorem am_u_inv {f : Int32 → Value} {pc : Nat} {l : am_L} {st : List Value} {h : am_H} {o : am_O} (hd : am_u f pc l st h = some o) : (∃ (x : Int32), ∃ (r : List Value), st = .int x :: r ∧ o = .inl ((pc + 1, l, f x :: r), h)) := by
  unfold am_u at hd
  split at hd
  · exact ⟨_, _, rfl, (Option.some.inj hd).symm⟩
  · cases hd
def am_uL (f : Int64 → Value) (pc : Nat) (l : am_L) (st : List Value) (h : am_H) : Option am_O := match st with
  | .long x :: r => some (.inl ((pc + 1, l, f x :: r), h))
  | _ => none
theorem am_uL_inv {f : Int64 → Value} {pc : Nat} {l : am_L} {st : List Value} {h : am_H} {o : am_O} (hd : am_uL f pc l st h = some o) : (∃ (x : Int64), ∃ (r : List Value), st = .long x :: r ∧ o = .inl ((pc + 1, l, f x :: r), h)) := by
  unfold am_uL at hd
  split at hd
  · exact ⟨_, _, rfl, (Option.some.inj hd).symm⟩
  · cases hd
def am_cmp (pc : Nat) (l : am_L) (st : List Value) (h : am_H) : Option am_O := match st with
  | .long y :: .long x :: r => some (.inl ((pc + 1, l, .int (lg_cmp x y) :: r), h))
  | _ => none
theorem am_cmp_inv {pc : Nat} {l : am_L} {st : List Value} {h : am_H} {o : am_O} (hd : am_cmp pc l st h = some o) : (∃ (y : Int64), ∃ (x : Int64), ∃ (r : List Value), st = .long y :: .long x :: r ∧ o = .inl ((pc + 1, l, .int (lg_cmp x y) :: r), h)) := by
  unfold am_cmp at hd
  split at hd
  · exact ⟨_, _, _, rfl, (Option.some.inj hd).symm⟩
  · cases hd
def am_dup (pc : Nat) (l : am_L) (st : List Value) (h : am_H) : Option am_O := match st with
  | v :: r => if ¬ v.category = 1 then none else some (.inl ((pc + 1, l, v :: v :: r), h))
  | _ => none
theorem am_dup_inv {pc : Nat} {l : am_L} {st : List Value} {h : am_H} {o : am_O} (hd : am_dup pc l st h = some o) : (∃ (v : Value), ∃ (r : List Value), st = v :: r ∧ ¬ (¬ v.category = 1) ∧ o = .inl ((pc + 1, l, v :: v :: r), h)) := by
  unfold am_dup at hd
  split at hd
  · split at hd
    · cases hd
    · rename_i hc
      exact ⟨_, _, rfl, hc, (Option.some.inj hd).symm⟩
  · cases hd
def am_dup2 (pc : Nat) (l : am_L) (st : List Value) (h : am_H) : Option am_O := match st with
  | v :: w :: r => if ¬ (v.category = 1 ∧ w.category = 1) then none else some (.inl ((pc + 1, l, v :: w :: v :: w :: r), h))
  | _ => none
theorem am_dup2_inv {pc : Nat} {l : am_L} {st : List Value} {h : am_H} {o : am_O} (hd : am_dup2 pc l st h = some o) : (∃ (v : Value), ∃ (w : Value), ∃ (r : List Value), st = v :: w :: r ∧ ¬ (¬ (v.category = 1 ∧ w.category = 1)) ∧ o = .inl ((pc + 1, l, v :: w :: v :: w :: r), h)) := by
  unfold am_dup2 at hd
  split at hd
  · split at hd
    · cases hd
    · rename_i hc
      exact ⟨_, _, _, rfl, hc, (Option.some.inj hd).symm⟩
  · cases hd
def am_drop (pc : Nat) (l : am_L) (st : List Value) (h : am_H) : Option am_O := match st with
  | v :: r => if ¬ v.category = 1 then none else some (.inl ((pc + 1, l, r), h))
  | _ => none
theorem am_drop_inv {pc : Nat} {l : am_L} {st : List Value} {h : am_H} {o : am_O} (hd : am_drop pc l st h = some o) : (∃ (v : Value), ∃ (r : List Value), st = v :: r ∧ ¬ (¬ v.category = 1) ∧ o = .inl ((pc + 1, l, r), h)) := by
  unfold am_drop at hd
  split at hd
  · split at hd
    · cases hd
    · rename_i hc
      exact ⟨_, _, rfl, hc, (Option.some.inj hd).symm⟩
  · cases hd
def am_drop2 (pc : Nat) (l : am_L) (st : List Value) (h : am_H) : Option am_O := match st with
  | v :: r => if ¬ v.category = 2 then none else some (.inl ((pc + 1, l, r), h))
  | _ => none
theorem am_drop2_inv {pc : Nat} {l : am_L} {st : List Value} {h : am_H} {o : am_O} (hd : am_drop2 pc l st h = some o) : (∃ (v : Value), ∃ (r : List Value), st = v :: r ∧ ¬ (¬ v.category = 2) ∧ o = .inl ((pc + 1, l, r), h)) := by
  unfold am_drop2 at hd
  split at hd
  · split at hd
    · cases hd
    · rename_i hc
      exact ⟨_, _, rfl, hc, (Option.some.inj hd).symm⟩
  · cases hd
def am_null (a b : Nat) (l : am_L) (st : List Value) (h : am_H) : Option am_O := match st with
  | .null :: r => some (.inl ((a, l, r), h))
  | .ref x :: r => some (.inl ((b, l, r), h))
  | _ => none
theorem am_null_inv {a b : Nat} {l : am_L} {st : List Value} {h : am_H} {o : am_O} (hd : am_null a b l st h = some o) : (∃ (r : List Value), st = .null :: r ∧ o = .inl ((a, l, r), h)) ∨ (∃ (x : Nat), ∃ (r : List Value), st = .ref x :: r ∧ o = .inl ((b, l, r), h)) := by
  unfold am_null at hd
  split at hd
  · exact Or.inl (⟨_, rfl, (Option.some.inj hd).symm⟩)
  · exact Or.inr (⟨_, _, rfl, (Option.some.inj hd).symm⟩)
  · cases hd
/-- a jump on one number, on two -/
def am_if (P : Int32 → Bool) (pc t : Nat) (l : am_L) (st : List Value) (h : am_H) : Option am_O := match st with
  | .int x :: r => some (.inl ((bif P x then t else pc + 3, l, r), h))
  | _ => none
theorem am_if_inv {P : Int32 → Bool} {pc t : Nat} {l : am_L} {st : List Value} {h : am_H} {o : am_O} (hd : am_if P pc t l st h = some o) : ∃ (x : Int32) (r : List Value), st = .int x :: r ∧ o = .inl ((bif P x then t else pc + 3, l, r), h) := by
  unfold am_if at hd
  split at hd
  · exact ⟨_, _, rfl, (Option.some.inj hd).symm⟩
  · cases hd
def am_ic (P : Int32 → Int32 → Bool) (pc t : Nat) (l : am_L) (st : List Value) (h : am_H) : Option am_O := match st with
  | .int y :: .int x :: r => some (.inl ((bif P x y then t else pc + 3, l, r), h))
  | _ => none
theorem am_ic_inv {P : Int32 → Int32 → Bool} {pc t : Nat} {l : am_L} {st : List Value} {h : am_H} {o : am_O} (hd : am_ic P pc t l st h = some o) : ∃ (y x : Int32) (r : List Value), st = .int y :: .int x :: r ∧ o = .inl ((bif P x y then t else pc + 3, l, r), h) := by
  unfold am_ic at hd
  split at hd
  · exact ⟨_, _, _, rfl, (Option.some.inj hd).symm⟩
  · cases hd
def am_tsw (lo hi : Int) (rs : List Nat) (l : am_L) (st : List Value) (h : am_H) : Option am_O := match st with
  | .int x :: r => if x.toInt < lo ∨ hi < x.toInt then some (.inl ((am_t rs, l, r), h)) else (match rs[(x.toInt - lo).toNat + 1]? with
    | some t => some (.inl ((t, l, r), h))
    | none => none)
  | _ => none
theorem am_tsw_inv {lo hi : Int} {rs : List Nat} {l : am_L} {st : List Value} {h : am_H} {o : am_O} (hd : am_tsw lo hi rs l st h = some o) : ∃ (x : Int32) (r : List Value), st = .int x :: r ∧ (((x.toInt < lo ∨ hi < x.toInt) ∧ o = .inl ((am_t rs, l, r), h)) ∨ (¬ (x.toInt < lo ∨ hi < x.toInt) ∧ ∃ t, rs[(x.toInt - lo).toNat + 1]? = some t ∧ o = .inl ((t, l, r), h))) := by
  unfold am_tsw at hd
  split at hd
  · rename_i x r
    split at hd
    · rename_i hc
      exact ⟨_, _, rfl, Or.inl ⟨hc, (Option.some.inj hd).symm⟩⟩
    · rename_i hc
      split at hd
      · rename_i t ht
        exact ⟨_, _, rfl, Or.inr ⟨hc, t, ht, (Option.some.inj hd).symm⟩⟩
      · cases hd
  · cases hd
def am_gf (pc : Nat) (rs : List Nat) (l : am_L) (st : List Value) (h : am_H) : Option am_O := match st with
  | .ref a :: r => (match h[a]? with
    | some (.inr (ci, fs)) => if (rs.drop 1).contains ci = true then (match fs[am_t rs]? with
      | some v => some (.inl ((pc + 3, l, v :: r), h))
      | none => none) else none
    | _ => none)
  | .retAddr k :: r => if 1 ≤ k ∧ k ≤ am_tx.length then (if rs = [100] then some (.inl ((pc + 3, l, .retAddr (k + 20) :: r), h)) else if rs = [101] then some (.inl ((pc + 3, l, .int 0 :: r), h)) else none) else none
  | _ => none
theorem am_gf_inv {pc : Nat} {rs : List Nat} {l : am_L} {st : List Value} {h : am_H} {o : am_O} (hd : am_gf pc rs l st h = some o) : (∃ (a : Nat) (r : List Value) (ci : Nat) (fs : List Value) (v : Value), st = .ref a :: r ∧ h[a]? = some (.inr (ci, fs)) ∧ ci ∈ rs.drop 1 ∧ fs[am_t rs]? = some v ∧ o = .inl ((pc + 3, l, v :: r), h)) ∨ (∃ (k : Nat) (r : List Value), st = .retAddr k :: r ∧ (1 ≤ k ∧ k ≤ am_tx.length) ∧ ((rs = [100] ∧ o = .inl ((pc + 3, l, .retAddr (k + 20) :: r), h)) ∨ (rs = [101] ∧ o = .inl ((pc + 3, l, .int 0 :: r), h)))) := by
  unfold am_gf at hd
  split at hd
  · split at hd
    · rename_i hh
      split at hd
      · rename_i hc
        split at hd
        · rename_i hv
          exact Or.inl ⟨_, _, _, _, _, rfl, hh, List.contains_iff_mem.mp hc, hv, (Option.some.inj hd).symm⟩
        · cases hd
      · cases hd
    · cases hd
  · split at hd
    · rename_i hk
      split at hd
      · rename_i hr
        exact Or.inr ⟨_, _, rfl, hk, Or.inl ⟨hr, (Option.some.inj hd).symm⟩⟩
      · split at hd
        · rename_i hr
          exact Or.inr ⟨_, _, rfl, hk, Or.inr ⟨hr, (Option.some.inj hd).symm⟩⟩
        · cases hd
    · cases hd
  · cases hd
def am_pf (pc : Nat) (rs : List Nat) (l : am_L) (st : List Value) (h : am_H) : Option am_O := match st with
  | v :: .ref a :: r => (match h[a]? with
    | some (.inr (ci, fs)) => if ((rs.drop 2).contains ci && (am_fit (am_t (rs.drop 1)) v && decide (am_t rs < fs.length))) = true then some (.inl ((pc + 3, l, r), h.set a (.inr (ci, fs.set (am_t rs) v)))) else none
    | _ => none)
  | _ => none
theorem am_pf_inv {pc : Nat} {rs : List Nat} {l : am_L} {st : List Value} {h : am_H} {o : am_O} (hd : am_pf pc rs l st h = some o) : ∃ (v : Value) (a : Nat) (r : List Value) (ci : Nat) (fs : List Value), st = v :: .ref a :: r ∧ h[a]? = some (.inr (ci, fs)) ∧ ci ∈ rs.drop 2 ∧ am_fit (am_t (rs.drop 1)) v = true ∧ am_t rs < fs.length ∧ o = .inl ((pc + 3, l, r), h.set a (.inr (ci, fs.set (am_t rs) v))) := by
  unfold am_pf at hd
  split at hd
  · split at hd
    · rename_i hh
      split at hd
      · rename_i hc
        simp only [Bool.and_eq_true, decide_eq_true_eq] at hc
        exact ⟨_, _, _, _, _, rfl, hh, List.contains_iff_mem.mp hc.1, hc.2.1, hc.2.2, (Option.some.inj hd).symm⟩
      · cases hd
    · cases hd
  · cases hd
def am_lal (pc : Nat) (l : am_L) (st : List Value) (h : am_H) : Option am_O := match st with
  | .int i :: .ref a :: r => (match h[a]? with
    | some (.inl (1, n, .inr (.inl f))) => if i < 0 ∨ n ≤ i.toNatClampNeg then none else some (.inl ((pc + 1, l, .long (f i.toNatClampNeg) :: r), h))
    | _ => none)
  | _ => none
theorem am_lal_inv {pc : Nat} {l : am_L} {st : List Value} {h : am_H} {o : am_O} (hd : am_lal pc l st h = some o) : ∃ (i : Int32) (a : Nat) (r : List Value) (n : Nat) (f : Nat → Int64), st = .int i :: .ref a :: r ∧ h[a]? = some (.inl (1, n, .inr (.inl f))) ∧ vp_in i n ∧ o = .inl ((pc + 1, l, .long (f i.toNatClampNeg) :: r), h) := by
  unfold am_lal at hd
  split at hd
  · split at hd
    · rename_i hh
      split at hd
      · cases hd
      · rename_i hc
        exact ⟨_, _, _, _, _, rfl, hh, hc, (Option.some.inj hd).symm⟩
    · cases hd
  · cases hd
def am_ial (sc : Nat × (Nat → Int32)) (pc : Nat) (l : am_L) (st : List Value) (h : am_H) : Option am_O := match st with
  | .int i :: .ref a :: r => (match h[a]? with
    | some (.inl (0, n, .inl f)) => if i < 0 ∨ n ≤ i.toNatClampNeg then none else some (.inl ((pc + 1, l, .int (f i.toNatClampNeg) :: r), h))
    | _ => none)
  | .int i :: .retAddr k :: r => if k = 0 then (if i < 0 ∨ sc.1 ≤ i.toNatClampNeg then none else some (.inl ((pc + 1, l, .int (sc.2 i.toNatClampNeg) :: r), h))) else none
  | _ => none
theorem am_ial_inv {sc : Nat × (Nat → Int32)} {pc : Nat} {l : am_L} {st : List Value} {h : am_H} {o : am_O} (hd : am_ial sc pc l st h = some o) : (∃ (i : Int32) (a : Nat) (r : List Value) (n : Nat) (f : Nat → Int32), st = .int i :: .ref a :: r ∧ h[a]? = some (.inl (0, n, .inl f)) ∧ vp_in i n ∧ o = .inl ((pc + 1, l, .int (f i.toNatClampNeg) :: r), h)) ∨ (∃ (i : Int32) (r : List Value), st = .int i :: .retAddr 0 :: r ∧ vp_in i sc.1 ∧ o = .inl ((pc + 1, l, .int (sc.2 i.toNatClampNeg) :: r), h)) := by
  unfold am_ial at hd
  split at hd
  · split at hd
    · rename_i hh
      split at hd
      · cases hd
      · rename_i hc
        exact Or.inl ⟨_, _, _, _, _, rfl, hh, hc, (Option.some.inj hd).symm⟩
    · cases hd
  · split at hd
    · rename_i hk
      subst hk
      split at hd
      · cases hd
      · rename_i hc
        exact Or.inr ⟨_, _, rfl, hc, (Option.some.inj hd).symm⟩
    · cases hd
  · cases hd
def am_bal (pc : Nat) (l : am_L) (st : List Value) (h : am_H) : Option am_O := match st with
  | .int i :: .ref a :: r => (match h[a]? with
    | some (.inl (2, n, .inl f)) => if i < 0 ∨ n ≤ i.toNatClampNeg then none else some (.inl ((pc + 1, l, .int (f i.toNatClampNeg) :: r), h))
    | _ => none)
  | .int i :: .retAddr k :: r => if 21 ≤ k ∧ k ≤ am_tx.length + 20 then (if i < 0 ∨ (am_tx.getD (k - 21) []).length ≤ i.toNatClampNeg then none else some (.inl ((pc + 1, l, .int ((am_tx.getD (k - 21) []).getD i.toNatClampNeg 0) :: r), h))) else none
  | _ => none
theorem am_bal_inv {pc : Nat} {l : am_L} {st : List Value} {h : am_H} {o : am_O} (hd : am_bal pc l st h = some o) : (∃ (i : Int32) (a : Nat) (r : List Value) (n : Nat) (f : Nat → Int32), st = .int i :: .ref a :: r ∧ h[a]? = some (.inl (2, n, .inl f)) ∧ vp_in i n ∧ o = .inl ((pc + 1, l, .int (f i.toNatClampNeg) :: r), h)) ∨ (∃ (i : Int32) (k : Nat) (r : List Value), st = .int i :: .retAddr k :: r ∧ (21 ≤ k ∧ k ≤ am_tx.length + 20) ∧ vp_in i (am_tx.getD (k - 21) []).length ∧ o = .inl ((pc + 1, l, .int ((am_tx.getD (k - 21) []).getD i.toNatClampNeg 0) :: r), h)) := by
  unfold am_bal at hd
  split at hd
  · split at hd
    · rename_i hh
      split at hd
      · cases hd
      · rename_i hc
        exact Or.inl ⟨_, _, _, _, _, rfl, hh, hc, (Option.some.inj hd).symm⟩
    · cases hd
  · split at hd
    · rename_i hk
      split at hd
      · cases hd
      · rename_i hc
        exact Or.inr ⟨_, _, _, rfl, hk, hc, (Option.some.inj hd).symm⟩
    · cases hd
  · cases hd
def am_aal (pc : Nat) (l : am_L) (st : List Value) (h : am_H) : Option am_O := match st with
  | .int i :: .ref a :: r => (match h[a]? with
    | some (.inl (t, n, .inr (.inr (.inr (.inr f))))) => if (i < 0 ∨ n ≤ i.toNatClampNeg) ∨ ¬ (t = 3 ∨ t = 4) then none else some (.inl ((pc + 1, l, va_rf (f i.toNatClampNeg) :: r), h))
    | _ => none)
  | _ => none
theorem am_aal_inv {pc : Nat} {l : am_L} {st : List Value} {h : am_H} {o : am_O} (hd : am_aal pc l st h = some o) : ∃ (i : Int32) (a : Nat) (r : List Value) (t n : Nat) (f : Nat → Option Nat), st = .int i :: .ref a :: r ∧ h[a]? = some (.inl (t, n, .inr (.inr (.inr (.inr f))))) ∧ vp_in i n ∧ (t = 3 ∨ t = 4) ∧ o = .inl ((pc + 1, l, va_rf (f i.toNatClampNeg) :: r), h) := by
  unfold am_aal at hd
  split at hd
  · split at hd
    · rename_i hh
      split at hd
      · cases hd
      · rename_i hc
        exact ⟨_, _, _, _, _, _, rfl, hh, fun z => hc (Or.inl z), Classical.not_not.mp (fun z => hc (Or.inr z)), (Option.some.inj hd).symm⟩
    · cases hd
  · cases hd
def am_ias (pc : Nat) (l : am_L) (st : List Value) (h : am_H) : Option am_O := match st with
  | .int x :: .int i :: .ref a :: r => (match h[a]? with
    | some (.inl (0, n, .inl f)) => if i < 0 ∨ n ≤ i.toNatClampNeg then none else some (.inl ((pc + 1, l, r), h.set a (.inl (0, n, .inl (upd f i.toNatClampNeg x)))))
    | _ => none)
  | _ => none
theorem am_ias_inv {pc : Nat} {l : am_L} {st : List Value} {h : am_H} {o : am_O} (hd : am_ias pc l st h = some o) : ∃ (x i : Int32) (a : Nat) (r : List Value) (n : Nat) (f : Nat → Int32), st = .int x :: .int i :: .ref a :: r ∧ h[a]? = some (.inl (0, n, .inl f)) ∧ vp_in i n ∧ o = .inl ((pc + 1, l, r), h.set a (.inl (0, n, .inl (upd f i.toNatClampNeg x)))) := by
  unfold am_ias at hd
  split at hd
  · split at hd
    · rename_i hh
      split at hd
      · cases hd
      · rename_i hc
        exact ⟨_, _, _, _, _, _, rfl, hh, hc, (Option.some.inj hd).symm⟩
    · cases hd
  · cases hd
def am_las (pc : Nat) (l : am_L) (st : List Value) (h : am_H) : Option am_O := match st with
  | .long x :: .int i :: .ref a :: r => (match h[a]? with
    | some (.inl (1, n, .inr (.inl f))) => if i < 0 ∨ n ≤ i.toNatClampNeg then none else some (.inl ((pc + 1, l, r), h.set a (.inl (1, n, .inr (.inl (vp_updL f i.toNatClampNeg x))))))
    | _ => none)
  | _ => none
theorem am_las_inv {pc : Nat} {l : am_L} {st : List Value} {h : am_H} {o : am_O} (hd : am_las pc l st h = some o) : ∃ (x : Int64) (i : Int32) (a : Nat) (r : List Value) (n : Nat) (f : Nat → Int64), st = .long x :: .int i :: .ref a :: r ∧ h[a]? = some (.inl (1, n, .inr (.inl f))) ∧ vp_in i n ∧ o = .inl ((pc + 1, l, r), h.set a (.inl (1, n, .inr (.inl (vp_updL f i.toNatClampNeg x))))) := by
  unfold am_las at hd
  split at hd
  · split at hd
    · rename_i hh
      split at hd
      · cases hd
      · rename_i hc
        exact ⟨_, _, _, _, _, _, rfl, hh, hc, (Option.some.inj hd).symm⟩
    · cases hd
  · cases hd
def am_bas (pc : Nat) (l : am_L) (st : List Value) (h : am_H) : Option am_O := match st with
  | .int x :: .int i :: .ref a :: r => (match h[a]? with
    | some (.inl (2, n, .inl f)) => if (i < 0 ∨ n ≤ i.toNatClampNeg) ∨ ¬ (x = 0 ∨ x = 1) then none else some (.inl ((pc + 1, l, r), h.set a (.inl (2, n, .inl (upd f i.toNatClampNeg x)))))
    | _ => none)
  | _ => none
theorem am_bas_inv {pc : Nat} {l : am_L} {st : List Value} {h : am_H} {o : am_O} (hd : am_bas pc l st h = some o) : ∃ (x i : Int32) (a : Nat) (r : List Value) (n : Nat) (f : Nat → Int32), st = .int x :: .int i :: .ref a :: r ∧ h[a]? = some (.inl (2, n, .inl f)) ∧ vp_in i n ∧ (x = 0 ∨ x = 1) ∧ o = .inl ((pc + 1, l, r), h.set a (.inl (2, n, .inl (upd f i.toNatClampNeg x)))) := by
  unfold am_bas at hd
  split at hd
  · split at hd
    · rename_i hh
      split at hd
      · cases hd
      · rename_i hc
        exact ⟨_, _, _, _, _, _, rfl, hh, fun z => hc (Or.inl z), Classical.not_not.mp (fun z => hc (Or.inr z)), (Option.some.inj hd).symm⟩
    · cases hd
  · cases hd
def am_aas (pc : Nat) (l : am_L) (st : List Value) (h : am_H) : Option am_O := match st with
  | .null :: .int i :: .ref a :: r => (match h[a]? with
    | some (.inl (t, n, .inr (.inr (.inr (.inr f))))) => if (i < 0 ∨ n ≤ i.toNatClampNeg) ∨ ¬ (t = 3 ∨ t = 4) then none else some (.inl ((pc + 1, l, r), h.set a (.inl (t, n, .inr (.inr (.inr (.inr (va_up f i.toNatClampNeg none))))))))
    | _ => none)
  | .ref v :: .int i :: .ref a :: r => (match h[a]?, h[v]? with
    | some (.inl (t, n, .inr (.inr (.inr (.inr f))))), some (.inr (ci, fs)) => if (i < 0 ∨ n ≤ i.toNatClampNeg) ∨ ¬ (am_may t ci = true) then none else some (.inl ((pc + 1, l, r), h.set a (.inl (t, n, .inr (.inr (.inr (.inr (va_up f i.toNatClampNeg (some v)))))))))
    | _, _ => none)
  | _ => none
theorem am_aas_inv {pc : Nat} {l : am_L} {st : List Value} {h : am_H} {o : am_O} (hd : am_aas pc l st h = some o) : (∃ (i : Int32) (a : Nat) (r : List Value) (t n : Nat) (f : Nat → Option Nat), st = .null :: .int i :: .ref a :: r ∧ h[a]? = some (.inl (t, n, .inr (.inr (.inr (.inr f))))) ∧ vp_in i n ∧ (t = 3 ∨ t = 4) ∧ o = .inl ((pc + 1, l, r), h.set a (.inl (t, n, .inr (.inr (.inr (.inr (va_up f i.toNatClampNeg none)))))))) ∨ (∃ (v : Nat) (i : Int32) (a : Nat) (r : List Value) (t n : Nat) (f : Nat → Option Nat) (ci : Nat) (fs : List Value), st = .ref v :: .int i :: .ref a :: r ∧ h[a]? = some (.inl (t, n, .inr (.inr (.inr (.inr f))))) ∧ h[v]? = some (.inr (ci, fs)) ∧ vp_in i n ∧ am_may t ci = true ∧ o = .inl ((pc + 1, l, r), h.set a (.inl (t, n, .inr (.inr (.inr (.inr (va_up f i.toNatClampNeg (some v))))))))) := by
  unfold am_aas at hd
  split at hd
  · split at hd
    · rename_i hh
      split at hd
      · cases hd
      · rename_i hc
        exact Or.inl ⟨_, _, _, _, _, _, rfl, hh, fun z => hc (Or.inl z), Classical.not_not.mp (fun z => hc (Or.inr z)), (Option.some.inj hd).symm⟩
    · cases hd
  · split at hd
    · rename_i hh hv
      split at hd
      · cases hd
      · rename_i hc
        exact Or.inr ⟨_, _, _, _, _, _, _, _, _, rfl, hh, hv, fun z => hc (Or.inl z), Classical.not_not.mp (fun z => hc (Or.inr z)), (Option.some.inj hd).symm⟩
    · cases hd
  · cases hd
def am_len (sc : Nat × (Nat → Int32)) (pc : Nat) (l : am_L) (st : List Value) (h : am_H) : Option am_O := match st with
  | .ref a :: r => (match h[a]? with
    | some (.inl (t, x)) => if t < 5 then some (.inl ((pc + 1, l, .int (Int32.ofNat x.1) :: r), h)) else none
    | _ => none)
  | .retAddr k :: r => if k = 0 then some (.inl ((pc + 1, l, .int (Int32.ofNat sc.1) :: r), h)) else if 21 ≤ k ∧ k ≤ am_tx.length + 20 then some (.inl ((pc + 1, l, .int (Int32.ofNat (am_tx.getD (k - 21) []).length) :: r), h)) else none
  | _ => none
theorem am_len_inv {sc : Nat × (Nat → Int32)} {pc : Nat} {l : am_L} {st : List Value} {h : am_H} {o : am_O} (hd : am_len sc pc l st h = some o) : (∃ (a : Nat) (r : List Value) (t : Nat) (x : vp_A), st = .ref a :: r ∧ h[a]? = some (.inl (t, x)) ∧ t < 5 ∧ o = .inl ((pc + 1, l, .int (Int32.ofNat x.1) :: r), h)) ∨ (∃ (r : List Value), st = .retAddr 0 :: r ∧ o = .inl ((pc + 1, l, .int (Int32.ofNat sc.1) :: r), h)) ∨ (∃ (k : Nat) (r : List Value), st = .retAddr k :: r ∧ (21 ≤ k ∧ k ≤ am_tx.length + 20) ∧ o = .inl ((pc + 1, l, .int (Int32.ofNat (am_tx.getD (k - 21) []).length) :: r), h)) := by
  unfold am_len at hd
  split at hd
  · split at hd
    · rename_i hh
      split at hd
      · rename_i hc
        exact Or.inl ⟨_, _, _, _, rfl, hh, hc, (Option.some.inj hd).symm⟩
      · cases hd
    · cases hd
  · split at hd
    · rename_i hk
      subst hk
      exact Or.inr (Or.inl ⟨_, rfl, (Option.some.inj hd).symm⟩)
    · split at hd
      · rename_i hk
        exact Or.inr (Or.inr ⟨_, _, rfl, hk, (Option.some.inj hd).symm⟩)
      · cases hd
  · cases hd
def am_tag (t : ArrayType) : Nat := match t with
  | .int => 0
  | .long => 1
  | .boolean => 2
  | _ => 9
def am_nar (t : ArrayType) (pc : Nat) (l : am_L) (st : List Value) (h : am_H) : Option am_O := match st with
  | .int n :: r => if (n < 0 ∨ 100000 ≤ n.toNatClampNeg) ∨ am_tag t = 9 then none else some (.inl ((pc + 2, l, .ref h.length :: r), h ++ [.inl (am_tag t, n.toNatClampNeg, am_zero (am_tag t))]))
  | _ => none
theorem am_nar_inv {t : ArrayType} {pc : Nat} {l : am_L} {st : List Value} {h : am_H} {o : am_O} (hd : am_nar t pc l st h = some o) : ∃ (n : Int32) (r : List Value), st = .int n :: r ∧ ¬ n < 0 ∧ n.toNatClampNeg < 100000 ∧ am_tag t ≠ 9 ∧ o = .inl ((pc + 2, l, .ref h.length :: r), h ++ [.inl (am_tag t, n.toNatClampNeg, am_zero (am_tag t))]) := by
  unfold am_nar at hd
  split at hd
  · split at hd
    · cases hd
    · rename_i hc
      exact ⟨_, _, rfl, fun z => hc (Or.inl (Or.inl z)), Nat.not_le.mp (fun z => hc (Or.inl (Or.inr z))), fun z => hc (Or.inr z), (Option.some.inj hd).symm⟩
  · cases hd
def am_anw (t pc : Nat) (l : am_L) (st : List Value) (h : am_H) : Option am_O := match st with
  | .int n :: r => if (n < 0 ∨ 100000 ≤ n.toNatClampNeg) ∨ ¬ (t = 3 ∨ t = 4) then none else some (.inl ((pc + 3, l, .ref h.length :: r), h ++ [.inl (t, n.toNatClampNeg, am_zero 3)]))
  | _ => none
theorem am_anw_inv {t pc : Nat} {l : am_L} {st : List Value} {h : am_H} {o : am_O} (hd : am_anw t pc l st h = some o) : ∃ (n : Int32) (r : List Value), st = .int n :: r ∧ ¬ n < 0 ∧ n.toNatClampNeg < 100000 ∧ (t = 3 ∨ t = 4) ∧ o = .inl ((pc + 3, l, .ref h.length :: r), h ++ [.inl (t, n.toNatClampNeg, am_zero 3)]) := by
  unfold am_anw at hd
  split at hd
  · split at hd
    · cases hd
    · rename_i hc
      exact ⟨_, _, rfl, fun z => hc (Or.inl (Or.inl z)), Nat.not_le.mp (fun z => hc (Or.inl (Or.inr z))), Classical.not_not.mp (fun z => hc (Or.inr z)), (Option.some.inj hd).symm⟩
  · cases hd
/-- instanceof, of rods alone: rs are the classes that are it -/
def am_ins (pc : Nat) (rs : List Nat) (l : am_L) (st : List Value) (h : am_H) : Option am_O := match st with
  | .ref a :: r => (match h[a]? with
    | some (.inr (ci, _)) => if ci = 0 ∨ ci = 2 ∨ ci = 3 ∨ ci = 4 then some (.inl ((pc + 3, l, .int (bif rs.contains ci then 1 else 0) :: r), h)) else none
    | _ => none)
  | _ => none
theorem am_ins_inv {pc : Nat} {rs : List Nat} {l : am_L} {st : List Value} {h : am_H} {o : am_O} (hd : am_ins pc rs l st h = some o) : ∃ (a : Nat) (r : List Value) (ci : Nat) (fs : List Value), st = .ref a :: r ∧ h[a]? = some (.inr (ci, fs)) ∧ (ci = 0 ∨ ci = 2 ∨ ci = 3 ∨ ci = 4) ∧ o = .inl ((pc + 3, l, .int (bif rs.contains ci then 1 else 0) :: r), h) := by
  unfold am_ins at hd
  split at hd
  · split at hd
    · rename_i hh
      split at hd
      · rename_i hc
        exact ⟨_, _, _, _, rfl, hh, hc, (Option.some.inj hd).symm⟩
      · cases hd
    · cases hd
  · cases hd
/-- may x be what a method of this kind of answer gives? 0 int, 2 boolean, 3 byte, 4 char -/
def am_nw (t : Nat) (x : Int32) : Bool := match t with
  | 0 => true
  | 2 => x == 0 || x == 1
  | 3 => x == 0
  | 4 => x == (x.toUInt32 % 65536).toInt32
  | _ => false
def am_rec (h : am_H) (v : Value) : Option Nat := match v with
  | .ref a => (match h[a]? with
    | some (.inr (ci, _)) => some ci
    | _ => none)
  | .retAddr k => if 1 ≤ k ∧ k ≤ am_tx.length then some 60 else none
  | _ => none
def am_inv (rs : List Nat) (st : List Value) (h : am_H) : Option am_O := match rs with
  | n :: ds => (match am_pop n st with
    | some (as, v :: r) => (match am_rec h v with
      | some ci => (match am_dis ds ci with
        | some M => am_call M (v :: as) r
        | none => none)
      | none => none)
    | _ => none)
  | _ => none
/-- Math.abs, abs of longs, max, min -/
def am_mth (z pc : Nat) (l : am_L) (st : List Value) (h : am_H) : Option am_O := match z, st with
  | 900, .int x :: r => if (r.map fun v => v.category).sum ≤ 8 then some (.inl ((pc + 3, l, .int (if 0 ≤ x then x else 0 - x) :: r), h)) else none
  | 901, .long x :: r => if (r.map fun v => v.category).sum ≤ 8 then some (.inl ((pc + 3, l, .long (if 0 < x then x else -x) :: r), h)) else none
  | 902, .int y :: .int x :: r => if (r.map fun v => v.category).sum ≤ 8 then some (.inl ((pc + 3, l, .int (if x < y then y else x) :: r), h)) else none
  | 903, .int y :: .int x :: r => if (r.map fun v => v.category).sum ≤ 8 then some (.inl ((pc + 3, l, .int (if y < x then y else x) :: r), h)) else none
  | _, _ => none
theorem am_mth_inv {z pc : Nat} {l : am_L} {st : List Value} {h : am_H} {o : am_O} (hd : am_mth z pc l st h = some o) :
    (∃ (x : Int32) (r : List Value), z = 900 ∧ st = .int x :: r ∧ (r.map fun v => v.category).sum ≤ 8 ∧ o = .inl ((pc + 3, l, .int (if 0 ≤ x then x else 0 - x) :: r), h)) ∨
    (∃ (x : Int64) (r : List Value), z = 901 ∧ st = .long x :: r ∧ (r.map fun v => v.category).sum ≤ 8 ∧ o = .inl ((pc + 3, l, .long (if 0 < x then x else -x) :: r), h)) ∨
    (∃ (y x : Int32) (r : List Value), z = 902 ∧ st = .int y :: .int x :: r ∧ (r.map fun v => v.category).sum ≤ 8 ∧ o = .inl ((pc + 3, l, .int (if x < y then y else x) :: r), h)) ∨
    (∃ (y x : Int32) (r : List Value), z = 903 ∧ st = .int y :: .int x :: r ∧ (r.map fun v => v.category).sum ≤ 8 ∧ o = .inl ((pc + 3, l, .int (if y < x then y else x) :: r), h)) := by
  unfold am_mth at hd
  split at hd
  · split at hd
    · rename_i hc
      exact Or.inl ⟨_, _, rfl, rfl, hc, (Option.some.inj hd).symm⟩
    · cases hd
  · split at hd
    · rename_i hc
      exact Or.inr (Or.inl ⟨_, _, rfl, rfl, hc, (Option.some.inj hd).symm⟩)
    · cases hd
  · split at hd
    · rename_i hc
      exact Or.inr (Or.inr (Or.inl ⟨_, _, _, rfl, rfl, hc, (Option.some.inj hd).symm⟩))
    · cases hd
  · split at hd
    · rename_i hc
      exact Or.inr (Or.inr (Or.inr ⟨_, _, _, rfl, rfl, hc, (Option.some.inj hd).symm⟩))
    · cases hd
  · cases hd
def am_sta (rs : List Nat) (st : List Value) : Option am_O := match rs with
  | [n, M] => (match am_pop n st with
    | some (as, r) => am_call M as r
    | none => none)
  | _ => none
def am_spc (rs : List Nat) (pc : Nat) (l : am_L) (st : List Value) (h : am_H) : Option am_O := match rs with
  | [] => (match st with
    | .ref _ :: r => if (r.map fun v => v.category).sum ≤ 8 then some (.inl ((pc + 3, l, r), h)) else none
    | _ => none)
  | [n, M] => (match am_pop n st with
    | some (as, .ref a :: r) => am_call M (.ref a :: as) r
    | _ => none)
  | _ => none
def am_ret (t : Nat) (st : List Value) : Option am_O := match st with
  | [.int x] => if am_nw t x = true then some (.inr (.inl (some (.int x)))) else none
  | _ => none
def am_retA (st : List Value) : Option am_O := match st with
  | [.ref x] => some (.inr (.inl (some (.ref x))))
  | [.null] => some (.inr (.inl (some .null)))
  | _ => none
def am_retL (st : List Value) : Option am_O := match st with
  | [.long x] => some (.inr (.inl (some (.long x))))
  | _ => none
def am_retV (st : List Value) : Option am_O := match st with
  | [] => some (.inr (.inl none))
  | _ => none
def am_do (df : Nat → List Value) (sc : Nat × (Nat → Int32)) (q : am_I) (l : am_L) (st : List Value) (h : am_H) : Option am_O := match q with
  | (pc, ins, _, rs, cv) => match ins with
    | .iconst n => some (.inl ((pc + 1, l, .int (Int32.ofInt n) :: st), h))
    | .bipush n => some (.inl ((pc + 2, l, .int (Int8.ofInt n).toInt32 :: st), h))
    | .sipush n => some (.inl ((pc + 3, l, .int (Int16.ofInt n).toInt32 :: st), h))
    | .lconst n => some (.inl ((pc + 1, l, .long (Int64.ofNat (n : Nat)) :: st), h))
    | .aconst_null => some (.inl ((pc + 1, l, .null :: st), h))
    | .ldc _ => some (.inl ((pc + 2, l, cv :: st), h))
    | .ldc_w _ => some (.inl ((pc + 3, l, cv :: st), h))
    | .ldc2_w _ => some (.inl ((pc + 3, l, cv :: st), h))
    | .getstatic _ => some (.inl ((pc + 3, l, cv :: st), h))
    | .iload_n k => am_ldI (pc + 1) k l st h
    | .iload k => am_ldI (pc + 2) k l st h
    | .lload_n k => am_ldL (pc + 1) k l st h
    | .lload k => am_ldL (pc + 2) k l st h
    | .aload_n k => am_ldA (pc + 1) k l st h
    | .aload k => am_ldA (pc + 2) k l st h
    | .istore_n k => am_stI (pc + 1) k l st h
    | .istore k => am_stI (pc + 2) k l st h
    | .lstore_n k => am_stL (pc + 1) k l st h
    | .lstore k => am_stL (pc + 2) k l st h
    | .astore_n k => am_stA (pc + 1) k l st h
    | .astore k => am_stA (pc + 2) k l st h
    | .iinc i n => am_inc pc i n l st h
    | .iadd => am_b (fun x y => x + y) pc l st h
    | .isub => am_b (fun x y => x - y) pc l st h
    | .imul => am_b (fun x y => x * y) pc l st h
    | .iand => am_b (fun x y => x &&& y) pc l st h
    | .ior => am_b (fun x y => x ||| y) pc l st h
    | .ixor => am_b (fun x y => x ^^^ y) pc l st h
    | .ishl => am_b (fun x y => x <<< (y &&& 31)) pc l st h
    | .ishr => am_b (fun x y => x >>> (y &&& 31)) pc l st h
    | .idiv => am_dv (fun x y => x / y) pc l st h
    | .irem => am_dv (fun x y => x - x / y * y) pc l st h
    | .ineg => am_u (fun x => .int (-x)) pc l st h
    | .i2l => am_u (fun x => .long x.toInt64) pc l st h
    | .i2c => am_u (fun x => .int (x.toUInt32 % 65536).toInt32) pc l st h
    | .ladd => am_bL (fun x y => x + y) pc l st h
    | .lsub => am_bL (fun x y => x - y) pc l st h
    | .lmul => am_bL (fun x y => x * y) pc l st h
    | .ldiv => am_dvL (fun x y => x / y) pc l st h
    | .lrem => am_dvL (fun x y => x - x / y * y) pc l st h
    | .lneg => am_uL (fun x => .long (-x)) pc l st h
    | .l2i => am_uL (fun x => .int x.toInt32) pc l st h
    | .lcmp => am_cmp pc l st h
    | .dup => am_dup pc l st h
    | .dup2 => am_dup2 pc l st h
    | .pop => am_drop pc l st h
    | .pop2 => am_drop2 pc l st h
    | .ifCond c _ => (match c with
      | .eq => am_if (fun x => decide (x = 0)) pc (am_t rs) l st h
      | .ne => am_if (fun x => !decide (x = 0)) pc (am_t rs) l st h
      | .lt => am_if (fun x => decide (x < 0)) pc (am_t rs) l st h
      | .ge => am_if (fun x => decide (0 ≤ x)) pc (am_t rs) l st h
      | .gt => am_if (fun x => decide (0 < x)) pc (am_t rs) l st h
      | .le => am_if (fun x => decide (x ≤ 0)) pc (am_t rs) l st h)
    | .if_icmp c _ => (match c with
      | .eq => am_ic (fun x y => decide (x = y)) pc (am_t rs) l st h
      | .ne => am_ic (fun x y => !decide (x = y)) pc (am_t rs) l st h
      | .lt => am_ic (fun x y => decide (x < y)) pc (am_t rs) l st h
      | .ge => am_ic (fun x y => decide (y ≤ x)) pc (am_t rs) l st h
      | .gt => am_ic (fun x y => decide (y < x)) pc (am_t rs) l st h
      | .le => am_ic (fun x y => decide (x ≤ y)) pc (am_t rs) l st h)
    | .goto _ => some (.inl ((am_t rs, l, st), h))
    | .ifnull _ => am_null (am_t rs) (pc + 3) l st h
    | .ifnonnull _ => am_null (pc + 3) (am_t rs) l st h
    | .tableswitch _ lo hi _ => am_tsw lo hi rs l st h
    | .getfield _ => am_gf pc rs l st h
    | .putfield _ => am_pf pc rs l st h
    | .iaload => am_ial sc pc l st h
    | .laload => am_lal pc l st h
    | .baload => am_bal pc l st h
    | .aaload => am_aal pc l st h
    | .iastore => am_ias pc l st h
    | .lastore => am_las pc l st h
    | .bastore => am_bas pc l st h
    | .aastore => am_aas pc l st h
    | .arraylength => am_len sc pc l st h
    | .new _ => some (.inl ((pc + 3, l, .ref h.length :: st), h ++ [.inr (am_t rs, df (am_t rs))]))
    | .newarray t => am_nar t pc l st h
    | .anewarray _ => am_anw (am_t rs) pc l st h
    | .instanceof _ => am_ins pc rs l st h
    | .ireturn => am_ret (am_t rs) st
    | .lreturn => am_retL st
    | .areturn => am_retA st
    | .return_ => am_retV st
    | .invokestatic _ => bif rs.length == 1 then am_mth (am_t rs) pc l st h else am_sta rs st
    | .invokespecial _ => am_spc rs pc l st h
    | .invokevirtual _ => am_inv rs st h
    | _ => none
def am_isR (i : Instr) : Bool := match i with
  | .ireturn | .lreturn | .areturn | .return_ => true
  | _ => false
def am_isC (i : Instr) : Bool := match i with
  | .invokestatic _ | .invokespecial _ | .invokevirtual _ => true
  | _ => false
/-- one method's steps, over what its calls do -/
def am_steps (df : Nat → List Value) (sc : Nat × (Nat → Int32)) (call : Nat → List Value → am_H → Option (Option Value × am_H)) (code : List am_I) : Nat → am_F → am_H → Option (Option Value × am_H)
  | 0, _, _ => none
  | n + 1, f, h => match am_at code f.1 with
    | none => none
    | some q => match am_do df sc q f.2.1 f.2.2 h with
      | none => none
      | some (.inl (f', h')) => am_steps df sc call code n f' h'
      | some (.inr (.inl r)) => bif am_isR q.2.1 then some (r, h) else none
      | some (.inr (.inr (M, as, r))) => bif am_isC q.2.1 then (match call M as h with
        | none => none
        | some (v, h') => am_steps df sc call code n (f.1 + 3, f.2.1, v.toList ++ r) h') else none
/-- calls d deep at most, n steps at most in each; P: a method's locals and code -/
def am_run (df : Nat → List Value) (sc : Nat × (Nat → Int32)) (P : Nat → Nat × List am_I) (n : Nat) : Nat → Nat → List Value → am_H → Option (Option Value × am_H)
  | 0, _, _, _ => none
  | d + 1, M, as, h => if (as.map fun v => v.category).sum ≤ (P M).1 then am_steps df sc (am_run df sc P n d) (P M).2 n (0, lv_args 0 as, []) h else none
