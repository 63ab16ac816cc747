/-! Runs of the small machine without their fuel, and rows to build them. -/
def am_E (sc : Nat × (Nat → Int32)) (d M : Nat) (as : List Value) (h : am_H) (r : Option Value) (h' : am_H) : Prop := ∃ n0, ∀ n, n0 ≤ n → am_run am_df sc am_P n d M as h = some (r, h')
def am_S (sc : Nat × (Nat → Int32)) (d : Nat) (code : List am_I) (f : am_F) (h : am_H) (r : Option Value) (h' : am_H) : Prop := ∃ n0, ∀ n k, n0 ≤ n → n0 ≤ k → am_steps am_df sc (am_run am_df sc am_P n d) code k f h = some (r, h')
/-- some steps that go on -/
def am_jump (sc : Nat × (Nat → Int32)) (code : List am_I) : Nat → am_F → am_H → Option (am_F × am_H)
  | 0, f, h => some (f, h)
  | n + 1, f, h => match am_at code f.1 with
    | none => none
    | some q => match am_do am_df sc q f.2.1 f.2.2 h with
      | some (.inl (f', h')) => am_jump sc code n f' h'
      | _ => none
section AMR
variable {sc : Nat × (Nat → Int32)} {d : Nat} {code : List am_I} {h h' : am_H} {r : Option Value}
theorem S_go {f f1 : am_F} {h1 : am_H} {q : am_I} (ha : am_at code f.1 = some q) (hd : am_do am_df sc q f.2.1 f.2.2 h = some (.inl (f1, h1))) (k : am_S sc d code f1 h1 r h') : am_S sc d code f h r h' := by
  obtain ⟨n0, hn⟩ := k
  refine ⟨n0 + 1, fun n k hn1 hk => ?_⟩
  obtain ⟨k', rfl⟩ : ∃ k', k = k' + 1 := ⟨k - 1, by omega⟩
  unfold am_steps
  rw [ha]
  dsimp only
  rw [hd]
  exact hn n k' (by omega) (by omega)
theorem S_jump : ∀ (n : Nat) {f f1 : am_F} {h h1 : am_H}, am_jump sc code n f h = some (f1, h1) → am_S sc d code f1 h1 r h' → am_S sc d code f h r h'
  | 0, f, f1, h, h1, hj, k => by
    cases hj
    exact k
  | n + 1, f, f1, h, h1, hj, k => by
    unfold am_jump at hj
    split at hj
    · cases hj
    · rename_i q hq
      split at hj
      · rename_i f2 h2 hdo
        exact S_go hq hdo (S_jump n hj k)
      · cases hj
theorem S_ret {f : am_F} {q : am_I} (ha : am_at code f.1 = some q) (hd : am_do am_df sc q f.2.1 f.2.2 h = some (.inr (.inl r))) (hi : am_isR q.2.1 = true) : am_S sc d code f h r h := by
  refine ⟨1, fun n k hn1 hk => ?_⟩
  obtain ⟨k', rfl⟩ : ∃ k', k = k' + 1 := ⟨k - 1, by omega⟩
  unfold am_steps
  rw [ha]
  dsimp only
  rw [hd]
  dsimp only
  rw [hi]
  rfl
theorem S_call {f : am_F} {q : am_I} {M : Nat} {as rest : List Value} {v : Option Value} {h1 : am_H} (ha : am_at code f.1 = some q) (hd : am_do am_df sc q f.2.1 f.2.2 h = some (.inr (.inr (M, as, rest)))) (hi : am_isC q.2.1 = true) (e : am_E sc d M as h v h1) (k : am_S sc d code (f.1 + 3, f.2.1, v.toList ++ rest) h1 r h') : am_S sc d code f h r h' := by
  obtain ⟨n0, hn⟩ := k
  obtain ⟨n1, hn1⟩ := e
  refine ⟨n0 + n1 + 1, fun n k hk1 hk => ?_⟩
  obtain ⟨k', rfl⟩ : ∃ k', k = k' + 1 := ⟨k - 1, by omega⟩
  unfold am_steps
  rw [ha]
  dsimp only
  rw [hd]
  dsimp only
  rw [hi, hn1 n (by omega)]
  exact hn n k' (by omega) (by omega)
theorem E_of {M : Nat} {as : List Value} (hs : (as.map fun v => v.category).sum ≤ (am_P M).1) (k : am_S sc d (am_P M).2 (0, lv_args 0 as, []) h r h') : am_E sc (d + 1) M as h r h' := by
  obtain ⟨n0, hn⟩ := k
  refine ⟨n0, fun n hk => ?_⟩
  unfold am_run
  rw [if_pos hs]
  exact hn n n hk hk
/-- a jump on a condition -/
theorem S_bif {b : Bool} {t u : Nat} {l : am_L} {st : List Value} (h1 : b = true → am_S sc d code (t, l, st) h r h') (h2 : b = false → am_S sc d code (u, l, st) h r h') : am_S sc d code (bif b then t else u, l, st) h r h' := by
  cases b with
  | true => exact h1 rfl
  | false => exact h2 rfl
theorem S_gf {pc a ci idx len : Nat} {rs : List Nat} {cv : Value} {l : am_L} {st fs : List Value} {v : Value} (ha : am_at code pc = some (pc, .getfield idx, len, rs, cv)) (hh : h[a]? = some (.inr (ci, fs))) (hc : (rs.drop 1).contains ci = true) (hv : fs[am_t rs]? = some v) (k : am_S sc d code (pc + 3, l, v :: st) h r h') : am_S sc d code (pc, l, .ref a :: st) h r h' := by
  refine S_go ha ?_ k
  show am_gf pc rs l (.ref a :: st) h = _
  unfold am_gf
  try dsimp only
  rw [hh]
  try dsimp only
  rw [if_pos hc, hv]
theorem S_pf {pc a ci idx len : Nat} {rs : List Nat} {cv : Value} {l : am_L} {st fs : List Value} {v : Value} (ha : am_at code pc = some (pc, .putfield idx, len, rs, cv)) (hh : h[a]? = some (.inr (ci, fs))) (hc : ((rs.drop 2).contains ci && (am_fit (am_t (rs.drop 1)) v && decide (am_t rs < fs.length))) = true) (k : am_S sc d code (pc + 3, l, st) (h.set a (.inr (ci, fs.set (am_t rs) v))) r h') : am_S sc d code (pc, l, v :: .ref a :: st) h r h' := by
  refine S_go ha ?_ k
  show am_pf pc rs l (v :: .ref a :: st) h = _
  unfold am_pf
  try dsimp only
  rw [hh]
  try dsimp only
  rw [if_pos hc]
theorem S_ial {pc a len n : Nat} {rs : List Nat} {cv : Value} {l : am_L} {st : List Value} {f : Nat → Int32} {i : Int32} (ha : am_at code pc = some (pc, .iaload, len, rs, cv)) (hh : h[a]? = some (.inl (0, n, .inl f))) (hi : vp_in i n) (k : am_S sc d code (pc + 1, l, .int (f i.toNatClampNeg) :: st) h r h') : am_S sc d code (pc, l, .int i :: .ref a :: st) h r h' := by
  refine S_go ha ?_ k
  show am_ial sc pc l (.int i :: .ref a :: st) h = _
  unfold am_ial
  try dsimp only
  rw [hh]
  show (if i < 0 ∨ n ≤ i.toNatClampNeg then (none : Option am_O) else _) = _
  exact if_neg hi
theorem S_ias {pc a len n : Nat} {rs : List Nat} {cv : Value} {l : am_L} {st : List Value} {f : Nat → Int32} {i x : Int32} (ha : am_at code pc = some (pc, .iastore, len, rs, cv)) (hh : h[a]? = some (.inl (0, n, .inl f))) (hi : vp_in i n) (k : am_S sc d code (pc + 1, l, st) (h.set a (.inl (0, n, .inl (upd f i.toNatClampNeg x)))) r h') : am_S sc d code (pc, l, .int x :: .int i :: .ref a :: st) h r h' := by
  refine S_go ha ?_ k
  show am_ias pc l (.int x :: .int i :: .ref a :: st) h = _
  unfold am_ias
  try dsimp only
  rw [hh]
  show (if i < 0 ∨ n ≤ i.toNatClampNeg then (none : Option am_O) else _) = _
  exact if_neg hi
theorem S_lal {pc a len n : Nat} {rs : List Nat} {cv : Value} {l : am_L} {st : List Value} {f : Nat → Int64} {i : Int32} (ha : am_at code pc = some (pc, .laload, len, rs, cv)) (hh : h[a]? = some (.inl (1, n, .inr (.inl f)))) (hi : vp_in i n) (k : am_S sc d code (pc + 1, l, .long (f i.toNatClampNeg) :: st) h r h') : am_S sc d code (pc, l, .int i :: .ref a :: st) h r h' := by
  refine S_go ha ?_ k
  show am_lal pc l (.int i :: .ref a :: st) h = _
  unfold am_lal
  try dsimp only
  rw [hh]
  show (if i < 0 ∨ n ≤ i.toNatClampNeg then (none : Option am_O) else _) = _
  exact if_neg hi
theorem S_las {pc a len n : Nat} {rs : List Nat} {cv : Value} {l : am_L} {st : List Value} {f : Nat → Int64} {i : Int32} {x : Int64} (ha : am_at code pc = some (pc, .lastore, len, rs, cv)) (hh : h[a]? = some (.inl (1, n, .inr (.inl f)))) (hi : vp_in i n) (k : am_S sc d code (pc + 1, l, st) (h.set a (.inl (1, n, .inr (.inl (vp_updL f i.toNatClampNeg x))))) r h') : am_S sc d code (pc, l, .long x :: .int i :: .ref a :: st) h r h' := by
  refine S_go ha ?_ k
  show am_las pc l (.long x :: .int i :: .ref a :: st) h = _
  unfold am_las
  try dsimp only
  rw [hh]
  show (if i < 0 ∨ n ≤ i.toNatClampNeg then (none : Option am_O) else _) = _
  exact if_neg hi
theorem S_len {pc a len t : Nat} {rs : List Nat} {cv : Value} {l : am_L} {st : List Value} {x : vp_A} (ha : am_at code pc = some (pc, .arraylength, len, rs, cv)) (hh : h[a]? = some (.inl (t, x))) (ht : t < 5) (k : am_S sc d code (pc + 1, l, .int (Int32.ofNat x.1) :: st) h r h') : am_S sc d code (pc, l, .ref a :: st) h r h' := by
  refine S_go ha ?_ k
  show am_len sc pc l (.ref a :: st) h = _
  unfold am_len
  try dsimp only
  rw [hh]
  try dsimp only
  rw [if_pos ht]
/-- more depth, the same answer -/
theorem am_steps_call {df : Nat → List Value} {c1 c2 : Nat → List Value → am_H → Option (Option Value × am_H)} (hc : ∀ M as h v h1, c1 M as h = some (v, h1) → c2 M as h = some (v, h1)) : ∀ (n : Nat) {f : am_F} {h : am_H} {r : Option Value} {h' : am_H}, am_steps df sc c1 code n f h = some (r, h') → am_steps df sc c2 code n f h = some (r, h')
  | 0, f, h, r, h', hs => by cases hs
  | n + 1, f, h, r, h', hs => by
    unfold am_steps at hs ⊢
    split at hs
    · cases hs
    · rename_i q hq
      split at hs
      · cases hs
      · rename_i f1 h1 hdo
        exact am_steps_call hc n hs
      · rename_i r1 hdo
        exact hs
      · rename_i M as rest hdo
        cases hk : am_isC q.2.1 with
        | false => rw [hk] at hs; cases hs
        | true =>
          rw [hk] at hs
          dsimp only [cond_true] at hs ⊢
          split at hs
          · cases hs
          · rename_i v h1 hcall
            rw [hc _ _ _ _ _ hcall]
            exact am_steps_call hc n hs
theorem am_run_deep {n : Nat} : ∀ (d M : Nat) (as : List Value) (h : am_H) (v : Option Value) (h1 : am_H), am_run am_df sc am_P n d M as h = some (v, h1) → am_run am_df sc am_P n (d + 1) M as h = some (v, h1)
  | 0, M, as, h, v, h1, hr => by cases hr
  | d + 1, M, as, h, v, h1, hr => by
    rw [am_run] at hr ⊢
    split at hr
    · rename_i hs
      rw [if_pos hs]
      exact am_steps_call (fun M as h v h1 hc => am_run_deep d M as h v h1 hc) n hr
    · cases hr
theorem E_deep {d2 M : Nat} {as : List Value} (hd : d ≤ d2) (e : am_E sc d M as h r h') : am_E sc d2 M as h r h' := by
  induction hd with
  | refl => exact e
  | step _ ih =>
    obtain ⟨n0, hn⟩ := ih
    exact ⟨n0, fun n hk => am_run_deep _ _ _ _ _ _ (hn n hk)⟩
end AMR
