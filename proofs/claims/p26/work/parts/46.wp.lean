/-! More fuel, the same answer; runs told by what holds at their end. -/
section AMW
variable {sc : Nat × (Nat → Int32)} {d : Nat} {code : List am_I} {h h' : am_H} {r : Option Value}
theorem am_steps_fuel {df : Nat → List Value} {c1 : Nat → List Value → am_H → Option (Option Value × am_H)} (m : Nat) : ∀ (n : Nat) {f : am_F} {h : am_H} {x : Option Value × am_H}, am_steps df sc c1 code n f h = some x → am_steps df sc c1 code (n + m) f h = some x
  | 0, f, h, x, hs => by cases hs
  | n + 1, f, h, x, hs => by
    rw [Nat.add_right_comm]
    unfold am_steps at hs ⊢
    split at hs
    · cases hs
    · rename_i q hq
      split at hs
      · cases hs
      · rename_i f1 h1 hdo
        exact am_steps_fuel m n hs
      · rename_i r1 hdo
        exact hs
      · rename_i M as rest hdo
        cases hk : am_isC q.2.1 with
        | false => rw [hk] at hs; cases hs
        | true =>
          rw [hk] at hs
          dsimp only [cond_true] at hs ⊢
          split at hs
          · cases hs
          · rename_i v h1 hcall
            exact am_steps_fuel m n hs
theorem am_run_fuel {n : Nat} (m : Nat) : ∀ (d M : Nat) (as : List Value) (h : am_H) (v : Option Value) (h1 : am_H), am_run am_df sc am_P n d M as h = some (v, h1) → am_run am_df sc am_P (n + m) d M as h = some (v, h1)
  | 0, M, as, h, v, h1, hr => by cases hr
  | d + 1, M, as, h, v, h1, hr => by
    rw [am_run] at hr ⊢
    split at hr
    · rename_i hs
      rw [if_pos hs]
      exact am_steps_fuel m n (am_steps_call (fun M as h v h1 hc => am_run_fuel m d M as h v h1 hc) n hr)
    · cases hr
/-- a run that was computed -/
theorem E_run (n : Nat) {M : Nat} {as : List Value} (hr : am_run am_df sc am_P n d M as h = some (r, h')) : am_E sc d M as h r h' := by
  refine ⟨n, fun k hk => ?_⟩
  have e : k = n + (k - n) := by omega
  rw [e]
  exact am_run_fuel (k - n) d M as h r h' hr
def Zs (sc : Nat × (Nat → Int32)) (d : Nat) (code : List am_I) (f : am_F) (h : am_H) (Q : Option Value → am_H → Prop) : Prop := ∃ r h', am_S sc d code f h r h' ∧ Q r h'
def Ze (sc : Nat × (Nat → Int32)) (d M : Nat) (as : List Value) (h : am_H) (Q : Option Value → am_H → Prop) : Prop := ∃ r h', am_E sc d M as h r h' ∧ Q r h'
variable {Q : Option Value → am_H → Prop}
theorem Z_lift {f f1 : am_F} {h h1 : am_H} (H : ∀ (r : Option Value) (h' : am_H), am_S sc d code f1 h1 r h' → am_S sc d code f h r h') (k : Zs sc d code f1 h1 Q) : Zs sc d code f h Q := by
  obtain ⟨r, h', k, q⟩ := k
  exact ⟨r, h', H r h' k, q⟩
theorem Ze_of {M : Nat} {as : List Value} (hs : (as.map fun v => v.category).sum ≤ (am_P M).1) (k : Zs sc d (am_P M).2 (0, lv_args 0 as, []) h Q) : Ze sc (d + 1) M as h Q := by
  obtain ⟨r, h', k, q⟩ := k
  exact ⟨r, h', E_of hs k, q⟩
theorem Ze_E {M : Nat} {as : List Value} (e : am_E sc d M as h r h') (q : Q r h') : Ze sc d M as h Q := ⟨r, h', e, q⟩
theorem Ze_deep {d2 M : Nat} {as : List Value} (hd : d ≤ d2) (e : Ze sc d M as h Q) : Ze sc d2 M as h Q := by
  obtain ⟨r, h', e, q⟩ := e
  exact ⟨r, h', E_deep hd e, q⟩
theorem Ze_mono {M : Nat} {as : List Value} {Q1 : Option Value → am_H → Prop} (e : Ze sc d M as h Q1) (H : ∀ r h', Q1 r h' → Q r h') : Ze sc d M as h Q := by
  obtain ⟨r, h', e, q⟩ := e
  exact ⟨r, h', e, H _ _ q⟩
theorem Zs_mono {f : am_F} {Q1 : Option Value → am_H → Prop} (e : Zs sc d code f h Q1) (H : ∀ r h', Q1 r h' → Q r h') : Zs sc d code f h Q := by
  obtain ⟨r, h', e, q⟩ := e
  exact ⟨r, h', e, H _ _ q⟩
theorem Z_jump (n : Nat) {f f1 : am_F} {h h1 : am_H} (hj : am_jump sc code n f h = some (f1, h1)) (k : Zs sc d code f1 h1 Q) : Zs sc d code f h Q := Z_lift (fun _ _ => S_jump n hj) k
theorem Z_ret {f : am_F} {q : am_I} (ha : am_at code f.1 = some q) (hd : am_do am_df sc q f.2.1 f.2.2 h = some (.inr (.inl r))) (hi : am_isR q.2.1 = true) (hq : Q r h) : Zs sc d code f h Q := ⟨r, h, S_ret ha hd hi, hq⟩
theorem Z_rI {pc len : Nat} {rs : List Nat} {cv : Value} {l : am_L} {x : Int32} (ha : am_at code pc = some (pc, .ireturn, len, rs, cv)) (hn : am_nw (am_t rs) x = true) (hq : Q (some (.int x)) h) : Zs sc d code (pc, l, [.int x]) h Q := ⟨_, _, S_rI ha hn rfl rfl, hq⟩
/-- a call by an exact contract -/
theorem Z_cE {f : am_F} {q : am_I} {M : Nat} {as rest : List Value} {v : Option Value} {h1 : am_H} (ha : am_at code f.1 = some q) (hd : am_do am_df sc q f.2.1 f.2.2 h = some (.inr (.inr (M, as, rest)))) (hi : am_isC q.2.1 = true) (e : am_E sc d M as h v h1) (k : Zs sc d code (f.1 + 3, f.2.1, v.toList ++ rest) h1 Q) : Zs sc d code f h Q := Z_lift (fun _ _ => S_call ha hd hi e) k
theorem Z_c0 {pc : Nat} {l : am_L} {st : List Value} {q : am_I} {M : Nat} {as rest : List Value} {h1 : am_H} (ha : am_at code pc = some q) (hd : am_do am_df sc q l st h = some (.inr (.inr (M, as, rest)))) (hi : am_isC q.2.1 = true) (e : am_E sc d M as h none h1) (k : Zs sc d code (pc + 3, l, rest) h1 Q) : Zs sc d code (pc, l, st) h Q := Z_lift (fun _ _ => S_c0 ha hd hi e) k
theorem Z_c1 {pc : Nat} {l : am_L} {st : List Value} {q : am_I} {M : Nat} {as rest : List Value} {v : Value} {h1 : am_H} (ha : am_at code pc = some q) (hd : am_do am_df sc q l st h = some (.inr (.inr (M, as, rest)))) (hi : am_isC q.2.1 = true) (e : am_E sc d M as h (some v) h1) (k : Zs sc d code (pc + 3, l, v :: rest) h1 Q) : Zs sc d code (pc, l, st) h Q := Z_lift (fun _ _ => S_c1 ha hd hi e) k
/-- a call by what holds at its end -/
theorem Z_cQ {pc : Nat} {l : am_L} {st : List Value} {q : am_I} {M : Nat} {as rest : List Value} {Q1 : Option Value → am_H → Prop} (ha : am_at code pc = some q) (hd : am_do am_df sc q l st h = some (.inr (.inr (M, as, rest)))) (hi : am_isC q.2.1 = true) (e : Ze sc d M as h Q1) (k : ∀ v h1, Q1 v h1 → Zs sc d code (pc + 3, l, v.toList ++ rest) h1 Q) : Zs sc d code (pc, l, st) h Q := by
  obtain ⟨v, h1, e, q1⟩ := e
  exact Z_lift (fun _ _ => S_call (f := (pc, l, st)) ha hd hi e) (k v h1 q1)
theorem Z_bd {p : Prop} [Decidable p] {t u : Nat} {l : am_L} {st : List Value} (h1 : p → Zs sc d code (t, l, st) h Q) (h2 : ¬ p → Zs sc d code (u, l, st) h Q) : Zs sc d code (bif decide p then t else u, l, st) h Q := by
  by_cases hp : p
  · rw [decide_eq_true hp]; exact h1 hp
  · rw [decide_eq_false hp]; exact h2 hp
theorem Z_bn {p : Prop} [Decidable p] {t u : Nat} {l : am_L} {st : List Value} (h1 : ¬ p → Zs sc d code (t, l, st) h Q) (h2 : p → Zs sc d code (u, l, st) h Q) : Zs sc d code (bif !decide p then t else u, l, st) h Q := by
  by_cases hp : p
  · rw [decide_eq_true hp]; exact h2 hp
  · rw [decide_eq_false hp]; exact h1 hp
theorem Z_ial {pc a len n : Nat} {rs : List Nat} {cv : Value} {l : am_L} {st : List Value} {f : Nat → Int32} {i : Int32} (ha : am_at code pc = some (pc, .iaload, len, rs, cv)) (hh : h[a]? = some (.inl (0, n, .inl f))) (hi : vp_in i n) (k : Zs sc d code (pc + 1, l, .int (f i.toNatClampNeg) :: st) h Q) : Zs sc d code (pc, l, .int i :: .ref a :: st) h Q := Z_lift (fun _ _ => S_ial ha hh hi) k
theorem Z_ias {pc a len n : Nat} {rs : List Nat} {cv : Value} {l : am_L} {st : List Value} {f : Nat → Int32} {i x : Int32} (ha : am_at code pc = some (pc, .iastore, len, rs, cv)) (hh : h[a]? = some (.inl (0, n, .inl f))) (hi : vp_in i n) (k : Zs sc d code (pc + 1, l, st) (h.set a (.inl (0, n, .inl (upd f i.toNatClampNeg x)))) Q) : Zs sc d code (pc, l, .int x :: .int i :: .ref a :: st) h Q := Z_lift (fun _ _ => S_ias ha hh hi) k
theorem Z_lal {pc a len n : Nat} {rs : List Nat} {cv : Value} {l : am_L} {st : List Value} {f : Nat → Int64} {i : Int32} (ha : am_at code pc = some (pc, .laload, len, rs, cv)) (hh : h[a]? = some (.inl (1, n, .inr (.inl f)))) (hi : vp_in i n) (k : Zs sc d code (pc + 1, l, .long (f i.toNatClampNeg) :: st) h Q) : Zs sc d code (pc, l, .int i :: .ref a :: st) h Q := Z_lift (fun _ _ => S_lal ha hh hi) k
theorem Z_las {pc a len n : Nat} {rs : List Nat} {cv : Value} {l : am_L} {st : List Value} {f : Nat → Int64} {i : Int32} {x : Int64} (ha : am_at code pc = some (pc, .lastore, len, rs, cv)) (hh : h[a]? = some (.inl (1, n, .inr (.inl f)))) (hi : vp_in i n) (k : Zs sc d code (pc + 1, l, st) (h.set a (.inl (1, n, .inr (.inl (vp_updL f i.toNatClampNeg x))))) Q) : Zs sc d code (pc, l, .long x :: .int i :: .ref a :: st) h Q := Z_lift (fun _ _ => S_las ha hh hi) k
/-- a row of references: read -/
theorem Z_aal {pc a len n t : Nat} {rs : List Nat} {cv : Value} {l : am_L} {st : List Value} {f : Nat → Option Nat} {i : Int32} (ha : am_at code pc = some (pc, .aaload, len, rs, cv)) (hh : h[a]? = some (.inl (t, n, .inr (.inr (.inr (.inr f)))))) (ht : t = 3 ∨ t = 4) (hi : vp_in i n) (k : Zs sc d code (pc + 1, l, va_rf (f i.toNatClampNeg) :: st) h Q) : Zs sc d code (pc, l, .int i :: .ref a :: st) h Q := by
  refine Z_lift (fun _ _ => S_go ha ?_) k
  show am_aal pc l (.int i :: .ref a :: st) h = _
  unfold am_aal
  dsimp only
  rw [hh]
  dsimp only
  exact if_neg (fun z => z.elim hi (fun y => y ht))
theorem Z_tsO {pc len : Nat} {dd lo hi : Int} {offs : Array Int} {rs : List Nat} {cv : Value} {l : am_L} {st : List Value} {x : Int32} (ha : am_at code pc = some (pc, .tableswitch dd lo hi offs, len, rs, cv)) (hx : x.toInt < lo ∨ hi < x.toInt) (k : Zs sc d code (am_t rs, l, st) h Q) : Zs sc d code (pc, l, .int x :: st) h Q := Z_lift (fun _ _ => S_tsO ha hx) k
/-- the same by natural places -/
theorem wp_vK {i : Int32} {K n : Nat} (e : i = nI K) (hk : K < n) (hn : n < 2 ^ 31) : vp_in i n := by
  rw [e]; exact vp_in_nI hk hn
theorem wp_cK {i : Int32} {K n : Nat} (e : i = nI K) (hk : K < n) (hn : n < 2 ^ 31) : i.toNatClampNeg = K := by
  rw [e]; exact nI_clamp (by omega)
theorem Z_ialK {pc a len n : Nat} {rs : List Nat} {cv : Value} {l : am_L} {st : List Value} {f : Nat → Int32} {i : Int32} (K : Nat) (ha : am_at code pc = some (pc, .iaload, len, rs, cv)) (hh : h[a]? = some (.inl (0, n, .inl f))) (e : i = nI K) (hk : K < n) (hn : n < 2 ^ 31) (k : Zs sc d code (pc + 1, l, .int (f K) :: st) h Q) : Zs sc d code (pc, l, .int i :: .ref a :: st) h Q := by
  refine Z_ial ha hh (wp_vK e hk hn) ?_
  rw [wp_cK e hk hn]; exact k
theorem Z_lalK {pc a len n : Nat} {rs : List Nat} {cv : Value} {l : am_L} {st : List Value} {f : Nat → Int64} {i : Int32} (K : Nat) (ha : am_at code pc = some (pc, .laload, len, rs, cv)) (hh : h[a]? = some (.inl (1, n, .inr (.inl f)))) (e : i = nI K) (hk : K < n) (hn : n < 2 ^ 31) (k : Zs sc d code (pc + 1, l, .long (f K) :: st) h Q) : Zs sc d code (pc, l, .int i :: .ref a :: st) h Q := by
  refine Z_lal ha hh (wp_vK e hk hn) ?_
  rw [wp_cK e hk hn]; exact k
theorem Z_iasK {pc a len n : Nat} {rs : List Nat} {cv : Value} {l : am_L} {st : List Value} {f : Nat → Int32} {i x : Int32} (K : Nat) (ha : am_at code pc = some (pc, .iastore, len, rs, cv)) (hh : h[a]? = some (.inl (0, n, .inl f))) (e : i = nI K) (hk : K < n) (hn : n < 2 ^ 31) (k : Zs sc d code (pc + 1, l, st) (h.set a (.inl (0, n, .inl (va_up f K x)))) Q) : Zs sc d code (pc, l, .int x :: .int i :: .ref a :: st) h Q := by
  refine Z_ias ha hh (wp_vK e hk hn) ?_
  rw [wp_cK e hk hn]; exact k
theorem Z_lasK {pc a len n : Nat} {rs : List Nat} {cv : Value} {l : am_L} {st : List Value} {f : Nat → Int64} {i : Int32} {x : Int64} (K : Nat) (ha : am_at code pc = some (pc, .lastore, len, rs, cv)) (hh : h[a]? = some (.inl (1, n, .inr (.inl f)))) (e : i = nI K) (hk : K < n) (hn : n < 2 ^ 31) (k : Zs sc d code (pc + 1, l, st) (h.set a (.inl (1, n, .inr (.inl (va_up f K x))))) Q) : Zs sc d code (pc, l, .long x :: .int i :: .ref a :: st) h Q := by
  refine Z_las ha hh (wp_vK e hk hn) ?_
  rw [wp_cK e hk hn]; exact k
theorem Z_aalK {pc a len n t : Nat} {rs : List Nat} {cv : Value} {l : am_L} {st : List Value} {f : Nat → Option Nat} {i : Int32} (K : Nat) (ha : am_at code pc = some (pc, .aaload, len, rs, cv)) (hh : h[a]? = some (.inl (t, n, .inr (.inr (.inr (.inr f)))))) (ht : t = 3 ∨ t = 4) (e : i = nI K) (hk : K < n) (hn : n < 2 ^ 31) (k : Zs sc d code (pc + 1, l, va_rf (f K) :: st) h Q) : Zs sc d code (pc, l, .int i :: .ref a :: st) h Q := by
  refine Z_aal ha hh ht (wp_vK e hk hn) ?_
  rw [wp_cK e hk hn]; exact k
theorem Z_gf {pc a ci idx len : Nat} {rs : List Nat} {cv : Value} {l : am_L} {st fs : List Value} {v : Value} (ha : am_at code pc = some (pc, .getfield idx, len, rs, cv)) (hh : h[a]? = some (.inr (ci, fs))) (hc : (rs.drop 1).contains ci = true) (hv : fs[am_t rs]? = some v) (k : Zs sc d code (pc + 3, l, v :: st) h Q) : Zs sc d code (pc, l, .ref a :: st) h Q := Z_lift (fun _ _ => S_gf ha hh hc hv) k
theorem Z_idiv {pc len : Nat} {rs : List Nat} {cv : Value} {l : am_L} {st : List Value} {x y : Int32} (ha : am_at code pc = some (pc, .idiv, len, rs, cv)) (hy : ¬ y = 0) (k : Zs sc d code (pc + 1, l, .int (x / y) :: st) h Q) : Zs sc d code (pc, l, .int y :: .int x :: st) h Q := Z_lift (fun _ _ => S_go ha (if_neg hy)) k
theorem Z_irem {pc len : Nat} {rs : List Nat} {cv : Value} {l : am_L} {st : List Value} {x y : Int32} (ha : am_at code pc = some (pc, .irem, len, rs, cv)) (hy : ¬ y = 0) (k : Zs sc d code (pc + 1, l, .int (x - x / y * y) :: st) h Q) : Zs sc d code (pc, l, .int y :: .int x :: st) h Q := Z_lift (fun _ _ => S_go ha (if_neg hy)) k
theorem Z_ldiv {pc len : Nat} {rs : List Nat} {cv : Value} {l : am_L} {st : List Value} {x y : Int64} (ha : am_at code pc = some (pc, .ldiv, len, rs, cv)) (hy : ¬ y = 0) (k : Zs sc d code (pc + 1, l, .long (x / y) :: st) h Q) : Zs sc d code (pc, l, .long y :: .long x :: st) h Q := Z_lift (fun _ _ => S_go ha (if_neg hy)) k
theorem Z_lrem {pc len : Nat} {rs : List Nat} {cv : Value} {l : am_L} {st : List Value} {x y : Int64} (ha : am_at code pc = some (pc, .lrem, len, rs, cv)) (hy : ¬ y = 0) (k : Zs sc d code (pc + 1, l, .long (x - x / y * y) :: st) h Q) : Zs sc d code (pc, l, .long y :: .long x :: st) h Q := Z_lift (fun _ _ => S_go ha (if_neg hy)) k
theorem Z_eqI {pc : Nat} {l : am_L} {st : List Value} {x y : Int32} (e : x = y) (k : Zs sc d code (pc, l, .int y :: st) h Q) : Zs sc d code (pc, l, .int x :: st) h Q := by
  rw [e]; exact k
theorem Z_eqL {pc : Nat} {l : am_L} {st : List Value} {x y : Int64} (e : x = y) (k : Zs sc d code (pc, l, .long y :: st) h Q) : Zs sc d code (pc, l, .long x :: st) h Q := by
  rw [e]; exact k
theorem am_inv_eq {n a ci M : Nat} {ds : List Nat} {st as r fs : List Value} (h1 : am_pop n st = some (as, .ref a :: r)) (h2 : h[a]? = some (.inr (ci, fs))) (h3 : am_dis ds ci = some M) (h4 : (r.map fun v => v.category).sum ≤ 8) : am_inv (n :: ds) st h = some (.inr (.inr (M, .ref a :: as, r))) := by
  unfold am_inv
  dsimp only
  rw [h1]
  dsimp only
  rw [show am_rec h (.ref a) = some ci by unfold am_rec; dsimp only; rw [h2]]
  dsimp only
  rw [h3]
  exact if_pos h4
theorem E_Z {M : Nat} {as : List Value} {v : Option Value} {h1 : am_H} (e : Ze sc d M as h (fun r h' => r = v ∧ h' = h1)) : am_E sc d M as h v h1 := by
  obtain ⟨r, h', e, rfl, rfl⟩ := e
  exact e
end AMW
/-- one int, long, reference written -/
def sf (I : hI) (c k : Nat) (v : Int32) : hI := va_up I c (va_up (I c) k v)
def sl (J : hJ) (c k : Nat) (v : Int64) : hJ := va_up J c (va_up (J c) k v)
def sr (R : hR) (c k : Nat) (v : Option Nat) : hR := va_up R c (va_up (R c) k v)
theorem sf_c {I : hI} {c k c2 : Nat} {v : Int32} (h : c2 ≠ c) : sf I c k v c2 = I c2 := up_ne h
theorem sl_c {J : hJ} {c k c2 : Nat} {v : Int64} (h : c2 ≠ c) : sl J c k v c2 = J c2 := up_ne h
theorem sf_s (I : hI) (c k : Nat) (v : Int32) : sf I c k v c k = v := by unfold sf; rw [up_same, up_same]
theorem sl_s (J : hJ) (c k : Nat) (v : Int64) : sl J c k v c k = v := by unfold sl; rw [up_same, up_same]
theorem sf_k {I : hI} {c k k2 : Nat} {v : Int32} (h : k2 ≠ k) : sf I c k v c k2 = I c k2 := by unfold sf; rw [up_same, up_ne h]
theorem sl_k {J : hJ} {c k k2 : Nat} {v : Int64} (h : k2 ≠ k) : sl J c k v c k2 = J c k2 := by unfold sl; rw [up_same, up_ne h]
theorem and31 (x : Int32) : ∃ m : Nat, m < 32 ∧ x &&& 31 = nI m := by
  refine ⟨(x &&& 31).toBitVec.toNat, ?_, ?_⟩
  · have e : (x &&& 31).toBitVec = x.toBitVec &&& 31#32 := rfl
    rw [e, BitVec.toNat_and]
    have : x.toBitVec.toNat &&& (31#32).toNat ≤ (31#32).toNat := Nat.and_le_right
    have e2 : (31#32).toNat = 31 := rfl
    omega
  · show x &&& 31 = Int32.ofNat _
    apply Int32.toBitVec_inj.mp
    show _ = BitVec.ofNat 32 _
    rw [BitVec.ofNat_toNat, BitVec.setWidth_eq]

