/-! Rows of references written; lengths of the text constants. -/
section WP3
variable {sc : Nat × (Nat → Int32)} {d : Nat} {code : List am_I} {h : am_H} {Q : Option Value → am_H → Prop}
theorem Z_aasN {pc a len n t : Nat} {rs : List Nat} {cv : Value} {l : am_L} {st : List Value} {f : Nat → Option Nat} {i : Int32} (K : Nat) (ha : am_at code pc = some (pc, .aastore, len, rs, cv)) (hh : h[a]? = some (.inl (t, n, .inr (.inr (.inr (.inr f)))))) (ht : t = 3 ∨ t = 4) (e : i = nI K) (hk : K < n) (hn : n < 2 ^ 31) (k : Zs sc d code (pc + 1, l, st) (h.set a (.inl (t, n, .inr (.inr (.inr (.inr (va_up f K none))))))) Q) : Zs sc d code (pc, l, .null :: .int i :: .ref a :: st) h Q := by
  refine Z_lift (fun _ _ => S_go ha ?_) k
  show am_aas pc l (.null :: .int i :: .ref a :: st) h = _
  unfold am_aas
  dsimp only
  rw [hh]
  dsimp only
  rw [if_neg (fun z => z.elim (wp_vK e hk hn) (fun y => y ht)), wp_cK e hk hn]
theorem Z_aasR {pc a v len n t ci : Nat} {rs : List Nat} {cv : Value} {l : am_L} {st fs : List Value} {f : Nat → Option Nat} {i : Int32} (K : Nat) (ha : am_at code pc = some (pc, .aastore, len, rs, cv)) (hh : h[a]? = some (.inl (t, n, .inr (.inr (.inr (.inr f)))))) (hv : h[v]? = some (.inr (ci, fs))) (hm : am_may t ci = true) (e : i = nI K) (hk : K < n) (hn : n < 2 ^ 31) (k : Zs sc d code (pc + 1, l, st) (h.set a (.inl (t, n, .inr (.inr (.inr (.inr (va_up f K (some v)))))))) Q) : Zs sc d code (pc, l, .ref v :: .int i :: .ref a :: st) h Q := by
  refine Z_lift (fun _ _ => S_go ha ?_) k
  show am_aas pc l (.ref v :: .int i :: .ref a :: st) h = _
  unfold am_aas
  dsimp only
  rw [hh, hv]
  dsimp only
  rw [if_neg (fun z => z.elim (wp_vK e hk hn) (fun y => y hm)), wp_cK e hk hn]
end WP3

