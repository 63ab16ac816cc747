/-! A call whose receiver is known by its lookup. -/
theorem am_do_inv {sc : Nat × (Nat → Int32)} {h : am_H} {pc idx len n a ci M : Nat} {ds : List Nat} {cv : Value} {l : am_L} {st as r fs : List Value} (h2 : h[a]? = some (.inr (ci, fs))) (h1 : am_pop n st = some (as, .ref a :: r)) (h3 : am_dis ds ci = some M) (h4 : (r.map fun v => v.category).sum ≤ 8) : am_do am_df sc (pc, .invokevirtual idx, len, n :: ds, cv) l st h = some (.inr (.inr (M, .ref a :: as, r))) := am_inv_eq h1 h2 h3 h4

