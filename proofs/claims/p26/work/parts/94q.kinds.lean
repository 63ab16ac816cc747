/-! leastTimeFor, fitsSeen (class): any state. -/
section KND
variable {sc : Nat × (Nat → Int32)} {d : Nat} {I : hI} {J : hJ} {R : hR} {T : am_H} {Q : Option Value → am_H → Prop}
def ltl (q : RD4) (v : Int32) (i : Nat) : Int32 := v - nI i * nI (hwv q)
def ltt (q : RD4) (v : Int32) (i : Nat) : Int32 := ltl q v i * nI (ltv q) + nI i * nI (htv q)
def clt (q : RD4) (v : Int32) : Nat → Nat → Int32 → Int32
  | 0, _, s => s
  | k + 1, i, s => clt q v k (i + 1) (if ltl q v i < 0 then s else if nI q.2.2.1 < ltl q v i then s else if s = -1 then ltt q v i else if s ≤ ltt q v i then s else ltt q v i)
theorem c_hw3n {b l g r : Nat} (hL : (HH I J R T)[r]? = some (rodC (3, b, l, g))) : am_E sc (d + 1) 13 [.ref r] (HH I J R T) (some (.int (nI (hwv (3, b, l, g))))) (HH I J R T) := by
  have e : nI (hwv (3, b, l, g)) = nI l + 1 := (nI_1 l).symm
  rw [e]
  exact c_hw3 hL

theorem c_ltf0 {b l g r : Nat} {v : Int32} (hg : g ≤ 3) (hL : (HH I J R T)[r]? = some (rodC (0, b, l, g))) : ∀ (k i : Nat) (x s F : Int32) (t : am_L), i + k = g + 1 → x = nI i → (t = [] ∨ ∃ y z, t = [(4, Value.int y), (5, Value.int z)]) → F = clt (0, b, l, g) v k i s → Zs sc (d + 1) (am_P 24).2 (4, (0, .ref r) :: (1, .int v) :: (2, .int s) :: (3, .int x) :: t, []) (HH I J R T) (fun r h => r = some (.int F) ∧ h = HH I J R T)
  | 0, i, x, s, F, t, hi, hx, ht, hF => by
    have hc : nI g < x := by rw [hx]; exact nI_lt (by omega) (by omega)
    rcases ht with rfl | ⟨y, z, rfl⟩
    · refine Z_jump 2 rfl ?_
      show Zs _ _ (am_P 24).2 (6, [(0, .ref r), (1, .int v), (2, .int s), (3, .int x)], [.ref r, .int x]) (HH I J R T) _
      refine Z_gfR (q := (0, b, l, g)) rfl hL (Nat.le_of_ble_eq_true rfl) rfl ?_
      refine Z_jump 1 rfl ?_
      refine Z_bd (fun c9 => ?_) (fun c9 => absurd (hc) c9)
      refine Z_jump 1 rfl ?_
      show Zs _ _ (am_P 24).2 (73, [(0, .ref r), (1, .int v), (2, .int s), (3, .int x)], [.int s]) (HH I J R T) _
      refine Z_rI rfl (by first | exact am_nw0 _ | exact am_nw01 | rfl | assumption) ?_
      exact ⟨am_ii hF.symm, rfl⟩
    · refine Z_jump 2 rfl ?_
      show Zs _ _ (am_P 24).2 (6, [(0, .ref r), (1, .int v), (2, .int s), (3, .int x), (4, .int y), (5, .int z)], [.ref r, .int x]) (HH I J R T) _
      refine Z_gfR (q := (0, b, l, g)) rfl hL (Nat.le_of_ble_eq_true rfl) rfl ?_
      refine Z_jump 1 rfl ?_
      refine Z_bd (fun c9 => ?_) (fun c9 => absurd (hc) c9)
      refine Z_jump 1 rfl ?_
      show Zs _ _ (am_P 24).2 (73, [(0, .ref r), (1, .int v), (2, .int s), (3, .int x), (4, .int y), (5, .int z)], [.int s]) (HH I J R T) _
      refine Z_rI rfl (by first | exact am_nw0 _ | exact am_nw01 | rfl | assumption) ?_
      exact ⟨am_ii hF.symm, rfl⟩
  | k + 1, i, x, s, F, t, hi, hx, ht, hF => by
    have hc : ¬ nI g < x := by rw [hx, nI_ltI (by omega) (by omega)]; omega
    unfold clt at hF
    simp only [ltl, ltt, ← hx] at hF
    rcases ht with rfl | ⟨y, z, rfl⟩
    · refine Z_jump 2 rfl ?_
      show Zs _ _ (am_P 24).2 (6, [(0, .ref r), (1, .int v), (2, .int s), (3, .int x)], [.ref r, .int x]) (HH I J R T) _
      refine Z_gfR (q := (0, b, l, g)) rfl hL (Nat.le_of_ble_eq_true rfl) rfl ?_
      refine Z_jump 1 rfl ?_
      refine Z_bd (fun c9 => absurd c9 (hc)) (fun c9 => ?_)
      refine Z_jump 3 rfl ?_
      show Zs _ _ (am_P 24).2 (15, [(0, .ref r), (1, .int v), (2, .int s), (3, .int x)], [.ref r, .int x, .int v]) (HH I J R T) _
      refine Z_c1 rfl (am_do_inv (hL) rfl (rfl) (Nat.le_of_ble_eq_true rfl)) rfl (c_hw0 hL) ?_
      show Zs _ _ (am_P 24).2 (18, [(0, .ref r), (1, .int v), (2, .int s), (3, .int x)], [.int (nI (hwv (0, b, l, g))), .int x, .int v]) (HH I J R T) _
      refine Z_jump 5 rfl ?_
      show Zs _ _ (am_P 24).2 (25, [(0, .ref r), (1, .int v), (2, .int s), (3, .int x), (4, .int (v - (x * (nI (hwv (0, b, l, g))))))], [.ref r, .int (v - (x * (nI (hwv (0, b, l, g)))))]) (HH I J R T) _
      refine Z_c1 rfl (am_do_inv (hL) rfl (rfl) (Nat.le_of_ble_eq_true rfl)) rfl (c_lt0 hL) ?_
      show Zs _ _ (am_P 24).2 (28, [(0, .ref r), (1, .int v), (2, .int s), (3, .int x), (4, .int (v - (x * (nI (hwv (0, b, l, g))))))], [.int (nI (ltv (0, b, l, g))), .int (v - (x * (nI (hwv (0, b, l, g)))))]) (HH I J R T) _
      refine Z_jump 3 rfl ?_
      show Zs _ _ (am_P 24).2 (31, [(0, .ref r), (1, .int v), (2, .int s), (3, .int x), (4, .int (v - (x * (nI (hwv (0, b, l, g))))))], [.ref r, .int x, .int ((v - (x * (nI (hwv (0, b, l, g))))) * (nI (ltv (0, b, l, g))))]) (HH I J R T) _
      refine Z_c1 rfl (am_do_inv (hL) rfl (rfl) (Nat.le_of_ble_eq_true rfl)) rfl (c_ht0 hL) ?_
      show Zs _ _ (am_P 24).2 (34, [(0, .ref r), (1, .int v), (2, .int s), (3, .int x), (4, .int (v - (x * (nI (hwv (0, b, l, g))))))], [.int (nI (htv (0, b, l, g))), .int x, .int ((v - (x * (nI (hwv (0, b, l, g))))) * (nI (ltv (0, b, l, g))))]) (HH I J R T) _
      refine Z_jump 5 rfl ?_
      refine Z_bd (fun (c40 : (v - (x * (nI (hwv (0, b, l, g))))) < (0 : Int32)) => ?_) (fun (c40 : ¬ ((v - (x * (nI (hwv (0, b, l, g))))) < (0 : Int32))) => ?_)
      · refine Z_jump 2 rfl ?_
        show Zs _ _ (am_P 24).2 (4, [(0, .ref r), (1, .int v), (2, .int s), (3, .int (x + 1)), (4, .int (v - (x * (nI (hwv (0, b, l, g)))))), (5, .int (((v - (x * (nI (hwv (0, b, l, g))))) * (nI (ltv (0, b, l, g)))) + (x * (nI (htv (0, b, l, g))))))], []) (HH I J R T) _
        refine c_ltf0 hg hL k (i + 1) _ _ _ _ (by omega) (by rw [hx]; exact nI_1 i) (Or.inr ⟨_, _, rfl⟩) (hF.trans (congrArg (clt _ v k (i + 1)) ?_))
        first | exact if_pos c40 | (rw [if_neg c40]; first | exact if_pos c49 | (rw [if_neg c49]; first | exact if_pos c54 | (rw [if_neg c54]; first | exact if_pos c60 | exact if_neg c60)))
      · refine Z_jump 2 rfl ?_
        show Zs _ _ (am_P 24).2 (46, [(0, .ref r), (1, .int v), (2, .int s), (3, .int x), (4, .int (v - (x * (nI (hwv (0, b, l, g)))))), (5, .int (((v - (x * (nI (hwv (0, b, l, g))))) * (nI (ltv (0, b, l, g)))) + (x * (nI (htv (0, b, l, g))))))], [.ref r, .int (v - (x * (nI (hwv (0, b, l, g)))))]) (HH I J R T) _
        refine Z_gfR (q := (0, b, l, g)) rfl hL (Nat.le_of_ble_eq_true rfl) rfl ?_
        refine Z_jump 1 rfl ?_
        refine Z_bd (fun (c49 : (nI l) < (v - (x * (nI (hwv (0, b, l, g)))))) => ?_) (fun (c49 : ¬ ((nI l) < (v - (x * (nI (hwv (0, b, l, g))))))) => ?_)
        · refine Z_jump 2 rfl ?_
          show Zs _ _ (am_P 24).2 (4, [(0, .ref r), (1, .int v), (2, .int s), (3, .int (x + 1)), (4, .int (v - (x * (nI (hwv (0, b, l, g)))))), (5, .int (((v - (x * (nI (hwv (0, b, l, g))))) * (nI (ltv (0, b, l, g)))) + (x * (nI (htv (0, b, l, g))))))], []) (HH I J R T) _
          refine c_ltf0 hg hL k (i + 1) _ _ _ _ (by omega) (by rw [hx]; exact nI_1 i) (Or.inr ⟨_, _, rfl⟩) (hF.trans (congrArg (clt _ v k (i + 1)) ?_))
          first | exact if_pos c40 | (rw [if_neg c40]; first | exact if_pos c49 | (rw [if_neg c49]; first | exact if_pos c54 | (rw [if_neg c54]; first | exact if_pos c60 | exact if_neg c60)))
        · refine Z_jump 3 rfl ?_
          refine Z_bd (fun (c54 : s = (-1 : Int32)) => ?_) (fun (c54 : ¬ (s = (-1 : Int32))) => ?_)
          · refine Z_jump 4 rfl ?_
            show Zs _ _ (am_P 24).2 (4, [(0, .ref r), (1, .int v), (2, .int (((v - (x * (nI (hwv (0, b, l, g))))) * (nI (ltv (0, b, l, g)))) + (x * (nI (htv (0, b, l, g)))))), (3, .int (x + 1)), (4, .int (v - (x * (nI (hwv (0, b, l, g)))))), (5, .int (((v - (x * (nI (hwv (0, b, l, g))))) * (nI (ltv (0, b, l, g)))) + (x * (nI (htv (0, b, l, g))))))], []) (HH I J R T) _
            refine c_ltf0 hg hL k (i + 1) _ _ _ _ (by omega) (by rw [hx]; exact nI_1 i) (Or.inr ⟨_, _, rfl⟩) (hF.trans (congrArg (clt _ v k (i + 1)) ?_))
            first | exact if_pos c40 | (rw [if_neg c40]; first | exact if_pos c49 | (rw [if_neg c49]; first | exact if_pos c54 | (rw [if_neg c54]; first | exact if_pos c60 | exact if_neg c60)))
          · refine Z_jump 3 rfl ?_
            refine Z_bd (fun (c60 : s ≤ (((v - (x * (nI (hwv (0, b, l, g))))) * (nI (ltv (0, b, l, g)))) + (x * (nI (htv (0, b, l, g)))))) => ?_) (fun (c60 : ¬ (s ≤ (((v - (x * (nI (hwv (0, b, l, g))))) * (nI (ltv (0, b, l, g)))) + (x * (nI (htv (0, b, l, g))))))) => ?_)
            · refine Z_jump 2 rfl ?_
              show Zs _ _ (am_P 24).2 (4, [(0, .ref r), (1, .int v), (2, .int s), (3, .int (x + 1)), (4, .int (v - (x * (nI (hwv (0, b, l, g)))))), (5, .int (((v - (x * (nI (hwv (0, b, l, g))))) * (nI (ltv (0, b, l, g)))) + (x * (nI (htv (0, b, l, g))))))], []) (HH I J R T) _
              refine c_ltf0 hg hL k (i + 1) _ _ _ _ (by omega) (by rw [hx]; exact nI_1 i) (Or.inr ⟨_, _, rfl⟩) (hF.trans (congrArg (clt _ v k (i + 1)) ?_))
              first | exact if_pos c40 | (rw [if_neg c40]; first | exact if_pos c49 | (rw [if_neg c49]; first | exact if_pos c54 | (rw [if_neg c54]; first | exact if_pos c60 | exact if_neg c60)))
            · refine Z_jump 4 rfl ?_
              show Zs _ _ (am_P 24).2 (4, [(0, .ref r), (1, .int v), (2, .int (((v - (x * (nI (hwv (0, b, l, g))))) * (nI (ltv (0, b, l, g)))) + (x * (nI (htv (0, b, l, g)))))), (3, .int (x + 1)), (4, .int (v - (x * (nI (hwv (0, b, l, g)))))), (5, .int (((v - (x * (nI (hwv (0, b, l, g))))) * (nI (ltv (0, b, l, g)))) + (x * (nI (htv (0, b, l, g))))))], []) (HH I J R T) _
              refine c_ltf0 hg hL k (i + 1) _ _ _ _ (by omega) (by rw [hx]; exact nI_1 i) (Or.inr ⟨_, _, rfl⟩) (hF.trans (congrArg (clt _ v k (i + 1)) ?_))
              first | exact if_pos c40 | (rw [if_neg c40]; first | exact if_pos c49 | (rw [if_neg c49]; first | exact if_pos c54 | (rw [if_neg c54]; first | exact if_pos c60 | exact if_neg c60)))
    · refine Z_jump 2 rfl ?_
      show Zs _ _ (am_P 24).2 (6, [(0, .ref r), (1, .int v), (2, .int s), (3, .int x), (4, .int y), (5, .int z)], [.ref r, .int x]) (HH I J R T) _
      refine Z_gfR (q := (0, b, l, g)) rfl hL (Nat.le_of_ble_eq_true rfl) rfl ?_
      refine Z_jump 1 rfl ?_
      refine Z_bd (fun c9 => absurd c9 (hc)) (fun c9 => ?_)
      refine Z_jump 3 rfl ?_
      show Zs _ _ (am_P 24).2 (15, [(0, .ref r), (1, .int v), (2, .int s), (3, .int x), (4, .int y), (5, .int z)], [.ref r, .int x, .int v]) (HH I J R T) _
      refine Z_c1 rfl (am_do_inv (hL) rfl (rfl) (Nat.le_of_ble_eq_true rfl)) rfl (c_hw0 hL) ?_
      show Zs _ _ (am_P 24).2 (18, [(0, .ref r), (1, .int v), (2, .int s), (3, .int x), (4, .int y), (5, .int z)], [.int (nI (hwv (0, b, l, g))), .int x, .int v]) (HH I J R T) _
      refine Z_jump 5 rfl ?_
      show Zs _ _ (am_P 24).2 (25, [(0, .ref r), (1, .int v), (2, .int s), (3, .int x), (4, .int (v - (x * (nI (hwv (0, b, l, g)))))), (5, .int z)], [.ref r, .int (v - (x * (nI (hwv (0, b, l, g)))))]) (HH I J R T) _
      refine Z_c1 rfl (am_do_inv (hL) rfl (rfl) (Nat.le_of_ble_eq_true rfl)) rfl (c_lt0 hL) ?_
      show Zs _ _ (am_P 24).2 (28, [(0, .ref r), (1, .int v), (2, .int s), (3, .int x), (4, .int (v - (x * (nI (hwv (0, b, l, g)))))), (5, .int z)], [.int (nI (ltv (0, b, l, g))), .int (v - (x * (nI (hwv (0, b, l, g)))))]) (HH I J R T) _
      refine Z_jump 3 rfl ?_
      show Zs _ _ (am_P 24).2 (31, [(0, .ref r), (1, .int v), (2, .int s), (3, .int x), (4, .int (v - (x * (nI (hwv (0, b, l, g)))))), (5, .int z)], [.ref r, .int x, .int ((v - (x * (nI (hwv (0, b, l, g))))) * (nI (ltv (0, b, l, g))))]) (HH I J R T) _
      refine Z_c1 rfl (am_do_inv (hL) rfl (rfl) (Nat.le_of_ble_eq_true rfl)) rfl (c_ht0 hL) ?_
      show Zs _ _ (am_P 24).2 (34, [(0, .ref r), (1, .int v), (2, .int s), (3, .int x), (4, .int (v - (x * (nI (hwv (0, b, l, g)))))), (5, .int z)], [.int (nI (htv (0, b, l, g))), .int x, .int ((v - (x * (nI (hwv (0, b, l, g))))) * (nI (ltv (0, b, l, g))))]) (HH I J R T) _
      refine Z_jump 5 rfl ?_
      refine Z_bd (fun (c40 : (v - (x * (nI (hwv (0, b, l, g))))) < (0 : Int32)) => ?_) (fun (c40 : ¬ ((v - (x * (nI (hwv (0, b, l, g))))) < (0 : Int32))) => ?_)
      · refine Z_jump 2 rfl ?_
        show Zs _ _ (am_P 24).2 (4, [(0, .ref r), (1, .int v), (2, .int s), (3, .int (x + 1)), (4, .int (v - (x * (nI (hwv (0, b, l, g)))))), (5, .int (((v - (x * (nI (hwv (0, b, l, g))))) * (nI (ltv (0, b, l, g)))) + (x * (nI (htv (0, b, l, g))))))], []) (HH I J R T) _
        refine c_ltf0 hg hL k (i + 1) _ _ _ _ (by omega) (by rw [hx]; exact nI_1 i) (Or.inr ⟨_, _, rfl⟩) (hF.trans (congrArg (clt _ v k (i + 1)) ?_))
        first | exact if_pos c40 | (rw [if_neg c40]; first | exact if_pos c49 | (rw [if_neg c49]; first | exact if_pos c54 | (rw [if_neg c54]; first | exact if_pos c60 | exact if_neg c60)))
      · refine Z_jump 2 rfl ?_
        show Zs _ _ (am_P 24).2 (46, [(0, .ref r), (1, .int v), (2, .int s), (3, .int x), (4, .int (v - (x * (nI (hwv (0, b, l, g)))))), (5, .int (((v - (x * (nI (hwv (0, b, l, g))))) * (nI (ltv (0, b, l, g)))) + (x * (nI (htv (0, b, l, g))))))], [.ref r, .int (v - (x * (nI (hwv (0, b, l, g)))))]) (HH I J R T) _
        refine Z_gfR (q := (0, b, l, g)) rfl hL (Nat.le_of_ble_eq_true rfl) rfl ?_
        refine Z_jump 1 rfl ?_
        refine Z_bd (fun (c49 : (nI l) < (v - (x * (nI (hwv (0, b, l, g)))))) => ?_) (fun (c49 : ¬ ((nI l) < (v - (x * (nI (hwv (0, b, l, g))))))) => ?_)
        · refine Z_jump 2 rfl ?_
          show Zs _ _ (am_P 24).2 (4, [(0, .ref r), (1, .int v), (2, .int s), (3, .int (x + 1)), (4, .int (v - (x * (nI (hwv (0, b, l, g)))))), (5, .int (((v - (x * (nI (hwv (0, b, l, g))))) * (nI (ltv (0, b, l, g)))) + (x * (nI (htv (0, b, l, g))))))], []) (HH I J R T) _
          refine c_ltf0 hg hL k (i + 1) _ _ _ _ (by omega) (by rw [hx]; exact nI_1 i) (Or.inr ⟨_, _, rfl⟩) (hF.trans (congrArg (clt _ v k (i + 1)) ?_))
          first | exact if_pos c40 | (rw [if_neg c40]; first | exact if_pos c49 | (rw [if_neg c49]; first | exact if_pos c54 | (rw [if_neg c54]; first | exact if_pos c60 | exact if_neg c60)))
        · refine Z_jump 3 rfl ?_
          refine Z_bd (fun (c54 : s = (-1 : Int32)) => ?_) (fun (c54 : ¬ (s = (-1 : Int32))) => ?_)
          · refine Z_jump 4 rfl ?_
            show Zs _ _ (am_P 24).2 (4, [(0, .ref r), (1, .int v), (2, .int (((v - (x * (nI (hwv (0, b, l, g))))) * (nI (ltv (0, b, l, g)))) + (x * (nI (htv (0, b, l, g)))))), (3, .int (x + 1)), (4, .int (v - (x * (nI (hwv (0, b, l, g)))))), (5, .int (((v - (x * (nI (hwv (0, b, l, g))))) * (nI (ltv (0, b, l, g)))) + (x * (nI (htv (0, b, l, g))))))], []) (HH I J R T) _
            refine c_ltf0 hg hL k (i + 1) _ _ _ _ (by omega) (by rw [hx]; exact nI_1 i) (Or.inr ⟨_, _, rfl⟩) (hF.trans (congrArg (clt _ v k (i + 1)) ?_))
            first | exact if_pos c40 | (rw [if_neg c40]; first | exact if_pos c49 | (rw [if_neg c49]; first | exact if_pos c54 | (rw [if_neg c54]; first | exact if_pos c60 | exact if_neg c60)))
          · refine Z_jump 3 rfl ?_
            refine Z_bd (fun (c60 : s ≤ (((v - (x * (nI (hwv (0, b, l, g))))) * (nI (ltv (0, b, l, g)))) + (x * (nI (htv (0, b, l, g)))))) => ?_) (fun (c60 : ¬ (s ≤ (((v - (x * (nI (hwv (0, b, l, g))))) * (nI (ltv (0, b, l, g)))) + (x * (nI (htv (0, b, l, g))))))) => ?_)
            · refine Z_jump 2 rfl ?_
              show Zs _ _ (am_P 24).2 (4, [(0, .ref r), (1, .int v), (2, .int s), (3, .int (x + 1)), (4, .int (v - (x * (nI (hwv (0, b, l, g)))))), (5, .int (((v - (x * (nI (hwv (0, b, l, g))))) * (nI (ltv (0, b, l, g)))) + (x * (nI (htv (0, b, l, g))))))], []) (HH I J R T) _
              refine c_ltf0 hg hL k (i + 1) _ _ _ _ (by omega) (by rw [hx]; exact nI_1 i) (Or.inr ⟨_, _, rfl⟩) (hF.trans (congrArg (clt _ v k (i + 1)) ?_))
              first | exact if_pos c40 | (rw [if_neg c40]; first | exact if_pos c49 | (rw [if_neg c49]; first | exact if_pos c54 | (rw [if_neg c54]; first | exact if_pos c60 | exact if_neg c60)))
            · refine Z_jump 4 rfl ?_
              show Zs _ _ (am_P 24).2 (4, [(0, .ref r), (1, .int v), (2, .int (((v - (x * (nI (hwv (0, b, l, g))))) * (nI (ltv (0, b, l, g)))) + (x * (nI (htv (0, b, l, g)))))), (3, .int (x + 1)), (4, .int (v - (x * (nI (hwv (0, b, l, g)))))), (5, .int (((v - (x * (nI (hwv (0, b, l, g))))) * (nI (ltv (0, b, l, g)))) + (x * (nI (htv (0, b, l, g))))))], []) (HH I J R T) _
              refine c_ltf0 hg hL k (i + 1) _ _ _ _ (by omega) (by rw [hx]; exact nI_1 i) (Or.inr ⟨_, _, rfl⟩) (hF.trans (congrArg (clt _ v k (i + 1)) ?_))
              first | exact if_pos c40 | (rw [if_neg c40]; first | exact if_pos c49 | (rw [if_neg c49]; first | exact if_pos c54 | (rw [if_neg c54]; first | exact if_pos c60 | exact if_neg c60)))
theorem c_ltf1 {b l g r : Nat} {v : Int32} (hg : g ≤ 3) (hL : (HH I J R T)[r]? = some (rodC (1, b, l, g))) : ∀ (k i : Nat) (x s F : Int32) (t : am_L), i + k = g + 1 → x = nI i → (t = [] ∨ ∃ y z, t = [(4, Value.int y), (5, Value.int z)]) → F = clt (1, b, l, g) v k i s → Zs sc (d + 1) (am_P 24).2 (4, (0, .ref r) :: (1, .int v) :: (2, .int s) :: (3, .int x) :: t, []) (HH I J R T) (fun r h => r = some (.int F) ∧ h = HH I J R T)
  | 0, i, x, s, F, t, hi, hx, ht, hF => by
    have hc : nI g < x := by rw [hx]; exact nI_lt (by omega) (by omega)
    rcases ht with rfl | ⟨y, z, rfl⟩
    · refine Z_jump 2 rfl ?_
      show Zs _ _ (am_P 24).2 (6, [(0, .ref r), (1, .int v), (2, .int s), (3, .int x)], [.ref r, .int x]) (HH I J R T) _
      refine Z_gfR (q := (1, b, l, g)) rfl hL (Nat.le_of_ble_eq_true rfl) rfl ?_
      refine Z_jump 1 rfl ?_
      refine Z_bd (fun c9 => ?_) (fun c9 => absurd (hc) c9)
      refine Z_jump 1 rfl ?_
      show Zs _ _ (am_P 24).2 (73, [(0, .ref r), (1, .int v), (2, .int s), (3, .int x)], [.int s]) (HH I J R T) _
      refine Z_rI rfl (by first | exact am_nw0 _ | exact am_nw01 | rfl | assumption) ?_
      exact ⟨am_ii hF.symm, rfl⟩
    · refine Z_jump 2 rfl ?_
      show Zs _ _ (am_P 24).2 (6, [(0, .ref r), (1, .int v), (2, .int s), (3, .int x), (4, .int y), (5, .int z)], [.ref r, .int x]) (HH I J R T) _
      refine Z_gfR (q := (1, b, l, g)) rfl hL (Nat.le_of_ble_eq_true rfl) rfl ?_
      refine Z_jump 1 rfl ?_
      refine Z_bd (fun c9 => ?_) (fun c9 => absurd (hc) c9)
      refine Z_jump 1 rfl ?_
      show Zs _ _ (am_P 24).2 (73, [(0, .ref r), (1, .int v), (2, .int s), (3, .int x), (4, .int y), (5, .int z)], [.int s]) (HH I J R T) _
      refine Z_rI rfl (by first | exact am_nw0 _ | exact am_nw01 | rfl | assumption) ?_
      exact ⟨am_ii hF.symm, rfl⟩
  | k + 1, i, x, s, F, t, hi, hx, ht, hF => by
    have hc : ¬ nI g < x := by rw [hx, nI_ltI (by omega) (by omega)]; omega
    unfold clt at hF
    simp only [ltl, ltt, ← hx] at hF
    rcases ht with rfl | ⟨y, z, rfl⟩
    · refine Z_jump 2 rfl ?_
      show Zs _ _ (am_P 24).2 (6, [(0, .ref r), (1, .int v), (2, .int s), (3, .int x)], [.ref r, .int x]) (HH I J R T) _
      refine Z_gfR (q := (1, b, l, g)) rfl hL (Nat.le_of_ble_eq_true rfl) rfl ?_
      refine Z_jump 1 rfl ?_
      refine Z_bd (fun c9 => absurd c9 (hc)) (fun c9 => ?_)
      refine Z_jump 3 rfl ?_
      show Zs _ _ (am_P 24).2 (15, [(0, .ref r), (1, .int v), (2, .int s), (3, .int x)], [.ref r, .int x, .int v]) (HH I J R T) _
      refine Z_c1 rfl (am_do_inv (hL) rfl (rfl) (Nat.le_of_ble_eq_true rfl)) rfl (c_hw1 hL) ?_
      show Zs _ _ (am_P 24).2 (18, [(0, .ref r), (1, .int v), (2, .int s), (3, .int x)], [.int (nI (hwv (1, b, l, g))), .int x, .int v]) (HH I J R T) _
      refine Z_jump 5 rfl ?_
      show Zs _ _ (am_P 24).2 (25, [(0, .ref r), (1, .int v), (2, .int s), (3, .int x), (4, .int (v - (x * (nI (hwv (1, b, l, g))))))], [.ref r, .int (v - (x * (nI (hwv (1, b, l, g)))))]) (HH I J R T) _
      refine Z_c1 rfl (am_do_inv (hL) rfl (rfl) (Nat.le_of_ble_eq_true rfl)) rfl (c_lt1 hL) ?_
      show Zs _ _ (am_P 24).2 (28, [(0, .ref r), (1, .int v), (2, .int s), (3, .int x), (4, .int (v - (x * (nI (hwv (1, b, l, g))))))], [.int (nI (ltv (1, b, l, g))), .int (v - (x * (nI (hwv (1, b, l, g)))))]) (HH I J R T) _
      refine Z_jump 3 rfl ?_
      show Zs _ _ (am_P 24).2 (31, [(0, .ref r), (1, .int v), (2, .int s), (3, .int x), (4, .int (v - (x * (nI (hwv (1, b, l, g))))))], [.ref r, .int x, .int ((v - (x * (nI (hwv (1, b, l, g))))) * (nI (ltv (1, b, l, g))))]) (HH I J R T) _
      refine Z_c1 rfl (am_do_inv (hL) rfl (rfl) (Nat.le_of_ble_eq_true rfl)) rfl (c_ht1 hL) ?_
      show Zs _ _ (am_P 24).2 (34, [(0, .ref r), (1, .int v), (2, .int s), (3, .int x), (4, .int (v - (x * (nI (hwv (1, b, l, g))))))], [.int (nI (htv (1, b, l, g))), .int x, .int ((v - (x * (nI (hwv (1, b, l, g))))) * (nI (ltv (1, b, l, g))))]) (HH I J R T) _
      refine Z_jump 5 rfl ?_
      refine Z_bd (fun (c40 : (v - (x * (nI (hwv (1, b, l, g))))) < (0 : Int32)) => ?_) (fun (c40 : ¬ ((v - (x * (nI (hwv (1, b, l, g))))) < (0 : Int32))) => ?_)
      · refine Z_jump 2 rfl ?_
        show Zs _ _ (am_P 24).2 (4, [(0, .ref r), (1, .int v), (2, .int s), (3, .int (x + 1)), (4, .int (v - (x * (nI (hwv (1, b, l, g)))))), (5, .int (((v - (x * (nI (hwv (1, b, l, g))))) * (nI (ltv (1, b, l, g)))) + (x * (nI (htv (1, b, l, g))))))], []) (HH I J R T) _
        refine c_ltf1 hg hL k (i + 1) _ _ _ _ (by omega) (by rw [hx]; exact nI_1 i) (Or.inr ⟨_, _, rfl⟩) (hF.trans (congrArg (clt _ v k (i + 1)) ?_))
        first | exact if_pos c40 | (rw [if_neg c40]; first | exact if_pos c49 | (rw [if_neg c49]; first | exact if_pos c54 | (rw [if_neg c54]; first | exact if_pos c60 | exact if_neg c60)))
      · refine Z_jump 2 rfl ?_
        show Zs _ _ (am_P 24).2 (46, [(0, .ref r), (1, .int v), (2, .int s), (3, .int x), (4, .int (v - (x * (nI (hwv (1, b, l, g)))))), (5, .int (((v - (x * (nI (hwv (1, b, l, g))))) * (nI (ltv (1, b, l, g)))) + (x * (nI (htv (1, b, l, g))))))], [.ref r, .int (v - (x * (nI (hwv (1, b, l, g)))))]) (HH I J R T) _
        refine Z_gfR (q := (1, b, l, g)) rfl hL (Nat.le_of_ble_eq_true rfl) rfl ?_
        refine Z_jump 1 rfl ?_
        refine Z_bd (fun (c49 : (nI l) < (v - (x * (nI (hwv (1, b, l, g)))))) => ?_) (fun (c49 : ¬ ((nI l) < (v - (x * (nI (hwv (1, b, l, g))))))) => ?_)
        · refine Z_jump 2 rfl ?_
          show Zs _ _ (am_P 24).2 (4, [(0, .ref r), (1, .int v), (2, .int s), (3, .int (x + 1)), (4, .int (v - (x * (nI (hwv (1, b, l, g)))))), (5, .int (((v - (x * (nI (hwv (1, b, l, g))))) * (nI (ltv (1, b, l, g)))) + (x * (nI (htv (1, b, l, g))))))], []) (HH I J R T) _
          refine c_ltf1 hg hL k (i + 1) _ _ _ _ (by omega) (by rw [hx]; exact nI_1 i) (Or.inr ⟨_, _, rfl⟩) (hF.trans (congrArg (clt _ v k (i + 1)) ?_))
          first | exact if_pos c40 | (rw [if_neg c40]; first | exact if_pos c49 | (rw [if_neg c49]; first | exact if_pos c54 | (rw [if_neg c54]; first | exact if_pos c60 | exact if_neg c60)))
        · refine Z_jump 3 rfl ?_
          refine Z_bd (fun (c54 : s = (-1 : Int32)) => ?_) (fun (c54 : ¬ (s = (-1 : Int32))) => ?_)
          · refine Z_jump 4 rfl ?_
            show Zs _ _ (am_P 24).2 (4, [(0, .ref r), (1, .int v), (2, .int (((v - (x * (nI (hwv (1, b, l, g))))) * (nI (ltv (1, b, l, g)))) + (x * (nI (htv (1, b, l, g)))))), (3, .int (x + 1)), (4, .int (v - (x * (nI (hwv (1, b, l, g)))))), (5, .int (((v - (x * (nI (hwv (1, b, l, g))))) * (nI (ltv (1, b, l, g)))) + (x * (nI (htv (1, b, l, g))))))], []) (HH I J R T) _
            refine c_ltf1 hg hL k (i + 1) _ _ _ _ (by omega) (by rw [hx]; exact nI_1 i) (Or.inr ⟨_, _, rfl⟩) (hF.trans (congrArg (clt _ v k (i + 1)) ?_))
            first | exact if_pos c40 | (rw [if_neg c40]; first | exact if_pos c49 | (rw [if_neg c49]; first | exact if_pos c54 | (rw [if_neg c54]; first | exact if_pos c60 | exact if_neg c60)))
          · refine Z_jump 3 rfl ?_
            refine Z_bd (fun (c60 : s ≤ (((v - (x * (nI (hwv (1, b, l, g))))) * (nI (ltv (1, b, l, g)))) + (x * (nI (htv (1, b, l, g)))))) => ?_) (fun (c60 : ¬ (s ≤ (((v - (x * (nI (hwv (1, b, l, g))))) * (nI (ltv (1, b, l, g)))) + (x * (nI (htv (1, b, l, g))))))) => ?_)
            · refine Z_jump 2 rfl ?_
              show Zs _ _ (am_P 24).2 (4, [(0, .ref r), (1, .int v), (2, .int s), (3, .int (x + 1)), (4, .int (v - (x * (nI (hwv (1, b, l, g)))))), (5, .int (((v - (x * (nI (hwv (1, b, l, g))))) * (nI (ltv (1, b, l, g)))) + (x * (nI (htv (1, b, l, g))))))], []) (HH I J R T) _
              refine c_ltf1 hg hL k (i + 1) _ _ _ _ (by omega) (by rw [hx]; exact nI_1 i) (Or.inr ⟨_, _, rfl⟩) (hF.trans (congrArg (clt _ v k (i + 1)) ?_))
              first | exact if_pos c40 | (rw [if_neg c40]; first | exact if_pos c49 | (rw [if_neg c49]; first | exact if_pos c54 | (rw [if_neg c54]; first | exact if_pos c60 | exact if_neg c60)))
            · refine Z_jump 4 rfl ?_
              show Zs _ _ (am_P 24).2 (4, [(0, .ref r), (1, .int v), (2, .int (((v - (x * (nI (hwv (1, b, l, g))))) * (nI (ltv (1, b, l, g)))) + (x * (nI (htv (1, b, l, g)))))), (3, .int (x + 1)), (4, .int (v - (x * (nI (hwv (1, b, l, g)))))), (5, .int (((v - (x * (nI (hwv (1, b, l, g))))) * (nI (ltv (1, b, l, g)))) + (x * (nI (htv (1, b, l, g))))))], []) (HH I J R T) _
              refine c_ltf1 hg hL k (i + 1) _ _ _ _ (by omega) (by rw [hx]; exact nI_1 i) (Or.inr ⟨_, _, rfl⟩) (hF.trans (congrArg (clt _ v k (i + 1)) ?_))
              first | exact if_pos c40 | (rw [if_neg c40]; first | exact if_pos c49 | (rw [if_neg c49]; first | exact if_pos c54 | (rw [if_neg c54]; first | exact if_pos c60 | exact if_neg c60)))
    · refine Z_jump 2 rfl ?_
      show Zs _ _ (am_P 24).2 (6, [(0, .ref r), (1, .int v), (2, .int s), (3, .int x), (4, .int y), (5, .int z)], [.ref r, .int x]) (HH I J R T) _
      refine Z_gfR (q := (1, b, l, g)) rfl hL (Nat.le_of_ble_eq_true rfl) rfl ?_
      refine Z_jump 1 rfl ?_
      refine Z_bd (fun c9 => absurd c9 (hc)) (fun c9 => ?_)
      refine Z_jump 3 rfl ?_
      show Zs _ _ (am_P 24).2 (15, [(0, .ref r), (1, .int v), (2, .int s), (3, .int x), (4, .int y), (5, .int z)], [.ref r, .int x, .int v]) (HH I J R T) _
      refine Z_c1 rfl (am_do_inv (hL) rfl (rfl) (Nat.le_of_ble_eq_true rfl)) rfl (c_hw1 hL) ?_
      show Zs _ _ (am_P 24).2 (18, [(0, .ref r), (1, .int v), (2, .int s), (3, .int x), (4, .int y), (5, .int z)], [.int (nI (hwv (1, b, l, g))), .int x, .int v]) (HH I J R T) _
      refine Z_jump 5 rfl ?_
      show Zs _ _ (am_P 24).2 (25, [(0, .ref r), (1, .int v), (2, .int s), (3, .int x), (4, .int (v - (x * (nI (hwv (1, b, l, g)))))), (5, .int z)], [.ref r, .int (v - (x * (nI (hwv (1, b, l, g)))))]) (HH I J R T) _
      refine Z_c1 rfl (am_do_inv (hL) rfl (rfl) (Nat.le_of_ble_eq_true rfl)) rfl (c_lt1 hL) ?_
      show Zs _ _ (am_P 24).2 (28, [(0, .ref r), (1, .int v), (2, .int s), (3, .int x), (4, .int (v - (x * (nI (hwv (1, b, l, g)))))), (5, .int z)], [.int (nI (ltv (1, b, l, g))), .int (v - (x * (nI (hwv (1, b, l, g)))))]) (HH I J R T) _
      refine Z_jump 3 rfl ?_
      show Zs _ _ (am_P 24).2 (31, [(0, .ref r), (1, .int v), (2, .int s), (3, .int x), (4, .int (v - (x * (nI (hwv (1, b, l, g)))))), (5, .int z)], [.ref r, .int x, .int ((v - (x * (nI (hwv (1, b, l, g))))) * (nI (ltv (1, b, l, g))))]) (HH I J R T) _
      refine Z_c1 rfl (am_do_inv (hL) rfl (rfl) (Nat.le_of_ble_eq_true rfl)) rfl (c_ht1 hL) ?_
      show Zs _ _ (am_P 24).2 (34, [(0, .ref r), (1, .int v), (2, .int s), (3, .int x), (4, .int (v - (x * (nI (hwv (1, b, l, g)))))), (5, .int z)], [.int (nI (htv (1, b, l, g))), .int x, .int ((v - (x * (nI (hwv (1, b, l, g))))) * (nI (ltv (1, b, l, g))))]) (HH I J R T) _
      refine Z_jump 5 rfl ?_
      refine Z_bd (fun (c40 : (v - (x * (nI (hwv (1, b, l, g))))) < (0 : Int32)) => ?_) (fun (c40 : ¬ ((v - (x * (nI (hwv (1, b, l, g))))) < (0 : Int32))) => ?_)
      · refine Z_jump 2 rfl ?_
        show Zs _ _ (am_P 24).2 (4, [(0, .ref r), (1, .int v), (2, .int s), (3, .int (x + 1)), (4, .int (v - (x * (nI (hwv (1, b, l, g)))))), (5, .int (((v - (x * (nI (hwv (1, b, l, g))))) * (nI (ltv (1, b, l, g)))) + (x * (nI (htv (1, b, l, g))))))], []) (HH I J R T) _
        refine c_ltf1 hg hL k (i + 1) _ _ _ _ (by omega) (by rw [hx]; exact nI_1 i) (Or.inr ⟨_, _, rfl⟩) (hF.trans (congrArg (clt _ v k (i + 1)) ?_))
        first | exact if_pos c40 | (rw [if_neg c40]; first | exact if_pos c49 | (rw [if_neg c49]; first | exact if_pos c54 | (rw [if_neg c54]; first | exact if_pos c60 | exact if_neg c60)))
      · refine Z_jump 2 rfl ?_
        show Zs _ _ (am_P 24).2 (46, [(0, .ref r), (1, .int v), (2, .int s), (3, .int x), (4, .int (v - (x * (nI (hwv (1, b, l, g)))))), (5, .int (((v - (x * (nI (hwv (1, b, l, g))))) * (nI (ltv (1, b, l, g)))) + (x * (nI (htv (1, b, l, g))))))], [.ref r, .int (v - (x * (nI (hwv (1, b, l, g)))))]) (HH I J R T) _
        refine Z_gfR (q := (1, b, l, g)) rfl hL (Nat.le_of_ble_eq_true rfl) rfl ?_
        refine Z_jump 1 rfl ?_
        refine Z_bd (fun (c49 : (nI l) < (v - (x * (nI (hwv (1, b, l, g)))))) => ?_) (fun (c49 : ¬ ((nI l) < (v - (x * (nI (hwv (1, b, l, g))))))) => ?_)
        · refine Z_jump 2 rfl ?_
          show Zs _ _ (am_P 24).2 (4, [(0, .ref r), (1, .int v), (2, .int s), (3, .int (x + 1)), (4, .int (v - (x * (nI (hwv (1, b, l, g)))))), (5, .int (((v - (x * (nI (hwv (1, b, l, g))))) * (nI (ltv (1, b, l, g)))) + (x * (nI (htv (1, b, l, g))))))], []) (HH I J R T) _
          refine c_ltf1 hg hL k (i + 1) _ _ _ _ (by omega) (by rw [hx]; exact nI_1 i) (Or.inr ⟨_, _, rfl⟩) (hF.trans (congrArg (clt _ v k (i + 1)) ?_))
          first | exact if_pos c40 | (rw [if_neg c40]; first | exact if_pos c49 | (rw [if_neg c49]; first | exact if_pos c54 | (rw [if_neg c54]; first | exact if_pos c60 | exact if_neg c60)))
        · refine Z_jump 3 rfl ?_
          refine Z_bd (fun (c54 : s = (-1 : Int32)) => ?_) (fun (c54 : ¬ (s = (-1 : Int32))) => ?_)
          · refine Z_jump 4 rfl ?_
            show Zs _ _ (am_P 24).2 (4, [(0, .ref r), (1, .int v), (2, .int (((v - (x * (nI (hwv (1, b, l, g))))) * (nI (ltv (1, b, l, g)))) + (x * (nI (htv (1, b, l, g)))))), (3, .int (x + 1)), (4, .int (v - (x * (nI (hwv (1, b, l, g)))))), (5, .int (((v - (x * (nI (hwv (1, b, l, g))))) * (nI (ltv (1, b, l, g)))) + (x * (nI (htv (1, b, l, g))))))], []) (HH I J R T) _
            refine c_ltf1 hg hL k (i + 1) _ _ _ _ (by omega) (by rw [hx]; exact nI_1 i) (Or.inr ⟨_, _, rfl⟩) (hF.trans (congrArg (clt _ v k (i + 1)) ?_))
            first | exact if_pos c40 | (rw [if_neg c40]; first | exact if_pos c49 | (rw [if_neg c49]; first | exact if_pos c54 | (rw [if_neg c54]; first | exact if_pos c60 | exact if_neg c60)))
          · refine Z_jump 3 rfl ?_
            refine Z_bd (fun (c60 : s ≤ (((v - (x * (nI (hwv (1, b, l, g))))) * (nI (ltv (1, b, l, g)))) + (x * (nI (htv (1, b, l, g)))))) => ?_) (fun (c60 : ¬ (s ≤ (((v - (x * (nI (hwv (1, b, l, g))))) * (nI (ltv (1, b, l, g)))) + (x * (nI (htv (1, b, l, g))))))) => ?_)
            · refine Z_jump 2 rfl ?_
              show Zs _ _ (am_P 24).2 (4, [(0, .ref r), (1, .int v), (2, .int s), (3, .int (x + 1)), (4, .int (v - (x * (nI (hwv (1, b, l, g)))))), (5, .int (((v - (x * (nI (hwv (1, b, l, g))))) * (nI (ltv (1, b, l, g)))) + (x * (nI (htv (1, b, l, g))))))], []) (HH I J R T) _
              refine c_ltf1 hg hL k (i + 1) _ _ _ _ (by omega) (by rw [hx]; exact nI_1 i) (Or.inr ⟨_, _, rfl⟩) (hF.trans (congrArg (clt _ v k (i + 1)) ?_))
              first | exact if_pos c40 | (rw [if_neg c40]; first | exact if_pos c49 | (rw [if_neg c49]; first | exact if_pos c54 | (rw [if_neg c54]; first | exact if_pos c60 | exact if_neg c60)))
            · refine Z_jump 4 rfl ?_
              show Zs _ _ (am_P 24).2 (4, [(0, .ref r), (1, .int v), (2, .int (((v - (x * (nI (hwv (1, b, l, g))))) * (nI (ltv (1, b, l, g)))) + (x * (nI (htv (1, b, l, g)))))), (3, .int (x + 1)), (4, .int (v - (x * (nI (hwv (1, b, l, g)))))), (5, .int (((v - (x * (nI (hwv (1, b, l, g))))) * (nI (ltv (1, b, l, g)))) + (x * (nI (htv (1, b, l, g))))))], []) (HH I J R T) _
              refine c_ltf1 hg hL k (i + 1) _ _ _ _ (by omega) (by rw [hx]; exact nI_1 i) (Or.inr ⟨_, _, rfl⟩) (hF.trans (congrArg (clt _ v k (i + 1)) ?_))
              first | exact if_pos c40 | (rw [if_neg c40]; first | exact if_pos c49 | (rw [if_neg c49]; first | exact if_pos c54 | (rw [if_neg c54]; first | exact if_pos c60 | exact if_neg c60)))
theorem c_ltf2 {b l g r : Nat} {v : Int32} (hg : g ≤ 3) (hL : (HH I J R T)[r]? = some (rodC (2, b, l, g))) : ∀ (k i : Nat) (x s F : Int32) (t : am_L), i + k = g + 1 → x = nI i → (t = [] ∨ ∃ y z, t = [(4, Value.int y), (5, Value.int z)]) → F = clt (2, b, l, g) v k i s → Zs sc (d + 1) (am_P 24).2 (4, (0, .ref r) :: (1, .int v) :: (2, .int s) :: (3, .int x) :: t, []) (HH I J R T) (fun r h => r = some (.int F) ∧ h = HH I J R T)
  | 0, i, x, s, F, t, hi, hx, ht, hF => by
    have hc : nI g < x := by rw [hx]; exact nI_lt (by omega) (by omega)
    rcases ht with rfl | ⟨y, z, rfl⟩
    · refine Z_jump 2 rfl ?_
      show Zs _ _ (am_P 24).2 (6, [(0, .ref r), (1, .int v), (2, .int s), (3, .int x)], [.ref r, .int x]) (HH I J R T) _
      refine Z_gfR (q := (2, b, l, g)) rfl hL (Nat.le_of_ble_eq_true rfl) rfl ?_
      refine Z_jump 1 rfl ?_
      refine Z_bd (fun c9 => ?_) (fun c9 => absurd (hc) c9)
      refine Z_jump 1 rfl ?_
      show Zs _ _ (am_P 24).2 (73, [(0, .ref r), (1, .int v), (2, .int s), (3, .int x)], [.int s]) (HH I J R T) _
      refine Z_rI rfl (by first | exact am_nw0 _ | exact am_nw01 | rfl | assumption) ?_
      exact ⟨am_ii hF.symm, rfl⟩
    · refine Z_jump 2 rfl ?_
      show Zs _ _ (am_P 24).2 (6, [(0, .ref r), (1, .int v), (2, .int s), (3, .int x), (4, .int y), (5, .int z)], [.ref r, .int x]) (HH I J R T) _
      refine Z_gfR (q := (2, b, l, g)) rfl hL (Nat.le_of_ble_eq_true rfl) rfl ?_
      refine Z_jump 1 rfl ?_
      refine Z_bd (fun c9 => ?_) (fun c9 => absurd (hc) c9)
      refine Z_jump 1 rfl ?_
      show Zs _ _ (am_P 24).2 (73, [(0, .ref r), (1, .int v), (2, .int s), (3, .int x), (4, .int y), (5, .int z)], [.int s]) (HH I J R T) _
      refine Z_rI rfl (by first | exact am_nw0 _ | exact am_nw01 | rfl | assumption) ?_
      exact ⟨am_ii hF.symm, rfl⟩
  | k + 1, i, x, s, F, t, hi, hx, ht, hF => by
    have hc : ¬ nI g < x := by rw [hx, nI_ltI (by omega) (by omega)]; omega
    unfold clt at hF
    simp only [ltl, ltt, ← hx] at hF
    rcases ht with rfl | ⟨y, z, rfl⟩
    · refine Z_jump 2 rfl ?_
      show Zs _ _ (am_P 24).2 (6, [(0, .ref r), (1, .int v), (2, .int s), (3, .int x)], [.ref r, .int x]) (HH I J R T) _
      refine Z_gfR (q := (2, b, l, g)) rfl hL (Nat.le_of_ble_eq_true rfl) rfl ?_
      refine Z_jump 1 rfl ?_
      refine Z_bd (fun c9 => absurd c9 (hc)) (fun c9 => ?_)
      refine Z_jump 3 rfl ?_
      show Zs _ _ (am_P 24).2 (15, [(0, .ref r), (1, .int v), (2, .int s), (3, .int x)], [.ref r, .int x, .int v]) (HH I J R T) _
      refine Z_c1 rfl (am_do_inv (hL) rfl (rfl) (Nat.le_of_ble_eq_true rfl)) rfl (c_hw2 hL) ?_
      show Zs _ _ (am_P 24).2 (18, [(0, .ref r), (1, .int v), (2, .int s), (3, .int x)], [.int (nI (hwv (2, b, l, g))), .int x, .int v]) (HH I J R T) _
      refine Z_jump 5 rfl ?_
      show Zs _ _ (am_P 24).2 (25, [(0, .ref r), (1, .int v), (2, .int s), (3, .int x), (4, .int (v - (x * (nI (hwv (2, b, l, g))))))], [.ref r, .int (v - (x * (nI (hwv (2, b, l, g)))))]) (HH I J R T) _
      refine Z_c1 rfl (am_do_inv (hL) rfl (rfl) (Nat.le_of_ble_eq_true rfl)) rfl (c_lt2 hL) ?_
      show Zs _ _ (am_P 24).2 (28, [(0, .ref r), (1, .int v), (2, .int s), (3, .int x), (4, .int (v - (x * (nI (hwv (2, b, l, g))))))], [.int (nI (ltv (2, b, l, g))), .int (v - (x * (nI (hwv (2, b, l, g)))))]) (HH I J R T) _
      refine Z_jump 3 rfl ?_
      show Zs _ _ (am_P 24).2 (31, [(0, .ref r), (1, .int v), (2, .int s), (3, .int x), (4, .int (v - (x * (nI (hwv (2, b, l, g))))))], [.ref r, .int x, .int ((v - (x * (nI (hwv (2, b, l, g))))) * (nI (ltv (2, b, l, g))))]) (HH I J R T) _
      refine Z_c1 rfl (am_do_inv (hL) rfl (rfl) (Nat.le_of_ble_eq_true rfl)) rfl (c_ht2 hL) ?_
      show Zs _ _ (am_P 24).2 (34, [(0, .ref r), (1, .int v), (2, .int s), (3, .int x), (4, .int (v - (x * (nI (hwv (2, b, l, g))))))], [.int (nI (htv (2, b, l, g))), .int x, .int ((v - (x * (nI (hwv (2, b, l, g))))) * (nI (ltv (2, b, l, g))))]) (HH I J R T) _
      refine Z_jump 5 rfl ?_
      refine Z_bd (fun (c40 : (v - (x * (nI (hwv (2, b, l, g))))) < (0 : Int32)) => ?_) (fun (c40 : ¬ ((v - (x * (nI (hwv (2, b, l, g))))) < (0 : Int32))) => ?_)
      · refine Z_jump 2 rfl ?_
        show Zs _ _ (am_P 24).2 (4, [(0, .ref r), (1, .int v), (2, .int s), (3, .int (x + 1)), (4, .int (v - (x * (nI (hwv (2, b, l, g)))))), (5, .int (((v - (x * (nI (hwv (2, b, l, g))))) * (nI (ltv (2, b, l, g)))) + (x * (nI (htv (2, b, l, g))))))], []) (HH I J R T) _
        refine c_ltf2 hg hL k (i + 1) _ _ _ _ (by omega) (by rw [hx]; exact nI_1 i) (Or.inr ⟨_, _, rfl⟩) (hF.trans (congrArg (clt _ v k (i + 1)) ?_))
        first | exact if_pos c40 | (rw [if_neg c40]; first | exact if_pos c49 | (rw [if_neg c49]; first | exact if_pos c54 | (rw [if_neg c54]; first | exact if_pos c60 | exact if_neg c60)))
      · refine Z_jump 2 rfl ?_
        show Zs _ _ (am_P 24).2 (46, [(0, .ref r), (1, .int v), (2, .int s), (3, .int x), (4, .int (v - (x * (nI (hwv (2, b, l, g)))))), (5, .int (((v - (x * (nI (hwv (2, b, l, g))))) * (nI (ltv (2, b, l, g)))) + (x * (nI (htv (2, b, l, g))))))], [.ref r, .int (v - (x * (nI (hwv (2, b, l, g)))))]) (HH I J R T) _
        refine Z_gfR (q := (2, b, l, g)) rfl hL (Nat.le_of_ble_eq_true rfl) rfl ?_
        refine Z_jump 1 rfl ?_
        refine Z_bd (fun (c49 : (nI l) < (v - (x * (nI (hwv (2, b, l, g)))))) => ?_) (fun (c49 : ¬ ((nI l) < (v - (x * (nI (hwv (2, b, l, g))))))) => ?_)
        · refine Z_jump 2 rfl ?_
          show Zs _ _ (am_P 24).2 (4, [(0, .ref r), (1, .int v), (2, .int s), (3, .int (x + 1)), (4, .int (v - (x * (nI (hwv (2, b, l, g)))))), (5, .int (((v - (x * (nI (hwv (2, b, l, g))))) * (nI (ltv (2, b, l, g)))) + (x * (nI (htv (2, b, l, g))))))], []) (HH I J R T) _
          refine c_ltf2 hg hL k (i + 1) _ _ _ _ (by omega) (by rw [hx]; exact nI_1 i) (Or.inr ⟨_, _, rfl⟩) (hF.trans (congrArg (clt _ v k (i + 1)) ?_))
          first | exact if_pos c40 | (rw [if_neg c40]; first | exact if_pos c49 | (rw [if_neg c49]; first | exact if_pos c54 | (rw [if_neg c54]; first | exact if_pos c60 | exact if_neg c60)))
        · refine Z_jump 3 rfl ?_
          refine Z_bd (fun (c54 : s = (-1 : Int32)) => ?_) (fun (c54 : ¬ (s = (-1 : Int32))) => ?_)
          · refine Z_jump 4 rfl ?_
            show Zs _ _ (am_P 24).2 (4, [(0, .ref r), (1, .int v), (2, .int (((v - (x * (nI (hwv (2, b, l, g))))) * (nI (ltv (2, b, l, g)))) + (x * (nI (htv (2, b, l, g)))))), (3, .int (x + 1)), (4, .int (v - (x * (nI (hwv (2, b, l, g)))))), (5, .int (((v - (x * (nI (hwv (2, b, l, g))))) * (nI (ltv (2, b, l, g)))) + (x * (nI (htv (2, b, l, g))))))], []) (HH I J R T) _
            refine c_ltf2 hg hL k (i + 1) _ _ _ _ (by omega) (by rw [hx]; exact nI_1 i) (Or.inr ⟨_, _, rfl⟩) (hF.trans (congrArg (clt _ v k (i + 1)) ?_))
            first | exact if_pos c40 | (rw [if_neg c40]; first | exact if_pos c49 | (rw [if_neg c49]; first | exact if_pos c54 | (rw [if_neg c54]; first | exact if_pos c60 | exact if_neg c60)))
          · refine Z_jump 3 rfl ?_
            refine Z_bd (fun (c60 : s ≤ (((v - (x * (nI (hwv (2, b, l, g))))) * (nI (ltv (2, b, l, g)))) + (x * (nI (htv (2, b, l, g)))))) => ?_) (fun (c60 : ¬ (s ≤ (((v - (x * (nI (hwv (2, b, l, g))))) * (nI (ltv (2, b, l, g)))) + (x * (nI (htv (2, b, l, g))))))) => ?_)
            · refine Z_jump 2 rfl ?_
              show Zs _ _ (am_P 24).2 (4, [(0, .ref r), (1, .int v), (2, .int s), (3, .int (x + 1)), (4, .int (v - (x * (nI (hwv (2, b, l, g)))))), (5, .int (((v - (x * (nI (hwv (2, b, l, g))))) * (nI (ltv (2, b, l, g)))) + (x * (nI (htv (2, b, l, g))))))], []) (HH I J R T) _
              refine c_ltf2 hg hL k (i + 1) _ _ _ _ (by omega) (by rw [hx]; exact nI_1 i) (Or.inr ⟨_, _, rfl⟩) (hF.trans (congrArg (clt _ v k (i + 1)) ?_))
              first | exact if_pos c40 | (rw [if_neg c40]; first | exact if_pos c49 | (rw [if_neg c49]; first | exact if_pos c54 | (rw [if_neg c54]; first | exact if_pos c60 | exact if_neg c60)))
            · refine Z_jump 4 rfl ?_
              show Zs _ _ (am_P 24).2 (4, [(0, .ref r), (1, .int v), (2, .int (((v - (x * (nI (hwv (2, b, l, g))))) * (nI (ltv (2, b, l, g)))) + (x * (nI (htv (2, b, l, g)))))), (3, .int (x + 1)), (4, .int (v - (x * (nI (hwv (2, b, l, g)))))), (5, .int (((v - (x * (nI (hwv (2, b, l, g))))) * (nI (ltv (2, b, l, g)))) + (x * (nI (htv (2, b, l, g))))))], []) (HH I J R T) _
              refine c_ltf2 hg hL k (i + 1) _ _ _ _ (by omega) (by rw [hx]; exact nI_1 i) (Or.inr ⟨_, _, rfl⟩) (hF.trans (congrArg (clt _ v k (i + 1)) ?_))
              first | exact if_pos c40 | (rw [if_neg c40]; first | exact if_pos c49 | (rw [if_neg c49]; first | exact if_pos c54 | (rw [if_neg c54]; first | exact if_pos c60 | exact if_neg c60)))
    · refine Z_jump 2 rfl ?_
      show Zs _ _ (am_P 24).2 (6, [(0, .ref r), (1, .int v), (2, .int s), (3, .int x), (4, .int y), (5, .int z)], [.ref r, .int x]) (HH I J R T) _
      refine Z_gfR (q := (2, b, l, g)) rfl hL (Nat.le_of_ble_eq_true rfl) rfl ?_
      refine Z_jump 1 rfl ?_
      refine Z_bd (fun c9 => absurd c9 (hc)) (fun c9 => ?_)
      refine Z_jump 3 rfl ?_
      show Zs _ _ (am_P 24).2 (15, [(0, .ref r), (1, .int v), (2, .int s), (3, .int x), (4, .int y), (5, .int z)], [.ref r, .int x, .int v]) (HH I J R T) _
      refine Z_c1 rfl (am_do_inv (hL) rfl (rfl) (Nat.le_of_ble_eq_true rfl)) rfl (c_hw2 hL) ?_
      show Zs _ _ (am_P 24).2 (18, [(0, .ref r), (1, .int v), (2, .int s), (3, .int x), (4, .int y), (5, .int z)], [.int (nI (hwv (2, b, l, g))), .int x, .int v]) (HH I J R T) _
      refine Z_jump 5 rfl ?_
      show Zs _ _ (am_P 24).2 (25, [(0, .ref r), (1, .int v), (2, .int s), (3, .int x), (4, .int (v - (x * (nI (hwv (2, b, l, g)))))), (5, .int z)], [.ref r, .int (v - (x * (nI (hwv (2, b, l, g)))))]) (HH I J R T) _
      refine Z_c1 rfl (am_do_inv (hL) rfl (rfl) (Nat.le_of_ble_eq_true rfl)) rfl (c_lt2 hL) ?_
      show Zs _ _ (am_P 24).2 (28, [(0, .ref r), (1, .int v), (2, .int s), (3, .int x), (4, .int (v - (x * (nI (hwv (2, b, l, g)))))), (5, .int z)], [.int (nI (ltv (2, b, l, g))), .int (v - (x * (nI (hwv (2, b, l, g)))))]) (HH I J R T) _
      refine Z_jump 3 rfl ?_
      show Zs _ _ (am_P 24).2 (31, [(0, .ref r), (1, .int v), (2, .int s), (3, .int x), (4, .int (v - (x * (nI (hwv (2, b, l, g)))))), (5, .int z)], [.ref r, .int x, .int ((v - (x * (nI (hwv (2, b, l, g))))) * (nI (ltv (2, b, l, g))))]) (HH I J R T) _
      refine Z_c1 rfl (am_do_inv (hL) rfl (rfl) (Nat.le_of_ble_eq_true rfl)) rfl (c_ht2 hL) ?_
      show Zs _ _ (am_P 24).2 (34, [(0, .ref r), (1, .int v), (2, .int s), (3, .int x), (4, .int (v - (x * (nI (hwv (2, b, l, g)))))), (5, .int z)], [.int (nI (htv (2, b, l, g))), .int x, .int ((v - (x * (nI (hwv (2, b, l, g))))) * (nI (ltv (2, b, l, g))))]) (HH I J R T) _
      refine Z_jump 5 rfl ?_
      refine Z_bd (fun (c40 : (v - (x * (nI (hwv (2, b, l, g))))) < (0 : Int32)) => ?_) (fun (c40 : ¬ ((v - (x * (nI (hwv (2, b, l, g))))) < (0 : Int32))) => ?_)
      · refine Z_jump 2 rfl ?_
        show Zs _ _ (am_P 24).2 (4, [(0, .ref r), (1, .int v), (2, .int s), (3, .int (x + 1)), (4, .int (v - (x * (nI (hwv (2, b, l, g)))))), (5, .int (((v - (x * (nI (hwv (2, b, l, g))))) * (nI (ltv (2, b, l, g)))) + (x * (nI (htv (2, b, l, g))))))], []) (HH I J R T) _
        refine c_ltf2 hg hL k (i + 1) _ _ _ _ (by omega) (by rw [hx]; exact nI_1 i) (Or.inr ⟨_, _, rfl⟩) (hF.trans (congrArg (clt _ v k (i + 1)) ?_))
        first | exact if_pos c40 | (rw [if_neg c40]; first | exact if_pos c49 | (rw [if_neg c49]; first | exact if_pos c54 | (rw [if_neg c54]; first | exact if_pos c60 | exact if_neg c60)))
      · refine Z_jump 2 rfl ?_
        show Zs _ _ (am_P 24).2 (46, [(0, .ref r), (1, .int v), (2, .int s), (3, .int x), (4, .int (v - (x * (nI (hwv (2, b, l, g)))))), (5, .int (((v - (x * (nI (hwv (2, b, l, g))))) * (nI (ltv (2, b, l, g)))) + (x * (nI (htv (2, b, l, g))))))], [.ref r, .int (v - (x * (nI (hwv (2, b, l, g)))))]) (HH I J R T) _
        refine Z_gfR (q := (2, b, l, g)) rfl hL (Nat.le_of_ble_eq_true rfl) rfl ?_
        refine Z_jump 1 rfl ?_
        refine Z_bd (fun (c49 : (nI l) < (v - (x * (nI (hwv (2, b, l, g)))))) => ?_) (fun (c49 : ¬ ((nI l) < (v - (x * (nI (hwv (2, b, l, g))))))) => ?_)
        · refine Z_jump 2 rfl ?_
          show Zs _ _ (am_P 24).2 (4, [(0, .ref r), (1, .int v), (2, .int s), (3, .int (x + 1)), (4, .int (v - (x * (nI (hwv (2, b, l, g)))))), (5, .int (((v - (x * (nI (hwv (2, b, l, g))))) * (nI (ltv (2, b, l, g)))) + (x * (nI (htv (2, b, l, g))))))], []) (HH I J R T) _
          refine c_ltf2 hg hL k (i + 1) _ _ _ _ (by omega) (by rw [hx]; exact nI_1 i) (Or.inr ⟨_, _, rfl⟩) (hF.trans (congrArg (clt _ v k (i + 1)) ?_))
          first | exact if_pos c40 | (rw [if_neg c40]; first | exact if_pos c49 | (rw [if_neg c49]; first | exact if_pos c54 | (rw [if_neg c54]; first | exact if_pos c60 | exact if_neg c60)))
        · refine Z_jump 3 rfl ?_
          refine Z_bd (fun (c54 : s = (-1 : Int32)) => ?_) (fun (c54 : ¬ (s = (-1 : Int32))) => ?_)
          · refine Z_jump 4 rfl ?_
            show Zs _ _ (am_P 24).2 (4, [(0, .ref r), (1, .int v), (2, .int (((v - (x * (nI (hwv (2, b, l, g))))) * (nI (ltv (2, b, l, g)))) + (x * (nI (htv (2, b, l, g)))))), (3, .int (x + 1)), (4, .int (v - (x * (nI (hwv (2, b, l, g)))))), (5, .int (((v - (x * (nI (hwv (2, b, l, g))))) * (nI (ltv (2, b, l, g)))) + (x * (nI (htv (2, b, l, g))))))], []) (HH I J R T) _
            refine c_ltf2 hg hL k (i + 1) _ _ _ _ (by omega) (by rw [hx]; exact nI_1 i) (Or.inr ⟨_, _, rfl⟩) (hF.trans (congrArg (clt _ v k (i + 1)) ?_))
            first | exact if_pos c40 | (rw [if_neg c40]; first | exact if_pos c49 | (rw [if_neg c49]; first | exact if_pos c54 | (rw [if_neg c54]; first | exact if_pos c60 | exact if_neg c60)))
          · refine Z_jump 3 rfl ?_
            refine Z_bd (fun (c60 : s ≤ (((v - (x * (nI (hwv (2, b, l, g))))) * (nI (ltv (2, b, l, g)))) + (x * (nI (htv (2, b, l, g)))))) => ?_) (fun (c60 : ¬ (s ≤ (((v - (x * (nI (hwv (2, b, l, g))))) * (nI (ltv (2, b, l, g)))) + (x * (nI (htv (2, b, l, g))))))) => ?_)
            · refine Z_jump 2 rfl ?_
              show Zs _ _ (am_P 24).2 (4, [(0, .ref r), (1, .int v), (2, .int s), (3, .int (x + 1)), (4, .int (v - (x * (nI (hwv (2, b, l, g)))))), (5, .int (((v - (x * (nI (hwv (2, b, l, g))))) * (nI (ltv (2, b, l, g)))) + (x * (nI (htv (2, b, l, g))))))], []) (HH I J R T) _
              refine c_ltf2 hg hL k (i + 1) _ _ _ _ (by omega) (by rw [hx]; exact nI_1 i) (Or.inr ⟨_, _, rfl⟩) (hF.trans (congrArg (clt _ v k (i + 1)) ?_))
              first | exact if_pos c40 | (rw [if_neg c40]; first | exact if_pos c49 | (rw [if_neg c49]; first | exact if_pos c54 | (rw [if_neg c54]; first | exact if_pos c60 | exact if_neg c60)))
            · refine Z_jump 4 rfl ?_
              show Zs _ _ (am_P 24).2 (4, [(0, .ref r), (1, .int v), (2, .int (((v - (x * (nI (hwv (2, b, l, g))))) * (nI (ltv (2, b, l, g)))) + (x * (nI (htv (2, b, l, g)))))), (3, .int (x + 1)), (4, .int (v - (x * (nI (hwv (2, b, l, g)))))), (5, .int (((v - (x * (nI (hwv (2, b, l, g))))) * (nI (ltv (2, b, l, g)))) + (x * (nI (htv (2, b, l, g))))))], []) (HH I J R T) _
              refine c_ltf2 hg hL k (i + 1) _ _ _ _ (by omega) (by rw [hx]; exact nI_1 i) (Or.inr ⟨_, _, rfl⟩) (hF.trans (congrArg (clt _ v k (i + 1)) ?_))
              first | exact if_pos c40 | (rw [if_neg c40]; first | exact if_pos c49 | (rw [if_neg c49]; first | exact if_pos c54 | (rw [if_neg c54]; first | exact if_pos c60 | exact if_neg c60)))
theorem c_ltf3 {b l g r : Nat} {v : Int32} (hg : g ≤ 3) (hL : (HH I J R T)[r]? = some (rodC (3, b, l, g))) : ∀ (k i : Nat) (x s F : Int32) (t : am_L), i + k = g + 1 → x = nI i → (t = [] ∨ ∃ y z, t = [(4, Value.int y), (5, Value.int z)]) → F = clt (3, b, l, g) v k i s → Zs sc (d + 1) (am_P 24).2 (4, (0, .ref r) :: (1, .int v) :: (2, .int s) :: (3, .int x) :: t, []) (HH I J R T) (fun r h => r = some (.int F) ∧ h = HH I J R T)
  | 0, i, x, s, F, t, hi, hx, ht, hF => by
    have hc : nI g < x := by rw [hx]; exact nI_lt (by omega) (by omega)
    rcases ht with rfl | ⟨y, z, rfl⟩
    · refine Z_jump 2 rfl ?_
      show Zs _ _ (am_P 24).2 (6, [(0, .ref r), (1, .int v), (2, .int s), (3, .int x)], [.ref r, .int x]) (HH I J R T) _
      refine Z_gfR (q := (3, b, l, g)) rfl hL (Nat.le_of_ble_eq_true rfl) rfl ?_
      refine Z_jump 1 rfl ?_
      refine Z_bd (fun c9 => ?_) (fun c9 => absurd (hc) c9)
      refine Z_jump 1 rfl ?_
      show Zs _ _ (am_P 24).2 (73, [(0, .ref r), (1, .int v), (2, .int s), (3, .int x)], [.int s]) (HH I J R T) _
      refine Z_rI rfl (by first | exact am_nw0 _ | exact am_nw01 | rfl | assumption) ?_
      exact ⟨am_ii hF.symm, rfl⟩
    · refine Z_jump 2 rfl ?_
      show Zs _ _ (am_P 24).2 (6, [(0, .ref r), (1, .int v), (2, .int s), (3, .int x), (4, .int y), (5, .int z)], [.ref r, .int x]) (HH I J R T) _
      refine Z_gfR (q := (3, b, l, g)) rfl hL (Nat.le_of_ble_eq_true rfl) rfl ?_
      refine Z_jump 1 rfl ?_
      refine Z_bd (fun c9 => ?_) (fun c9 => absurd (hc) c9)
      refine Z_jump 1 rfl ?_
      show Zs _ _ (am_P 24).2 (73, [(0, .ref r), (1, .int v), (2, .int s), (3, .int x), (4, .int y), (5, .int z)], [.int s]) (HH I J R T) _
      refine Z_rI rfl (by first | exact am_nw0 _ | exact am_nw01 | rfl | assumption) ?_
      exact ⟨am_ii hF.symm, rfl⟩
  | k + 1, i, x, s, F, t, hi, hx, ht, hF => by
    have hc : ¬ nI g < x := by rw [hx, nI_ltI (by omega) (by omega)]; omega
    unfold clt at hF
    simp only [ltl, ltt, ← hx] at hF
    rcases ht with rfl | ⟨y, z, rfl⟩
    · refine Z_jump 2 rfl ?_
      show Zs _ _ (am_P 24).2 (6, [(0, .ref r), (1, .int v), (2, .int s), (3, .int x)], [.ref r, .int x]) (HH I J R T) _
      refine Z_gfR (q := (3, b, l, g)) rfl hL (Nat.le_of_ble_eq_true rfl) rfl ?_
      refine Z_jump 1 rfl ?_
      refine Z_bd (fun c9 => absurd c9 (hc)) (fun c9 => ?_)
      refine Z_jump 3 rfl ?_
      show Zs _ _ (am_P 24).2 (15, [(0, .ref r), (1, .int v), (2, .int s), (3, .int x)], [.ref r, .int x, .int v]) (HH I J R T) _
      refine Z_c1 rfl (am_do_inv (hL) rfl (rfl) (Nat.le_of_ble_eq_true rfl)) rfl (c_hw3n hL) ?_
      show Zs _ _ (am_P 24).2 (18, [(0, .ref r), (1, .int v), (2, .int s), (3, .int x)], [.int (nI (hwv (3, b, l, g))), .int x, .int v]) (HH I J R T) _
      refine Z_jump 5 rfl ?_
      show Zs _ _ (am_P 24).2 (25, [(0, .ref r), (1, .int v), (2, .int s), (3, .int x), (4, .int (v - (x * (nI (hwv (3, b, l, g))))))], [.ref r, .int (v - (x * (nI (hwv (3, b, l, g)))))]) (HH I J R T) _
      refine Z_c1 rfl (am_do_inv (hL) rfl (rfl) (Nat.le_of_ble_eq_true rfl)) rfl (c_lt3 hL) ?_
      show Zs _ _ (am_P 24).2 (28, [(0, .ref r), (1, .int v), (2, .int s), (3, .int x), (4, .int (v - (x * (nI (hwv (3, b, l, g))))))], [.int (nI (ltv (3, b, l, g))), .int (v - (x * (nI (hwv (3, b, l, g)))))]) (HH I J R T) _
      refine Z_jump 3 rfl ?_
      show Zs _ _ (am_P 24).2 (31, [(0, .ref r), (1, .int v), (2, .int s), (3, .int x), (4, .int (v - (x * (nI (hwv (3, b, l, g))))))], [.ref r, .int x, .int ((v - (x * (nI (hwv (3, b, l, g))))) * (nI (ltv (3, b, l, g))))]) (HH I J R T) _
      refine Z_c1 rfl (am_do_inv (hL) rfl (rfl) (Nat.le_of_ble_eq_true rfl)) rfl (c_ht3 hL) ?_
      show Zs _ _ (am_P 24).2 (34, [(0, .ref r), (1, .int v), (2, .int s), (3, .int x), (4, .int (v - (x * (nI (hwv (3, b, l, g))))))], [.int (nI (htv (3, b, l, g))), .int x, .int ((v - (x * (nI (hwv (3, b, l, g))))) * (nI (ltv (3, b, l, g))))]) (HH I J R T) _
      refine Z_jump 5 rfl ?_
      refine Z_bd (fun (c40 : (v - (x * (nI (hwv (3, b, l, g))))) < (0 : Int32)) => ?_) (fun (c40 : ¬ ((v - (x * (nI (hwv (3, b, l, g))))) < (0 : Int32))) => ?_)
      · refine Z_jump 2 rfl ?_
        show Zs _ _ (am_P 24).2 (4, [(0, .ref r), (1, .int v), (2, .int s), (3, .int (x + 1)), (4, .int (v - (x * (nI (hwv (3, b, l, g)))))), (5, .int (((v - (x * (nI (hwv (3, b, l, g))))) * (nI (ltv (3, b, l, g)))) + (x * (nI (htv (3, b, l, g))))))], []) (HH I J R T) _
        refine c_ltf3 hg hL k (i + 1) _ _ _ _ (by omega) (by rw [hx]; exact nI_1 i) (Or.inr ⟨_, _, rfl⟩) (hF.trans (congrArg (clt _ v k (i + 1)) ?_))
        first | exact if_pos c40 | (rw [if_neg c40]; first | exact if_pos c49 | (rw [if_neg c49]; first | exact if_pos c54 | (rw [if_neg c54]; first | exact if_pos c60 | exact if_neg c60)))
      · refine Z_jump 2 rfl ?_
        show Zs _ _ (am_P 24).2 (46, [(0, .ref r), (1, .int v), (2, .int s), (3, .int x), (4, .int (v - (x * (nI (hwv (3, b, l, g)))))), (5, .int (((v - (x * (nI (hwv (3, b, l, g))))) * (nI (ltv (3, b, l, g)))) + (x * (nI (htv (3, b, l, g))))))], [.ref r, .int (v - (x * (nI (hwv (3, b, l, g)))))]) (HH I J R T) _
        refine Z_gfR (q := (3, b, l, g)) rfl hL (Nat.le_of_ble_eq_true rfl) rfl ?_
        refine Z_jump 1 rfl ?_
        refine Z_bd (fun (c49 : (nI l) < (v - (x * (nI (hwv (3, b, l, g)))))) => ?_) (fun (c49 : ¬ ((nI l) < (v - (x * (nI (hwv (3, b, l, g))))))) => ?_)
        · refine Z_jump 2 rfl ?_
          show Zs _ _ (am_P 24).2 (4, [(0, .ref r), (1, .int v), (2, .int s), (3, .int (x + 1)), (4, .int (v - (x * (nI (hwv (3, b, l, g)))))), (5, .int (((v - (x * (nI (hwv (3, b, l, g))))) * (nI (ltv (3, b, l, g)))) + (x * (nI (htv (3, b, l, g))))))], []) (HH I J R T) _
          refine c_ltf3 hg hL k (i + 1) _ _ _ _ (by omega) (by rw [hx]; exact nI_1 i) (Or.inr ⟨_, _, rfl⟩) (hF.trans (congrArg (clt _ v k (i + 1)) ?_))
          first | exact if_pos c40 | (rw [if_neg c40]; first | exact if_pos c49 | (rw [if_neg c49]; first | exact if_pos c54 | (rw [if_neg c54]; first | exact if_pos c60 | exact if_neg c60)))
        · refine Z_jump 3 rfl ?_
          refine Z_bd (fun (c54 : s = (-1 : Int32)) => ?_) (fun (c54 : ¬ (s = (-1 : Int32))) => ?_)
          · refine Z_jump 4 rfl ?_
            show Zs _ _ (am_P 24).2 (4, [(0, .ref r), (1, .int v), (2, .int (((v - (x * (nI (hwv (3, b, l, g))))) * (nI (ltv (3, b, l, g)))) + (x * (nI (htv (3, b, l, g)))))), (3, .int (x + 1)), (4, .int (v - (x * (nI (hwv (3, b, l, g)))))), (5, .int (((v - (x * (nI (hwv (3, b, l, g))))) * (nI (ltv (3, b, l, g)))) + (x * (nI (htv (3, b, l, g))))))], []) (HH I J R T) _
            refine c_ltf3 hg hL k (i + 1) _ _ _ _ (by omega) (by rw [hx]; exact nI_1 i) (Or.inr ⟨_, _, rfl⟩) (hF.trans (congrArg (clt _ v k (i + 1)) ?_))
            first | exact if_pos c40 | (rw [if_neg c40]; first | exact if_pos c49 | (rw [if_neg c49]; first | exact if_pos c54 | (rw [if_neg c54]; first | exact if_pos c60 | exact if_neg c60)))
          · refine Z_jump 3 rfl ?_
            refine Z_bd (fun (c60 : s ≤ (((v - (x * (nI (hwv (3, b, l, g))))) * (nI (ltv (3, b, l, g)))) + (x * (nI (htv (3, b, l, g)))))) => ?_) (fun (c60 : ¬ (s ≤ (((v - (x * (nI (hwv (3, b, l, g))))) * (nI (ltv (3, b, l, g)))) + (x * (nI (htv (3, b, l, g))))))) => ?_)
            · refine Z_jump 2 rfl ?_
              show Zs _ _ (am_P 24).2 (4, [(0, .ref r), (1, .int v), (2, .int s), (3, .int (x + 1)), (4, .int (v - (x * (nI (hwv (3, b, l, g)))))), (5, .int (((v - (x * (nI (hwv (3, b, l, g))))) * (nI (ltv (3, b, l, g)))) + (x * (nI (htv (3, b, l, g))))))], []) (HH I J R T) _
              refine c_ltf3 hg hL k (i + 1) _ _ _ _ (by omega) (by rw [hx]; exact nI_1 i) (Or.inr ⟨_, _, rfl⟩) (hF.trans (congrArg (clt _ v k (i + 1)) ?_))
              first | exact if_pos c40 | (rw [if_neg c40]; first | exact if_pos c49 | (rw [if_neg c49]; first | exact if_pos c54 | (rw [if_neg c54]; first | exact if_pos c60 | exact if_neg c60)))
            · refine Z_jump 4 rfl ?_
              show Zs _ _ (am_P 24).2 (4, [(0, .ref r), (1, .int v), (2, .int (((v - (x * (nI (hwv (3, b, l, g))))) * (nI (ltv (3, b, l, g)))) + (x * (nI (htv (3, b, l, g)))))), (3, .int (x + 1)), (4, .int (v - (x * (nI (hwv (3, b, l, g)))))), (5, .int (((v - (x * (nI (hwv (3, b, l, g))))) * (nI (ltv (3, b, l, g)))) + (x * (nI (htv (3, b, l, g))))))], []) (HH I J R T) _
              refine c_ltf3 hg hL k (i + 1) _ _ _ _ (by omega) (by rw [hx]; exact nI_1 i) (Or.inr ⟨_, _, rfl⟩) (hF.trans (congrArg (clt _ v k (i + 1)) ?_))
              first | exact if_pos c40 | (rw [if_neg c40]; first | exact if_pos c49 | (rw [if_neg c49]; first | exact if_pos c54 | (rw [if_neg c54]; first | exact if_pos c60 | exact if_neg c60)))
    · refine Z_jump 2 rfl ?_
      show Zs _ _ (am_P 24).2 (6, [(0, .ref r), (1, .int v), (2, .int s), (3, .int x), (4, .int y), (5, .int z)], [.ref r, .int x]) (HH I J R T) _
      refine Z_gfR (q := (3, b, l, g)) rfl hL (Nat.le_of_ble_eq_true rfl) rfl ?_
      refine Z_jump 1 rfl ?_
      refine Z_bd (fun c9 => absurd c9 (hc)) (fun c9 => ?_)
      refine Z_jump 3 rfl ?_
      show Zs _ _ (am_P 24).2 (15, [(0, .ref r), (1, .int v), (2, .int s), (3, .int x), (4, .int y), (5, .int z)], [.ref r, .int x, .int v]) (HH I J R T) _
      refine Z_c1 rfl (am_do_inv (hL) rfl (rfl) (Nat.le_of_ble_eq_true rfl)) rfl (c_hw3n hL) ?_
      show Zs _ _ (am_P 24).2 (18, [(0, .ref r), (1, .int v), (2, .int s), (3, .int x), (4, .int y), (5, .int z)], [.int (nI (hwv (3, b, l, g))), .int x, .int v]) (HH I J R T) _
      refine Z_jump 5 rfl ?_
      show Zs _ _ (am_P 24).2 (25, [(0, .ref r), (1, .int v), (2, .int s), (3, .int x), (4, .int (v - (x * (nI (hwv (3, b, l, g)))))), (5, .int z)], [.ref r, .int (v - (x * (nI (hwv (3, b, l, g)))))]) (HH I J R T) _
      refine Z_c1 rfl (am_do_inv (hL) rfl (rfl) (Nat.le_of_ble_eq_true rfl)) rfl (c_lt3 hL) ?_
      show Zs _ _ (am_P 24).2 (28, [(0, .ref r), (1, .int v), (2, .int s), (3, .int x), (4, .int (v - (x * (nI (hwv (3, b, l, g)))))), (5, .int z)], [.int (nI (ltv (3, b, l, g))), .int (v - (x * (nI (hwv (3, b, l, g)))))]) (HH I J R T) _
      refine Z_jump 3 rfl ?_
      show Zs _ _ (am_P 24).2 (31, [(0, .ref r), (1, .int v), (2, .int s), (3, .int x), (4, .int (v - (x * (nI (hwv (3, b, l, g)))))), (5, .int z)], [.ref r, .int x, .int ((v - (x * (nI (hwv (3, b, l, g))))) * (nI (ltv (3, b, l, g))))]) (HH I J R T) _
      refine Z_c1 rfl (am_do_inv (hL) rfl (rfl) (Nat.le_of_ble_eq_true rfl)) rfl (c_ht3 hL) ?_
      show Zs _ _ (am_P 24).2 (34, [(0, .ref r), (1, .int v), (2, .int s), (3, .int x), (4, .int (v - (x * (nI (hwv (3, b, l, g)))))), (5, .int z)], [.int (nI (htv (3, b, l, g))), .int x, .int ((v - (x * (nI (hwv (3, b, l, g))))) * (nI (ltv (3, b, l, g))))]) (HH I J R T) _
      refine Z_jump 5 rfl ?_
      refine Z_bd (fun (c40 : (v - (x * (nI (hwv (3, b, l, g))))) < (0 : Int32)) => ?_) (fun (c40 : ¬ ((v - (x * (nI (hwv (3, b, l, g))))) < (0 : Int32))) => ?_)
      · refine Z_jump 2 rfl ?_
        show Zs _ _ (am_P 24).2 (4, [(0, .ref r), (1, .int v), (2, .int s), (3, .int (x + 1)), (4, .int (v - (x * (nI (hwv (3, b, l, g)))))), (5, .int (((v - (x * (nI (hwv (3, b, l, g))))) * (nI (ltv (3, b, l, g)))) + (x * (nI (htv (3, b, l, g))))))], []) (HH I J R T) _
        refine c_ltf3 hg hL k (i + 1) _ _ _ _ (by omega) (by rw [hx]; exact nI_1 i) (Or.inr ⟨_, _, rfl⟩) (hF.trans (congrArg (clt _ v k (i + 1)) ?_))
        first | exact if_pos c40 | (rw [if_neg c40]; first | exact if_pos c49 | (rw [if_neg c49]; first | exact if_pos c54 | (rw [if_neg c54]; first | exact if_pos c60 | exact if_neg c60)))
      · refine Z_jump 2 rfl ?_
        show Zs _ _ (am_P 24).2 (46, [(0, .ref r), (1, .int v), (2, .int s), (3, .int x), (4, .int (v - (x * (nI (hwv (3, b, l, g)))))), (5, .int (((v - (x * (nI (hwv (3, b, l, g))))) * (nI (ltv (3, b, l, g)))) + (x * (nI (htv (3, b, l, g))))))], [.ref r, .int (v - (x * (nI (hwv (3, b, l, g)))))]) (HH I J R T) _
        refine Z_gfR (q := (3, b, l, g)) rfl hL (Nat.le_of_ble_eq_true rfl) rfl ?_
        refine Z_jump 1 rfl ?_
        refine Z_bd (fun (c49 : (nI l) < (v - (x * (nI (hwv (3, b, l, g)))))) => ?_) (fun (c49 : ¬ ((nI l) < (v - (x * (nI (hwv (3, b, l, g))))))) => ?_)
        · refine Z_jump 2 rfl ?_
          show Zs _ _ (am_P 24).2 (4, [(0, .ref r), (1, .int v), (2, .int s), (3, .int (x + 1)), (4, .int (v - (x * (nI (hwv (3, b, l, g)))))), (5, .int (((v - (x * (nI (hwv (3, b, l, g))))) * (nI (ltv (3, b, l, g)))) + (x * (nI (htv (3, b, l, g))))))], []) (HH I J R T) _
          refine c_ltf3 hg hL k (i + 1) _ _ _ _ (by omega) (by rw [hx]; exact nI_1 i) (Or.inr ⟨_, _, rfl⟩) (hF.trans (congrArg (clt _ v k (i + 1)) ?_))
          first | exact if_pos c40 | (rw [if_neg c40]; first | exact if_pos c49 | (rw [if_neg c49]; first | exact if_pos c54 | (rw [if_neg c54]; first | exact if_pos c60 | exact if_neg c60)))
        · refine Z_jump 3 rfl ?_
          refine Z_bd (fun (c54 : s = (-1 : Int32)) => ?_) (fun (c54 : ¬ (s = (-1 : Int32))) => ?_)
          · refine Z_jump 4 rfl ?_
            show Zs _ _ (am_P 24).2 (4, [(0, .ref r), (1, .int v), (2, .int (((v - (x * (nI (hwv (3, b, l, g))))) * (nI (ltv (3, b, l, g)))) + (x * (nI (htv (3, b, l, g)))))), (3, .int (x + 1)), (4, .int (v - (x * (nI (hwv (3, b, l, g)))))), (5, .int (((v - (x * (nI (hwv (3, b, l, g))))) * (nI (ltv (3, b, l, g)))) + (x * (nI (htv (3, b, l, g))))))], []) (HH I J R T) _
            refine c_ltf3 hg hL k (i + 1) _ _ _ _ (by omega) (by rw [hx]; exact nI_1 i) (Or.inr ⟨_, _, rfl⟩) (hF.trans (congrArg (clt _ v k (i + 1)) ?_))
            first | exact if_pos c40 | (rw [if_neg c40]; first | exact if_pos c49 | (rw [if_neg c49]; first | exact if_pos c54 | (rw [if_neg c54]; first | exact if_pos c60 | exact if_neg c60)))
          · refine Z_jump 3 rfl ?_
            refine Z_bd (fun (c60 : s ≤ (((v - (x * (nI (hwv (3, b, l, g))))) * (nI (ltv (3, b, l, g)))) + (x * (nI (htv (3, b, l, g)))))) => ?_) (fun (c60 : ¬ (s ≤ (((v - (x * (nI (hwv (3, b, l, g))))) * (nI (ltv (3, b, l, g)))) + (x * (nI (htv (3, b, l, g))))))) => ?_)
            · refine Z_jump 2 rfl ?_
              show Zs _ _ (am_P 24).2 (4, [(0, .ref r), (1, .int v), (2, .int s), (3, .int (x + 1)), (4, .int (v - (x * (nI (hwv (3, b, l, g)))))), (5, .int (((v - (x * (nI (hwv (3, b, l, g))))) * (nI (ltv (3, b, l, g)))) + (x * (nI (htv (3, b, l, g))))))], []) (HH I J R T) _
              refine c_ltf3 hg hL k (i + 1) _ _ _ _ (by omega) (by rw [hx]; exact nI_1 i) (Or.inr ⟨_, _, rfl⟩) (hF.trans (congrArg (clt _ v k (i + 1)) ?_))
              first | exact if_pos c40 | (rw [if_neg c40]; first | exact if_pos c49 | (rw [if_neg c49]; first | exact if_pos c54 | (rw [if_neg c54]; first | exact if_pos c60 | exact if_neg c60)))
            · refine Z_jump 4 rfl ?_
              show Zs _ _ (am_P 24).2 (4, [(0, .ref r), (1, .int v), (2, .int (((v - (x * (nI (hwv (3, b, l, g))))) * (nI (ltv (3, b, l, g)))) + (x * (nI (htv (3, b, l, g)))))), (3, .int (x + 1)), (4, .int (v - (x * (nI (hwv (3, b, l, g)))))), (5, .int (((v - (x * (nI (hwv (3, b, l, g))))) * (nI (ltv (3, b, l, g)))) + (x * (nI (htv (3, b, l, g))))))], []) (HH I J R T) _
              refine c_ltf3 hg hL k (i + 1) _ _ _ _ (by omega) (by rw [hx]; exact nI_1 i) (Or.inr ⟨_, _, rfl⟩) (hF.trans (congrArg (clt _ v k (i + 1)) ?_))
              first | exact if_pos c40 | (rw [if_neg c40]; first | exact if_pos c49 | (rw [if_neg c49]; first | exact if_pos c54 | (rw [if_neg c54]; first | exact if_pos c60 | exact if_neg c60)))
theorem c_leastTimeFor {q : RD4} {r : Nat} {v : Int32} (hq : okR q) (hL : (HH I J R T)[r]? = some (rodC q)) : am_E sc (d + 2) 24 [.ref r, .int v] (HH I J R T) (some (.int (clt q v (q.2.2.2 + 1) 0 (-1)))) (HH I J R T) := by
  refine E_Z (Ze_of (Nat.le_of_ble_eq_true rfl) ?_)
  obtain ⟨kd, b, l, g⟩ := q
  obtain ⟨h1, h2, h3, h4, h5⟩ := hq
  rcases kd_c h1 with rfl | rfl | rfl | rfl
  · refine Z_jump 4 rfl ?_
    show Zs _ _ (am_P 24).2 (4, [(0, .ref r), (1, .int v), (2, .int (-1 : Int32)), (3, .int (0 : Int32))], []) (HH I J R T) _
    exact c_ltf0 h4 hL (g + 1) 0 _ _ _ _ (Nat.zero_add _) rfl (Or.inl rfl) rfl
  · refine Z_jump 4 rfl ?_
    show Zs _ _ (am_P 24).2 (4, [(0, .ref r), (1, .int v), (2, .int (-1 : Int32)), (3, .int (0 : Int32))], []) (HH I J R T) _
    exact c_ltf1 h4 hL (g + 1) 0 _ _ _ _ (Nat.zero_add _) rfl (Or.inl rfl) rfl
  · refine Z_jump 4 rfl ?_
    show Zs _ _ (am_P 24).2 (4, [(0, .ref r), (1, .int v), (2, .int (-1 : Int32)), (3, .int (0 : Int32))], []) (HH I J R T) _
    exact c_ltf2 h4 hL (g + 1) 0 _ _ _ _ (Nat.zero_add _) rfl (Or.inl rfl) rfl
  · refine Z_jump 4 rfl ?_
    show Zs _ _ (am_P 24).2 (4, [(0, .ref r), (1, .int v), (2, .int (-1 : Int32)), (3, .int (0 : Int32))], []) (HH I J R T) _
    exact c_ltf3 h4 hL (g + 1) 0 _ _ _ _ (Nat.zero_add _) rfl (Or.inl rfl) rfl
end KND

