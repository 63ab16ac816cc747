/-! The reference on a frame without rods; lay's last row for any number of rods. -/
/-- the row behind the last rod as lay() makes it, up to c -/
def LB (n : Nat) (v : Int64) (I0 : hI) (J0 : hJ) (c : Nat) (I : hI) (J : hJ) : Prop :=
  (∀ a, a ≠ 82 → I a = I0 a) ∧ (∀ a, a ≠ 81 → J a = J0 a) ∧ (∀ j, I 82 j = if 64 * n ≤ j ∧ j < 64 * n + c then (if v = (nI (j - 64 * n)).toInt64 then 0 else 1000000000) else I0 82 j) ∧ (∀ j, J 81 j = if 64 * n ≤ j ∧ j < 64 * n + c then (if v = (nI (j - 64 * n)).toInt64 then 1 else 0) else J0 81 j)
theorem LB_0 (n : Nat) (v : Int64) (I0 : hI) (J0 : hJ) : LB n v I0 J0 0 I0 J0 := by
  refine ⟨fun _ _ => rfl, fun _ _ => rfl, fun j => ?_, fun j => ?_⟩
  · rw [if_neg (by omega)]
  · rw [if_neg (by omega)]
theorem LB_s {n : Nat} {v : Int64} {I0 : hI} {J0 : hJ} {c : Nat} {I : hI} {J : hJ} {a : Int32} {b : Int64} (H : LB n v I0 J0 c I J) (h1 : (v = (nI c).toInt64 ∧ a = 0 ∧ b = 1) ∨ (¬ v = (nI c).toInt64 ∧ a = 1000000000 ∧ b = 0)) : LB n v I0 J0 (c + 1) (sf I 82 (64 * n + c) a) (sl J 81 (64 * n + c) b) := by
  obtain ⟨H1, H2, H3, H4⟩ := H
  refine ⟨fun x hx => ?_, fun x hx => ?_, fun j => ?_, fun j => ?_⟩
  · rw [sf_c hx]; exact H1 x hx
  · rw [sl_c hx]; exact H2 x hx
  · by_cases hj : j = 64 * n + c
    · subst hj
      rw [sf_s, if_pos (by omega), show 64 * n + c - 64 * n = c by omega]
      rcases h1 with ⟨e, e1, e2⟩ | ⟨e, e1, e2⟩
      · rw [if_pos e, e1]
      · rw [if_neg e, e1]
    · rw [sf_k hj, H3 j]
      by_cases h2 : 64 * n ≤ j ∧ j < 64 * n + c
      · rw [if_pos h2, if_pos (show 64 * n ≤ j ∧ j < 64 * n + (c + 1) by omega)]
      · rw [if_neg h2, if_neg (show ¬ (64 * n ≤ j ∧ j < 64 * n + (c + 1)) by omega)]
  · by_cases hj : j = 64 * n + c
    · subst hj
      rw [sl_s, if_pos (by omega), show 64 * n + c - 64 * n = c by omega]
      rcases h1 with ⟨e, e1, e2⟩ | ⟨e, e1, e2⟩
      · rw [if_pos e, e2]
      · rw [if_neg e, e2]
    · rw [sl_k hj, H4 j]
      by_cases h2 : 64 * n ≤ j ∧ j < 64 * n + c
      · rw [if_pos h2, if_pos (show 64 * n ≤ j ∧ j < 64 * n + (c + 1) by omega)]
      · rw [if_neg h2, if_neg (show ¬ (64 * n ≤ j ∧ j < 64 * n + (c + 1)) by omega)]
theorem n64 {n c : Nat} : (64 : Int32) * nI n + nI c = nI (64 * n + c) := by
  rw [← nI_add]
  congr 1
  exact (Int32.ofNat_mul 64 n).symm
section M0
variable {sc : Nat × (Nat → Int32)} {d : Nat} {I : hI} {J : hJ} {R : hR} {T : am_H} {Q : Option Value → am_H → Prop}
theorem m_layB {o : Nat} {s : Int32} {due v : Int64} {n : Nat} {I0 : hI} {J0 : hJ} (hn : I0 73 0 = nI n) (h6 : n ≤ 6) (hv : J0 80 n = v)
    (H : ∀ I J t, (t = [] ∨ ∃ b, t = [(6, Value.int b)]) → LB n v I0 J0 64 I J → Zs sc (d + 1) (am_P 164).2 (138, (0, .ref 73) :: (1, .ref o) :: (2, .int s) :: (3, .long due) :: (5, .int (nI 64)) :: t, []) (HH I J R T) Q) :
    ∀ (k c : Nat) (I : hI) (J : hJ) (x : Int32) (t : am_L), c + k = 64 → x = nI c → (t = [] ∨ ∃ b, t = [(6, Value.int b)]) → LB n v I0 J0 c I J → Zs sc (d + 1) (am_P 164).2 (53, (0, .ref 73) :: (1, .ref o) :: (2, .int s) :: (3, .long due) :: (5, .int x) :: t, []) (HH I J R T) Q
  | 0, c, I, J, x, t, hc, hx, ht, hL => by
    have e : c = 64 := by omega
    subst e
    subst hx
    have w := H I J t ht hL
    rcases ht with rfl | ⟨b, rfl⟩
    · refine Z_jump 3 rfl ?_
      refine Z_bd (fun c57 => ?_) (fun c57 => absurd ((show (64 : Int32) ≤ nI 64 by decide)) c57)
      show Zs _ _ (am_P 164).2 (138, [(0, .ref 73), (1, .ref o), (2, .int s), (3, .long due), (5, .int (nI 64))], []) (HH I J R T) _
      exact w
    · refine Z_jump 3 rfl ?_
      refine Z_bd (fun c57 => ?_) (fun c57 => absurd ((show (64 : Int32) ≤ nI 64 by decide)) c57)
      show Zs _ _ (am_P 164).2 (138, [(0, .ref 73), (1, .ref o), (2, .int s), (3, .long due), (5, .int (nI 64)), (6, .int b)], []) (HH I J R T) _
      exact w
  | k + 1, c, I, J, x, t, hc, hx, ht, hL => by
    have hnI : I 73 0 = nI n := by rw [hL.1 73 (by decide)]; exact hn
    have hvJ : J 80 n = v := by rw [hL.2.1 80 (by decide)]; exact hv
    have hce : (64 : Int32) * I 73 0 + x = nI (64 * n + c) := by rw [hnI, hx]; exact n64
    have hge : ¬ (64 : Int32) ≤ x := by rw [hx]; exact nI_ge (b := 64) (by omega) (by omega)
    have hcm : J 80 n = Int32.toInt64 x ↔ v = (nI c).toInt64 := by rw [hvJ, hx]
    rcases ht with rfl | ⟨b, rfl⟩
    · refine Z_jump 3 rfl ?_
      refine Z_bd (fun c57 => absurd c57 (hge)) (fun c57 => ?_)
      refine Z_jump 4 rfl ?_
      show Zs _ _ (am_P 164).2 (68, [(0, .ref 73), (1, .ref o), (2, .int s), (3, .long due), (5, .int x)], [.int (I 73 0), .ref 80]) (HH I J R T) _
      refine Z_lalK (n) rfl rfl (hnI) (by omega) (by decide) ?_
      show Zs _ _ (am_P 164).2 (69, [(0, .ref 73), (1, .ref o), (2, .int s), (3, .long due), (5, .int x)], [.long (J 80 n)]) (HH I J R T) _
      refine Z_jump 4 rfl ?_
      refine Z_bn (fun (c73 : ¬ ((lg_cmp (J 80 n) (Int32.toInt64 x)) = (0 : Int32))) => ?_) (fun (c73 : (lg_cmp (J 80 n) (Int32.toInt64 x)) = (0 : Int32)) => ?_)
      · rw [lc_eq] at c73
        refine Z_jump 7 rfl ?_
        show Zs _ _ (am_P 164).2 (93, [(0, .ref 73), (1, .ref o), (2, .int s), (3, .long due), (5, .int x), (6, .int (0 : Int32))], [.int x, .int (I 73 0), .ref 81]) (HH I J R T) _
        refine Z_c1 rfl rfl rfl (m_cell) ?_
        show Zs _ _ (am_P 164).2 (96, [(0, .ref 73), (1, .ref o), (2, .int s), (3, .long due), (5, .int x), (6, .int (0 : Int32))], [.int (64 * (I 73 0) + x), .ref 81]) (HH I J R T) _
        refine Z_jump 3 rfl ?_
        show Zs _ _ (am_P 164).2 (106, [(0, .ref 73), (1, .ref o), (2, .int s), (3, .long due), (5, .int x), (6, .int (0 : Int32))], [.long (0 : Int64), .int (64 * (I 73 0) + x), .ref 81]) (HH I J R T) _
        refine Z_lasK (64 * n + c) rfl rfl (hce) (by omega) (by decide) ?_
        show Zs _ _ (am_P 164).2 (107, [(0, .ref 73), (1, .ref o), (2, .int s), (3, .long due), (5, .int x), (6, .int (0 : Int32))], []) (HH I (sl J 81 (64 * n + c) (0 : Int64)) R T) _
        refine Z_jump 5 rfl ?_
        show Zs _ _ (am_P 164).2 (117, [(0, .ref 73), (1, .ref o), (2, .int s), (3, .long due), (5, .int x), (6, .int (0 : Int32))], [.int x, .int (I 73 0), .ref 82]) (HH I (sl J 81 (64 * n + c) (0 : Int64)) R T) _
        refine Z_c1 rfl rfl rfl (m_cell) ?_
        show Zs _ _ (am_P 164).2 (120, [(0, .ref 73), (1, .ref o), (2, .int s), (3, .long due), (5, .int x), (6, .int (0 : Int32))], [.int (64 * (I 73 0) + x), .ref 82]) (HH I (sl J 81 (64 * n + c) (0 : Int64)) R T) _
        refine Z_jump 3 rfl ?_
        show Zs _ _ (am_P 164).2 (131, [(0, .ref 73), (1, .ref o), (2, .int s), (3, .long due), (5, .int x), (6, .int (0 : Int32))], [.int (1000000000 : Int32), .int (64 * (I 73 0) + x), .ref 82]) (HH I (sl J 81 (64 * n + c) (0 : Int64)) R T) _
        refine Z_iasK (64 * n + c) rfl rfl (hce) (by omega) (by decide) ?_
        show Zs _ _ (am_P 164).2 (132, [(0, .ref 73), (1, .ref o), (2, .int s), (3, .long due), (5, .int x), (6, .int (0 : Int32))], []) (HH (sf I 82 (64 * n + c) (1000000000 : Int32)) (sl J 81 (64 * n + c) (0 : Int64)) R T) _
        refine Z_jump 2 rfl ?_
        show Zs _ _ (am_P 164).2 (53, [(0, .ref 73), (1, .ref o), (2, .int s), (3, .long due), (5, .int (x + 1)), (6, .int (0 : Int32))], []) (HH (sf I 82 (64 * n + c) (1000000000 : Int32)) (sl J 81 (64 * n + c) (0 : Int64)) R T) _
        exact m_layB hn h6 hv H k (c + 1) _ _ _ _ (by omega) (by rw [hx]; exact nI_1 c) (Or.inr ⟨_, rfl⟩) (LB_s hL (by first | exact Or.inl ⟨hcm.mp c73, rfl, rfl⟩ | exact Or.inr ⟨fun z => c73 (hcm.mpr z), rfl, rfl⟩))
      · rw [lc_eq] at c73
        refine Z_jump 8 rfl ?_
        show Zs _ _ (am_P 164).2 (93, [(0, .ref 73), (1, .ref o), (2, .int s), (3, .long due), (5, .int x), (6, .int (1 : Int32))], [.int x, .int (I 73 0), .ref 81]) (HH I J R T) _
        refine Z_c1 rfl rfl rfl (m_cell) ?_
        show Zs _ _ (am_P 164).2 (96, [(0, .ref 73), (1, .ref o), (2, .int s), (3, .long due), (5, .int x), (6, .int (1 : Int32))], [.int (64 * (I 73 0) + x), .ref 81]) (HH I J R T) _
        refine Z_jump 4 rfl ?_
        show Zs _ _ (am_P 164).2 (106, [(0, .ref 73), (1, .ref o), (2, .int s), (3, .long due), (5, .int x), (6, .int (1 : Int32))], [.long (1 : Int64), .int (64 * (I 73 0) + x), .ref 81]) (HH I J R T) _
        refine Z_lasK (64 * n + c) rfl rfl (hce) (by omega) (by decide) ?_
        show Zs _ _ (am_P 164).2 (107, [(0, .ref 73), (1, .ref o), (2, .int s), (3, .long due), (5, .int x), (6, .int (1 : Int32))], []) (HH I (sl J 81 (64 * n + c) (1 : Int64)) R T) _
        refine Z_jump 5 rfl ?_
        show Zs _ _ (am_P 164).2 (117, [(0, .ref 73), (1, .ref o), (2, .int s), (3, .long due), (5, .int x), (6, .int (1 : Int32))], [.int x, .int (I 73 0), .ref 82]) (HH I (sl J 81 (64 * n + c) (1 : Int64)) R T) _
        refine Z_c1 rfl rfl rfl (m_cell) ?_
        show Zs _ _ (am_P 164).2 (120, [(0, .ref 73), (1, .ref o), (2, .int s), (3, .long due), (5, .int x), (6, .int (1 : Int32))], [.int (64 * (I 73 0) + x), .ref 82]) (HH I (sl J 81 (64 * n + c) (1 : Int64)) R T) _
        refine Z_jump 4 rfl ?_
        show Zs _ _ (am_P 164).2 (131, [(0, .ref 73), (1, .ref o), (2, .int s), (3, .long due), (5, .int x), (6, .int (1 : Int32))], [.int (0 : Int32), .int (64 * (I 73 0) + x), .ref 82]) (HH I (sl J 81 (64 * n + c) (1 : Int64)) R T) _
        refine Z_iasK (64 * n + c) rfl rfl (hce) (by omega) (by decide) ?_
        show Zs _ _ (am_P 164).2 (132, [(0, .ref 73), (1, .ref o), (2, .int s), (3, .long due), (5, .int x), (6, .int (1 : Int32))], []) (HH (sf I 82 (64 * n + c) (0 : Int32)) (sl J 81 (64 * n + c) (1 : Int64)) R T) _
        refine Z_jump 2 rfl ?_
        show Zs _ _ (am_P 164).2 (53, [(0, .ref 73), (1, .ref o), (2, .int s), (3, .long due), (5, .int (x + 1)), (6, .int (1 : Int32))], []) (HH (sf I 82 (64 * n + c) (0 : Int32)) (sl J 81 (64 * n + c) (1 : Int64)) R T) _
        exact m_layB hn h6 hv H k (c + 1) _ _ _ _ (by omega) (by rw [hx]; exact nI_1 c) (Or.inr ⟨_, rfl⟩) (LB_s hL (by first | exact Or.inl ⟨hcm.mp c73, rfl, rfl⟩ | exact Or.inr ⟨fun z => c73 (hcm.mpr z), rfl, rfl⟩))
    · refine Z_jump 3 rfl ?_
      refine Z_bd (fun c57 => absurd c57 (hge)) (fun c57 => ?_)
      refine Z_jump 4 rfl ?_
      show Zs _ _ (am_P 164).2 (68, [(0, .ref 73), (1, .ref o), (2, .int s), (3, .long due), (5, .int x), (6, .int b)], [.int (I 73 0), .ref 80]) (HH I J R T) _
      refine Z_lalK (n) rfl rfl (hnI) (by omega) (by decide) ?_
      show Zs _ _ (am_P 164).2 (69, [(0, .ref 73), (1, .ref o), (2, .int s), (3, .long due), (5, .int x), (6, .int b)], [.long (J 80 n)]) (HH I J R T) _
      refine Z_jump 4 rfl ?_
      refine Z_bn (fun (c73 : ¬ ((lg_cmp (J 80 n) (Int32.toInt64 x)) = (0 : Int32))) => ?_) (fun (c73 : (lg_cmp (J 80 n) (Int32.toInt64 x)) = (0 : Int32)) => ?_)
      · rw [lc_eq] at c73
        refine Z_jump 7 rfl ?_
        show Zs _ _ (am_P 164).2 (93, [(0, .ref 73), (1, .ref o), (2, .int s), (3, .long due), (5, .int x), (6, .int (0 : Int32))], [.int x, .int (I 73 0), .ref 81]) (HH I J R T) _
        refine Z_c1 rfl rfl rfl (m_cell) ?_
        show Zs _ _ (am_P 164).2 (96, [(0, .ref 73), (1, .ref o), (2, .int s), (3, .long due), (5, .int x), (6, .int (0 : Int32))], [.int (64 * (I 73 0) + x), .ref 81]) (HH I J R T) _
        refine Z_jump 3 rfl ?_
        show Zs _ _ (am_P 164).2 (106, [(0, .ref 73), (1, .ref o), (2, .int s), (3, .long due), (5, .int x), (6, .int (0 : Int32))], [.long (0 : Int64), .int (64 * (I 73 0) + x), .ref 81]) (HH I J R T) _
        refine Z_lasK (64 * n + c) rfl rfl (hce) (by omega) (by decide) ?_
        show Zs _ _ (am_P 164).2 (107, [(0, .ref 73), (1, .ref o), (2, .int s), (3, .long due), (5, .int x), (6, .int (0 : Int32))], []) (HH I (sl J 81 (64 * n + c) (0 : Int64)) R T) _
        refine Z_jump 5 rfl ?_
        show Zs _ _ (am_P 164).2 (117, [(0, .ref 73), (1, .ref o), (2, .int s), (3, .long due), (5, .int x), (6, .int (0 : Int32))], [.int x, .int (I 73 0), .ref 82]) (HH I (sl J 81 (64 * n + c) (0 : Int64)) R T) _
        refine Z_c1 rfl rfl rfl (m_cell) ?_
        show Zs _ _ (am_P 164).2 (120, [(0, .ref 73), (1, .ref o), (2, .int s), (3, .long due), (5, .int x), (6, .int (0 : Int32))], [.int (64 * (I 73 0) + x), .ref 82]) (HH I (sl J 81 (64 * n + c) (0 : Int64)) R T) _
        refine Z_jump 3 rfl ?_
        show Zs _ _ (am_P 164).2 (131, [(0, .ref 73), (1, .ref o), (2, .int s), (3, .long due), (5, .int x), (6, .int (0 : Int32))], [.int (1000000000 : Int32), .int (64 * (I 73 0) + x), .ref 82]) (HH I (sl J 81 (64 * n + c) (0 : Int64)) R T) _
        refine Z_iasK (64 * n + c) rfl rfl (hce) (by omega) (by decide) ?_
        show Zs _ _ (am_P 164).2 (132, [(0, .ref 73), (1, .ref o), (2, .int s), (3, .long due), (5, .int x), (6, .int (0 : Int32))], []) (HH (sf I 82 (64 * n + c) (1000000000 : Int32)) (sl J 81 (64 * n + c) (0 : Int64)) R T) _
        refine Z_jump 2 rfl ?_
        show Zs _ _ (am_P 164).2 (53, [(0, .ref 73), (1, .ref o), (2, .int s), (3, .long due), (5, .int (x + 1)), (6, .int (0 : Int32))], []) (HH (sf I 82 (64 * n + c) (1000000000 : Int32)) (sl J 81 (64 * n + c) (0 : Int64)) R T) _
        exact m_layB hn h6 hv H k (c + 1) _ _ _ _ (by omega) (by rw [hx]; exact nI_1 c) (Or.inr ⟨_, rfl⟩) (LB_s hL (by first | exact Or.inl ⟨hcm.mp c73, rfl, rfl⟩ | exact Or.inr ⟨fun z => c73 (hcm.mpr z), rfl, rfl⟩))
      · rw [lc_eq] at c73
        refine Z_jump 8 rfl ?_
        show Zs _ _ (am_P 164).2 (93, [(0, .ref 73), (1, .ref o), (2, .int s), (3, .long due), (5, .int x), (6, .int (1 : Int32))], [.int x, .int (I 73 0), .ref 81]) (HH I J R T) _
        refine Z_c1 rfl rfl rfl (m_cell) ?_
        show Zs _ _ (am_P 164).2 (96, [(0, .ref 73), (1, .ref o), (2, .int s), (3, .long due), (5, .int x), (6, .int (1 : Int32))], [.int (64 * (I 73 0) + x), .ref 81]) (HH I J R T) _
        refine Z_jump 4 rfl ?_
        show Zs _ _ (am_P 164).2 (106, [(0, .ref 73), (1, .ref o), (2, .int s), (3, .long due), (5, .int x), (6, .int (1 : Int32))], [.long (1 : Int64), .int (64 * (I 73 0) + x), .ref 81]) (HH I J R T) _
        refine Z_lasK (64 * n + c) rfl rfl (hce) (by omega) (by decide) ?_
        show Zs _ _ (am_P 164).2 (107, [(0, .ref 73), (1, .ref o), (2, .int s), (3, .long due), (5, .int x), (6, .int (1 : Int32))], []) (HH I (sl J 81 (64 * n + c) (1 : Int64)) R T) _
        refine Z_jump 5 rfl ?_
        show Zs _ _ (am_P 164).2 (117, [(0, .ref 73), (1, .ref o), (2, .int s), (3, .long due), (5, .int x), (6, .int (1 : Int32))], [.int x, .int (I 73 0), .ref 82]) (HH I (sl J 81 (64 * n + c) (1 : Int64)) R T) _
        refine Z_c1 rfl rfl rfl (m_cell) ?_
        show Zs _ _ (am_P 164).2 (120, [(0, .ref 73), (1, .ref o), (2, .int s), (3, .long due), (5, .int x), (6, .int (1 : Int32))], [.int (64 * (I 73 0) + x), .ref 82]) (HH I (sl J 81 (64 * n + c) (1 : Int64)) R T) _
        refine Z_jump 4 rfl ?_
        show Zs _ _ (am_P 164).2 (131, [(0, .ref 73), (1, .ref o), (2, .int s), (3, .long due), (5, .int x), (6, .int (1 : Int32))], [.int (0 : Int32), .int (64 * (I 73 0) + x), .ref 82]) (HH I (sl J 81 (64 * n + c) (1 : Int64)) R T) _
        refine Z_iasK (64 * n + c) rfl rfl (hce) (by omega) (by decide) ?_
        show Zs _ _ (am_P 164).2 (132, [(0, .ref 73), (1, .ref o), (2, .int s), (3, .long due), (5, .int x), (6, .int (1 : Int32))], []) (HH (sf I 82 (64 * n + c) (0 : Int32)) (sl J 81 (64 * n + c) (1 : Int64)) R T) _
        refine Z_jump 2 rfl ?_
        show Zs _ _ (am_P 164).2 (53, [(0, .ref 73), (1, .ref o), (2, .int s), (3, .long due), (5, .int (x + 1)), (6, .int (1 : Int32))], []) (HH (sf I 82 (64 * n + c) (0 : Int32)) (sl J 81 (64 * n + c) (1 : Int64)) R T) _
        exact m_layB hn h6 hv H k (c + 1) _ _ _ _ (by omega) (by rw [hx]; exact nI_1 c) (Or.inr ⟨_, rfl⟩) (LB_s hL (by first | exact Or.inl ⟨hcm.mp c73, rfl, rfl⟩ | exact Or.inr ⟨fun z => c73 (hcm.mpr z), rfl, rfl⟩))
/-- without rods -/
theorem m_lay0 {o : Nat} {s : Int32} {due : Int64} (hn : I 73 0 = 0) : Ze sc (d + 2) 164 [.ref 73, .ref o, .int s, .long due] (HH I J R T) (fun r h => r = none ∧ ∃ I' J', h = HH I' J' R T ∧ LB 0 due I (sl J 80 0 due) 64 I' J') := by
  refine Ze_of (Nat.le_of_ble_eq_true rfl) ?_
  refine Z_jump 5 rfl ?_
  show Zs _ _ (am_P 164).2 (7, [(0, .ref 73), (1, .ref o), (2, .int s), (3, .long due)], []) (HH I (sl J 80 0 due) R T) _
  refine Z_jump 6 rfl ?_
  refine Z_bd (fun c16 => ?_) (fun c16 => absurd ((show I 73 0 ≤ (0 : Int32) by rw [hn]; decide)) c16)
  refine Z_jump 2 rfl ?_
  show Zs _ _ (am_P 164).2 (53, [(0, .ref 73), (1, .ref o), (2, .int s), (3, .long due), (5, .int (0 : Int32))], []) (HH I (sl J 80 0 due) R T) _
  refine m_layB (n := 0) (v := due) (I0 := I) (J0 := sl J 80 0 due) hn (by omega) (sl_s _ _ _ _) (fun I' J' t ht hL => ?_) 64 0 _ _ _ _ (by omega) rfl (Or.inl rfl) (LB_0 _ _ _ _)
  have hn2 : I' 73 0 = 0 := by rw [hL.1 73 (by decide)]; exact hn
  rcases ht with rfl | ⟨b, rfl⟩
  · refine Z_jump 7 rfl ?_
    refine Z_bd (fun c148 => ?_) (fun c148 => absurd ((show I' 73 0 - 1 < 0 by rw [hn2]; decide)) c148)
    show Zs _ _ (am_P 164).2 (183, [(0, .ref 73), (1, .ref o), (2, .int s), (3, .long due), (5, .int ((I' 73 0) - (1 : Int32)))], []) (HH I' J' R T) _
    refine Z_ret rfl rfl rfl ?_
    exact ⟨rfl, I', J', rfl, hL⟩
  · refine Z_jump 7 rfl ?_
    refine Z_bd (fun c148 => ?_) (fun c148 => absurd ((show I' 73 0 - 1 < 0 by rw [hn2]; decide)) c148)
    show Zs _ _ (am_P 164).2 (183, [(0, .ref 73), (1, .ref o), (2, .int s), (3, .long due), (5, .int ((I' 73 0) - (1 : Int32))), (6, .int b)], []) (HH I' J' R T) _
    refine Z_ret rfl rfl rfl ?_
    exact ⟨rfl, I', J', rfl, hL⟩
/-- what the reference may have changed, and what it knows without rods -/
def M0p (v : Value) (R : hR) (T : am_H) (r : Option Value) (h : am_H) : Prop := r = some v ∧ ∃ I' J', h = HH I' J' R T ∧ I' 73 0 = 0
theorem m_isShown0 {o : Nat} {s : Int32} {due : Int64} (hn : I 73 0 = 0) : Ze sc (d + 3) 167 [.ref 73, .ref o, .int s, .long due] (HH I J R T) (fun r h => r = some (.int (if due = 0 then 1 else 0)) ∧ ∃ I' J', h = HH I' J' R T ∧ (∀ a, a ≠ 82 → I' a = I a) ∧ (due = 0 → I' 82 0 = 0 ∧ J' 81 0 = 1)) := by
  refine Ze_of (Nat.le_of_ble_eq_true rfl) ?_
  refine Z_jump 4 rfl ?_
  refine Z_bd (fun (c3 : (lg_cmp due (0 : Int64)) < (0 : Int32)) => ?_) (fun (c3 : ¬ ((lg_cmp due (0 : Int64)) < (0 : Int32))) => ?_)
  · rw [lc_lt] at c3
    refine Z_jump 1 rfl ?_
    show Zs _ _ (am_P 167).2 (15, [(0, .ref 73), (1, .ref o), (2, .int s), (3, .long due)], [.int (0 : Int32)]) (HH I J R T) _
    refine Z_rI rfl (by first | exact am_nw0 _ | exact am_nw01 | rfl | assumption) ?_
    exact ⟨am_ii (if_neg (fun z => by subst z; exact absurd c3 (by decide))).symm, I, J, rfl, fun _ _ => rfl, fun z => by subst z; exact absurd c3 (by decide)⟩
  · rw [lc_lt] at c3
    refine Z_jump 4 rfl ?_
    refine Z_bd (fun (c11 : (lg_cmp due (1000000000 : Int64)) ≤ (0 : Int32)) => ?_) (fun (c11 : ¬ ((lg_cmp due (1000000000 : Int64)) ≤ (0 : Int32))) => ?_)
    · rw [lc_le] at c11
      refine Z_jump 4 rfl ?_
      show Zs _ _ (am_P 167).2 (20, [(0, .ref 73), (1, .ref o), (2, .int s), (3, .long due)], [.long due, .int s, .ref o, .ref 73]) (HH I J R T) _
      refine Z_cQ rfl rfl rfl (m_lay0 (I := I) (J := J) hn) (fun v h1 hq => ?_)
      obtain ⟨rfl, I', J', rfl, hL⟩ := hq
      show Zs _ _ (am_P 167).2 (23, [(0, .ref 73), (1, .ref o), (2, .int s), (3, .long due)], []) (HH I' J' R T) _
      refine Z_jump 7 rfl ?_
      refine Z_bd (fun (c31 : (lg_cmp (J' 81 0) (0 : Int64)) ≤ (0 : Int32)) => ?_) (fun (c31 : ¬ ((lg_cmp (J' 81 0) (0 : Int64)) ≤ (0 : Int32))) => ?_)
      · rw [lc_le] at c31
        refine Z_jump 1 rfl ?_
        show Zs _ _ (am_P 167).2 (39, [(0, .ref 73), (1, .ref o), (2, .int s), (3, .long due)], [.int (0 : Int32)]) (HH I' J' R T) _
        refine Z_rI rfl (by first | exact am_nw0 _ | exact am_nw01 | rfl | assumption) ?_
        have h0 : J' 81 0 = if due = 0 then 1 else 0 := hL.2.2.2 0
        by_cases z : due = 0
        · rw [h0, if_pos z] at c31; exact absurd c31 (by decide)
        · exact ⟨am_ii (if_neg z).symm, I', J', rfl, hL.1, fun y => absurd y z⟩
      · rw [lc_le] at c31
        refine Z_jump 2 rfl ?_
        show Zs _ _ (am_P 167).2 (39, [(0, .ref 73), (1, .ref o), (2, .int s), (3, .long due)], [.int (1 : Int32)]) (HH I' J' R T) _
        refine Z_rI rfl (by first | exact am_nw0 _ | exact am_nw01 | rfl | assumption) ?_
        have h0 : J' 81 0 = if due = 0 then 1 else 0 := hL.2.2.2 0
        by_cases z : due = 0
        · refine ⟨am_ii (if_pos z).symm, I', J', rfl, hL.1, fun _ => ⟨?_, ?_⟩⟩
          · subst z; exact hL.2.2.1 0
          · rw [h0, if_pos z]
        · rw [h0, if_neg z] at c31; exact absurd (by decide) c31
    · rw [lc_le] at c11
      refine Z_jump 1 rfl ?_
      show Zs _ _ (am_P 167).2 (15, [(0, .ref 73), (1, .ref o), (2, .int s), (3, .long due)], [.int (0 : Int32)]) (HH I J R T) _
      refine Z_rI rfl (by first | exact am_nw0 _ | exact am_nw01 | rfl | assumption) ?_
      exact ⟨am_ii (if_neg (fun z => by subst z; exact c11 (by decide))).symm, I, J, rfl, fun _ _ => rfl, fun z => by subst z; exact absurd (by decide) c11⟩
end M0

