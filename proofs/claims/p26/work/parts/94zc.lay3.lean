/-! The reference: lay, isShown. -/
section ML3
variable {sc : Nat × (Nat → Int32)} {d : Nat} {R : hR} {T : am_H} {Q : Option Value → am_H → Prop}
def ly1 (D : FD) : Nat → Nat → hJ → hJ
  | 0, _, J => J
  | k + 1, r, J => ly1 D k (r + 1) (sl J 80 (r + 1) (J 80 r / bsL D r))
def ly2 (n : Nat) : Nat → Nat → hI → hJ → hI × hJ
  | 0, _, I, J => (I, J)
  | k + 1, c, I, J => ly2 n k (c + 1) (sf I 82 (64 * n + c) (if J 80 n = (nI c).toInt64 then 0 else 1000000000)) (sl J 81 (64 * n + c) (if J 80 n = (nI c).toInt64 then 1 else 0))
def lyR (D : FD) (o : Nat) (st : Int32) (r : Nat) : Nat → Nat → hI → hJ → hI × hJ
  | 0, _, I, J => (I, J)
  | k + 1, c, I, J => lyR D o st r k (c + 1) (lcI I J D o st r c) (lcJ I J D o st r c)
def lyA (D : FD) (o : Nat) (st : Int32) : Nat → hI → hJ → hI × hJ
  | 0, I, J => (I, J)
  | r + 1, I, J => lyA D o st r (lyR D o st r 64 0 I J).1 (lyR D o st r 64 0 I J).2
def ly0 (I : hI) (J : hJ) (D : FD) (due : Int64) : hI × hJ := ly2 D.1 64 0 I (ly1 D D.1 0 (sl J 80 0 due))
def lay (I : hI) (J : hJ) (D : FD) (o : Nat) (st : Int32) (due : Int64) : hI × hJ := lyA D o st D.1 (ly0 I J D due).1 (ly0 I J D due).2
theorem ly1_c {D : FD} {a : Nat} (h : a ≠ 80) : ∀ (k r : Nat) (J : hJ), ly1 D k r J a = J a
  | 0, r, J => rfl
  | k + 1, r, J => by unfold ly1; rw [ly1_c h k, sl_c h]
theorem ly1_k {D : FD} {j : Nat} : ∀ (k r : Nat) (J : hJ), j ≤ r → ly1 D k r J 80 j = J 80 j
  | 0, r, J, h => rfl
  | k + 1, r, J, h => by unfold ly1; rw [ly1_k k (r + 1) _ (by omega), sl_k (by omega)]
theorem ly1_s {D : FD} : ∀ (k r : Nat) (J : hJ) (j : Nat), r ≤ j → j < r + k → ly1 D k r J 80 (j + 1) = ly1 D k r J 80 j / bsL D j
  | 0, r, J, j, h1, h2 => absurd h2 (by omega)
  | k + 1, r, J, j, h1, h2 => by
    unfold ly1
    by_cases e : j = r
    · subst e
      rw [ly1_k k (j + 1) _ (by omega), ly1_k k (j + 1) _ (by omega), sl_s, sl_k (by omega)]
    · exact ly1_s k (r + 1) _ j (by omega) (by omega)
theorem ly2_I {n a : Nat} (h : a ≠ 82) : ∀ (k c : Nat) (I : hI) (J : hJ), (ly2 n k c I J).1 a = I a
  | 0, c, I, J => rfl
  | k + 1, c, I, J => by unfold ly2; rw [ly2_I h k, sf_c h]
theorem ly2_J {n a : Nat} (h : a ≠ 81) : ∀ (k c : Nat) (I : hI) (J : hJ), (ly2 n k c I J).2 a = J a
  | 0, c, I, J => rfl
  | k + 1, c, I, J => by unfold ly2; rw [ly2_J h k, sl_c h]
theorem lyR_I {D : FD} {o r a : Nat} {st : Int32} (h : a ≠ 82) : ∀ (k c : Nat) (I : hI) (J : hJ), (lyR D o st r k c I J).1 a = I a
  | 0, c, I, J => rfl
  | k + 1, c, I, J => by unfold lyR; rw [lyR_I h k]; exact sf_c h
theorem lyR_J {D : FD} {o r a : Nat} {st : Int32} (h : a ≠ 81) : ∀ (k c : Nat) (I : hI) (J : hJ), (lyR D o st r k c I J).2 a = J a
  | 0, c, I, J => rfl
  | k + 1, c, I, J => by unfold lyR; rw [lyR_J h k]; exact sl_c h
theorem lyA_I {D : FD} {o a : Nat} {st : Int32} (h : a ≠ 82) : ∀ (k : Nat) (I : hI) (J : hJ), (lyA D o st k I J).1 a = I a
  | 0, I, J => rfl
  | k + 1, I, J => by unfold lyA; rw [lyA_I h k, lyR_I h]
theorem lyA_J {D : FD} {o a : Nat} {st : Int32} (h : a ≠ 81) : ∀ (k : Nat) (I : hI) (J : hJ), (lyA D o st k I J).2 a = J a
  | 0, I, J => rfl
  | k + 1, I, J => by unfold lyA; rw [lyA_J h k, lyR_J h]
theorem lay_I {I : hI} {J : hJ} {D : FD} {o a : Nat} {st : Int32} {due : Int64} (h : a ≠ 82) : (lay I J D o st due).1 a = I a := by
  unfold lay ly0
  rw [lyA_I h, ly2_I h]
theorem lay_J {I : hI} {J : hJ} {D : FD} {o a : Nat} {st : Int32} {due : Int64} (h : a ≠ 81) (h7 : a ≠ 80) : (lay I J D o st due).2 a = J a := by
  unfold lay ly0
  rw [lyA_J h, ly2_J h, ly1_c h7, sl_c h7]
theorem DU_of {J J' : hJ} {D : FD} (h : DU J D) (e : J' 80 = J 80) : DU J' D := by
  unfold DU at h ⊢
  rw [e]
  exact h
theorem ly1_DU {J : hJ} {D : FD} {due : Int64} (h1 : 0 ≤ due.toInt) (h2 : due.toInt ≤ 1000000000) : DU (ly1 D D.1 0 (sl J 80 0 due)) D := by
  refine ⟨?_, fun r hr => ly1_s _ _ _ _ (by omega) (by omega)⟩
  rw [ly1_k _ _ _ (Nat.le_refl 0), sl_s]
  exact ⟨h1, h2⟩
theorem lay_DU {I : hI} {J : hJ} {D : FD} {o : Nat} {st : Int32} {due : Int64} (h1 : 0 ≤ due.toInt) (h2 : due.toInt ≤ 1000000000) : DU (lay I J D o st due).2 D := by
  unfold lay ly0
  exact DU_of (ly1_DU h1 h2) (by rw [lyA_J (by decide), ly2_J (by decide)])
theorem DMf_9 {D : FD} {I I' : hI} (h : DMf D I) (e : ∀ a, a ≠ 82 → I' a = I a) : DMf D I' := DMf_of h (e _ (by decide)) (e _ (by decide)) (e _ (by decide)) (e _ (by decide)) (e _ (by decide))
theorem m_ly1 {I : hI} {D : FD} {o : Nat} {st : Int32} {due : Int64} (hD : DMf D I) : ∀ (k r : Nat) (J : hJ) (x : Int32), r + k = D.1 → x = nI r → Zs sc d (am_P 164).2 (50, [(0, .ref 73), (1, .ref o), (2, .int st), (3, .long due)], []) (HH I (ly1 D k r J) R T) Q → Zs sc d (am_P 164).2 (10, [(0, .ref 73), (1, .ref o), (2, .int st), (3, .long due), (5, .int x)], []) (HH I J R T) Q
  | 0, r, J, x, hr, hx, H => by
    have h6 := hD.2.1
    refine Z_jump 4 rfl ?_
    refine Z_bd (fun c16 => ?_) (fun c16 => absurd ((show I 73 0 ≤ x by rw [hD.1, hx]; exact nI_le (by omega) (by omega))) c16)
    show Zs _ _ (am_P 164).2 (50, [(0, .ref 73), (1, .ref o), (2, .int st), (3, .long due), (5, .int x)], []) (HH I J R T) _
    exact Zs_wk (H) (lnD rfl) (lnD rfl) (by repeat (first | exact trivial | refine ⟨rfl, ?_⟩))
  | k + 1, r, J, x, hr, hx, H => by
    have h6 := hD.2.1
    have hq := hD.2.2.2 r (by omega)
    have eb : Int32.toInt64 (I 75 r) = bsL D r := by unfold bsL; rw [show I 75 r = nI (D.2.1 r).2.1 from hq.2.2.1]
    have e1 : x + 1 = nI (r + 1) := by rw [hx]; exact nI_1 r
    refine Z_jump 4 rfl ?_
    refine Z_bd (fun c16 => absurd c16 ((show ¬ I 73 0 ≤ x by rw [hD.1, hx]; exact nI_ge (by omega) (by omega)))) (fun c16 => ?_)
    refine Z_jump 8 rfl ?_
    show Zs _ _ (am_P 164).2 (33, [(0, .ref 73), (1, .ref o), (2, .int st), (3, .long due), (5, .int x)], [.int x, .ref 80, .int (x + (1 : Int32)), .ref 80]) (HH I J R T) _
    refine Z_lalK (r) rfl rfl (hx) (by omega) (by decide) ?_
    show Zs _ _ (am_P 164).2 (34, [(0, .ref 73), (1, .ref o), (2, .int st), (3, .long due), (5, .int x)], [.long (J 80 r), .int (x + (1 : Int32)), .ref 80]) (HH I J R T) _
    refine Z_jump 3 rfl ?_
    show Zs _ _ (am_P 164).2 (40, [(0, .ref 73), (1, .ref o), (2, .int st), (3, .long due), (5, .int x)], [.int x, .ref 75, .long (J 80 r), .int (x + (1 : Int32)), .ref 80]) (HH I J R T) _
    refine Z_ialK (r) rfl rfl (hx) (by omega) (by decide) ?_
    show Zs _ _ (am_P 164).2 (41, [(0, .ref 73), (1, .ref o), (2, .int st), (3, .long due), (5, .int x)], [.int (I 75 r), .long (J 80 r), .int (x + (1 : Int32)), .ref 80]) (HH I J R T) _
    refine Z_jump 1 rfl ?_
    show Zs _ _ (am_P 164).2 (42, [(0, .ref 73), (1, .ref o), (2, .int st), (3, .long due), (5, .int x)], [.long (Int32.toInt64 (I 75 r)), .long (J 80 r), .int (x + (1 : Int32)), .ref 80]) (HH I J R T) _
    refine Z_eqL (y := (bsL D r)) (eb) ?_
    show Zs _ _ (am_P 164).2 (42, [(0, .ref 73), (1, .ref o), (2, .int st), (3, .long due), (5, .int x)], [.long (bsL D r), .long (J 80 r), .int (x + (1 : Int32)), .ref 80]) (HH I J R T) _
    show Zs _ _ (am_P 164).2 (42, [(0, .ref 73), (1, .ref o), (2, .int st), (3, .long due), (5, .int x)], [.long (bsL D r), .long (J 80 r), .int (x + (1 : Int32)), .ref 80]) (HH I J R T) _
    refine Z_ldiv rfl (by exact bsL_0 hq.1) ?_
    show Zs _ _ (am_P 164).2 (43, [(0, .ref 73), (1, .ref o), (2, .int st), (3, .long due), (5, .int x)], [.long ((J 80 r) / (bsL D r)), .int (x + (1 : Int32)), .ref 80]) (HH I J R T) _
    refine Z_lasK (r + 1) rfl rfl (e1) (by omega) (by decide) ?_
    show Zs _ _ (am_P 164).2 (44, [(0, .ref 73), (1, .ref o), (2, .int st), (3, .long due), (5, .int x)], []) (HH I (sl J 80 (r + 1) ((J 80 r) / (bsL D r))) R T) _
    refine Z_jump 2 rfl ?_
    show Zs _ _ (am_P 164).2 (10, [(0, .ref 73), (1, .ref o), (2, .int st), (3, .long due), (5, .int (x + 1))], []) (HH I (sl J 80 (r + 1) ((J 80 r) / (bsL D r))) R T) _
    exact m_ly1 hD k (r + 1) _ _ (by omega) e1 H
theorem m_ly2 {n o : Nat} {st : Int32} {due : Int64} (h6 : n ≤ 6) : ∀ (k c : Nat) (I : hI) (J : hJ) (x : Int32), c + k = 64 → x = nI c → I 73 0 = nI n → Zs sc (d + 1) (am_P 164).2 (138, [(0, .ref 73), (1, .ref o), (2, .int st), (3, .long due)], []) (HH (ly2 n k c I J).1 (ly2 n k c I J).2 R T) Q → Zs sc (d + 1) (am_P 164).2 (53, [(0, .ref 73), (1, .ref o), (2, .int st), (3, .long due), (5, .int x)], []) (HH I J R T) Q
  | 0, c, I, J, x, hc, hx, hn, H => by
    refine Z_jump 3 rfl ?_
    refine Z_bd (fun c57 => ?_) (fun c57 => absurd ((show (64 : Int32) ≤ x by rw [hx]; exact nI_le (a := 64) (by omega) (by omega))) c57)
    show Zs _ _ (am_P 164).2 (138, [(0, .ref 73), (1, .ref o), (2, .int st), (3, .long due), (5, .int x)], []) (HH I J R T) _
    exact Zs_wk (H) (lnD rfl) (lnD rfl) (by repeat (first | exact trivial | refine ⟨rfl, ?_⟩))
  | k + 1, c, I, J, x, hc, hx, hn, H => by
    have ex : x + 1 = nI (c + 1) := by rw [hx]; exact nI_1 c
    have hce : (64 : Int32) * I 73 0 + nI c = nI (64 * n + c) := by rw [hn]; exact n64
    subst hx
    unfold ly2 at H
    refine Z_jump 3 rfl ?_
    refine Z_bd (fun c57 => absurd c57 ((show ¬ (64 : Int32) ≤ nI c by exact nI_ge (b := 64) (by omega) (by omega)))) (fun c57 => ?_)
    refine Z_jump 4 rfl ?_
    show Zs _ _ (am_P 164).2 (68, [(0, .ref 73), (1, .ref o), (2, .int st), (3, .long due), (5, .int (nI c))], [.int (I 73 0), .ref 80]) (HH I J R T) _
    refine Z_lalK (n) rfl rfl (hn) (by omega) (by decide) ?_
    show Zs _ _ (am_P 164).2 (69, [(0, .ref 73), (1, .ref o), (2, .int st), (3, .long due), (5, .int (nI c))], [.long (J 80 n)]) (HH I J R T) _
    refine Z_jump 4 rfl ?_
    refine Z_bn (fun (c73 : ¬ ((lg_cmp (J 80 n) (Int32.toInt64 (nI c))) = (0 : Int32))) => ?_) (fun (c73 : (lg_cmp (J 80 n) (Int32.toInt64 (nI c))) = (0 : Int32)) => ?_)
    · rw [lc_eq] at c73
      refine Z_jump 7 rfl ?_
      show Zs _ _ (am_P 164).2 (93, [(0, .ref 73), (1, .ref o), (2, .int st), (3, .long due), (5, .int (nI c)), (6, .int (0 : Int32))], [.int (nI c), .int (I 73 0), .ref 81]) (HH I J R T) _
      refine Z_c1 rfl rfl rfl (m_cell) ?_
      show Zs _ _ (am_P 164).2 (96, [(0, .ref 73), (1, .ref o), (2, .int st), (3, .long due), (5, .int (nI c)), (6, .int (0 : Int32))], [.int (64 * I 73 0 + nI c), .ref 81]) (HH I J R T) _
      refine Z_jump 3 rfl ?_
      show Zs _ _ (am_P 164).2 (106, [(0, .ref 73), (1, .ref o), (2, .int st), (3, .long due), (5, .int (nI c)), (6, .int (0 : Int32))], [.long (0 : Int64), .int (64 * I 73 0 + nI c), .ref 81]) (HH I J R T) _
      refine Z_lasK (64 * n + c) rfl rfl (hce) (by omega) (by decide) ?_
      show Zs _ _ (am_P 164).2 (107, [(0, .ref 73), (1, .ref o), (2, .int st), (3, .long due), (5, .int (nI c)), (6, .int (0 : Int32))], []) (HH I (sl J 81 (64 * n + c) (0 : Int64)) R T) _
      refine Z_jump 5 rfl ?_
      show Zs _ _ (am_P 164).2 (117, [(0, .ref 73), (1, .ref o), (2, .int st), (3, .long due), (5, .int (nI c)), (6, .int (0 : Int32))], [.int (nI c), .int (I 73 0), .ref 82]) (HH I (sl J 81 (64 * n + c) (0 : Int64)) R T) _
      refine Z_c1 rfl rfl rfl (m_cell) ?_
      show Zs _ _ (am_P 164).2 (120, [(0, .ref 73), (1, .ref o), (2, .int st), (3, .long due), (5, .int (nI c)), (6, .int (0 : Int32))], [.int (64 * I 73 0 + nI c), .ref 82]) (HH I (sl J 81 (64 * n + c) (0 : Int64)) R T) _
      refine Z_jump 3 rfl ?_
      show Zs _ _ (am_P 164).2 (131, [(0, .ref 73), (1, .ref o), (2, .int st), (3, .long due), (5, .int (nI c)), (6, .int (0 : Int32))], [.int (1000000000 : Int32), .int (64 * I 73 0 + nI c), .ref 82]) (HH I (sl J 81 (64 * n + c) (0 : Int64)) R T) _
      refine Z_iasK (64 * n + c) rfl rfl (hce) (by omega) (by decide) ?_
      show Zs _ _ (am_P 164).2 (132, [(0, .ref 73), (1, .ref o), (2, .int st), (3, .long due), (5, .int (nI c)), (6, .int (0 : Int32))], []) (HH (sf I 82 (64 * n + c) (1000000000 : Int32)) (sl J 81 (64 * n + c) (0 : Int64)) R T) _
      refine Z_jump 2 rfl ?_
      show Zs _ _ (am_P 164).2 (53, [(0, .ref 73), (1, .ref o), (2, .int st), (3, .long due), (5, .int ((nI c) + 1)), (6, .int (0 : Int32))], []) (HH (sf I 82 (64 * n + c) (1000000000 : Int32)) (sl J 81 (64 * n + c) (0 : Int64)) R T) _
      rw [if_neg c73, if_neg c73] at H
      exact Zs_wk (m_ly2 h6 k (c + 1) _ _ _ (by omega) ex hn H) (lnD rfl) (lnD rfl) (by repeat (first | exact trivial | refine ⟨rfl, ?_⟩))
    · rw [lc_eq] at c73
      refine Z_jump 8 rfl ?_
      show Zs _ _ (am_P 164).2 (93, [(0, .ref 73), (1, .ref o), (2, .int st), (3, .long due), (5, .int (nI c)), (6, .int (1 : Int32))], [.int (nI c), .int (I 73 0), .ref 81]) (HH I J R T) _
      refine Z_c1 rfl rfl rfl (m_cell) ?_
      show Zs _ _ (am_P 164).2 (96, [(0, .ref 73), (1, .ref o), (2, .int st), (3, .long due), (5, .int (nI c)), (6, .int (1 : Int32))], [.int (64 * I 73 0 + nI c), .ref 81]) (HH I J R T) _
      refine Z_jump 4 rfl ?_
      show Zs _ _ (am_P 164).2 (106, [(0, .ref 73), (1, .ref o), (2, .int st), (3, .long due), (5, .int (nI c)), (6, .int (1 : Int32))], [.long (1 : Int64), .int (64 * I 73 0 + nI c), .ref 81]) (HH I J R T) _
      refine Z_lasK (64 * n + c) rfl rfl (hce) (by omega) (by decide) ?_
      show Zs _ _ (am_P 164).2 (107, [(0, .ref 73), (1, .ref o), (2, .int st), (3, .long due), (5, .int (nI c)), (6, .int (1 : Int32))], []) (HH I (sl J 81 (64 * n + c) (1 : Int64)) R T) _
      refine Z_jump 5 rfl ?_
      show Zs _ _ (am_P 164).2 (117, [(0, .ref 73), (1, .ref o), (2, .int st), (3, .long due), (5, .int (nI c)), (6, .int (1 : Int32))], [.int (nI c), .int (I 73 0), .ref 82]) (HH I (sl J 81 (64 * n + c) (1 : Int64)) R T) _
      refine Z_c1 rfl rfl rfl (m_cell) ?_
      show Zs _ _ (am_P 164).2 (120, [(0, .ref 73), (1, .ref o), (2, .int st), (3, .long due), (5, .int (nI c)), (6, .int (1 : Int32))], [.int (64 * I 73 0 + nI c), .ref 82]) (HH I (sl J 81 (64 * n + c) (1 : Int64)) R T) _
      refine Z_jump 4 rfl ?_
      show Zs _ _ (am_P 164).2 (131, [(0, .ref 73), (1, .ref o), (2, .int st), (3, .long due), (5, .int (nI c)), (6, .int (1 : Int32))], [.int (0 : Int32), .int (64 * I 73 0 + nI c), .ref 82]) (HH I (sl J 81 (64 * n + c) (1 : Int64)) R T) _
      refine Z_iasK (64 * n + c) rfl rfl (hce) (by omega) (by decide) ?_
      show Zs _ _ (am_P 164).2 (132, [(0, .ref 73), (1, .ref o), (2, .int st), (3, .long due), (5, .int (nI c)), (6, .int (1 : Int32))], []) (HH (sf I 82 (64 * n + c) (0 : Int32)) (sl J 81 (64 * n + c) (1 : Int64)) R T) _
      refine Z_jump 2 rfl ?_
      show Zs _ _ (am_P 164).2 (53, [(0, .ref 73), (1, .ref o), (2, .int st), (3, .long due), (5, .int ((nI c) + 1)), (6, .int (1 : Int32))], []) (HH (sf I 82 (64 * n + c) (0 : Int32)) (sl J 81 (64 * n + c) (1 : Int64)) R T) _
      rw [if_pos c73, if_pos c73] at H
      exact Zs_wk (m_ly2 h6 k (c + 1) _ _ _ (by omega) ex hn H) (lnD rfl) (lnD rfl) (by repeat (first | exact trivial | refine ⟨rfl, ?_⟩))
theorem m_lyR {D : FD} {o r : Nat} {st : Int32} {due : Int64} (ho : o = 78 ∨ o = 79) (hr : r < D.1) : ∀ (k c : Nat) (I : hI) (J : hJ) (x : Int32), c + k = 64 → x = nI c → DMf D I → DU J D → Zs sc (d + 4) (am_P 164).2 (177, [(0, .ref 73), (1, .ref o), (2, .int st), (3, .long due), (5, .int (nI r))], []) (HH (lyR D o st r k c I J).1 (lyR D o st r k c I J).2 R T) Q → Zs sc (d + 4) (am_P 164).2 (154, [(0, .ref 73), (1, .ref o), (2, .int st), (3, .long due), (5, .int (nI r)), (6, .int x)], []) (HH I J R T) Q
  | 0, c, I, J, x, hc, hx, hD, hU, H => by
    refine Z_jump 3 rfl ?_
    refine Z_bd (fun c158 => ?_) (fun c158 => absurd ((show (64 : Int32) ≤ x by rw [hx]; exact nI_le (a := 64) (by omega) (by omega))) c158)
    show Zs _ _ (am_P 164).2 (177, [(0, .ref 73), (1, .ref o), (2, .int st), (3, .long due), (5, .int (nI r)), (6, .int x)], []) (HH I J R T) _
    exact Zs_wk (H) (lnD rfl) (lnD rfl) (by repeat (first | exact trivial | refine ⟨rfl, ?_⟩))
  | k + 1, c, I, J, x, hc, hx, hD, hU, H => by
    have ex : x + 1 = nI (c + 1) := by rw [hx]; exact nI_1 c
    unfold lyR at H
    refine Z_jump 3 rfl ?_
    refine Z_bd (fun c158 => absurd c158 ((show ¬ (64 : Int32) ≤ x by rw [hx]; exact nI_ge (b := 64) (by omega) (by omega)))) (fun c158 => ?_)
    refine Z_jump 5 rfl ?_
    show Zs _ _ (am_P 164).2 (168, [(0, .ref 73), (1, .ref o), (2, .int st), (3, .long due), (5, .int (nI r)), (6, .int x)], [.int x, .int (nI r), .int st, .ref o, .ref 73]) (HH I J R T) _
    refine Z_c0 rfl rfl rfl (m_layCell ho hD hr hU (by omega) hx) ?_
    show Zs _ _ (am_P 164).2 (171, [(0, .ref 73), (1, .ref o), (2, .int st), (3, .long due), (5, .int (nI r)), (6, .int x)], []) (HH (lcI I J D o st r c) (lcJ I J D o st r c) R T) _
    refine Z_jump 2 rfl ?_
    show Zs _ _ (am_P 164).2 (154, [(0, .ref 73), (1, .ref o), (2, .int st), (3, .long due), (5, .int (nI r)), (6, .int (x + 1))], []) (HH (lcI I J D o st r c) (lcJ I J D o st r c) R T) _
    exact m_lyR ho hr k (c + 1) _ _ _ (by omega) ex (DMf_9 hD (fun a ha => sf_c ha)) (DU_of hU (sl_c (by decide))) H
theorem m_lyA {D : FD} {o : Nat} {st : Int32} {due : Int64} (ho : o = 78 ∨ o = 79) : ∀ (r : Nat) (I : hI) (J : hJ) (x : Int32), r ≤ D.1 → x = nI r - 1 → DMf D I → DU J D → Q none (HH (lyA D o st r I J).1 (lyA D o st r I J).2 R T) → Zs sc (d + 4) (am_P 164).2 (146, [(0, .ref 73), (1, .ref o), (2, .int st), (3, .long due), (5, .int x)], []) (HH I J R T) Q
  | 0, I, J, x, hr, hx, hD, hU, H => by
    subst hx
    refine Z_jump 2 rfl ?_
    refine Z_bd (fun c148 => ?_) (fun c148 => absurd ((by decide)) c148)
    show Zs _ _ (am_P 164).2 (183, [(0, .ref 73), (1, .ref o), (2, .int st), (3, .long due), (5, .int (nI 0 - 1))], []) (HH I J R T) _
    refine Z_ret rfl rfl rfl ?_
    exact H
  | r + 1, I, J, x, hr, hx, hD, hU, H => by
    have h6 := hD.2.1
    have e : x = nI r := by rw [hx]; exact nI_pred r
    subst e
    unfold lyA at H
    have W : Zs sc (d + 4) (am_P 164).2 (177, [(0, .ref 73), (1, .ref o), (2, .int st), (3, .long due), (5, .int (nI r))], []) (HH (lyR D o st r 64 0 I J).1 (lyR D o st r 64 0 I J).2 R T) Q := by
      have hD' : DMf D (lyR D o st r 64 0 I J).1 := DMf_9 hD (fun a ha => lyR_I ha _ _ _ _)
      have hU' : DU (lyR D o st r 64 0 I J).2 D := DU_of hU (lyR_J (by decide) _ _ _ _)
      generalize (lyR D o st r 64 0 I J).1 = I' at hD' H ⊢
      generalize (lyR D o st r 64 0 I J).2 = J' at hU' H ⊢
      refine Z_jump 2 rfl ?_
      show Zs _ _ (am_P 164).2 (146, [(0, .ref 73), (1, .ref o), (2, .int st), (3, .long due), (5, .int ((nI r) + Int32.ofInt (-1)))], []) (HH I' J' R T) _
      exact m_lyA ho r _ _ _ (by omega) (xm1 _) hD' hU' H
    refine Z_jump 2 rfl ?_
    refine Z_bd (fun c148 => absurd c148 ((nI_pos (by omega)))) (fun c148 => ?_)
    refine Z_jump 2 rfl ?_
    show Zs _ _ (am_P 164).2 (154, [(0, .ref 73), (1, .ref o), (2, .int st), (3, .long due), (5, .int (nI r)), (6, .int (0 : Int32))], []) (HH I J R T) _
    exact m_lyR ho (by omega) 64 0 I J _ (by omega) rfl hD hU W
theorem m_lay {I : hI} {J : hJ} {D : FD} {o : Nat} {st : Int32} {due : Int64} (ho : o = 78 ∨ o = 79) (hD : DMf D I) (h1 : 0 ≤ due.toInt) (h2 : due.toInt ≤ 1000000000) : am_E sc (d + 5) 164 [.ref 73, .ref o, .int st, .long due] (HH I J R T) none (HH (lay I J D o st due).1 (lay I J D o st due).2 R T) := by
  refine E_Z (Ze_of (Nat.le_of_ble_eq_true rfl) ?_)
  have h6 := hD.2.1
  have W2 : Zs sc (d + 4) (am_P 164).2 (138, [(0, .ref 73), (1, .ref o), (2, .int st), (3, .long due)], []) (HH (ly0 I J D due).1 (ly0 I J D due).2 R T) (fun r h => r = none ∧ h = HH (lay I J D o st due).1 (lay I J D o st due).2 R T) := by
    have hD' : DMf D (ly0 I J D due).1 := DMf_9 hD (fun a ha => ly2_I ha _ _ _ _)
    have hU' : DU (ly0 I J D due).2 D := DU_of (ly1_DU h1 h2) (ly2_J (by decide) _ _ _ _)
    unfold lay
    generalize (ly0 I J D due).1 = I' at hD' ⊢
    generalize (ly0 I J D due).2 = J' at hU' ⊢
    refine Z_jump 5 rfl ?_
    show Zs _ _ (am_P 164).2 (146, [(0, .ref 73), (1, .ref o), (2, .int st), (3, .long due), (5, .int ((I' 73 0) - (1 : Int32)))], []) (HH I' J' R T) _
    exact m_lyA ho D.1 _ _ _ (Nat.le_refl _) (by rw [hD'.1]) hD' hU' ⟨rfl, rfl⟩
  have W1 : Zs sc (d + 4) (am_P 164).2 (50, [(0, .ref 73), (1, .ref o), (2, .int st), (3, .long due)], []) (HH I (ly1 D D.1 0 (sl J 80 0 due)) R T) (fun r h => r = none ∧ h = HH (lay I J D o st due).1 (lay I J D o st due).2 R T) := by
    unfold ly0 at W2
    generalize ly1 D D.1 0 (sl J 80 0 due) = J' at W2 ⊢
    refine Z_jump 2 rfl ?_
    show Zs _ _ (am_P 164).2 (53, [(0, .ref 73), (1, .ref o), (2, .int st), (3, .long due), (5, .int (0 : Int32))], []) (HH I J' R T) _
    exact m_ly2 (d := d + 3) h6 64 0 I J' _ (by omega) rfl hD.1 W2
  refine Z_jump 5 rfl ?_
  show Zs _ _ (am_P 164).2 (7, [(0, .ref 73), (1, .ref o), (2, .int st), (3, .long due)], []) (HH I (sl J 80 0 due) R T) _
  refine Z_jump 2 rfl ?_
  show Zs _ _ (am_P 164).2 (10, [(0, .ref 73), (1, .ref o), (2, .int st), (3, .long due), (5, .int (0 : Int32))], []) (HH I (sl J 80 0 due) R T) _
  exact m_ly1 hD D.1 0 _ _ (by omega) rfl W1
/-- isShown -/
def isP (I : hI) (J : hJ) (D : FD) (o : Nat) (st : Int32) (due : Int64) : Int32 × hI × hJ :=
  if due < 0 then (0, I, J) else if due ≤ 1000000000 then (if (lay I J D o st due).2 81 0 ≤ 0 then 0 else 1, lay I J D o st due) else (0, I, J)
theorem m_isShown {I : hI} {J : hJ} {D : FD} {o : Nat} {st : Int32} {due : Int64} (ho : o = 78 ∨ o = 79) (hD : DMf D I) : am_E sc (d + 6) 167 [.ref 73, .ref o, .int st, .long due] (HH I J R T) (some (.int (isP I J D o st due).1)) (HH (isP I J D o st due).2.1 (isP I J D o st due).2.2 R T) := by
  refine E_Z (Ze_of (Nat.le_of_ble_eq_true rfl) ?_)
  have z0 : (0 : Int64).toInt = 0 := rfl
  have z9 : (1000000000 : Int64).toInt = 1000000000 := rfl
  unfold isP
  refine Z_jump 4 rfl ?_
  refine Z_bd (fun (c3 : (lg_cmp due (0 : Int64)) < (0 : Int32)) => ?_) (fun (c3 : ¬ ((lg_cmp due (0 : Int64)) < (0 : Int32))) => ?_)
  · rw [lc_lt] at c3
    refine Z_jump 1 rfl ?_
    show Zs _ _ (am_P 167).2 (15, [(0, .ref 73), (1, .ref o), (2, .int st), (3, .long due)], [.int (0 : Int32)]) (HH I J R T) _
    refine Z_rI rfl (by first | exact am_nw0 _ | exact am_nw01 | rfl | assumption) ?_
    rw [if_pos c3]
    exact ⟨rfl, rfl⟩
  · rw [lc_lt] at c3
    refine Z_jump 4 rfl ?_
    refine Z_bd (fun (c11 : (lg_cmp due (1000000000 : Int64)) ≤ (0 : Int32)) => ?_) (fun (c11 : ¬ ((lg_cmp due (1000000000 : Int64)) ≤ (0 : Int32))) => ?_)
    · rw [lc_le] at c11
      refine Z_jump 4 rfl ?_
      show Zs _ _ (am_P 167).2 (20, [(0, .ref 73), (1, .ref o), (2, .int st), (3, .long due)], [.long due, .int st, .ref o, .ref 73]) (HH I J R T) _
      refine Z_c0 rfl rfl rfl (m_lay ho hD (by rw [fi_ltL] at c3; omega) (by rw [fi_leL] at c11; omega)) ?_
      show Zs _ _ (am_P 167).2 (23, [(0, .ref 73), (1, .ref o), (2, .int st), (3, .long due)], []) (HH (lay I J D o st due).1 (lay I J D o st due).2 R T) _
      refine Z_jump 7 rfl ?_
      refine Z_bd (fun (c31 : (lg_cmp ((lay I J D o st due).2 81 0) (0 : Int64)) ≤ (0 : Int32)) => ?_) (fun (c31 : ¬ ((lg_cmp ((lay I J D o st due).2 81 0) (0 : Int64)) ≤ (0 : Int32))) => ?_)
      · rw [lc_le] at c31
        refine Z_jump 1 rfl ?_
        show Zs _ _ (am_P 167).2 (39, [(0, .ref 73), (1, .ref o), (2, .int st), (3, .long due)], [.int (0 : Int32)]) (HH (lay I J D o st due).1 (lay I J D o st due).2 R T) _
        refine Z_rI rfl (by first | exact am_nw0 _ | exact am_nw01 | rfl | assumption) ?_
        rw [if_neg c3, if_pos c11, if_pos c31]
        exact ⟨rfl, rfl⟩
      · rw [lc_le] at c31
        refine Z_jump 2 rfl ?_
        show Zs _ _ (am_P 167).2 (39, [(0, .ref 73), (1, .ref o), (2, .int st), (3, .long due)], [.int (1 : Int32)]) (HH (lay I J D o st due).1 (lay I J D o st due).2 R T) _
        refine Z_rI rfl (by first | exact am_nw0 _ | exact am_nw01 | rfl | assumption) ?_
        rw [if_neg c3, if_pos c11, if_neg c31]
        exact ⟨rfl, rfl⟩
    · rw [lc_le] at c11
      refine Z_jump 1 rfl ?_
      show Zs _ _ (am_P 167).2 (15, [(0, .ref 73), (1, .ref o), (2, .int st), (3, .long due)], [.int (0 : Int32)]) (HH I J R T) _
      refine Z_rI rfl (by first | exact am_nw0 _ | exact am_nw01 | rfl | assumption) ?_
      rw [if_neg c3, if_neg c11]
      exact ⟨rfl, rfl⟩
end ML3

