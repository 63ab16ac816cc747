/-! The class: pushAllBack, doStatement, run. -/
section RUN
variable {sc : Nat × (Nat → Int32)} {d : Nat} {R : hR} {T : am_H} {Q : Option Value → am_H → Prop}
def pb1 (I : hI) (q : RD4) (i : Nat) (p : Int32) : hI := if I 22 2 &&& bitF (nI i) p = 0 then sf (spF I 22 (bdF I 22 i p * tmF q p)) (if p = 1 then 24 else 23) i 0 else I
def pbl (D : FD) : Nat → Nat → hI → hI
  | 0, _, I => I
  | k + 1, i, I => pbl D k (i + 1) (pb1 (pb1 I (D.2.1 i) i 0) (D.2.1 i) i 1)
theorem pb1_c {I : hI} {q : RD4} {i c : Nat} {p : Int32} (h2 : c ≠ 22) (h3 : c ≠ 23) (h4 : c ≠ 24) : pb1 I q i p c = I c := by
  unfold pb1
  split
  · split
    · rw [sf_c h4, spF_c h2]
    · rw [sf_c h3, spF_c h2]
  · rfl
theorem pbl_c {D : FD} {c : Nat} (h2 : c ≠ 22) (h3 : c ≠ 23) (h4 : c ≠ 24) : ∀ (k i : Nat) (I : hI), pbl D k i I c = I c
  | 0, i, I => rfl
  | k + 1, i, I => by unfold pbl; rw [pbl_c h2 h3 h4 k, pb1_c h2 h3 h4, pb1_c h2 h3 h4]
theorem c_pb1 {J : hJ} {I : hI} {D : FD} {i r : Nat} {p : Int32} (hp : p = 0 ∨ p = 1) (hi : i < 6) (hq : okR (D.2.1 i)) (hL : ∀ I : hI, (HH I J R T)[r]? = some (rodC (D.2.1 i))) (H : Zs sc (d + 3) (am_P 131).2 (24, [(0, .ref 0), (1, .int (nI i)), (2, .ref r), (3, .int (p + 1))], []) (HH (pb1 I (D.2.1 i) i p) J R T) Q) : Zs sc (d + 3) (am_P 131).2 (24, [(0, .ref 0), (1, .int (nI i)), (2, .ref r), (3, .int p)], []) (HH I J R T) Q := by
  have h1 : ¬ (1 : Int32) < p := by rcases hp with rfl | rfl <;> decide
  unfold pb1 at H
  refine Z_jump 3 rfl ?_
  refine Z_bd (fun c26 => absurd c26 (h1)) (fun c26 => ?_)
  refine Z_jump 6 rfl ?_
  show Zs _ _ (am_P 131).2 (39, [(0, .ref 0), (1, .int (nI i)), (2, .ref r), (3, .int p)], [.int p, .int (nI i), .ref 22]) (HH I J R T) _
  by_cases b39 : I 22 2 &&& bitF (nI i) p = 0
  · refine Z_c1 rfl rfl rfl (E_pos (c_isStuck (a := 22) (by decide)) b39) ?_
    show Zs _ _ (am_P 131).2 (42, [(0, .ref 0), (1, .int (nI i)), (2, .ref r), (3, .int p)], [.int (0 : Int32)]) (HH I J R T) _
    refine Z_jump 7 rfl ?_
    show Zs _ _ (am_P 131).2 (55, [(0, .ref 0), (1, .int (nI i)), (2, .ref r), (3, .int p)], [.int p, .int (nI i), .ref 22, .ref 22]) (HH I J R T) _
    refine Z_c1 rfl rfl rfl (c_beads (a := 22) (by decide) rfl hi) ?_
    show Zs _ _ (am_P 131).2 (58, [(0, .ref 0), (1, .int (nI i)), (2, .ref r), (3, .int p)], [.int (bdF I 22 i p), .ref 22]) (HH I J R T) _
    refine Z_jump 2 rfl ?_
    show Zs _ _ (am_P 131).2 (60, [(0, .ref 0), (1, .int (nI i)), (2, .ref r), (3, .int p)], [.int p, .ref r, .int (bdF I 22 i p), .ref 22]) (HH I J R T) _
    refine Z_c1 rfl (am_do_inv (hL _) rfl (dis4 hq.1) (Nat.le_of_ble_eq_true rfl)) rfl (c_timeOf (hL _) hq.1) ?_
    show Zs _ _ (am_P 131).2 (63, [(0, .ref 0), (1, .int (nI i)), (2, .ref r), (3, .int p)], [.int (tmF (D.2.1 i) p), .int (bdF I 22 i p), .ref 22]) (HH I J R T) _
    refine Z_jump 1 rfl ?_
    show Zs _ _ (am_P 131).2 (64, [(0, .ref 0), (1, .int (nI i)), (2, .ref r), (3, .int p)], [.int ((bdF I 22 i p) * (tmF (D.2.1 i) p)), .ref 22]) (HH I J R T) _
    refine Z_c0 rfl rfl rfl (c_spend (a := 22) (by decide)) ?_
    show Zs _ _ (am_P 131).2 (67, [(0, .ref 0), (1, .int (nI i)), (2, .ref r), (3, .int p)], []) (HH (spF I 22 (bdF I 22 i p * tmF (D.2.1 i) p)) J R T) _
    refine Z_jump 5 rfl ?_
    show Zs _ _ (am_P 131).2 (74, [(0, .ref 0), (1, .int (nI i)), (2, .ref r), (3, .int p)], [.int (0 : Int32), .int p, .int (nI i), .ref 22]) (HH (spF I 22 (bdF I 22 i p * tmF (D.2.1 i) p)) J R T) _
    refine Z_c0 rfl rfl rfl (c_place (a := 22) (by decide) rfl hi) ?_
    show Zs _ _ (am_P 131).2 (77, [(0, .ref 0), (1, .int (nI i)), (2, .ref r), (3, .int p)], []) (HH (sf (spF I 22 (bdF I 22 i p * tmF (D.2.1 i) p)) (if p = 1 then 24 else 23) i 0) J R T) _
    refine Z_jump 2 rfl ?_
    show Zs _ _ (am_P 131).2 (24, [(0, .ref 0), (1, .int (nI i)), (2, .ref r), (3, .int (p + 1))], []) (HH (sf (spF I 22 (bdF I 22 i p * tmF (D.2.1 i) p)) (if p = 1 then 24 else 23) i 0) J R T) _
    rw [if_pos b39] at H
    exact H
  · refine Z_c1 rfl rfl rfl (E_neg (c_isStuck (a := 22) (by decide)) b39) ?_
    show Zs _ _ (am_P 131).2 (42, [(0, .ref 0), (1, .int (nI i)), (2, .ref r), (3, .int p)], [.int (1 : Int32)]) (HH I J R T) _
    refine Z_jump 3 rfl ?_
    show Zs _ _ (am_P 131).2 (24, [(0, .ref 0), (1, .int (nI i)), (2, .ref r), (3, .int (p + 1))], []) (HH I J R T) _
    rw [if_neg b39] at H
    exact H
theorem c_pbl {J : hJ} {D : FD} : ∀ (k i : Nat) (I : hI) (x : Int32), i + k = D.1 → x = nI i → DC 18 D I R T → Q none (HH (pbl D k i I) J R T) → Zs sc (d + 3) (am_P 131).2 (2, [(0, .ref 0), (1, .int x)], []) (HH I J R T) Q
  | 0, i, I, x, hi, hx, hD, H => by
    have h6 := hD.2.1
    refine Z_jump 5 rfl ?_
    refine Z_bd (fun c10 => ?_) (fun c10 => absurd ((show I 18 1 ≤ x by rw [hD.1, hx]; exact nI_le (by omega) (by omega))) c10)
    show Zs _ _ (am_P 131).2 (89, [(0, .ref 0), (1, .int x)], []) (HH I J R T) _
    refine Z_ret rfl rfl rfl ?_
    exact H
  | k + 1, i, I, x, hi, hx, hD, H => by
    have h6 := hD.2.1
    have ex : x + 1 = nI (i + 1) := by rw [hx]; exact nI_1 i
    obtain ⟨hq, r, hR, hT⟩ := hD.2.2.2 i (by omega)
    have hL : ∀ I : hI, (HH I J R T)[99 + r]? = some (rodC (D.2.1 i)) := fun I => HH_at r hT
    subst hx
    have W : Zs sc (d + 3) (am_P 131).2 (83, [(0, .ref 0), (1, .int (nI i))], []) (HH (pb1 (pb1 I (D.2.1 i) i 0) (D.2.1 i) i 1) J R T) Q := by
      refine Z_jump 2 rfl ?_
      show Zs _ _ (am_P 131).2 (2, [(0, .ref 0), (1, .int ((nI i) + 1))], []) (HH (pb1 (pb1 I (D.2.1 i) i 0) (D.2.1 i) i 1) J R T) _
      exact c_pbl k (i + 1) _ _ (by omega) ex (DC_of hD (by rw [pb1_c (by decide) (by decide) (by decide), pb1_c (by decide) (by decide) (by decide)]) rfl) H
    have V : Zs sc (d + 3) (am_P 131).2 (24, [(0, .ref 0), (1, .int (nI i)), (2, .ref (99 + r)), (3, .int 2)], []) (HH (pb1 (pb1 I (D.2.1 i) i 0) (D.2.1 i) i 1) J R T) Q := by
      refine Z_jump 3 rfl ?_
      show Zs _ _ (am_P 131).2 (83, [(0, .ref 0), (1, .int (nI i)), (2, .ref (99 + r)), (3, .int (2 : Int32))], []) (HH (pb1 (pb1 I (D.2.1 i) i 0) (D.2.1 i) i 1) J R T) _
      exact Zs_wk (W) (lnD rfl) (lnD rfl) (by repeat (first | exact trivial | refine ⟨rfl, ?_⟩))
    refine Z_jump 5 rfl ?_
    refine Z_bd (fun c10 => absurd c10 ((show ¬ I 18 1 ≤ nI i by rw [hD.1]; exact nI_ge (by omega) (by omega)))) (fun c10 => ?_)
    refine Z_jump 3 rfl ?_
    show Zs _ _ (am_P 131).2 (18, [(0, .ref 0), (1, .int (nI i))], [.int (nI i), .ref 18]) (HH I J R T) _
    refine Z_c1 rfl rfl rfl (c_rodAt18 hD rfl (by omega) hR) ?_
    show Zs _ _ (am_P 131).2 (21, [(0, .ref 0), (1, .int (nI i))], [.ref (99 + r)]) (HH I J R T) _
    refine Z_jump 3 rfl ?_
    show Zs _ _ (am_P 131).2 (24, [(0, .ref 0), (1, .int (nI i)), (2, .ref (99 + r)), (3, .int (0 : Int32))], []) (HH I J R T) _
    exact c_pb1 (D := D) (p := 0) (Or.inl rfl) (by omega) hq hL (c_pb1 (D := D) (p := 1) (Or.inr rfl) (by omega) hq hL V)
theorem c_pushAllBack {J : hJ} {I : hI} {D : FD} (hD : DC 18 D I R T) : am_E sc (d + 4) 131 [.ref 0] (HH I J R T) none (HH (pbl D D.1 0 I) J R T) := by
  refine E_Z (Ze_of (Nat.le_of_ble_eq_true rfl) ?_)
  refine Z_jump 2 rfl ?_
  show Zs _ _ (am_P 131).2 (2, [(0, .ref 0), (1, .int (0 : Int32))], []) (HH I J R T) _
  exact c_pbl D.1 0 _ _ (by omega) rfl hD ⟨rfl, rfl⟩
/-- a statement is done -/
def bo (w : Int32 × hI) : Int32 × hI := (if w.1 = -1 then 0 else 1, w.2)
def dsF (I : hI) (D : FD) (vb : Nat) (vl : Int64) (fl : Int32) : Int32 × hI :=
  if fl = 0 then (0, I) else if vb = 0 then bo (stF I D 22 vl) else if vb = 1 then bo (stF I D 22 (cnl I D D.1 0 0 1 + vl)) else if vb = 2 then bo (stF I D 22 (cnl I D D.1 0 0 1 - vl))
  else if vb = 3 then (1, pbl D D.1 0 I) else bo (coF I D 22 vl.toInt32.toNatClampNeg)
theorem c_doStatement {J : hJ} {I : hI} {D : FD} {vb : Nat} {vl : Int64} {fl : Int32} (hD : DC 18 D I R T) (hB : BS I) (h0 : I 3 0 = nI vb) (h4 : vb ≤ 4) (hv : J 3 1 = vl) (hf : I 3 2 = fl) (hc : vb = 4 → ∃ k, k < D.1 ∧ vl.toInt32 = nI k) : am_E sc (d + 13) 132 [.ref 0] (HH I J R T) (some (.int (dsF I D vb vl fl).1)) (HH (dsF I D vb vl fl).2 J R T) := by
  refine E_Z (Ze_of (Nat.le_of_ble_eq_true rfl) ?_)
  subst hf
  unfold dsF
  by_cases hf : I 3 2 = 0
  · rw [if_pos hf]
    refine Z_jump 4 rfl ?_
    refine Z_bn (fun c7 => absurd (hf) c7) (fun c7 => ?_)
    refine Z_jump 1 rfl ?_
    show Zs _ _ (am_P 132).2 (11, [(0, .ref 0)], [.int (0 : Int32)]) (HH I J R T) _
    refine Z_rI rfl (by first | exact am_nw0 _ | exact am_nw01 | rfl | assumption) ?_
    exact ⟨rfl, rfl⟩
  · rw [if_neg hf]
    subst hv
    rcases (show vb = 0 ∨ vb = 1 ∨ vb = 2 ∨ vb = 3 ∨ vb = 4 by omega) with rfl | rfl | rfl | rfl | rfl
    · rw [if_pos rfl]
      unfold bo
      refine Z_jump 4 rfl ?_
      refine Z_bn (fun c7 => ?_) (fun c7 => absurd c7 (hf))
      refine Z_jump 3 rfl ?_
      show Zs _ _ (am_P 132).2 (19, [(0, .ref 0)], [.int (I 3 0)]) (HH I J R T) _
      refine Z_eqI (y := (0 : Int32)) (h0) ?_
      show Zs _ _ (am_P 132).2 (19, [(0, .ref 0)], [.int (0 : Int32)]) (HH I J R T) _
      refine Z_jump 7 rfl ?_
      show Zs _ _ (am_P 132).2 (64, [(0, .ref 0)], [.long (J 3 1), .ref 22, .ref 0]) (HH I J R T) _
      refine Z_c1 rfl rfl rfl (c_settle (by decide) hD hB) ?_
      show Zs _ _ (am_P 132).2 (67, [(0, .ref 0)], [.int (stF I D 22 (J 3 1)).1]) (HH (stF I D 22 (J 3 1)).2 J R T) _
      refine Z_jump 2 rfl ?_
      refine Z_bd (fun (c68 : (stF I D 22 (J 3 1)).1 = (-1 : Int32)) => ?_) (fun (c68 : ¬ ((stF I D 22 (J 3 1)).1 = (-1 : Int32))) => ?_)
      · refine Z_jump 1 rfl ?_
        show Zs _ _ (am_P 132).2 (76, [(0, .ref 0)], [.int (0 : Int32)]) (HH (stF I D 22 (J 3 1)).2 J R T) _
        refine Z_rI rfl (by first | exact am_nw0 _ | exact am_nw01 | rfl | assumption) ?_
        rw [if_pos c68]
        exact ⟨rfl, rfl⟩
      · refine Z_jump 2 rfl ?_
        show Zs _ _ (am_P 132).2 (76, [(0, .ref 0)], [.int (1 : Int32)]) (HH (stF I D 22 (J 3 1)).2 J R T) _
        refine Z_rI rfl (by first | exact am_nw0 _ | exact am_nw01 | rfl | assumption) ?_
        rw [if_neg c68]
        exact ⟨rfl, rfl⟩
    · rw [if_neg (by decide), if_pos rfl]
      unfold bo
      refine Z_jump 4 rfl ?_
      refine Z_bn (fun c7 => ?_) (fun c7 => absurd c7 (hf))
      refine Z_jump 3 rfl ?_
      show Zs _ _ (am_P 132).2 (19, [(0, .ref 0)], [.int (I 3 0)]) (HH I J R T) _
      refine Z_eqI (y := (1 : Int32)) (h0) ?_
      show Zs _ _ (am_P 132).2 (19, [(0, .ref 0)], [.int (1 : Int32)]) (HH I J R T) _
      refine Z_jump 5 rfl ?_
      show Zs _ _ (am_P 132).2 (83, [(0, .ref 0)], [.ref 0, .ref 22, .ref 0]) (HH I J R T) _
      refine Z_c1 rfl rfl rfl (c_theNumber hD) ?_
      show Zs _ _ (am_P 132).2 (86, [(0, .ref 0)], [.long (cnl I D D.1 0 0 1), .ref 22, .ref 0]) (HH I J R T) _
      refine Z_jump 4 rfl ?_
      show Zs _ _ (am_P 132).2 (94, [(0, .ref 0)], [.long ((cnl I D D.1 0 0 1) + (J 3 1)), .ref 22, .ref 0]) (HH I J R T) _
      refine Z_c1 rfl rfl rfl (c_settle (by decide) hD hB) ?_
      show Zs _ _ (am_P 132).2 (97, [(0, .ref 0)], [.int (stF I D 22 (cnl I D D.1 0 0 1 + J 3 1)).1]) (HH (stF I D 22 (cnl I D D.1 0 0 1 + J 3 1)).2 J R T) _
      refine Z_jump 2 rfl ?_
      refine Z_bd (fun (c98 : (stF I D 22 (cnl I D D.1 0 0 1 + J 3 1)).1 = (-1 : Int32)) => ?_) (fun (c98 : ¬ ((stF I D 22 (cnl I D D.1 0 0 1 + J 3 1)).1 = (-1 : Int32))) => ?_)
      · refine Z_jump 1 rfl ?_
        show Zs _ _ (am_P 132).2 (106, [(0, .ref 0)], [.int (0 : Int32)]) (HH (stF I D 22 (cnl I D D.1 0 0 1 + J 3 1)).2 J R T) _
        refine Z_rI rfl (by first | exact am_nw0 _ | exact am_nw01 | rfl | assumption) ?_
        rw [if_pos c98]
        exact ⟨rfl, rfl⟩
      · refine Z_jump 2 rfl ?_
        show Zs _ _ (am_P 132).2 (106, [(0, .ref 0)], [.int (1 : Int32)]) (HH (stF I D 22 (cnl I D D.1 0 0 1 + J 3 1)).2 J R T) _
        refine Z_rI rfl (by first | exact am_nw0 _ | exact am_nw01 | rfl | assumption) ?_
        rw [if_neg c98]
        exact ⟨rfl, rfl⟩
    · rw [if_neg (by decide), if_neg (by decide), if_pos rfl]
      unfold bo
      refine Z_jump 4 rfl ?_
      refine Z_bn (fun c7 => ?_) (fun c7 => absurd c7 (hf))
      refine Z_jump 3 rfl ?_
      show Zs _ _ (am_P 132).2 (19, [(0, .ref 0)], [.int (I 3 0)]) (HH I J R T) _
      refine Z_eqI (y := (2 : Int32)) (h0) ?_
      show Zs _ _ (am_P 132).2 (19, [(0, .ref 0)], [.int (2 : Int32)]) (HH I J R T) _
      refine Z_jump 5 rfl ?_
      show Zs _ _ (am_P 132).2 (113, [(0, .ref 0)], [.ref 0, .ref 22, .ref 0]) (HH I J R T) _
      refine Z_c1 rfl rfl rfl (c_theNumber hD) ?_
      show Zs _ _ (am_P 132).2 (116, [(0, .ref 0)], [.long (cnl I D D.1 0 0 1), .ref 22, .ref 0]) (HH I J R T) _
      refine Z_jump 4 rfl ?_
      show Zs _ _ (am_P 132).2 (124, [(0, .ref 0)], [.long ((cnl I D D.1 0 0 1) - (J 3 1)), .ref 22, .ref 0]) (HH I J R T) _
      refine Z_c1 rfl rfl rfl (c_settle (by decide) hD hB) ?_
      show Zs _ _ (am_P 132).2 (127, [(0, .ref 0)], [.int (stF I D 22 (cnl I D D.1 0 0 1 - J 3 1)).1]) (HH (stF I D 22 (cnl I D D.1 0 0 1 - J 3 1)).2 J R T) _
      refine Z_jump 2 rfl ?_
      refine Z_bd (fun (c128 : (stF I D 22 (cnl I D D.1 0 0 1 - J 3 1)).1 = (-1 : Int32)) => ?_) (fun (c128 : ¬ ((stF I D 22 (cnl I D D.1 0 0 1 - J 3 1)).1 = (-1 : Int32))) => ?_)
      · refine Z_jump 1 rfl ?_
        show Zs _ _ (am_P 132).2 (136, [(0, .ref 0)], [.int (0 : Int32)]) (HH (stF I D 22 (cnl I D D.1 0 0 1 - J 3 1)).2 J R T) _
        refine Z_rI rfl (by first | exact am_nw0 _ | exact am_nw01 | rfl | assumption) ?_
        rw [if_pos c128]
        exact ⟨rfl, rfl⟩
      · refine Z_jump 2 rfl ?_
        show Zs _ _ (am_P 132).2 (136, [(0, .ref 0)], [.int (1 : Int32)]) (HH (stF I D 22 (cnl I D D.1 0 0 1 - J 3 1)).2 J R T) _
        refine Z_rI rfl (by first | exact am_nw0 _ | exact am_nw01 | rfl | assumption) ?_
        rw [if_neg c128]
        exact ⟨rfl, rfl⟩
    · rw [if_neg (by decide), if_neg (by decide), if_neg (by decide), if_pos rfl]
      refine Z_jump 4 rfl ?_
      refine Z_bn (fun c7 => ?_) (fun c7 => absurd c7 (hf))
      refine Z_jump 3 rfl ?_
      show Zs _ _ (am_P 132).2 (19, [(0, .ref 0)], [.int (I 3 0)]) (HH I J R T) _
      refine Z_eqI (y := (3 : Int32)) (h0) ?_
      show Zs _ _ (am_P 132).2 (19, [(0, .ref 0)], [.int (3 : Int32)]) (HH I J R T) _
      refine Z_jump 2 rfl ?_
      show Zs _ _ (am_P 132).2 (164, [(0, .ref 0)], [.ref 0]) (HH I J R T) _
      refine Z_c0 rfl rfl rfl (c_pushAllBack hD) ?_
      show Zs _ _ (am_P 132).2 (167, [(0, .ref 0)], []) (HH (pbl D D.1 0 I) J R T) _
      refine Z_jump 1 rfl ?_
      show Zs _ _ (am_P 132).2 (168, [(0, .ref 0)], [.int (1 : Int32)]) (HH (pbl D D.1 0 I) J R T) _
      refine Z_rI rfl (by first | exact am_nw0 _ | exact am_nw01 | rfl | assumption) ?_
      exact ⟨rfl, rfl⟩
    · rw [if_neg (by decide), if_neg (by decide), if_neg (by decide), if_neg (by decide)]
      obtain ⟨k, hk, e⟩ := hc rfl
      have h6 := hD.2.1
      rw [e, nI_clamp (by omega)]
      unfold bo
      refine Z_jump 4 rfl ?_
      refine Z_bn (fun c7 => ?_) (fun c7 => absurd c7 (hf))
      refine Z_jump 3 rfl ?_
      show Zs _ _ (am_P 132).2 (19, [(0, .ref 0)], [.int (I 3 0)]) (HH I J R T) _
      refine Z_eqI (y := (4 : Int32)) (h0) ?_
      show Zs _ _ (am_P 132).2 (19, [(0, .ref 0)], [.int (4 : Int32)]) (HH I J R T) _
      refine Z_jump 8 rfl ?_
      show Zs _ _ (am_P 132).2 (150, [(0, .ref 0)], [.int (Int64.toInt32 (J 3 1)), .ref 22, .ref 0]) (HH I J R T) _
      refine Z_eqI (y := (nI k)) (e) ?_
      show Zs _ _ (am_P 132).2 (150, [(0, .ref 0)], [.int (nI k), .ref 22, .ref 0]) (HH I J R T) _
      show Zs _ _ (am_P 132).2 (150, [(0, .ref 0)], [.int (nI k), .ref 22, .ref 0]) (HH I J R T) _
      refine Z_c1 rfl rfl rfl (c_carryOver (by decide) hD hk) ?_
      show Zs _ _ (am_P 132).2 (153, [(0, .ref 0)], [.int (coF I D 22 k).1]) (HH (coF I D 22 k).2 J R T) _
      refine Z_jump 2 rfl ?_
      refine Z_bd (fun (c154 : (coF I D 22 k).1 = (-1 : Int32)) => ?_) (fun (c154 : ¬ ((coF I D 22 k).1 = (-1 : Int32))) => ?_)
      · refine Z_jump 1 rfl ?_
        show Zs _ _ (am_P 132).2 (162, [(0, .ref 0)], [.int (0 : Int32)]) (HH (coF I D 22 k).2 J R T) _
        refine Z_rI rfl (by first | exact am_nw0 _ | exact am_nw01 | rfl | assumption) ?_
        rw [if_pos c154]
        exact ⟨rfl, rfl⟩
      · refine Z_jump 2 rfl ?_
        show Zs _ _ (am_P 132).2 (162, [(0, .ref 0)], [.int (1 : Int32)]) (HH (coF I D 22 k).2 J R T) _
        refine Z_rI rfl (by first | exact am_nw0 _ | exact am_nw01 | rfl | assumption) ?_
        rw [if_neg c154]
        exact ⟨rfl, rfl⟩
end RUN

