/-! The class's Ways: loadBounds, load, aim. -/
section WY3
variable {sc : Nat × (Nat → Int32)} {d : Nat} {J : hJ} {R : hR} {T : am_H} {Q : Option Value → am_H → Prop}
theorem acF_c {I : hI} {s h p : Int32} {c : Nat} (h5 : c ≠ 5) (h6 : c ≠ 6) (h7 : c ≠ 7) : acF I s h p c = I c := by
  unfold acF
  split
  · exact wI_c h7
  · split
    · exact wI_c h7
    · rw [wI_c h6, wI_c h5, wI_c h7]
theorem lrl_c {a i g : Nat} {q : RD4} {lo hp : Int32} {c : Nat} (h5 : c ≠ 5) (h6 : c ≠ 6) (h7 : c ≠ 7) : ∀ (k l : Nat) (I : hI), lrl a q i lo g hp k l I c = I c
  | 0, l, I => rfl
  | k + 1, l, I => by
    unfold lrl
    rw [lrl_c h5 h6 h7 k (l + 1)]
    split
    · rfl
    · exact acF_c h5 h6 h7
theorem lrs_c {a i g : Nat} {q : RD4} {lo : Int32} {c : Nat} {I : hI} (h5 : c ≠ 5) (h6 : c ≠ 6) (h7 : c ≠ 7) : lrs a q i lo g I c = I c := by
  unfold lrs
  split
  · rfl
  · exact lrl_c h5 h6 h7 _ _ _
theorem lrh_c {a i : Nat} {q : RD4} {lo : Int32} {c : Nat} (h5 : c ≠ 5) (h6 : c ≠ 6) (h7 : c ≠ 7) : ∀ (k g : Nat) (I : hI), lrh a q i lo k g I c = I c
  | 0, g, I => rfl
  | k + 1, g, I => by
    unfold lrh
    rw [lrh_c h5 h6 h7 k (g + 1)]
    exact lrs_c h5 h6 h7
theorem lrF_c {a i : Nat} {q : RD4} {lo : Int32} {c : Nat} {I : hI} (h5 : c ≠ 5) (h6 : c ≠ 6) (h7 : c ≠ 7) (h8 : c ≠ 8) (h9 : c ≠ 9) : lrF I a q i lo c = I c := by
  unfold lrF
  rw [lrh_c h5 h6 h7, sf_c h9, sf_c h8]
def lbl (I : hI) (i : Int32) : Nat → Nat → Int32 → Int32 → Int32 × Int32
  | 0, _, le, gr => (le, gr)
  | k + 1, s, le, gr => if 1048576 ≤ costF I i (nI s) then lbl I i k (s + 1) le gr else lbl I i k (s + 1) (if nI s < le then nI s else le) (nI s)
def lbF (I : hI) (i : Nat) (b : Int32) : hI :=
  sf (sf I 10 i ((lbl I (nI i) 40 0 40 0).2 + b * am_rd 7 (I 10) (nI i + 1))) 11 i ((lbl I (nI i) 40 0 40 0).1 + b * am_rd 7 (I 11) (nI i + 1))
theorem lbF_c {i : Nat} {b : Int32} {c : Nat} {I : hI} (h10 : c ≠ 10) (h11 : c ≠ 11) : lbF I i b c = I c := by
  unfold lbF
  rw [sf_c h11, sf_c h10]
theorem c_lbl {I : hI} {i : Nat} {b : Int32} : ∀ (k s : Nat) (le gr y : Int32), s + k = 40 → y = nI s → Zs sc (d + 2) (am_P 69).2 (45, [(0, .ref 4), (1, .int (nI i)), (2, .int b), (3, .int (lbl I (nI i) k s le gr).1), (4, .int (lbl I (nI i) k s le gr).2)], []) (HH I J R T) Q → Zs sc (d + 2) (am_P 69).2 (9, [(0, .ref 4), (1, .int (nI i)), (2, .int b), (3, .int le), (4, .int gr), (5, .int y)], []) (HH I J R T) Q
  | 0, s, le, gr, y, hs, hy, H => by
    refine Z_jump 3 rfl ?_
    refine Z_bd (fun c13 => ?_) (fun c13 => absurd ((show (40 : Int32) ≤ y by rw [hy]; exact nI_le (a := 40) (by omega) (by omega))) c13)
    show Zs _ _ (am_P 69).2 (45, [(0, .ref 4), (1, .int (nI i)), (2, .int b), (3, .int le), (4, .int gr), (5, .int y)], []) (HH I J R T) _
    exact Zs_wk (H) (lnD rfl) (lnD rfl) (by repeat (first | exact trivial | refine ⟨rfl, ?_⟩))
  | k + 1, s, le, gr, y, hs, hy, H => by
    have k13 : ¬ (40 : Int32) ≤ y := by rw [hy]; exact nI_ge (b := 40) (by omega) (by omega)
    have ey : y + 1 = nI (s + 1) := by rw [hy]; exact nI_1 s
    unfold lbl at H
    subst hy
    by_cases hc : 1048576 ≤ costF I (nI i) (nI s)
    · rw [if_pos hc] at H
      refine Z_jump 3 rfl ?_
      refine Z_bd (fun c13 => absurd c13 (k13)) (fun c13 => ?_)
      refine Z_jump 3 rfl ?_
      show Zs _ _ (am_P 69).2 (20, [(0, .ref 4), (1, .int (nI i)), (2, .int b), (3, .int le), (4, .int gr), (5, .int (nI s))], [.int (nI s), .int (nI i), .ref 4]) (HH I J R T) _
      refine Z_c1 rfl rfl rfl (c_costOf) ?_
      show Zs _ _ (am_P 69).2 (23, [(0, .ref 4), (1, .int (nI i)), (2, .int b), (3, .int le), (4, .int gr), (5, .int (nI s))], [.int (costF I (nI i) (nI s))]) (HH I J R T) _
      refine Z_jump 2 rfl ?_
      refine Z_bd (fun c25 => ?_) (fun c25 => absurd (hc) c25)
      refine Z_jump 2 rfl ?_
      show Zs _ _ (am_P 69).2 (9, [(0, .ref 4), (1, .int (nI i)), (2, .int b), (3, .int le), (4, .int gr), (5, .int ((nI s) + 1))], []) (HH I J R T) _
      exact c_lbl k (s + 1) _ _ _ (by omega) ey H
    · rw [if_neg hc] at H
      refine Z_jump 3 rfl ?_
      refine Z_bd (fun c13 => absurd c13 (k13)) (fun c13 => ?_)
      refine Z_jump 3 rfl ?_
      show Zs _ _ (am_P 69).2 (20, [(0, .ref 4), (1, .int (nI i)), (2, .int b), (3, .int le), (4, .int gr), (5, .int (nI s))], [.int (nI s), .int (nI i), .ref 4]) (HH I J R T) _
      refine Z_c1 rfl rfl rfl (c_costOf) ?_
      show Zs _ _ (am_P 69).2 (23, [(0, .ref 4), (1, .int (nI i)), (2, .int b), (3, .int le), (4, .int gr), (5, .int (nI s))], [.int (costF I (nI i) (nI s))]) (HH I J R T) _
      refine Z_jump 2 rfl ?_
      refine Z_bd (fun c25 => absurd c25 (hc)) (fun c25 => ?_)
      refine Z_jump 8 rfl ?_
      show Zs _ _ (am_P 69).2 (9, [(0, .ref 4), (1, .int (nI i)), (2, .int b), (3, .int (if (nI s) < le then (nI s) else le)), (4, .int (nI s)), (5, .int ((nI s) + 1))], []) (HH I J R T) _
      exact c_lbl k (s + 1) _ _ _ (by omega) ey H
theorem c_loadBounds {I : hI} {i : Nat} {b : Int32} (hi : i < 6) : am_E sc (d + 3) 69 [.ref 4, .int (nI i), .int b] (HH I J R T) none (HH (lbF I i b) J R T) := by
  refine E_Z (Ze_of (Nat.le_of_ble_eq_true rfl) ?_)
  refine Z_jump 6 rfl ?_
  show Zs _ _ (am_P 69).2 (9, [(0, .ref 4), (1, .int (nI i)), (2, .int b), (3, .int (40 : Int32)), (4, .int (0 : Int32)), (5, .int (0 : Int32))], []) (HH I J R T) _
  refine c_lbl 40 0 _ _ _ (by omega) rfl ?_
  refine Z_jump 9 rfl ?_
  show Zs _ _ (am_P 69).2 (57, [(0, .ref 4), (1, .int (nI i)), (2, .int b), (3, .int (lbl I (nI i) 40 0 40 0).1), (4, .int (lbl I (nI i) 40 0 40 0).2)], [.int ((nI i) + (1 : Int32)), .ref 4, .int b, .int (lbl I (nI i) 40 0 40 0).2, .int (nI i), .ref 10]) (HH I J R T) _
  refine Z_c1 rfl rfl rfl (c_most) ?_
  show Zs _ _ (am_P 69).2 (60, [(0, .ref 4), (1, .int (nI i)), (2, .int b), (3, .int (lbl I (nI i) 40 0 40 0).1), (4, .int (lbl I (nI i) 40 0 40 0).2)], [.int (am_rd 7 (I 10) (nI i + 1)), .int b, .int (lbl I (nI i) 40 0 40 0).2, .int (nI i), .ref 10]) (HH I J R T) _
  refine Z_jump 2 rfl ?_
  show Zs _ _ (am_P 69).2 (62, [(0, .ref 4), (1, .int (nI i)), (2, .int b), (3, .int (lbl I (nI i) 40 0 40 0).1), (4, .int (lbl I (nI i) 40 0 40 0).2)], [.int ((lbl I (nI i) 40 0 40 0).2 + (b * (am_rd 7 (I 10) (nI i + 1)))), .int (nI i), .ref 10]) (HH I J R T) _
  refine Z_c0 rfl rfl rfl (k_putK (a := 10) (L := 7) (f := I 10) (i := i) rfl rfl (by omega) (by decide)) ?_
  show Zs _ _ (am_P 69).2 (65, [(0, .ref 4), (1, .int (nI i)), (2, .int b), (3, .int (lbl I (nI i) 40 0 40 0).1), (4, .int (lbl I (nI i) 40 0 40 0).2)], []) (HH (sf I 10 i ((lbl I (nI i) 40 0 40 0).2 + b * am_rd 7 (I 10) (nI i + 1))) J R T) _
  refine Z_jump 9 rfl ?_
  show Zs _ _ (am_P 69).2 (76, [(0, .ref 4), (1, .int (nI i)), (2, .int b), (3, .int (lbl I (nI i) 40 0 40 0).1), (4, .int (lbl I (nI i) 40 0 40 0).2)], [.int ((nI i) + (1 : Int32)), .ref 4, .int b, .int (lbl I (nI i) 40 0 40 0).1, .int (nI i), .ref 11]) (HH (sf I 10 i ((lbl I (nI i) 40 0 40 0).2 + b * am_rd 7 (I 10) (nI i + 1))) J R T) _
  refine Z_c1 rfl rfl rfl (c_few) ?_
  show Zs _ _ (am_P 69).2 (79, [(0, .ref 4), (1, .int (nI i)), (2, .int b), (3, .int (lbl I (nI i) 40 0 40 0).1), (4, .int (lbl I (nI i) 40 0 40 0).2)], [.int (am_rd 7 (I 11) (nI i + 1)), .int b, .int (lbl I (nI i) 40 0 40 0).1, .int (nI i), .ref 11]) (HH (sf I 10 i ((lbl I (nI i) 40 0 40 0).2 + b * am_rd 7 (I 10) (nI i + 1))) J R T) _
  refine Z_jump 2 rfl ?_
  show Zs _ _ (am_P 69).2 (81, [(0, .ref 4), (1, .int (nI i)), (2, .int b), (3, .int (lbl I (nI i) 40 0 40 0).1), (4, .int (lbl I (nI i) 40 0 40 0).2)], [.int ((lbl I (nI i) 40 0 40 0).1 + (b * (am_rd 7 (I 11) (nI i + 1)))), .int (nI i), .ref 11]) (HH (sf I 10 i ((lbl I (nI i) 40 0 40 0).2 + b * am_rd 7 (I 10) (nI i + 1))) J R T) _
  refine Z_c0 rfl rfl rfl (k_putK (a := 11) (L := 7) (f := I 11) (i := i) rfl rfl (by omega) (by decide)) ?_
  show Zs _ _ (am_P 69).2 (84, [(0, .ref 4), (1, .int (nI i)), (2, .int b), (3, .int (lbl I (nI i) 40 0 40 0).1), (4, .int (lbl I (nI i) 40 0 40 0).2)], []) (HH (lbF I i b) J R T) _
  show Zs _ _ (am_P 69).2 (84, [(0, .ref 4), (1, .int (nI i)), (2, .int b), (3, .int (lbl I (nI i) 40 0 40 0).1), (4, .int (lbl I (nI i) 40 0 40 0).2)], []) (HH (lbF I i b) J R T) _
  refine Z_ret rfl rfl rfl ?_
  exact ⟨rfl, rfl⟩
/-- load -/
def ldl (D : FD) (a : Nat) (lo : Int32) : Nat → hI → hI
  | 0, I => I
  | i + 1, I => ldl D a lo i (lbF (lrF I a (D.2.1 i) i lo) i (nI (D.2.1 i).2.1))
def ldI (I : hI) (n : Nat) : hI := sf (sf (va_up (va_up (sf I 4 13 (nI n)) 5 (am_fill 240 (I 5) 1048576 240)) 7 (am_fill 240 (I 7) 0 240)) 10 n 0) 11 n 0
def ldF (I : hI) (D : FD) (a : Nat) (lo : Int32) : hI := ldl D a lo D.1 (ldI I D.1)
theorem ldl_c {D : FD} {a : Nat} {lo : Int32} {c : Nat} (h5 : c ≠ 5) (h6 : c ≠ 6) (h7 : c ≠ 7) (h8 : c ≠ 8) (h9 : c ≠ 9) (h10 : c ≠ 10) (h11 : c ≠ 11) : ∀ (k : Nat) (I : hI), ldl D a lo k I c = I c
  | 0, I => rfl
  | k + 1, I => by
    unfold ldl
    rw [ldl_c h5 h6 h7 h8 h9 h10 h11 k, lbF_c h10 h11, lrF_c h5 h6 h7 h8 h9]
theorem ldI_c {n c : Nat} {I : hI} (h4 : c ≠ 4) (h5 : c ≠ 5) (h7 : c ≠ 7) (h10 : c ≠ 10) (h11 : c ≠ 11) : ldI I n c = I c := by
  unfold ldI
  rw [sf_c h11, sf_c h10, up_ne h7, up_ne h5, sf_c h4]
theorem ldF_c {D : FD} {a : Nat} {lo : Int32} {c : Nat} {I : hI} (h4 : c ≠ 4) (h5 : c ≠ 5) (h6 : c ≠ 6) (h7 : c ≠ 7) (h8 : c ≠ 8) (h9 : c ≠ 9) (h10 : c ≠ 10) (h11 : c ≠ 11) : ldF I D a lo c = I c := by
  unfold ldF
  rw [ldl_c h5 h6 h7 h8 h9 h10 h11, ldI_c h4 h5 h7 h10 h11]
theorem c_ldl {D : FD} {a : Nat} {lo : Int32} (ha : isSt a) : ∀ (i : Nat) (I : hI) (x : Int32), i ≤ D.1 → x = nI i - 1 → DC 18 D I R T → Q none (HH (ldl D a lo i I) J R T) → Zs sc (d + 4) (am_P 65).2 (62, [(0, .ref 4), (1, .ref 18), (2, .ref a), (3, .int lo), (4, .int x)], []) (HH I J R T) Q
  | 0, I, x, hi, hx, hD, H => by
    subst hx
    refine Z_jump 2 rfl ?_
    refine Z_bd (fun c64 => ?_) (fun c64 => absurd ((by decide)) c64)
    show Zs _ _ (am_P 65).2 (107, [(0, .ref 4), (1, .ref 18), (2, .ref a), (3, .int lo), (4, .int (nI 0 - 1))], []) (HH I J R T) _
    refine Z_ret rfl rfl rfl ?_
    exact H
  | i + 1, I, x, hi, hx, hD, H => by
    have h6 := hD.2.1
    have e : x = nI i := by rw [hx]; exact nI_pred i
    subst e
    obtain ⟨hq, r, hR, hT⟩ := hD.2.2.2 i (by omega)
    have hL : ∀ I : hI, (HH I J R T)[99 + r]? = some (rodC (D.2.1 i)) := fun I => HH_at r hT
    refine Z_jump 2 rfl ?_
    refine Z_bd (fun c64 => absurd c64 ((nI_pos (by omega)))) (fun c64 => ?_)
    refine Z_jump 2 rfl ?_
    show Zs _ _ (am_P 65).2 (70, [(0, .ref 4), (1, .ref 18), (2, .ref a), (3, .int lo), (4, .int (nI i))], [.int (nI i), .ref 18]) (HH I J R T) _
    refine Z_c1 rfl rfl rfl (c_rodAt18 hD rfl (by omega) hR) ?_
    show Zs _ _ (am_P 65).2 (73, [(0, .ref 4), (1, .ref 18), (2, .ref a), (3, .int lo), (4, .int (nI i))], [.ref (99 + r)]) (HH I J R T) _
    refine Z_jump 8 rfl ?_
    show Zs _ _ (am_P 65).2 (87, [(0, .ref 4), (1, .ref 18), (2, .ref a), (3, .int lo), (4, .int (nI i)), (5, .ref (99 + r))], [.int lo, .ref a, .ref (99 + r), .int (nI i), .ref 4]) (HH I J R T) _
    refine Z_c0 rfl rfl rfl (c_loadRod ha (by omega) hL hq) ?_
    show Zs _ _ (am_P 65).2 (90, [(0, .ref 4), (1, .ref 18), (2, .ref a), (3, .int lo), (4, .int (nI i)), (5, .ref (99 + r))], []) (HH (lrF I a (D.2.1 i) i lo) J R T) _
    refine Z_jump 3 rfl ?_
    show Zs _ _ (am_P 65).2 (95, [(0, .ref 4), (1, .ref 18), (2, .ref a), (3, .int lo), (4, .int (nI i)), (5, .ref (99 + r))], [.ref (99 + r), .int (nI i), .ref 4]) (HH (lrF I a (D.2.1 i) i lo) J R T) _
    refine Z_gfR rfl (hL _) hq.1 rfl ?_
    show Zs _ _ (am_P 65).2 (98, [(0, .ref 4), (1, .ref 18), (2, .ref a), (3, .int lo), (4, .int (nI i)), (5, .ref (99 + r))], [.int (nI (D.2.1 i).2.1), .int (nI i), .ref 4]) (HH (lrF I a (D.2.1 i) i lo) J R T) _
    refine Z_c0 rfl rfl rfl (c_loadBounds (by omega)) ?_
    show Zs _ _ (am_P 65).2 (101, [(0, .ref 4), (1, .ref 18), (2, .ref a), (3, .int lo), (4, .int (nI i)), (5, .ref (99 + r))], []) (HH (lbF (lrF I a (D.2.1 i) i lo) i (nI (D.2.1 i).2.1)) J R T) _
    refine Z_jump 2 rfl ?_
    show Zs _ _ (am_P 65).2 (62, [(0, .ref 4), (1, .ref 18), (2, .ref a), (3, .int lo), (4, .int ((nI i) + Int32.ofInt (-1))), (5, .ref (99 + r))], []) (HH (lbF (lrF I a (D.2.1 i) i lo) i (nI (D.2.1 i).2.1)) J R T) _
    exact Zs_wk (c_ldl ha i _ _ (by omega) (xm1 _) (DC_of hD (by rw [lbF_c (by decide) (by decide), lrF_c (by decide) (by decide) (by decide) (by decide) (by decide)]) rfl) H) (lnD rfl) (lnD rfl) (by repeat (first | exact trivial | refine ⟨rfl, ?_⟩))
theorem c_load {I : hI} {D : FD} {a : Nat} {lo : Int32} (ha : isSt a) (hD : DC 18 D I R T) : am_E sc (d + 5) 65 [.ref 4, .ref 18, .ref a, .int lo] (HH I J R T) none (HH (ldF I D a lo) J R T) := by
  refine E_Z (Ze_of (Nat.le_of_ble_eq_true rfl) ?_)
  have h6 := hD.2.1
  have e : (if (6 : Int32) < I 18 1 then (6 : Int32) else I 18 1) = nI D.1 := by
    rw [hD.1, if_neg (show ¬ (6 : Int32) < nI D.1 by rw [show (6 : Int32) = nI 6 by rfl, nI_ltI (by omega) (by omega)]; omega)]
  refine Z_jump 5 rfl ?_
  show Zs _ _ (am_P 65).2 (10, [(0, .ref 4), (1, .ref 18), (2, .ref a), (3, .int lo)], [.int (if (6 : Int32) < (I 18 1) then (6 : Int32) else (I 18 1)), .ref 4]) (HH I J R T) _
  refine Z_eqI (y := (nI D.1)) (e) ?_
  show Zs _ _ (am_P 65).2 (10, [(0, .ref 4), (1, .ref 18), (2, .ref a), (3, .int lo)], [.int (nI D.1), .ref 4]) (HH I J R T) _
  refine Z_jump 1 rfl ?_
  show Zs _ _ (am_P 65).2 (13, [(0, .ref 4), (1, .ref 18), (2, .ref a), (3, .int lo)], []) (HH (sf I 4 13 (nI D.1)) J R T) _
  refine Z_jump 3 rfl ?_
  show Zs _ _ (am_P 65).2 (19, [(0, .ref 4), (1, .ref 18), (2, .ref a), (3, .int lo)], [.int (1048576 : Int32), .ref 5]) (HH (sf I 4 13 (nI D.1)) J R T) _
  refine Z_c0 rfl rfl rfl (k_fill (a := 5) (n := 240) (f := I 5) (by decide) rfl) ?_
  show Zs _ _ (am_P 65).2 (22, [(0, .ref 4), (1, .ref 18), (2, .ref a), (3, .int lo)], []) (HH (va_up (sf I 4 13 (nI D.1)) 5 (am_fill 240 (I 5) 1048576 240)) J R T) _
  refine Z_jump 3 rfl ?_
  show Zs _ _ (am_P 65).2 (27, [(0, .ref 4), (1, .ref 18), (2, .ref a), (3, .int lo)], [.int (0 : Int32), .ref 7]) (HH (va_up (sf I 4 13 (nI D.1)) 5 (am_fill 240 (I 5) 1048576 240)) J R T) _
  refine Z_c0 rfl rfl rfl (k_fill (a := 7) (n := 240) (f := I 7) (by decide) rfl) ?_
  show Zs _ _ (am_P 65).2 (30, [(0, .ref 4), (1, .ref 18), (2, .ref a), (3, .int lo)], []) (HH (va_up (va_up (sf I 4 13 (nI D.1)) 5 (am_fill 240 (I 5) 1048576 240)) 7 (am_fill 240 (I 7) 0 240)) J R T) _
  refine Z_jump 4 rfl ?_
  show Zs _ _ (am_P 65).2 (38, [(0, .ref 4), (1, .ref 18), (2, .ref a), (3, .int lo)], [.int ((va_up (va_up (sf I 4 13 (nI D.1)) 5 (am_fill 240 (I 5) 1048576 240)) 7 (am_fill 240 (I 7) 0 240)) 4 13), .ref 10]) (HH (va_up (va_up (sf I 4 13 (nI D.1)) 5 (am_fill 240 (I 5) 1048576 240)) 7 (am_fill 240 (I 7) 0 240)) J R T) _
  refine Z_eqI (y := (nI D.1)) (rfl) ?_
  show Zs _ _ (am_P 65).2 (38, [(0, .ref 4), (1, .ref 18), (2, .ref a), (3, .int lo)], [.int (nI D.1), .ref 10]) (HH (va_up (va_up (sf I 4 13 (nI D.1)) 5 (am_fill 240 (I 5) 1048576 240)) 7 (am_fill 240 (I 7) 0 240)) J R T) _
  refine Z_jump 1 rfl ?_
  show Zs _ _ (am_P 65).2 (39, [(0, .ref 4), (1, .ref 18), (2, .ref a), (3, .int lo)], [.int (0 : Int32), .int (nI D.1), .ref 10]) (HH (va_up (va_up (sf I 4 13 (nI D.1)) 5 (am_fill 240 (I 5) 1048576 240)) 7 (am_fill 240 (I 7) 0 240)) J R T) _
  refine Z_c0 rfl rfl rfl (k_putK (a := 10) (L := 7) (f := I 10) (i := D.1) rfl rfl (by omega) (by decide)) ?_
  show Zs _ _ (am_P 65).2 (42, [(0, .ref 4), (1, .ref 18), (2, .ref a), (3, .int lo)], []) (HH (sf (va_up (va_up (sf I 4 13 (nI D.1)) 5 (am_fill 240 (I 5) 1048576 240)) 7 (am_fill 240 (I 7) 0 240)) 10 D.1 0) J R T) _
  refine Z_jump 4 rfl ?_
  show Zs _ _ (am_P 65).2 (50, [(0, .ref 4), (1, .ref 18), (2, .ref a), (3, .int lo)], [.int ((sf (va_up (va_up (sf I 4 13 (nI D.1)) 5 (am_fill 240 (I 5) 1048576 240)) 7 (am_fill 240 (I 7) 0 240)) 10 D.1 0) 4 13), .ref 11]) (HH (sf (va_up (va_up (sf I 4 13 (nI D.1)) 5 (am_fill 240 (I 5) 1048576 240)) 7 (am_fill 240 (I 7) 0 240)) 10 D.1 0) J R T) _
  refine Z_eqI (y := (nI D.1)) (rfl) ?_
  show Zs _ _ (am_P 65).2 (50, [(0, .ref 4), (1, .ref 18), (2, .ref a), (3, .int lo)], [.int (nI D.1), .ref 11]) (HH (sf (va_up (va_up (sf I 4 13 (nI D.1)) 5 (am_fill 240 (I 5) 1048576 240)) 7 (am_fill 240 (I 7) 0 240)) 10 D.1 0) J R T) _
  refine Z_jump 1 rfl ?_
  show Zs _ _ (am_P 65).2 (51, [(0, .ref 4), (1, .ref 18), (2, .ref a), (3, .int lo)], [.int (0 : Int32), .int (nI D.1), .ref 11]) (HH (sf (va_up (va_up (sf I 4 13 (nI D.1)) 5 (am_fill 240 (I 5) 1048576 240)) 7 (am_fill 240 (I 7) 0 240)) 10 D.1 0) J R T) _
  refine Z_c0 rfl rfl rfl (k_putK (a := 11) (L := 7) (f := I 11) (i := D.1) rfl rfl (by omega) (by decide)) ?_
  show Zs _ _ (am_P 65).2 (54, [(0, .ref 4), (1, .ref 18), (2, .ref a), (3, .int lo)], []) (HH (ldI I D.1) J R T) _
  refine Z_jump 2 rfl ?_
  show Zs _ _ (am_P 65).2 (58, [(0, .ref 4), (1, .ref 18), (2, .ref a), (3, .int lo)], [.int ((ldI I D.1) 4 13)]) (HH (ldI I D.1) J R T) _
  refine Z_eqI (y := (nI D.1)) (rfl) ?_
  show Zs _ _ (am_P 65).2 (58, [(0, .ref 4), (1, .ref 18), (2, .ref a), (3, .int lo)], [.int (nI D.1)]) (HH (ldI I D.1) J R T) _
  refine Z_jump 3 rfl ?_
  show Zs _ _ (am_P 65).2 (62, [(0, .ref 4), (1, .ref 18), (2, .ref a), (3, .int lo), (4, .int ((nI D.1) - (1 : Int32)))], []) (HH (ldI I D.1) J R T) _
  exact c_ldl ha D.1 _ _ (Nat.le_refl _) rfl (DC_of hD (ldI_c (by decide) (by decide) (by decide) (by decide) (by decide)) rfl) ⟨rfl, rfl⟩
/-- aim -/
theorem baseF_0 {I : hI} {i : Int32} : ¬ baseF I i = 0 := by
  unfold baseF
  split
  · decide
  · rename_i hn
    intro z
    rw [z] at hn
    exact hn (by decide)
def aml : Nat → Nat → Int32 → hI → hI
  | 0, _, _, I => I
  | k + 1, i, left, I => aml k (i + 1) (left / baseF (sf I 13 i left) (nI i)) (sf I 13 i left)
def aimF (I : hI) (n : Nat) (v : Int32) : hI := aml n 0 v (va_up I 12 (am_fill 240 (I 12) (-1) 240))
theorem aml_c {c : Nat} (h : c ≠ 13) : ∀ (k i : Nat) (v : Int32) (I : hI), aml k i v I c = I c
  | 0, i, v, I => rfl
  | k + 1, i, v, I => by unfold aml; rw [aml_c h k, sf_c h]
theorem aimF_c {I : hI} {n c : Nat} {v : Int32} (h2 : c ≠ 12) (h3 : c ≠ 13) : aimF I n v c = I c := by
  unfold aimF
  rw [aml_c h3, up_ne h2]
theorem c_aml {n : Nat} {v : Int32} (h6 : n ≤ 6) : ∀ (k i : Nat) (I : hI) (x y : Int32), i + k = n → x = nI i → I 4 13 = nI n → Q none (HH (aml k i y I) J R T) → Zs sc (d + 2) (am_P 77).2 (12, [(0, .ref 4), (1, .int v), (2, .int y), (3, .int x)], []) (HH I J R T) Q
  | 0, i, I, x, y, hi, hx, hn, H => by
    refine Z_jump 4 rfl ?_
    refine Z_bd (fun c17 => ?_) (fun c17 => absurd ((show I 4 13 ≤ x by rw [hn, hx]; exact nI_le (by omega) (by omega))) c17)
    show Zs _ _ (am_P 77).2 (43, [(0, .ref 4), (1, .int v), (2, .int y), (3, .int x)], []) (HH I J R T) _
    refine Z_ret rfl rfl rfl ?_
    exact H
  | k + 1, i, I, x, y, hi, hx, hn, H => by
    have ex : x + 1 = nI (i + 1) := by rw [hx]; exact nI_1 i
    subst hx
    refine Z_jump 4 rfl ?_
    refine Z_bd (fun c17 => absurd c17 ((show ¬ I 4 13 ≤ nI i by rw [hn]; exact nI_ge (by omega) (by omega)))) (fun c17 => ?_)
    refine Z_jump 4 rfl ?_
    show Zs _ _ (am_P 77).2 (26, [(0, .ref 4), (1, .int v), (2, .int y), (3, .int (nI i))], [.int y, .int (nI i), .ref 13]) (HH I J R T) _
    refine Z_c0 rfl rfl rfl (k_putK (a := 13) (L := 6) (f := I 13) (i := i) rfl rfl (by omega) (by decide)) ?_
    show Zs _ _ (am_P 77).2 (29, [(0, .ref 4), (1, .int v), (2, .int y), (3, .int (nI i))], []) (HH (sf I 13 i y) J R T) _
    refine Z_jump 3 rfl ?_
    show Zs _ _ (am_P 77).2 (32, [(0, .ref 4), (1, .int v), (2, .int y), (3, .int (nI i))], [.int (nI i), .ref 4, .int y]) (HH (sf I 13 i y) J R T) _
    refine Z_c1 rfl rfl rfl (c_baseOf) ?_
    show Zs _ _ (am_P 77).2 (35, [(0, .ref 4), (1, .int v), (2, .int y), (3, .int (nI i))], [.int (baseF (sf I 13 i y) (nI i)), .int y]) (HH (sf I 13 i y) J R T) _
    show Zs _ _ (am_P 77).2 (35, [(0, .ref 4), (1, .int v), (2, .int y), (3, .int (nI i))], [.int (baseF (sf I 13 i y) (nI i)), .int y]) (HH (sf I 13 i y) J R T) _
    refine Z_idiv rfl (by exact baseF_0) ?_
    refine Z_jump 3 rfl ?_
    show Zs _ _ (am_P 77).2 (12, [(0, .ref 4), (1, .int v), (2, .int (y / (baseF (sf I 13 i y) (nI i)))), (3, .int ((nI i) + 1))], []) (HH (sf I 13 i y) J R T) _
    exact c_aml h6 k (i + 1) _ _ _ (by omega) ex hn H
theorem c_aim {I : hI} {n : Nat} {v : Int32} (h6 : n ≤ 6) (hn : I 4 13 = nI n) : am_E sc (d + 3) 77 [.ref 4, .int v] (HH I J R T) none (HH (aimF I n v) J R T) := by
  refine E_Z (Ze_of (Nat.le_of_ble_eq_true rfl) ?_)
  refine Z_jump 3 rfl ?_
  show Zs _ _ (am_P 77).2 (5, [(0, .ref 4), (1, .int v)], [.int (-1 : Int32), .ref 12]) (HH I J R T) _
  refine Z_c0 rfl rfl rfl (k_fill (a := 12) (n := 240) (f := I 12) (by decide) rfl) ?_
  show Zs _ _ (am_P 77).2 (8, [(0, .ref 4), (1, .int v)], []) (HH (va_up I 12 (am_fill 240 (I 12) (-1) 240)) J R T) _
  refine Z_jump 4 rfl ?_
  show Zs _ _ (am_P 77).2 (12, [(0, .ref 4), (1, .int v), (2, .int v), (3, .int (0 : Int32))], []) (HH (va_up I 12 (am_fill 240 (I 12) (-1) 240)) J R T) _
  exact c_aml h6 n 0 _ _ _ (by omega) rfl hn ⟨rfl, rfl⟩
end WY3

