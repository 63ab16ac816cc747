/-! The class: settle, carryOver; set, carry, ways, time, pushed, loosen. -/
section WY7
variable {sc : Nat × (Nat → Int32)} {d : Nat} {J : hJ} {R : hR} {T : am_H} {Q : Option Value → am_H → Prop}
theorem lrF_8 {I : hI} {a i : Nat} {q : RD4} {lo : Int32} : lrF I a q i lo 8 = sf I 8 i (nI q.2.1) 8 := by
  unfold lrF
  rw [lrh_c (by decide) (by decide) (by decide), sf_c (by decide)]
theorem ldl_BS {D : FD} {a : Nat} {lo : Int32} (ho : ∀ k, k < D.1 → okR (D.2.1 k)) : ∀ (k : Nat) (I : hI), k ≤ D.1 → BS I → BS (ldl D a lo k I)
  | 0, I, hk, hB => hB
  | k + 1, I, hk, hB => by
    unfold ldl
    refine ldl_BS ho k _ (by omega) (fun j hj => ?_)
    rw [lbF_c (by decide) (by decide), lrF_8]
    by_cases e : j = k
    · subst e
      rw [sf_s]
      have := (ho j (by omega)).2.1.2
      rw [nI_toInt (by omega)]
      omega
    · rw [sf_k e]; exact hB j hj
theorem DC_ok {f : Nat} {D : FD} {I : hI} (hD : DC f D I R T) : ∀ k, k < D.1 → okR (D.2.1 k) := fun k hk => (hD.2.2.2 k hk).1
theorem ldF_BS {I : hI} {D : FD} {a : Nat} {lo : Int32} (ho : ∀ k, k < D.1 → okR (D.2.1 k)) (hB : BS I) : BS (ldF I D a lo) := ldl_BS ho _ _ (Nat.le_refl _) (BS_of hB (ldI_c (by decide) (by decide) (by decide) (by decide) (by decide)))
theorem ldF_13 {I : hI} {D : FD} {a : Nat} {lo : Int32} : ldF I D a lo 4 13 = nI D.1 := by
  unfold ldF
  rw [ldl_c (by decide) (by decide) (by decide) (by decide) (by decide) (by decide) (by decide)]
  rfl
def spF (I : hI) (a : Nat) (t : Int32) : hI := sf I a 3 (if (1000000 : Int32) < I a 3 + t then 1000000 else I a 3 + t)
def stF (I : hI) (D : FD) (a : Nat) (v : Int64) : Int32 × hI :=
  if (leF (ldF I D a 0) D.1 v).1 < 1048576 then ((leF (ldF I D a 0) D.1 v).1, spF (paF (leF (ldF I D a 0) D.1 v).2 a D.1) a (leF (ldF I D a 0) D.1 v).1)
  else (-1, (leF (ldF I D a 0) D.1 v).2)
theorem c_settle {I : hI} {D : FD} {a : Nat} {v : Int64} (ha : isSt a) (hD : DC 18 D I R T) (hB : BS I) : am_E sc (d + 12) 129 [.ref 0, .ref a, .long v] (HH I J R T) (some (.int (stF I D a v).1)) (HH (stF I D a v).2 J R T) := by
  refine E_Z (Ze_of (Nat.le_of_ble_eq_true rfl) ?_)
  have hB1 : BS (ldF I D a 0) := ldF_BS (DC_ok hD) hB
  have hn1 : (leF (ldF I D a 0) D.1 v).2 4 13 = nI D.1 := (congrFun (leF_c (by decide) (by decide)) _).trans ldF_13
  have hB2 : BS (leF (ldF I D a 0) D.1 v).2 := BS_of hB1 (leF_c (by decide) (by decide))
  refine Z_jump 6 rfl ?_
  show Zs _ _ (am_P 129).2 (10, [(0, .ref 0), (1, .ref a), (2, .long v)], [.int (0 : Int32), .ref a, .ref 18, .ref 4]) (HH I J R T) _
  refine Z_c0 rfl rfl rfl (c_load ha hD) ?_
  show Zs _ _ (am_P 129).2 (13, [(0, .ref 0), (1, .ref a), (2, .long v)], []) (HH (ldF I D a 0) J R T) _
  refine Z_jump 3 rfl ?_
  show Zs _ _ (am_P 129).2 (18, [(0, .ref 0), (1, .ref a), (2, .long v)], [.long v, .ref 4]) (HH (ldF I D a 0) J R T) _
  refine Z_c1 rfl rfl rfl (c_least hD.2.1 ldF_13 hB1) ?_
  show Zs _ _ (am_P 129).2 (21, [(0, .ref 0), (1, .ref a), (2, .long v)], [.int (leF (ldF I D a 0) D.1 v).1]) (HH (leF (ldF I D a 0) D.1 v).2 J R T) _
  refine Z_jump 4 rfl ?_
  refine Z_bd (fun (c27 : (leF (ldF I D a 0) D.1 v).1 < (1048576 : Int32)) => ?_) (fun (c27 : ¬ ((leF (ldF I D a 0) D.1 v).1 < (1048576 : Int32))) => ?_)
  · refine Z_jump 3 rfl ?_
    show Zs _ _ (am_P 129).2 (37, [(0, .ref 0), (1, .ref a), (2, .long v), (4, .int (leF (ldF I D a 0) D.1 v).1)], [.ref a, .ref 4]) (HH (leF (ldF I D a 0) D.1 v).2 J R T) _
    refine Z_c0 rfl rfl rfl (c_placeAll hD.2.1 ha hn1 hB2) ?_
    show Zs _ _ (am_P 129).2 (40, [(0, .ref 0), (1, .ref a), (2, .long v), (4, .int (leF (ldF I D a 0) D.1 v).1)], []) (HH (paF (leF (ldF I D a 0) D.1 v).2 a D.1) J R T) _
    refine Z_jump 2 rfl ?_
    show Zs _ _ (am_P 129).2 (43, [(0, .ref 0), (1, .ref a), (2, .long v), (4, .int (leF (ldF I D a 0) D.1 v).1)], [.int (leF (ldF I D a 0) D.1 v).1, .ref a]) (HH (paF (leF (ldF I D a 0) D.1 v).2 a D.1) J R T) _
    refine Z_c0 rfl (am_do_inv (st_0 ha) rfl (rfl) (Nat.le_of_ble_eq_true rfl)) rfl (c_spend ha) ?_
    show Zs _ _ (am_P 129).2 (46, [(0, .ref 0), (1, .ref a), (2, .long v), (4, .int (leF (ldF I D a 0) D.1 v).1)], []) (HH (spF (paF (leF (ldF I D a 0) D.1 v).2 a D.1) a (leF (ldF I D a 0) D.1 v).1) J R T) _
    refine Z_jump 1 rfl ?_
    show Zs _ _ (am_P 129).2 (48, [(0, .ref 0), (1, .ref a), (2, .long v), (4, .int (leF (ldF I D a 0) D.1 v).1)], [.int (leF (ldF I D a 0) D.1 v).1]) (HH (spF (paF (leF (ldF I D a 0) D.1 v).2 a D.1) a (leF (ldF I D a 0) D.1 v).1) J R T) _
    refine Z_rI rfl (by first | exact am_nw0 _ | exact am_nw01 | rfl | assumption) ?_
    unfold stF
    rw [if_pos c27]
    exact ⟨rfl, rfl⟩
  · refine Z_jump 1 rfl ?_
    show Zs _ _ (am_P 129).2 (31, [(0, .ref 0), (1, .ref a), (2, .long v), (4, .int (leF (ldF I D a 0) D.1 v).1)], [.int (-1 : Int32)]) (HH (leF (ldF I D a 0) D.1 v).2 J R T) _
    refine Z_rI rfl (by first | exact am_nw0 _ | exact am_nw01 | rfl | assumption) ?_
    unfold stF
    rw [if_neg c27]
    exact ⟨rfl, rfl⟩
/-- carryOver -/
def coL (I : hI) (D : FD) (a i : Nat) : Int32 := shw I a i (D.2.1 i) - nI (D.2.1 i).2.1
def coM (I : hI) (D : FD) (a i : Nat) : Int32 := shw I a (i + 1) (D.2.1 (i + 1)) + 1
def coT (I : hI) (D : FD) (a i : Nat) : Int32 := costF (ldF I D a 0) (nI i) (coL I D a i) + costF (ldF I D a 0) (nI (i + 1)) (coM I D a i)
def coF (I : hI) (D : FD) (a i : Nat) : Int32 × hI :=
  if D.1 ≤ i + 1 then (-1, I) else if nI (D.2.1 i).2.1 ≤ shw I a i (D.2.1 i) then
    (if coT I D a i < 1048576 then (coT I D a i, spF (prF (prF (ldF I D a 0) a i (coL I D a i)) a (i + 1) (coM I D a i)) a (coT I D a i)) else (-1, ldF I D a 0))
  else (-1, I)
theorem c_carryOver {I : hI} {D : FD} {a i : Nat} (ha : isSt a) (hD : DC 18 D I R T) (hi : i < D.1) : am_E sc (d + 6) 130 [.ref 0, .ref a, .int (nI i)] (HH I J R T) (some (.int (coF I D a i).1)) (HH (coF I D a i).2 J R T) := by
  refine E_Z (Ze_of (Nat.le_of_ble_eq_true rfl) ?_)
  have h6 := hD.2.1
  obtain ⟨hq, r, hR, hT⟩ := hD.2.2.2 i hi
  have hL : ∀ I : hI, (HH I J R T)[99 + r]? = some (rodC (D.2.1 i)) := fun I => HH_at r hT
  have e1 : nI i + 1 = nI (i + 1) := nI_1 i
  unfold coF
  by_cases hn : D.1 ≤ i + 1
  · rw [if_pos hn]
    refine Z_jump 3 rfl ?_
    show Zs _ _ (am_P 130).2 (5, [(0, .ref 0), (1, .ref a), (2, .int (nI i))], [.int (nI i), .ref 18]) (HH I J R T) _
    refine Z_c1 rfl rfl rfl (c_rodAt18 hD rfl hi hR) ?_
    show Zs _ _ (am_P 130).2 (8, [(0, .ref 0), (1, .ref a), (2, .int (nI i))], [.ref (99 + r)]) (HH I J R T) _
    refine Z_jump 6 rfl ?_
    show Zs _ _ (am_P 130).2 (16, [(0, .ref 0), (1, .ref a), (2, .int (nI i)), (3, .ref (99 + r))], [.int ((nI i) + (1 : Int32)), .ref 18]) (HH I J R T) _
    refine Z_eqI (y := (nI (i + 1))) (e1) ?_
    show Zs _ _ (am_P 130).2 (16, [(0, .ref 0), (1, .ref a), (2, .int (nI i)), (3, .ref (99 + r))], [.int (nI (i + 1)), .ref 18]) (HH I J R T) _
    show Zs _ _ (am_P 130).2 (16, [(0, .ref 0), (1, .ref a), (2, .int (nI i)), (3, .ref (99 + r))], [.int (nI (i + 1)), .ref 18]) (HH I J R T) _
    refine Z_c1 rfl rfl rfl (c_rodAt18n hD (fun z => by have := z.2; rw [nI_toInt (by omega)] at this; omega)) ?_
    show Zs _ _ (am_P 130).2 (19, [(0, .ref 0), (1, .ref a), (2, .int (nI i)), (3, .ref (99 + r))], [.null]) (HH I J R T) _
    refine Z_jump 6 rfl ?_
    show Zs _ _ (am_P 130).2 (44, [(0, .ref 0), (1, .ref a), (2, .int (nI i)), (3, .ref (99 + r)), (4, .null)], [.int (-1 : Int32)]) (HH I J R T) _
    refine Z_rI rfl (by first | exact am_nw0 _ | exact am_nw01 | rfl | assumption) ?_
    exact ⟨rfl, rfl⟩
  · rw [if_neg hn]
    obtain ⟨hq', r', hR', hT'⟩ := hD.2.2.2 (i + 1) (by omega)
    have hL' : ∀ I : hI, (HH I J R T)[99 + r']? = some (rodC (D.2.1 (i + 1))) := fun I => HH_at r' hT'
    refine Z_jump 3 rfl ?_
    show Zs _ _ (am_P 130).2 (5, [(0, .ref 0), (1, .ref a), (2, .int (nI i))], [.int (nI i), .ref 18]) (HH I J R T) _
    refine Z_c1 rfl rfl rfl (c_rodAt18 hD rfl hi hR) ?_
    show Zs _ _ (am_P 130).2 (8, [(0, .ref 0), (1, .ref a), (2, .int (nI i))], [.ref (99 + r)]) (HH I J R T) _
    refine Z_jump 6 rfl ?_
    show Zs _ _ (am_P 130).2 (16, [(0, .ref 0), (1, .ref a), (2, .int (nI i)), (3, .ref (99 + r))], [.int ((nI i) + (1 : Int32)), .ref 18]) (HH I J R T) _
    refine Z_eqI (y := (nI (i + 1))) (e1) ?_
    show Zs _ _ (am_P 130).2 (16, [(0, .ref 0), (1, .ref a), (2, .int (nI i)), (3, .ref (99 + r))], [.int (nI (i + 1)), .ref 18]) (HH I J R T) _
    show Zs _ _ (am_P 130).2 (16, [(0, .ref 0), (1, .ref a), (2, .int (nI i)), (3, .ref (99 + r))], [.int (nI (i + 1)), .ref 18]) (HH I J R T) _
    refine Z_c1 rfl rfl rfl (c_rodAt18 hD rfl (by omega) hR') ?_
    show Zs _ _ (am_P 130).2 (19, [(0, .ref 0), (1, .ref a), (2, .int (nI i)), (3, .ref (99 + r))], [.ref (99 + r')]) (HH I J R T) _
    refine Z_jump 8 rfl ?_
    show Zs _ _ (am_P 130).2 (33, [(0, .ref 0), (1, .ref a), (2, .int (nI i)), (3, .ref (99 + r)), (4, .ref (99 + r'))], [.ref (99 + r), .int (nI i), .ref a]) (HH I J R T) _
    refine Z_c1 rfl (am_do_inv (st_0 ha) rfl (rfl) (Nat.le_of_ble_eq_true rfl)) rfl (c_shows ha rfl (by omega) (hL _) hq.1) ?_
    show Zs _ _ (am_P 130).2 (36, [(0, .ref 0), (1, .ref a), (2, .int (nI i)), (3, .ref (99 + r)), (4, .ref (99 + r'))], [.int (shw I a i (D.2.1 i))]) (HH I J R T) _
    refine Z_jump 1 rfl ?_
    show Zs _ _ (am_P 130).2 (37, [(0, .ref 0), (1, .ref a), (2, .int (nI i)), (3, .ref (99 + r)), (4, .ref (99 + r'))], [.ref (99 + r), .int (shw I a i (D.2.1 i))]) (HH I J R T) _
    refine Z_gfR rfl (hL _) hq.1 rfl ?_
    refine Z_jump 1 rfl ?_
    refine Z_bd (fun (c40 : (nI (D.2.1 i).2.1) ≤ (shw I a i (D.2.1 i))) => ?_) (fun (c40 : ¬ ((nI (D.2.1 i).2.1) ≤ (shw I a i (D.2.1 i)))) => ?_)
    · refine Z_jump 3 rfl ?_
      show Zs _ _ (am_P 130).2 (48, [(0, .ref 0), (1, .ref a), (2, .int (nI i)), (3, .ref (99 + r)), (4, .ref (99 + r'))], [.ref (99 + r), .int (nI i), .ref a]) (HH I J R T) _
      refine Z_c1 rfl (am_do_inv (st_0 ha) rfl (rfl) (Nat.le_of_ble_eq_true rfl)) rfl (c_shows ha rfl (by omega) (hL _) hq.1) ?_
      show Zs _ _ (am_P 130).2 (51, [(0, .ref 0), (1, .ref a), (2, .int (nI i)), (3, .ref (99 + r)), (4, .ref (99 + r'))], [.int (shw I a i (D.2.1 i))]) (HH I J R T) _
      refine Z_jump 1 rfl ?_
      show Zs _ _ (am_P 130).2 (52, [(0, .ref 0), (1, .ref a), (2, .int (nI i)), (3, .ref (99 + r)), (4, .ref (99 + r'))], [.ref (99 + r), .int (shw I a i (D.2.1 i))]) (HH I J R T) _
      refine Z_gfR rfl (hL _) hq.1 rfl ?_
      refine Z_jump 1 rfl ?_
      show Zs _ _ (am_P 130).2 (56, [(0, .ref 0), (1, .ref a), (2, .int (nI i)), (3, .ref (99 + r)), (4, .ref (99 + r'))], [.int ((shw I a i (D.2.1 i)) - (nI (D.2.1 i).2.1))]) (HH I J R T) _
      refine Z_eqI (y := (coL I D a i)) (rfl) ?_
      show Zs _ _ (am_P 130).2 (56, [(0, .ref 0), (1, .ref a), (2, .int (nI i)), (3, .ref (99 + r)), (4, .ref (99 + r'))], [.int (coL I D a i)]) (HH I J R T) _
      refine Z_jump 5 rfl ?_
      show Zs _ _ (am_P 130).2 (62, [(0, .ref 0), (1, .ref a), (2, .int (nI i)), (3, .ref (99 + r)), (4, .ref (99 + r')), (5, .int (coL I D a i))], [.int ((nI i) + (1 : Int32)), .ref a]) (HH I J R T) _
      refine Z_eqI (y := (nI (i + 1))) (e1) ?_
      show Zs _ _ (am_P 130).2 (62, [(0, .ref 0), (1, .ref a), (2, .int (nI i)), (3, .ref (99 + r)), (4, .ref (99 + r')), (5, .int (coL I D a i))], [.int (nI (i + 1)), .ref a]) (HH I J R T) _
      refine Z_jump 1 rfl ?_
      show Zs _ _ (am_P 130).2 (64, [(0, .ref 0), (1, .ref a), (2, .int (nI i)), (3, .ref (99 + r)), (4, .ref (99 + r')), (5, .int (coL I D a i))], [.ref (99 + r'), .int (nI (i + 1)), .ref a]) (HH I J R T) _
      refine Z_c1 rfl (am_do_inv (st_0 ha) rfl (rfl) (Nat.le_of_ble_eq_true rfl)) rfl (c_shows ha rfl (by omega) (hL' _) hq'.1) ?_
      show Zs _ _ (am_P 130).2 (67, [(0, .ref 0), (1, .ref a), (2, .int (nI i)), (3, .ref (99 + r)), (4, .ref (99 + r')), (5, .int (coL I D a i))], [.int (shw I a (i + 1) (D.2.1 (i + 1)))]) (HH I J R T) _
      refine Z_jump 2 rfl ?_
      show Zs _ _ (am_P 130).2 (69, [(0, .ref 0), (1, .ref a), (2, .int (nI i)), (3, .ref (99 + r)), (4, .ref (99 + r')), (5, .int (coL I D a i))], [.int ((shw I a (i + 1) (D.2.1 (i + 1))) + (1 : Int32))]) (HH I J R T) _
      refine Z_eqI (y := (coM I D a i)) (rfl) ?_
      show Zs _ _ (am_P 130).2 (69, [(0, .ref 0), (1, .ref a), (2, .int (nI i)), (3, .ref (99 + r)), (4, .ref (99 + r')), (5, .int (coL I D a i))], [.int (coM I D a i)]) (HH I J R T) _
      refine Z_jump 7 rfl ?_
      show Zs _ _ (am_P 130).2 (81, [(0, .ref 0), (1, .ref a), (2, .int (nI i)), (3, .ref (99 + r)), (4, .ref (99 + r')), (5, .int (coL I D a i)), (6, .int (coM I D a i))], [.int (0 : Int32), .ref a, .ref 18, .ref 4]) (HH I J R T) _
      refine Z_c0 rfl rfl rfl (c_load ha hD) ?_
      show Zs _ _ (am_P 130).2 (84, [(0, .ref 0), (1, .ref a), (2, .int (nI i)), (3, .ref (99 + r)), (4, .ref (99 + r')), (5, .int (coL I D a i)), (6, .int (coM I D a i))], []) (HH (ldF I D a 0) J R T) _
      refine Z_jump 4 rfl ?_
      show Zs _ _ (am_P 130).2 (91, [(0, .ref 0), (1, .ref a), (2, .int (nI i)), (3, .ref (99 + r)), (4, .ref (99 + r')), (5, .int (coL I D a i)), (6, .int (coM I D a i))], [.int (coL I D a i), .int (nI i), .ref 4]) (HH (ldF I D a 0) J R T) _
      refine Z_c1 rfl rfl rfl (c_costOf) ?_
      show Zs _ _ (am_P 130).2 (94, [(0, .ref 0), (1, .ref a), (2, .int (nI i)), (3, .ref (99 + r)), (4, .ref (99 + r')), (5, .int (coL I D a i)), (6, .int (coM I D a i))], [.int (costF (ldF I D a 0) (nI i) (coL I D a i))]) (HH (ldF I D a 0) J R T) _
      refine Z_jump 5 rfl ?_
      show Zs _ _ (am_P 130).2 (101, [(0, .ref 0), (1, .ref a), (2, .int (nI i)), (3, .ref (99 + r)), (4, .ref (99 + r')), (5, .int (coL I D a i)), (6, .int (coM I D a i))], [.int ((nI i) + (1 : Int32)), .ref 4, .int (costF (ldF I D a 0) (nI i) (coL I D a i))]) (HH (ldF I D a 0) J R T) _
      refine Z_eqI (y := (nI (i + 1))) (e1) ?_
      show Zs _ _ (am_P 130).2 (101, [(0, .ref 0), (1, .ref a), (2, .int (nI i)), (3, .ref (99 + r)), (4, .ref (99 + r')), (5, .int (coL I D a i)), (6, .int (coM I D a i))], [.int (nI (i + 1)), .ref 4, .int (costF (ldF I D a 0) (nI i) (coL I D a i))]) (HH (ldF I D a 0) J R T) _
      refine Z_jump 1 rfl ?_
      show Zs _ _ (am_P 130).2 (103, [(0, .ref 0), (1, .ref a), (2, .int (nI i)), (3, .ref (99 + r)), (4, .ref (99 + r')), (5, .int (coL I D a i)), (6, .int (coM I D a i))], [.int (coM I D a i), .int (nI (i + 1)), .ref 4, .int (costF (ldF I D a 0) (nI i) (coL I D a i))]) (HH (ldF I D a 0) J R T) _
      refine Z_c1 rfl rfl rfl (c_costOf) ?_
      show Zs _ _ (am_P 130).2 (106, [(0, .ref 0), (1, .ref a), (2, .int (nI i)), (3, .ref (99 + r)), (4, .ref (99 + r')), (5, .int (coL I D a i)), (6, .int (coM I D a i))], [.int (costF (ldF I D a 0) (nI (i + 1)) (coM I D a i)), .int (costF (ldF I D a 0) (nI i) (coL I D a i))]) (HH (ldF I D a 0) J R T) _
      refine Z_jump 1 rfl ?_
      show Zs _ _ (am_P 130).2 (107, [(0, .ref 0), (1, .ref a), (2, .int (nI i)), (3, .ref (99 + r)), (4, .ref (99 + r')), (5, .int (coL I D a i)), (6, .int (coM I D a i))], [.int ((costF (ldF I D a 0) (nI i) (coL I D a i)) + (costF (ldF I D a 0) (nI (i + 1)) (coM I D a i)))]) (HH (ldF I D a 0) J R T) _
      refine Z_eqI (y := (coT I D a i)) (rfl) ?_
      show Zs _ _ (am_P 130).2 (107, [(0, .ref 0), (1, .ref a), (2, .int (nI i)), (3, .ref (99 + r)), (4, .ref (99 + r')), (5, .int (coL I D a i)), (6, .int (coM I D a i))], [.int (coT I D a i)]) (HH (ldF I D a 0) J R T) _
      refine Z_jump 4 rfl ?_
      refine Z_bd (fun (c113 : (coT I D a i) < (1048576 : Int32)) => ?_) (fun (c113 : ¬ ((coT I D a i) < (1048576 : Int32))) => ?_)
      · refine Z_jump 5 rfl ?_
        show Zs _ _ (am_P 130).2 (126, [(0, .ref 0), (1, .ref a), (2, .int (nI i)), (3, .ref (99 + r)), (4, .ref (99 + r')), (5, .int (coL I D a i)), (6, .int (coM I D a i)), (7, .int (coT I D a i))], [.int (coL I D a i), .int (nI i), .ref a, .ref 4]) (HH (ldF I D a 0) J R T) _
        refine Z_c0 rfl rfl rfl (c_placeRod ha (by omega)) ?_
        show Zs _ _ (am_P 130).2 (129, [(0, .ref 0), (1, .ref a), (2, .int (nI i)), (3, .ref (99 + r)), (4, .ref (99 + r')), (5, .int (coL I D a i)), (6, .int (coM I D a i)), (7, .int (coT I D a i))], []) (HH (prF (ldF I D a 0) a i (coL I D a i)) J R T) _
        refine Z_jump 6 rfl ?_
        show Zs _ _ (am_P 130).2 (137, [(0, .ref 0), (1, .ref a), (2, .int (nI i)), (3, .ref (99 + r)), (4, .ref (99 + r')), (5, .int (coL I D a i)), (6, .int (coM I D a i)), (7, .int (coT I D a i))], [.int ((nI i) + (1 : Int32)), .ref a, .ref 4]) (HH (prF (ldF I D a 0) a i (coL I D a i)) J R T) _
        refine Z_eqI (y := (nI (i + 1))) (e1) ?_
        show Zs _ _ (am_P 130).2 (137, [(0, .ref 0), (1, .ref a), (2, .int (nI i)), (3, .ref (99 + r)), (4, .ref (99 + r')), (5, .int (coL I D a i)), (6, .int (coM I D a i)), (7, .int (coT I D a i))], [.int (nI (i + 1)), .ref a, .ref 4]) (HH (prF (ldF I D a 0) a i (coL I D a i)) J R T) _
        refine Z_jump 1 rfl ?_
        show Zs _ _ (am_P 130).2 (139, [(0, .ref 0), (1, .ref a), (2, .int (nI i)), (3, .ref (99 + r)), (4, .ref (99 + r')), (5, .int (coL I D a i)), (6, .int (coM I D a i)), (7, .int (coT I D a i))], [.int (coM I D a i), .int (nI (i + 1)), .ref a, .ref 4]) (HH (prF (ldF I D a 0) a i (coL I D a i)) J R T) _
        refine Z_c0 rfl rfl rfl (c_placeRod ha (by omega)) ?_
        show Zs _ _ (am_P 130).2 (142, [(0, .ref 0), (1, .ref a), (2, .int (nI i)), (3, .ref (99 + r)), (4, .ref (99 + r')), (5, .int (coL I D a i)), (6, .int (coM I D a i)), (7, .int (coT I D a i))], []) (HH (prF (prF (ldF I D a 0) a i (coL I D a i)) a (i + 1) (coM I D a i)) J R T) _
        refine Z_jump 2 rfl ?_
        show Zs _ _ (am_P 130).2 (145, [(0, .ref 0), (1, .ref a), (2, .int (nI i)), (3, .ref (99 + r)), (4, .ref (99 + r')), (5, .int (coL I D a i)), (6, .int (coM I D a i)), (7, .int (coT I D a i))], [.int (coT I D a i), .ref a]) (HH (prF (prF (ldF I D a 0) a i (coL I D a i)) a (i + 1) (coM I D a i)) J R T) _
        refine Z_c0 rfl (am_do_inv (st_0 ha) rfl (rfl) (Nat.le_of_ble_eq_true rfl)) rfl (c_spend ha) ?_
        show Zs _ _ (am_P 130).2 (148, [(0, .ref 0), (1, .ref a), (2, .int (nI i)), (3, .ref (99 + r)), (4, .ref (99 + r')), (5, .int (coL I D a i)), (6, .int (coM I D a i)), (7, .int (coT I D a i))], []) (HH (spF (prF (prF (ldF I D a 0) a i (coL I D a i)) a (i + 1) (coM I D a i)) a (coT I D a i)) J R T) _
        refine Z_jump 1 rfl ?_
        show Zs _ _ (am_P 130).2 (150, [(0, .ref 0), (1, .ref a), (2, .int (nI i)), (3, .ref (99 + r)), (4, .ref (99 + r')), (5, .int (coL I D a i)), (6, .int (coM I D a i)), (7, .int (coT I D a i))], [.int (coT I D a i)]) (HH (spF (prF (prF (ldF I D a 0) a i (coL I D a i)) a (i + 1) (coM I D a i)) a (coT I D a i)) J R T) _
        refine Z_rI rfl (by first | exact am_nw0 _ | exact am_nw01 | rfl | assumption) ?_
        rw [if_pos c40, if_pos c113]
        exact ⟨rfl, rfl⟩
      · refine Z_jump 1 rfl ?_
        show Zs _ _ (am_P 130).2 (117, [(0, .ref 0), (1, .ref a), (2, .int (nI i)), (3, .ref (99 + r)), (4, .ref (99 + r')), (5, .int (coL I D a i)), (6, .int (coM I D a i)), (7, .int (coT I D a i))], [.int (-1 : Int32)]) (HH (ldF I D a 0) J R T) _
        refine Z_rI rfl (by first | exact am_nw0 _ | exact am_nw01 | rfl | assumption) ?_
        rw [if_pos c40, if_neg c113]
        exact ⟨rfl, rfl⟩
    · refine Z_jump 1 rfl ?_
      show Zs _ _ (am_P 130).2 (44, [(0, .ref 0), (1, .ref a), (2, .int (nI i)), (3, .ref (99 + r)), (4, .ref (99 + r'))], [.int (-1 : Int32)]) (HH I J R T) _
      refine Z_rI rfl (by first | exact am_nw0 _ | exact am_nw01 | rfl | assumption) ?_
      rw [if_neg c40]
      exact ⟨rfl, rfl⟩
/-- doneByTrial -/
def dbT (m : Nat) (w : Int32 × hI) (J : hJ) (R : hR) (T : am_H) (r : Option Value) (h : am_H) : Prop :=
  (w.1 = -1 ∧ r = some (.int (-4)) ∧ h = HH w.2 J R T) ∨ (¬ w.1 = -1 ∧ r = some (.int w.1) ∧ ∃ I2 R2 I3, RMq m w.2 J R T none (HH I2 J R2 T) ∧ CP 22 25 I2 I3 ∧ h = HH I3 J R2 T)
theorem c_doneByTrial {w : Int32 × hI} {m : Nat} (hp : w.2 0 9 = nI m) (hm : m ≤ 8) (hP : PR R) : Ze sc (d + 4) 128 [.ref 0, .int w.1] (HH w.2 J R T) (dbT m w J R T) := by
  refine Ze_of (Nat.le_of_ble_eq_true rfl) ?_
  obtain ⟨t, I⟩ := w
  refine Z_jump 3 rfl ?_
  refine Z_bn (fun (c2 : ¬ (t = (-1 : Int32))) => ?_) (fun (c2 : t = (-1 : Int32)) => ?_)
  · refine Z_jump 1 rfl ?_
    show Zs _ _ (am_P 128).2 (9, [(0, .ref 0), (1, .int t)], [.ref 0]) (HH I J R T) _
    refine Z_cQ rfl rfl rfl (c_remember (d := d) hp hm hP) (fun v h1 hq => ?_)
    have hq0 := hq
    obtain ⟨rfl, I1, R1, a1, rfl, h1, h2, h3, h4, h5, h6, h7⟩ := hq
    show Zs _ _ (am_P 128).2 (12, [(0, .ref 0), (1, .int t)], []) (HH I1 J R1 T) _
    refine Z_jump 4 rfl ?_
    show Zs _ _ (am_P 128).2 (20, [(0, .ref 0), (1, .int t)], [.ref 25, .ref 22]) (HH I1 J R1 T) _
    refine Z_cQ rfl rfl rfl (Ze_deep (d := 2) (by omega) (c_copy (d := 0) (a := 22) (b := 25) (by decide) (by decide) (by decide))) (fun v h1 hq => ?_)
    obtain ⟨rfl, I3, rfl, hC⟩ := hq
    show Zs _ _ (am_P 128).2 (23, [(0, .ref 0), (1, .int t)], []) (HH I3 J R1 T) _
    refine Z_jump 1 rfl ?_
    show Zs _ _ (am_P 128).2 (24, [(0, .ref 0), (1, .int t)], [.int t]) (HH I3 J R1 T) _
    refine Z_rI rfl (by first | exact am_nw0 _ | exact am_nw01 | rfl | assumption) ?_
    exact Or.inr ⟨c2, rfl, I1, R1, I3, hq0, hC, rfl⟩
  · refine Z_jump 1 rfl ?_
    show Zs _ _ (am_P 128).2 (7, [(0, .ref 0), (1, .int t)], [.int (-4 : Int32)]) (HH I J R T) _
    refine Z_rI rfl (by first | exact am_nw0 _ | exact am_nw01 | rfl | assumption) ?_
    exact Or.inl ⟨c2, rfl, rfl⟩
theorem spF_c {I : hI} {a c : Nat} {t : Int32} (h : c ≠ a) : spF I a t c = I c := sf_c h
theorem paF_c {I : hI} {a n c : Nat} (h : c ≠ 12) (h1 : c ≠ a + 1) (h2 : c ≠ a + 2) : paF I a n c = I c := pal_c h h1 h2 _ _ _ _
theorem stF_c {I : hI} {D : FD} {a c : Nat} {v : Int64} (h : c < 4 ∨ 17 < c) (h0 : c ≠ a) (h1 : c ≠ a + 1) (h2 : c ≠ a + 2) : (stF I D a v).2 c = I c := by
  unfold stF
  split
  · show spF _ a _ c = _
    rw [spF_c h0, paF_c (by omega) h1 h2, leF_c (by omega) (by omega), ldF_c (by omega) (by omega) (by omega) (by omega) (by omega) (by omega) (by omega) (by omega)]
  · show (leF _ _ _).2 c = _
    rw [leF_c (by omega) (by omega), ldF_c (by omega) (by omega) (by omega) (by omega) (by omega) (by omega) (by omega) (by omega)]
theorem stF_BS {I : hI} {D : FD} {a : Nat} {v : Int64} (ha : 22 ≤ a) (ho : ∀ k, k < D.1 → okR (D.2.1 k)) (hB : BS I) : BS (stF I D a v).2 := by
  have hB1 : BS (ldF I D a 0) := ldF_BS ho hB
  unfold stF
  split
  · exact BS_of hB1 (by dsimp only; rw [spF_c (by omega), paF_c (by omega) (by omega) (by omega), leF_c (by omega) (by omega)])
  · exact BS_of hB1 (leF_c (by omega) (by omega))
theorem coF_c {I : hI} {D : FD} {a i c : Nat} (h : c < 4 ∨ 17 < c) (h0 : c ≠ a) (h1 : c ≠ a + 1) (h2 : c ≠ a + 2) : (coF I D a i).2 c = I c := by
  unfold coF
  split
  · rfl
  · split
    · split
      · show spF _ a _ c = _
        rw [spF_c h0, prF_c h1 h2, prF_c h1 h2, ldF_c (by omega) (by omega) (by omega) (by omega) (by omega) (by omega) (by omega) (by omega)]
      · exact ldF_c (by omega) (by omega) (by omega) (by omega) (by omega) (by omega) (by omega) (by omega)
    · rfl
theorem coF_BS {I : hI} {D : FD} {a i : Nat} (ha : 22 ≤ a) (ho : ∀ k, k < D.1 → okR (D.2.1 k)) (hB : BS I) : BS (coF I D a i).2 := by
  have hB1 : BS (ldF I D a 0) := ldF_BS ho hB
  unfold coF
  split
  · exact hB
  · split
    · split
      · exact BS_of hB1 (by dsimp only; rw [spF_c (by omega), prF_c (by omega) (by omega), prF_c (by omega) (by omega)])
      · exact hB1
    · exact hB
theorem c_set {I : hI} {D : FD} {m : Nat} {v : Int32} (hD : DC 18 D I R T) (hB : BS I) (hp : I 0 9 = nI m) (hm : m ≤ 8) (hP : PR R) : Ze sc (d + 14) 101 [.ref 0, .int v] (HH I J R T) (fun r h => (¬ M_num v ∧ r = some (.int (-3)) ∧ h = HH I J R T) ∨ (M_num v ∧ ∃ I1, CP 25 22 I I1 ∧ dbT m (stF I1 D 25 v.toInt64) J R T r h)) := by
  refine Ze_of (Nat.le_of_ble_eq_true rfl) ?_
  refine Z_jump 1 rfl ?_
  show Zs _ _ (am_P 101).2 (1, [(0, .ref 0), (1, .int v)], [.int v]) (HH I J R T) _
  by_cases b1 : M_num v
  · refine Z_c1 rfl rfl rfl (E_pos (c_isNumber) b1) ?_
    show Zs _ _ (am_P 101).2 (4, [(0, .ref 0), (1, .int v)], [.int (1 : Int32)]) (HH I J R T) _
    refine Z_jump 5 rfl ?_
    show Zs _ _ (am_P 101).2 (18, [(0, .ref 0), (1, .int v)], [.ref 22, .ref 25]) (HH I J R T) _
    refine Z_cQ rfl rfl rfl (Ze_deep (d := 2) (by omega) (c_copy (d := 0) (a := 25) (b := 22) (by decide) (by decide) (by decide))) (fun v h1 hq => ?_)
    obtain ⟨rfl, I1, rfl, hC⟩ := hq
    have hD1 : DC 18 D I1 R T := DC_of hD (hC.1 18 (by decide) (by decide) (by decide)) rfl
    have hB1 : BS I1 := BS_of hB (hC.1 8 (by decide) (by decide) (by decide))
    have hp1 : (stF I1 D 25 v.toInt64).2 0 9 = nI m := by rw [stF_c (by omega) (by omega) (by omega) (by omega), hC.1 0 (by decide) (by decide) (by decide)]; exact hp
    show Zs _ _ (am_P 101).2 (21, [(0, .ref 0), (1, .int v)], []) (HH I1 J R T) _
    refine Z_jump 6 rfl ?_
    show Zs _ _ (am_P 101).2 (29, [(0, .ref 0), (1, .int v)], [.long (Int32.toInt64 v), .ref 25, .ref 0, .ref 0]) (HH I1 J R T) _
    refine Z_c1 rfl rfl rfl (c_settle (by decide) hD1 hB1) ?_
    show Zs _ _ (am_P 101).2 (32, [(0, .ref 0), (1, .int v)], [.int (stF I1 D 25 v.toInt64).1, .ref 0]) (HH (stF I1 D 25 v.toInt64).2 J R T) _
    show Zs _ _ (am_P 101).2 (32, [(0, .ref 0), (1, .int v)], [.int (stF I1 D 25 v.toInt64).1, .ref 0]) (HH (stF I1 D 25 v.toInt64).2 J R T) _
    refine Z_cQ rfl rfl rfl (Ze_deep (d := 4) (by omega) (c_doneByTrial (d := 0) (w := stF I1 D 25 v.toInt64) hp1 hm hP)) (fun x h1 hq => ?_)
    have hq0 := hq
    rcases hq with ⟨_, rfl, rfl⟩ | ⟨_, rfl, I2, R2, I3, _, _, rfl⟩
    · exact Z_rI rfl rfl (Or.inr ⟨b1, I1, hC, hq0⟩)
    · exact Z_rI rfl rfl (Or.inr ⟨b1, I1, hC, hq0⟩)
  · refine Z_c1 rfl rfl rfl (E_neg (c_isNumber) b1) ?_
    show Zs _ _ (am_P 101).2 (4, [(0, .ref 0), (1, .int v)], [.int (0 : Int32)]) (HH I J R T) _
    refine Z_jump 2 rfl ?_
    show Zs _ _ (am_P 101).2 (9, [(0, .ref 0), (1, .int v)], [.int (-3 : Int32)]) (HH I J R T) _
    refine Z_rI rfl (by first | exact am_nw0 _ | exact am_nw01 | rfl | assumption) ?_
    exact Or.inl ⟨b1, rfl, rfl⟩
theorem c_carry {I : hI} {D : FD} {m : Nat} {x : Int32} (hD : DC 18 D I R T) (hp : I 0 9 = nI m) (hm : m ≤ 8) (hP : PR R) : Ze sc (d + 8) 102 [.ref 0, .int x] (HH I J R T) (fun r h => (¬ M_rod D.1 x ∧ r = some (.int (-2)) ∧ h = HH I J R T) ∨ (∃ i, i < D.1 ∧ x = nI i ∧ ∃ I1, CP 25 22 I I1 ∧ dbT m (coF I1 D 25 i) J R T r h)) := by
  refine Ze_of (Nat.le_of_ble_eq_true rfl) ?_
  by_cases hr : M_rod D.1 x
  · obtain ⟨k, hk, hx⟩ := rod_n hr
    obtain ⟨hq, a, hR, hT⟩ := hD.2.2.2 k hk
    subst hx
    refine Z_jump 3 rfl ?_
    show Zs _ _ (am_P 102).2 (5, [(0, .ref 0), (1, .int (nI k))], [.int (nI k), .ref 18]) (HH I J R T) _
    refine Z_c1 rfl rfl rfl (c_rodAt18 hD rfl hk hR) ?_
    show Zs _ _ (am_P 102).2 (8, [(0, .ref 0), (1, .int (nI k))], [.ref (99 + a)]) (HH I J R T) _
    refine Z_jump 5 rfl ?_
    show Zs _ _ (am_P 102).2 (22, [(0, .ref 0), (1, .int (nI k))], [.ref 22, .ref 25]) (HH I J R T) _
    refine Z_cQ rfl rfl rfl (Ze_deep (d := 2) (by omega) (c_copy (d := 0) (a := 25) (b := 22) (by decide) (by decide) (by decide))) (fun v h1 hq => ?_)
    obtain ⟨rfl, I1, rfl, hC⟩ := hq
    have hD1 : DC 18 D I1 R T := DC_of hD (hC.1 18 (by decide) (by decide) (by decide)) rfl
    have hp1 : (coF I1 D 25 k).2 0 9 = nI m := by rw [coF_c (by omega) (by omega) (by omega) (by omega), hC.1 0 (by decide) (by decide) (by decide)]; exact hp
    show Zs _ _ (am_P 102).2 (25, [(0, .ref 0), (1, .int (nI k))], []) (HH I1 J R T) _
    refine Z_jump 5 rfl ?_
    show Zs _ _ (am_P 102).2 (32, [(0, .ref 0), (1, .int (nI k))], [.int (nI k), .ref 25, .ref 0, .ref 0]) (HH I1 J R T) _
    refine Z_c1 rfl rfl rfl (c_carryOver (by decide) hD1 hk) ?_
    show Zs _ _ (am_P 102).2 (35, [(0, .ref 0), (1, .int (nI k))], [.int (coF I1 D 25 k).1, .ref 0]) (HH (coF I1 D 25 k).2 J R T) _
    show Zs _ _ (am_P 102).2 (35, [(0, .ref 0), (1, .int (nI k))], [.int (coF I1 D 25 k).1, .ref 0]) (HH (coF I1 D 25 k).2 J R T) _
    refine Z_cQ rfl rfl rfl (Ze_deep (d := 4) (by omega) (c_doneByTrial (d := 0) (w := coF I1 D 25 k) hp1 hm hP)) (fun x h1 hq => ?_)
    have hq0 := hq
    rcases hq with ⟨_, rfl, rfl⟩ | ⟨_, rfl, I2, R2, I3, _, _, rfl⟩
    · exact Z_rI rfl rfl (Or.inr ⟨k, hk, rfl, I1, hC, hq0⟩)
    · exact Z_rI rfl rfl (Or.inr ⟨k, hk, rfl, I1, hC, hq0⟩)
  · refine Z_jump 3 rfl ?_
    show Zs _ _ (am_P 102).2 (5, [(0, .ref 0), (1, .int x)], [.int x, .ref 18]) (HH I J R T) _
    refine Z_c1 rfl rfl rfl (c_rodAt18n hD hr) ?_
    show Zs _ _ (am_P 102).2 (8, [(0, .ref 0), (1, .int x)], [.null]) (HH I J R T) _
    refine Z_jump 2 rfl ?_
    show Zs _ _ (am_P 102).2 (13, [(0, .ref 0), (1, .int x)], [.int (-2 : Int32)]) (HH I J R T) _
    refine Z_rI rfl (by first | exact am_nw0 _ | exact am_nw01 | rfl | assumption) ?_
    exact Or.inl ⟨hr, rfl, rfl⟩
/-- foretold -/
def wyF (I : hI) (D : FD) (v : Int32) : Int32 × hI := if M_num v then hoF (ldF I D 22 0) D.1 v.toInt64 else (-3, I)
theorem c_ways {I : hI} {D : FD} {v : Int32} (hD : DC 18 D I R T) (hB : BS I) : am_E sc (d + 12) 106 [.ref 0, .int v] (HH I J R T) (some (.int (wyF I D v).1)) (HH (wyF I D v).2 J R T) := by
  refine E_Z (Ze_of (Nat.le_of_ble_eq_true rfl) ?_)
  have hB1 : BS (ldF I D 22 0) := ldF_BS (DC_ok hD) hB
  unfold wyF
  refine Z_jump 1 rfl ?_
  show Zs _ _ (am_P 106).2 (1, [(0, .ref 0), (1, .int v)], [.int v]) (HH I J R T) _
  by_cases b1 : M_num v
  · refine Z_c1 rfl rfl rfl (E_pos (c_isNumber) b1) ?_
    show Zs _ _ (am_P 106).2 (4, [(0, .ref 0), (1, .int v)], [.int (1 : Int32)]) (HH I J R T) _
    refine Z_jump 8 rfl ?_
    show Zs _ _ (am_P 106).2 (23, [(0, .ref 0), (1, .int v)], [.int (0 : Int32), .ref 22, .ref 18, .ref 4]) (HH I J R T) _
    refine Z_c0 rfl rfl rfl (c_load (by decide) hD) ?_
    show Zs _ _ (am_P 106).2 (26, [(0, .ref 0), (1, .int v)], []) (HH (ldF I D 22 0) J R T) _
    refine Z_jump 4 rfl ?_
    show Zs _ _ (am_P 106).2 (32, [(0, .ref 0), (1, .int v)], [.long (Int32.toInt64 v), .ref 4]) (HH (ldF I D 22 0) J R T) _
    refine Z_c1 rfl rfl rfl (c_howMany hD.2.1 ldF_13 hB1) ?_
    show Zs _ _ (am_P 106).2 (35, [(0, .ref 0), (1, .int v)], [.int (hoF (ldF I D 22 0) D.1 v.toInt64).1]) (HH (hoF (ldF I D 22 0) D.1 v.toInt64).2 J R T) _
    show Zs _ _ (am_P 106).2 (35, [(0, .ref 0), (1, .int v)], [.int (hoF (ldF I D 22 0) D.1 v.toInt64).1]) (HH (hoF (ldF I D 22 0) D.1 v.toInt64).2 J R T) _
    refine Z_rI rfl (by first | exact am_nw0 _ | exact am_nw01 | rfl | assumption) ?_
    rw [if_pos b1]
    exact ⟨rfl, rfl⟩
  · refine Z_c1 rfl rfl rfl (E_neg (c_isNumber) b1) ?_
    show Zs _ _ (am_P 106).2 (4, [(0, .ref 0), (1, .int v)], [.int (0 : Int32)]) (HH I J R T) _
    refine Z_jump 2 rfl ?_
    show Zs _ _ (am_P 106).2 (9, [(0, .ref 0), (1, .int v)], [.int (-3 : Int32)]) (HH I J R T) _
    refine Z_rI rfl (by first | exact am_nw0 _ | exact am_nw01 | rfl | assumption) ?_
    rw [if_neg b1]
    exact ⟨rfl, rfl⟩
def lcF (I : hI) (D : FD) (v lo : Int32) : Int32 × hI := (if (leF (ldF I D 22 lo) D.1 v.toInt64).1 < 1048576 then (leF (ldF I D 22 lo) D.1 v.toInt64).1 else -1, (leF (ldF I D 22 lo) D.1 v.toInt64).2)
theorem c_leastCost {I : hI} {D : FD} {v lo : Int32} (hD : DC 18 D I R T) (hB : BS I) : am_E sc (d + 12) 133 [.ref 0, .int v, .int lo] (HH I J R T) (some (.int (lcF I D v lo).1)) (HH (lcF I D v lo).2 J R T) := by
  refine E_Z (Ze_of (Nat.le_of_ble_eq_true rfl) ?_)
  have hB1 : BS (ldF I D 22 lo) := ldF_BS (DC_ok hD) hB
  unfold lcF
  refine Z_jump 7 rfl ?_
  show Zs _ _ (am_P 133).2 (13, [(0, .ref 0), (1, .int v), (2, .int lo)], [.int lo, .ref 22, .ref 18, .ref 4]) (HH I J R T) _
  refine Z_c0 rfl rfl rfl (c_load (by decide) hD) ?_
  show Zs _ _ (am_P 133).2 (16, [(0, .ref 0), (1, .int v), (2, .int lo)], []) (HH (ldF I D 22 lo) J R T) _
  refine Z_jump 4 rfl ?_
  show Zs _ _ (am_P 133).2 (22, [(0, .ref 0), (1, .int v), (2, .int lo)], [.long (Int32.toInt64 v), .ref 4]) (HH (ldF I D 22 lo) J R T) _
  refine Z_c1 rfl rfl rfl (c_least hD.2.1 ldF_13 hB1) ?_
  show Zs _ _ (am_P 133).2 (25, [(0, .ref 0), (1, .int v), (2, .int lo)], [.int (leF (ldF I D 22 lo) D.1 v.toInt64).1]) (HH (leF (ldF I D 22 lo) D.1 v.toInt64).2 J R T) _
  refine Z_jump 4 rfl ?_
  refine Z_bd (fun (c29 : (leF (ldF I D 22 lo) D.1 v.toInt64).1 < (1048576 : Int32)) => ?_) (fun (c29 : ¬ ((leF (ldF I D 22 lo) D.1 v.toInt64).1 < (1048576 : Int32))) => ?_)
  · refine Z_jump 1 rfl ?_
    show Zs _ _ (am_P 133).2 (37, [(0, .ref 0), (1, .int v), (2, .int lo), (3, .int (leF (ldF I D 22 lo) D.1 v.toInt64).1)], [.int (leF (ldF I D 22 lo) D.1 v.toInt64).1]) (HH (leF (ldF I D 22 lo) D.1 v.toInt64).2 J R T) _
    refine Z_rI rfl (by first | exact am_nw0 _ | exact am_nw01 | rfl | assumption) ?_
    rw [if_pos c29]
    exact ⟨rfl, rfl⟩
  · refine Z_jump 2 rfl ?_
    show Zs _ _ (am_P 133).2 (37, [(0, .ref 0), (1, .int v), (2, .int lo), (3, .int (leF (ldF I D 22 lo) D.1 v.toInt64).1)], [.int (-1 : Int32)]) (HH (leF (ldF I D 22 lo) D.1 v.toInt64).2 J R T) _
    refine Z_rI rfl (by first | exact am_nw0 _ | exact am_nw01 | rfl | assumption) ?_
    rw [if_neg c29]
    exact ⟨rfl, rfl⟩
def tiF (I : hI) (D : FD) (v : Int32) : Int32 × hI := if M_num v then lcF I D v 0 else (-3, I)
theorem c_time {I : hI} {D : FD} {v : Int32} (hD : DC 18 D I R T) (hB : BS I) : am_E sc (d + 13) 107 [.ref 0, .int v] (HH I J R T) (some (.int (tiF I D v).1)) (HH (tiF I D v).2 J R T) := by
  refine E_Z (Ze_of (Nat.le_of_ble_eq_true rfl) ?_)
  unfold tiF
  refine Z_jump 1 rfl ?_
  show Zs _ _ (am_P 107).2 (1, [(0, .ref 0), (1, .int v)], [.int v]) (HH I J R T) _
  by_cases b1 : M_num v
  · refine Z_c1 rfl rfl rfl (E_pos (c_isNumber) b1) ?_
    show Zs _ _ (am_P 107).2 (4, [(0, .ref 0), (1, .int v)], [.int (1 : Int32)]) (HH I J R T) _
    refine Z_jump 4 rfl ?_
    show Zs _ _ (am_P 107).2 (10, [(0, .ref 0), (1, .int v)], [.int (0 : Int32), .int v, .ref 0]) (HH I J R T) _
    refine Z_c1 rfl rfl rfl (c_leastCost hD hB) ?_
    show Zs _ _ (am_P 107).2 (13, [(0, .ref 0), (1, .int v)], [.int (lcF I D v 0).1]) (HH (lcF I D v 0).2 J R T) _
    refine Z_jump 1 rfl ?_
    show Zs _ _ (am_P 107).2 (18, [(0, .ref 0), (1, .int v)], [.int (lcF I D v 0).1]) (HH (lcF I D v 0).2 J R T) _
    refine Z_rI rfl (by first | exact am_nw0 _ | exact am_nw01 | rfl | assumption) ?_
    rw [if_pos b1]
    exact ⟨rfl, rfl⟩
  · refine Z_c1 rfl rfl rfl (E_neg (c_isNumber) b1) ?_
    show Zs _ _ (am_P 107).2 (4, [(0, .ref 0), (1, .int v)], [.int (0 : Int32)]) (HH I J R T) _
    refine Z_jump 2 rfl ?_
    show Zs _ _ (am_P 107).2 (18, [(0, .ref 0), (1, .int v)], [.int (-3 : Int32)]) (HH I J R T) _
    refine Z_rI rfl (by first | exact am_nw0 _ | exact am_nw01 | rfl | assumption) ?_
    rw [if_neg b1]
    exact ⟨rfl, rfl⟩
def loF (I : hI) (D : FD) (v : Int32) : Int32 × hI := if M_num v then (if (lcF I D v 1).1 = -1 then -1 else (lcF I D v 1).1 &&& 4095, (lcF I D v 1).2) else (-3, I)
theorem c_loosen {I : hI} {D : FD} {v : Int32} (hD : DC 18 D I R T) (hB : BS I) : am_E sc (d + 13) 111 [.ref 0, .int v] (HH I J R T) (some (.int (loF I D v).1)) (HH (loF I D v).2 J R T) := by
  refine E_Z (Ze_of (Nat.le_of_ble_eq_true rfl) ?_)
  unfold loF
  refine Z_jump 1 rfl ?_
  show Zs _ _ (am_P 111).2 (1, [(0, .ref 0), (1, .int v)], [.int v]) (HH I J R T) _
  by_cases b1 : M_num v
  · refine Z_c1 rfl rfl rfl (E_pos (c_isNumber) b1) ?_
    show Zs _ _ (am_P 111).2 (4, [(0, .ref 0), (1, .int v)], [.int (1 : Int32)]) (HH I J R T) _
    refine Z_jump 4 rfl ?_
    show Zs _ _ (am_P 111).2 (13, [(0, .ref 0), (1, .int v)], [.int (1 : Int32), .int v, .ref 0]) (HH I J R T) _
    refine Z_c1 rfl rfl rfl (c_leastCost hD hB) ?_
    show Zs _ _ (am_P 111).2 (16, [(0, .ref 0), (1, .int v)], [.int (lcF I D v 1).1]) (HH (lcF I D v 1).2 J R T) _
    refine Z_jump 4 rfl ?_
    refine Z_bn (fun (c19 : ¬ ((lcF I D v 1).1 = (-1 : Int32))) => ?_) (fun (c19 : (lcF I D v 1).1 = (-1 : Int32)) => ?_)
    · refine Z_jump 3 rfl ?_
      show Zs _ _ (am_P 111).2 (31, [(0, .ref 0), (1, .int v), (2, .int (lcF I D v 1).1)], [.int ((lcF I D v 1).1 &&& (4095 : Int32))]) (HH (lcF I D v 1).2 J R T) _
      refine Z_rI rfl (by first | exact am_nw0 _ | exact am_nw01 | rfl | assumption) ?_
      rw [if_pos b1, if_neg c19]
      exact ⟨rfl, rfl⟩
    · refine Z_jump 2 rfl ?_
      show Zs _ _ (am_P 111).2 (31, [(0, .ref 0), (1, .int v), (2, .int (lcF I D v 1).1)], [.int (-1 : Int32)]) (HH (lcF I D v 1).2 J R T) _
      refine Z_rI rfl (by first | exact am_nw0 _ | exact am_nw01 | rfl | assumption) ?_
      rw [if_pos b1, if_pos c19]
      exact ⟨rfl, rfl⟩
  · refine Z_c1 rfl rfl rfl (E_neg (c_isNumber) b1) ?_
    show Zs _ _ (am_P 111).2 (4, [(0, .ref 0), (1, .int v)], [.int (0 : Int32)]) (HH I J R T) _
    refine Z_jump 2 rfl ?_
    show Zs _ _ (am_P 111).2 (9, [(0, .ref 0), (1, .int v)], [.int (-3 : Int32)]) (HH I J R T) _
    refine Z_rI rfl (by first | exact am_nw0 _ | exact am_nw01 | rfl | assumption) ?_
    rw [if_neg b1]
    exact ⟨rfl, rfl⟩
/-- pushed -/
theorem c_pushed {I : hI} {D : FD} {v x p : Int32} (hD : DC 18 D I R T) (hB : BS I) : Ze sc (d + 14) 108 [.ref 0, .int v, .int x, .int p] (HH I J R T) (fun r h => (¬ (M_rod D.1 x ∧ bit01 p) ∧ r = some (.int (-2)) ∧ h = HH I J R T) ∨ ((M_rod D.1 x ∧ bit01 p) ∧ ¬ M_num v ∧ r = some (.int (-3)) ∧ h = HH I J R T) ∨ (∃ i, i < D.1 ∧ x = nI i ∧ bit01 p ∧ M_num v ∧ ∃ I1, CP 25 22 I I1 ∧ h = HH (stF I1 D 25 v.toInt64).2 J R T ∧ r = some (.int (if (stF I1 D 25 v.toInt64).1 = -1 then -1 else bdF (stF I1 D 25 v.toInt64).2 25 i p)))) := by
  refine Ze_of (Nat.le_of_ble_eq_true rfl) ?_
  by_cases hr : M_rod D.1 x
  · obtain ⟨k, hk, hx⟩ := rod_n hr
    obtain ⟨hq, a, hR, hT⟩ := hD.2.2.2 k hk
    have h6 := hD.2.1
    by_cases hb : bit01 p
    · refine Z_jump 3 rfl ?_
      show Zs _ _ (am_P 108).2 (5, [(0, .ref 0), (1, .int v), (2, .int x), (3, .int p)], [.int x, .ref 18]) (HH I J R T) _
      refine Z_c1 rfl rfl rfl (c_rodAt18 hD hx hk hR) ?_
      show Zs _ _ (am_P 108).2 (8, [(0, .ref 0), (1, .int v), (2, .int x), (3, .int p)], [.ref (99 + a)]) (HH I J R T) _
      refine Z_jump 2 rfl ?_
      show Zs _ _ (am_P 108).2 (12, [(0, .ref 0), (1, .int v), (2, .int x), (3, .int p)], [.int p]) (HH I J R T) _
      refine Z_c1 rfl rfl rfl (E_pos c_isPart hb) ?_
      show Zs _ _ (am_P 108).2 (15, [(0, .ref 0), (1, .int v), (2, .int x), (3, .int p)], [.int (1 : Int32)]) (HH I J R T) _
      refine Z_jump 2 rfl ?_
      show Zs _ _ (am_P 108).2 (22, [(0, .ref 0), (1, .int v), (2, .int x), (3, .int p)], [.int v]) (HH I J R T) _
      by_cases b22 : M_num v
      · refine Z_c1 rfl rfl rfl (E_pos (c_isNumber) b22) ?_
        show Zs _ _ (am_P 108).2 (25, [(0, .ref 0), (1, .int v), (2, .int x), (3, .int p)], [.int (1 : Int32)]) (HH I J R T) _
        refine Z_jump 5 rfl ?_
        show Zs _ _ (am_P 108).2 (39, [(0, .ref 0), (1, .int v), (2, .int x), (3, .int p)], [.ref 22, .ref 25]) (HH I J R T) _
        refine Z_cQ rfl rfl rfl (Ze_deep (d := 2) (by omega) (c_copy (d := 0) (a := 25) (b := 22) (by decide) (by decide) (by decide))) (fun v h1 hq => ?_)
        obtain ⟨rfl, I1, rfl, hC⟩ := hq
        have hD1 : DC 18 D I1 R T := DC_of hD (hC.1 18 (by decide) (by decide) (by decide)) rfl
        have hB1 : BS I1 := BS_of hB (hC.1 8 (by decide) (by decide) (by decide))
        show Zs _ _ (am_P 108).2 (42, [(0, .ref 0), (1, .int v), (2, .int x), (3, .int p)], []) (HH I1 J R T) _
        refine Z_jump 5 rfl ?_
        show Zs _ _ (am_P 108).2 (49, [(0, .ref 0), (1, .int v), (2, .int x), (3, .int p)], [.long (Int32.toInt64 v), .ref 25, .ref 0]) (HH I1 J R T) _
        refine Z_c1 rfl rfl rfl (c_settle (by decide) hD1 hB1) ?_
        show Zs _ _ (am_P 108).2 (52, [(0, .ref 0), (1, .int v), (2, .int x), (3, .int p)], [.int (stF I1 D 25 v.toInt64).1]) (HH (stF I1 D 25 v.toInt64).2 J R T) _
        refine Z_jump 2 rfl ?_
        refine Z_bn (fun (c53 : ¬ ((stF I1 D 25 v.toInt64).1 = (-1 : Int32))) => ?_) (fun (c53 : (stF I1 D 25 v.toInt64).1 = (-1 : Int32)) => ?_)
        · refine Z_jump 4 rfl ?_
          show Zs _ _ (am_P 108).2 (66, [(0, .ref 0), (1, .int v), (2, .int x), (3, .int p)], [.int p, .int x, .ref 25]) (HH (stF I1 D 25 v.toInt64).2 J R T) _
          refine Z_c1 rfl rfl rfl (c_beads (a := 25) (by decide) hx (by omega)) ?_
          show Zs _ _ (am_P 108).2 (69, [(0, .ref 0), (1, .int v), (2, .int x), (3, .int p)], [.int (bdF (stF I1 D 25 v.toInt64).2 25 k p)]) (HH (stF I1 D 25 v.toInt64).2 J R T) _
          show Zs _ _ (am_P 108).2 (69, [(0, .ref 0), (1, .int v), (2, .int x), (3, .int p)], [.int (bdF (stF I1 D 25 v.toInt64).2 25 k p)]) (HH (stF I1 D 25 v.toInt64).2 J R T) _
          refine Z_rI rfl (by first | exact am_nw0 _ | exact am_nw01 | rfl | assumption) ?_
          exact Or.inr (Or.inr ⟨k, hk, hx, hb, b22, I1, hC, rfl, am_ii (if_neg c53).symm⟩)
        · refine Z_jump 2 rfl ?_
          show Zs _ _ (am_P 108).2 (69, [(0, .ref 0), (1, .int v), (2, .int x), (3, .int p)], [.int (-1 : Int32)]) (HH (stF I1 D 25 v.toInt64).2 J R T) _
          refine Z_rI rfl (by first | exact am_nw0 _ | exact am_nw01 | rfl | assumption) ?_
          exact Or.inr (Or.inr ⟨k, hk, hx, hb, b22, I1, hC, rfl, am_ii (if_pos c53).symm⟩)
      · refine Z_c1 rfl rfl rfl (E_neg (c_isNumber) b22) ?_
        show Zs _ _ (am_P 108).2 (25, [(0, .ref 0), (1, .int v), (2, .int x), (3, .int p)], [.int (0 : Int32)]) (HH I J R T) _
        refine Z_jump 2 rfl ?_
        show Zs _ _ (am_P 108).2 (30, [(0, .ref 0), (1, .int v), (2, .int x), (3, .int p)], [.int (-3 : Int32)]) (HH I J R T) _
        refine Z_rI rfl (by first | exact am_nw0 _ | exact am_nw01 | rfl | assumption) ?_
        exact Or.inr (Or.inl ⟨⟨hr, hb⟩, b22, rfl, rfl⟩)
    · refine Z_jump 3 rfl ?_
      show Zs _ _ (am_P 108).2 (5, [(0, .ref 0), (1, .int v), (2, .int x), (3, .int p)], [.int x, .ref 18]) (HH I J R T) _
      refine Z_c1 rfl rfl rfl (c_rodAt18 hD hx hk hR) ?_
      show Zs _ _ (am_P 108).2 (8, [(0, .ref 0), (1, .int v), (2, .int x), (3, .int p)], [.ref (99 + a)]) (HH I J R T) _
      refine Z_jump 2 rfl ?_
      show Zs _ _ (am_P 108).2 (12, [(0, .ref 0), (1, .int v), (2, .int x), (3, .int p)], [.int p]) (HH I J R T) _
      refine Z_c1 rfl rfl rfl (E_neg c_isPart hb) ?_
      show Zs _ _ (am_P 108).2 (15, [(0, .ref 0), (1, .int v), (2, .int x), (3, .int p)], [.int (0 : Int32)]) (HH I J R T) _
      refine Z_jump 2 rfl ?_
      show Zs _ _ (am_P 108).2 (20, [(0, .ref 0), (1, .int v), (2, .int x), (3, .int p)], [.int (-2 : Int32)]) (HH I J R T) _
      refine Z_rI rfl (by first | exact am_nw0 _ | exact am_nw01 | rfl | assumption) ?_
      exact Or.inl ⟨fun z => hb z.2, rfl, rfl⟩
  · refine Z_jump 3 rfl ?_
    show Zs _ _ (am_P 108).2 (5, [(0, .ref 0), (1, .int v), (2, .int x), (3, .int p)], [.int x, .ref 18]) (HH I J R T) _
    refine Z_c1 rfl rfl rfl (c_rodAt18n hD hr) ?_
    show Zs _ _ (am_P 108).2 (8, [(0, .ref 0), (1, .int v), (2, .int x), (3, .int p)], [.null]) (HH I J R T) _
    refine Z_jump 2 rfl ?_
    show Zs _ _ (am_P 108).2 (20, [(0, .ref 0), (1, .int v), (2, .int x), (3, .int p)], [.int (-2 : Int32)]) (HH I J R T) _
    refine Z_rI rfl (by first | exact am_nw0 _ | exact am_nw01 | rfl | assumption) ?_
    exact Or.inl ⟨fun z => hr z.1, rfl, rfl⟩
end WY7

