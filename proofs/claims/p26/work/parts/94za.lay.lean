/-! The reference: onward, layCell, lay, isShown. -/
section MLY
variable {sc : Nat × (Nat → Int32)} {d : Nat} {R : hR} {T : am_H} {Q : Option Value → am_H → Prop}
abbrev DMf (D : FD) (I : hI) : Prop := DM 0 7 74 D I
theorem DMf_of {D : FD} {I I' : hI} (h : DMf D I) (e0 : I' 73 = I 73) (e1 : I' 74 = I 74) (e2 : I' 75 = I 75) (e3 : I' 76 = I 76) (e4 : I' 77 = I 77) : DMf D I' :=
  ⟨by rw [e0]; exact h.1, h.2.1, by rw [e0]; exact h.2.2.1, fun k hk => ⟨(h.2.2.2 k hk).1, by rw [e1]; exact (h.2.2.2 k hk).2.1, (congrFun e2 k).trans (h.2.2.2 k hk).2.2.1, (congrFun e3 k).trans (h.2.2.2 k hk).2.2.2.1, (congrFun e4 k).trans (h.2.2.2 k hk).2.2.2.2⟩⟩
def bsL (D : FD) (r : Nat) : Int64 := (nI (D.2.1 r).2.1).toInt64
def lfO (J : hJ) (r : Nat) (c s : Int32) : Int64 := J 80 r - c.toInt64 - s.toInt64
def crO (J : hJ) (D : FD) (r : Nat) (c s : Int32) : Int64 := J 80 (r + 1) - lfO J r c s / bsL D r
def onF (J : hJ) (D : FD) (r : Nat) (c s : Int32) : Int32 :=
  if lfO J r c s < 0 then -1 else if lfO J r c s - lfO J r c s / bsL D r * bsL D r = 0 then (if 64 ≤ crO J D r c s then -1 else (crO J D r c s).toInt32) else -1
theorem bsL_b {D : FD} {r : Nat} (h : okR (D.2.1 r)) : (bsL D r).toInt = ((D.2.1 r).2.1 : Int) ∧ 2 ≤ (bsL D r).toInt ∧ (bsL D r).toInt ≤ 16 := by
  have hb := h.2.1
  have e : (bsL D r).toInt = ((D.2.1 r).2.1 : Int) := by unfold bsL; rw [tl_i, nI_toInt (by omega)]
  exact ⟨e, by omega, by omega⟩
theorem bsL_0 {D : FD} {r : Nat} (h : okR (D.2.1 r)) : ¬ bsL D r = 0 := fun z => by
  have := (bsL_b h).2.1
  rw [z] at this
  exact absurd this (by decide)
theorem m_onward {I : hI} {J : hJ} {D : FD} {r : Nat} {x c s : Int32} (hD : DMf D I) (hx : x = nI r) (hr : r < D.1) : am_E sc (d + 1) 165 [.ref 73, .int x, .int c, .int s] (HH I J R T) (some (.int (onF J D r c s))) (HH I J R T) := by
  refine E_Z (Ze_of (Nat.le_of_ble_eq_true rfl) ?_)
  have h6 := hD.2.1
  have hq := hD.2.2.2 r hr
  have hb0 := bsL_0 hq.1
  have eb : Int32.toInt64 (I 75 r) = bsL D r := by unfold bsL; rw [show I 75 r = nI (D.2.1 r).2.1 from hq.2.2.1]
  have e1 : x + 1 = nI (r + 1) := by rw [hx]; exact nI_1 r
  unfold onF
  refine Z_jump 3 rfl ?_
  show Zs _ _ (am_P 165).2 (5, [(0, .ref 73), (1, .int x), (2, .int c), (3, .int s)], [.int x, .ref 80]) (HH I J R T) _
  refine Z_lalK (r) rfl rfl (hx) (by omega) (by decide) ?_
  show Zs _ _ (am_P 165).2 (6, [(0, .ref 73), (1, .int x), (2, .int c), (3, .int s)], [.long (J 80 r)]) (HH I J R T) _
  refine Z_jump 6 rfl ?_
  show Zs _ _ (am_P 165).2 (12, [(0, .ref 73), (1, .int x), (2, .int c), (3, .int s)], [.long (((J 80 r) - (Int32.toInt64 c)) - (Int32.toInt64 s))]) (HH I J R T) _
  refine Z_eqL (y := (lfO J r c s)) (rfl) ?_
  show Zs _ _ (am_P 165).2 (12, [(0, .ref 73), (1, .int x), (2, .int c), (3, .int s)], [.long (lfO J r c s)]) (HH I J R T) _
  refine Z_jump 5 rfl ?_
  refine Z_bd (fun (c18 : (lg_cmp (lfO J r c s) (0 : Int64)) < (0 : Int32)) => ?_) (fun (c18 : ¬ ((lg_cmp (lfO J r c s) (0 : Int64)) < (0 : Int32))) => ?_)
  · rw [lc_lt] at c18
    refine Z_jump 1 rfl ?_
    show Zs _ _ (am_P 165).2 (37, [(0, .ref 73), (1, .int x), (2, .int c), (3, .int s), (4, .long (lfO J r c s))], [.int (-1 : Int32)]) (HH I J R T) _
    refine Z_rI rfl (by first | exact am_nw0 _ | exact am_nw01 | rfl | assumption) ?_
    exact ⟨am_ii (by rw [if_pos c18]), rfl⟩
  · rw [lc_lt] at c18
    refine Z_jump 4 rfl ?_
    show Zs _ _ (am_P 165).2 (28, [(0, .ref 73), (1, .int x), (2, .int c), (3, .int s), (4, .long (lfO J r c s))], [.int x, .ref 75, .long (lfO J r c s)]) (HH I J R T) _
    refine Z_ialK (r) rfl rfl (hx) (by omega) (by decide) ?_
    show Zs _ _ (am_P 165).2 (29, [(0, .ref 73), (1, .int x), (2, .int c), (3, .int s), (4, .long (lfO J r c s))], [.int (I 75 r), .long (lfO J r c s)]) (HH I J R T) _
    refine Z_jump 1 rfl ?_
    show Zs _ _ (am_P 165).2 (30, [(0, .ref 73), (1, .int x), (2, .int c), (3, .int s), (4, .long (lfO J r c s))], [.long (Int32.toInt64 (I 75 r)), .long (lfO J r c s)]) (HH I J R T) _
    refine Z_eqL (y := (bsL D r)) (eb) ?_
    show Zs _ _ (am_P 165).2 (30, [(0, .ref 73), (1, .int x), (2, .int c), (3, .int s), (4, .long (lfO J r c s))], [.long (bsL D r), .long (lfO J r c s)]) (HH I J R T) _
    show Zs _ _ (am_P 165).2 (30, [(0, .ref 73), (1, .int x), (2, .int c), (3, .int s), (4, .long (lfO J r c s))], [.long (bsL D r), .long (lfO J r c s)]) (HH I J R T) _
    refine Z_lrem rfl (by exact hb0) ?_
    refine Z_jump 3 rfl ?_
    refine Z_bd (fun (c33 : (lg_cmp ((lfO J r c s) - (lfO J r c s) / (bsL D r) * (bsL D r)) (0 : Int64)) = (0 : Int32)) => ?_) (fun (c33 : ¬ ((lg_cmp ((lfO J r c s) - (lfO J r c s) / (bsL D r) * (bsL D r)) (0 : Int64)) = (0 : Int32))) => ?_)
    · rw [lc_eq] at c33
      refine Z_jump 5 rfl ?_
      show Zs _ _ (am_P 165).2 (45, [(0, .ref 73), (1, .int x), (2, .int c), (3, .int s), (4, .long (lfO J r c s))], [.int (x + (1 : Int32)), .ref 80]) (HH I J R T) _
      refine Z_lalK (r + 1) rfl rfl (e1) (by omega) (by decide) ?_
      show Zs _ _ (am_P 165).2 (46, [(0, .ref 73), (1, .int x), (2, .int c), (3, .int s), (4, .long (lfO J r c s))], [.long (J 80 (r + 1))]) (HH I J R T) _
      refine Z_jump 4 rfl ?_
      show Zs _ _ (am_P 165).2 (53, [(0, .ref 73), (1, .int x), (2, .int c), (3, .int s), (4, .long (lfO J r c s))], [.int x, .ref 75, .long (lfO J r c s), .long (J 80 (r + 1))]) (HH I J R T) _
      refine Z_ialK (r) rfl rfl (hx) (by omega) (by decide) ?_
      show Zs _ _ (am_P 165).2 (54, [(0, .ref 73), (1, .int x), (2, .int c), (3, .int s), (4, .long (lfO J r c s))], [.int (I 75 r), .long (lfO J r c s), .long (J 80 (r + 1))]) (HH I J R T) _
      refine Z_jump 1 rfl ?_
      show Zs _ _ (am_P 165).2 (55, [(0, .ref 73), (1, .int x), (2, .int c), (3, .int s), (4, .long (lfO J r c s))], [.long (Int32.toInt64 (I 75 r)), .long (lfO J r c s), .long (J 80 (r + 1))]) (HH I J R T) _
      refine Z_eqL (y := (bsL D r)) (eb) ?_
      show Zs _ _ (am_P 165).2 (55, [(0, .ref 73), (1, .int x), (2, .int c), (3, .int s), (4, .long (lfO J r c s))], [.long (bsL D r), .long (lfO J r c s), .long (J 80 (r + 1))]) (HH I J R T) _
      show Zs _ _ (am_P 165).2 (55, [(0, .ref 73), (1, .int x), (2, .int c), (3, .int s), (4, .long (lfO J r c s))], [.long (bsL D r), .long (lfO J r c s), .long (J 80 (r + 1))]) (HH I J R T) _
      refine Z_ldiv rfl (by exact hb0) ?_
      refine Z_jump 1 rfl ?_
      show Zs _ _ (am_P 165).2 (57, [(0, .ref 73), (1, .int x), (2, .int c), (3, .int s), (4, .long (lfO J r c s))], [.long ((J 80 (r + 1)) - ((lfO J r c s) / (bsL D r)))]) (HH I J R T) _
      refine Z_eqL (y := (crO J D r c s)) (rfl) ?_
      show Zs _ _ (am_P 165).2 (57, [(0, .ref 73), (1, .int x), (2, .int c), (3, .int s), (4, .long (lfO J r c s))], [.long (crO J D r c s)]) (HH I J R T) _
      refine Z_jump 5 rfl ?_
      refine Z_bd (fun (c65 : (0 : Int32) ≤ (lg_cmp (crO J D r c s) (64 : Int64))) => ?_) (fun (c65 : ¬ ((0 : Int32) ≤ (lg_cmp (crO J D r c s) (64 : Int64)))) => ?_)
      · rw [lc_ge] at c65
        refine Z_jump 1 rfl ?_
        show Zs _ _ (am_P 165).2 (75, [(0, .ref 73), (1, .int x), (2, .int c), (3, .int s), (4, .long (lfO J r c s)), (6, .long (crO J D r c s))], [.int (-1 : Int32)]) (HH I J R T) _
        refine Z_rI rfl (by first | exact am_nw0 _ | exact am_nw01 | rfl | assumption) ?_
        exact ⟨am_ii (by rw [if_neg c18, if_pos c33, if_pos c65]), rfl⟩
      · rw [lc_ge] at c65
        refine Z_jump 3 rfl ?_
        show Zs _ _ (am_P 165).2 (75, [(0, .ref 73), (1, .int x), (2, .int c), (3, .int s), (4, .long (lfO J r c s)), (6, .long (crO J D r c s))], [.int (Int64.toInt32 (crO J D r c s))]) (HH I J R T) _
        refine Z_rI rfl (by first | exact am_nw0 _ | exact am_nw01 | rfl | assumption) ?_
        exact ⟨am_ii (by rw [if_neg c18, if_pos c33, if_neg c65]), rfl⟩
    · rw [lc_eq] at c33
      refine Z_jump 1 rfl ?_
      show Zs _ _ (am_P 165).2 (37, [(0, .ref 73), (1, .int x), (2, .int c), (3, .int s), (4, .long (lfO J r c s))], [.int (-1 : Int32)]) (HH I J R T) _
      refine Z_rI rfl (by first | exact am_nw0 _ | exact am_nw01 | rfl | assumption) ?_
      exact ⟨am_ii (by rw [if_neg c18, if_neg c33]), rfl⟩
/-- what is due for each rod -/
def DU (J : hJ) (D : FD) : Prop := (0 ≤ (J 80 0).toInt ∧ (J 80 0).toInt ≤ 1000000000) ∧ ∀ r, r < D.1 → J 80 (r + 1) = J 80 r / bsL D r
theorem DU_b {J : hJ} {D : FD} (h : DU J D) (ho : ∀ k, k < D.1 → okR (D.2.1 k)) : ∀ r, r ≤ D.1 → 0 ≤ (J 80 r).toInt ∧ (J 80 r).toInt ≤ 1000000000
  | 0, hr => h.1
  | r + 1, hr => by
    have ih := DU_b h ho r (by omega)
    have hb := (bsL_b (ho r (by omega))).2.1
    rw [h.2 r (by omega), tl_div hb]
    have h1 := Int.tdiv_nonneg ih.1 (show 0 ≤ (bsL D r).toInt by omega)
    have h2 := Int.tdiv_le_self (bsL D r).toInt ih.1
    omega
theorem DU_s {J : hJ} {D : FD} (h : DU J D) (ho : ∀ k, k < D.1 → okR (D.2.1 k)) {r : Nat} (hr : r < D.1) : (J 80 (r + 1)).toInt = (J 80 r).toInt / ((D.2.1 r).2.1 : Int) := by
  have hb := bsL_b (ho r hr)
  have h0 := DU_b h ho r (by omega)
  rw [h.2 r hr, tl_div hb.2.1, hb.1, Int.tdiv_eq_ediv_of_nonneg h0.1]
theorem lfO_t {J : hJ} {D : FD} (h : DU J D) (ho : ∀ k, k < D.1 → okR (D.2.1 k)) {r : Nat} (hr : r < D.1) {c s : Int32} (hc : -100 ≤ c.toInt ∧ c.toInt ≤ 100) (hs : -100 ≤ s.toInt ∧ s.toInt ≤ 100) : (lfO J r c s).toInt = (J 80 r).toInt - c.toInt - s.toInt := by
  have h0 := DU_b h ho r (by omega)
  have e1 : (J 80 r - c.toInt64).toInt = (J 80 r).toInt - c.toInt := by rw [tl_sub, tl_i] <;> (rw [tl_i]; omega)
  unfold lfO
  rw [tl_sub, e1, tl_i] <;> (rw [e1, tl_i]; omega)
/-- where a choice leads: within the row, or nowhere -/
theorem onF_b {J : hJ} {D : FD} (h : DU J D) (ho : ∀ k, k < D.1 → okR (D.2.1 k)) {r : Nat} (hr : r < D.1) {c s : Int32} (hc : -2 ≤ c.toInt ∧ c.toInt ≤ 63) (hs : -1 ≤ s.toInt ∧ s.toInt ≤ 39) : -2 ≤ (onF J D r c s).toInt ∧ (onF J D r c s).toInt ≤ 63 := by
  have m1 : (-1 : Int32).toInt = -1 := rfl
  have z0 : (0 : Int64).toInt = 0 := rfl
  have z64 : (64 : Int64).toInt = 64 := rfl
  have h0 := DU_b h ho r (by omega)
  have h1 := DU_b h ho (r + 1) (by omega)
  have hb := bsL_b (ho r hr)
  have hbb := (ho r hr).2.1
  have hl := lfO_t h ho hr (c := c) (s := s) (by omega) (by omega)
  unfold onF
  split
  · omega
  · rename_i hn
    rw [fi_ltL] at hn
    split
    · have hd0 := Int.tdiv_nonneg (show 0 ≤ (lfO J r c s).toInt by omega) (show 0 ≤ (bsL D r).toInt by omega)
      have hd1 := Int.tdiv_le_self (bsL D r).toInt (show 0 ≤ (lfO J r c s).toInt by omega)
      have ec : (crO J D r c s).toInt = (J 80 (r + 1)).toInt - (lfO J r c s).toInt.tdiv (bsL D r).toInt := by
        unfold crO
        rw [tl_sub, tl_div hb.2.1] <;> (rw [tl_div hb.2.1]; omega)
      have hlo : (lfO J r c s).toInt.tdiv (bsL D r).toInt ≤ (J 80 (r + 1)).toInt + 2 := by
        rw [DU_s h ho hr, Int.tdiv_eq_ediv_of_nonneg (by omega), hb.1]
        have e2 : (J 80 r).toInt / ((D.2.1 r).2.1 : Int) + 2 = ((J 80 r).toInt + 2 * ((D.2.1 r).2.1 : Int)) / ((D.2.1 r).2.1 : Int) := by
          rw [Int.add_mul_ediv_right _ _ (by omega)]
        rw [e2]
        exact Int.ediv_le_ediv (by omega) (by omega)
      split
      · omega
      · rename_i h64
        rw [fi_leL] at h64
        rw [tl_32 (by omega) (by omega)]
        omega
    · omega
end MLY

