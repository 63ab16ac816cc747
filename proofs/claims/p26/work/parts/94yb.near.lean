/-! The class: bounds of what can be shown; span, nearest. -/
section WYA
variable {sc : Nat × (Nat → Int32)} {d : Nat} {J : hJ} {R : hR} {T : am_H} {Q : Option Value → am_H → Prop}
def BK : Nat → Int
  | 0 => 0
  | k + 1 => 40 + 16 * BK k
theorem BK_0 : ∀ k, 0 ≤ BK k
  | 0 => Int.le_refl 0
  | k + 1 => by unfold BK; have := BK_0 k; omega
theorem BK_6 {k : Nat} (h : k ≤ 6) : BK k ≤ 44739240 := by
  rcases (show k = 0 ∨ k = 1 ∨ k = 2 ∨ k = 3 ∨ k = 4 ∨ k = 5 ∨ k = 6 by omega) with rfl | rfl | rfl | rfl | rfl | rfl | rfl <;> decide
theorem lbl_b {I : hI} {i : Int32} : ∀ (k s : Nat) (le gr : Int32), s + k ≤ 40 → (0 ≤ le.toInt ∧ le.toInt ≤ 40) → (0 ≤ gr.toInt ∧ gr.toInt ≤ 39) → (0 ≤ (lbl I i k s le gr).1.toInt ∧ (lbl I i k s le gr).1.toInt ≤ 40) ∧ (0 ≤ (lbl I i k s le gr).2.toInt ∧ (lbl I i k s le gr).2.toInt ≤ 39)
  | 0, s, le, gr, hs, h1, h2 => ⟨h1, h2⟩
  | k + 1, s, le, gr, hs, h1, h2 => by
    unfold lbl
    have e : (nI s).toInt = s := nI_toInt (by omega)
    split
    · exact lbl_b k (s + 1) le gr (by omega) h1 h2
    · refine lbl_b k (s + 1) _ _ (by omega) ?_ ⟨by omega, by omega⟩
      split
      · omega
      · exact h1
def BDk (n j : Nat) (I : hI) : Prop := (0 ≤ (I 11 j).toInt ∧ (I 11 j).toInt ≤ BK (n - j)) ∧ (0 ≤ (I 10 j).toInt ∧ (I 10 j).toInt ≤ BK (n - j))
theorem mul_b {b f K : Int} (hb0 : 0 ≤ b) (hb : b ≤ 16) (hf0 : 0 ≤ f) (hf : f ≤ K) : 0 ≤ b * f ∧ b * f ≤ 16 * K := ⟨Int.mul_nonneg hb0 hf0, Int.mul_le_mul hb hf hf0 (by omega)⟩
theorem bnd1 {g b x : Int32} {K : Int} (hK : K ≤ 44739240) (hg : 0 ≤ g.toInt ∧ g.toInt ≤ 40) (hb : 0 ≤ b.toInt ∧ b.toInt ≤ 16) (hx : 0 ≤ x.toInt ∧ x.toInt ≤ K) : 0 ≤ (g + b * x).toInt ∧ (g + b * x).toInt ≤ 40 + 16 * K := by
  have h1 := mul_b hb.1 hb.2 hx.1 hx.2
  have e1 : (b * x).toInt = b.toInt * x.toInt := ti_mul (by omega) (by omega)
  have e2 : (g + b * x).toInt = g.toInt + b.toInt * x.toInt := by rw [ti_add, e1] <;> omega
  omega
theorem lbF_b {I : hI} {n i : Nat} {b : Int32} (hi : i < n) (hn : n ≤ 6) (hb : 0 ≤ b.toInt ∧ b.toInt ≤ 16) (h : ∀ j, i < j → j ≤ n → BDk n j I) : ∀ j, i ≤ j → j ≤ n → BDk n j (lbF I i b) := by
  intro j h1 h2
  by_cases e : j = i
  · subst e
    have hh := h (j + 1) (by omega) (by omega)
    have hl := lbl_b (I := I) (i := nI j) 40 0 40 0 (by omega) ⟨by decide, by decide⟩ ⟨by decide, by decide⟩
    have hr0 : ∀ f : Nat → Int32, am_rd 7 f (nI j + 1) = f (j + 1) := fun f => am_rdK (nI_1 j) (by omega) (by decide)
    have hk : BK (n - j) = 40 + 16 * BK (n - (j + 1)) := by
      rw [show n - j = (n - (j + 1)) + 1 by omega]; rfl
    have h6 := BK_6 (k := n - (j + 1)) (by omega)
    unfold BDk lbF
    rw [sf_s, sf_c (show 10 ≠ 11 by decide), sf_s, hr0, hr0, hk]
    exact ⟨bnd1 h6 hl.1 hb hh.1, bnd1 h6 ⟨hl.2.1, by omega⟩ hb hh.2⟩
  · have hh := h j (by omega) h2
    unfold BDk lbF
    rw [sf_k e, sf_c (show 11 ≠ 10 by decide), sf_c (show 10 ≠ 11 by decide), sf_k e]
    exact hh
theorem ldl_b {D : FD} {a : Nat} {lo : Int32} (h6 : D.1 ≤ 6) (ho : ∀ k, k < D.1 → okR (D.2.1 k)) : ∀ (k : Nat) (I : hI), k ≤ D.1 → (∀ j, k ≤ j → j ≤ D.1 → BDk D.1 j I) → ∀ j, j ≤ D.1 → BDk D.1 j (ldl D a lo k I)
  | 0, I, hk, h, j, hj => h j (by omega) hj
  | k + 1, I, hk, h, j, hj => by
    unfold ldl
    have hb := (ho k (by omega)).2.1
    refine ldl_b h6 ho k _ (by omega) (lbF_b (by omega) h6 ?_ (fun j h1 h2 => ?_)) j hj
    · rw [nI_toInt (by omega)]; omega
    · have := h j (by omega) h2
      unfold BDk at this ⊢
      rw [lrF_c (by decide) (by decide) (by decide) (by decide) (by decide), lrF_c (by decide) (by decide) (by decide) (by decide) (by decide)]
      exact this
theorem ldF_b {I : hI} {D : FD} {a : Nat} {lo : Int32} (h6 : D.1 ≤ 6) (ho : ∀ k, k < D.1 → okR (D.2.1 k)) : ∀ j, j ≤ D.1 → BDk D.1 j (ldF I D a lo) := by
  refine ldl_b h6 ho D.1 _ (Nat.le_refl _) (fun j h1 h2 => ?_)
  have e : j = D.1 := by omega
  subst e
  unfold BDk ldI
  rw [sf_s, sf_c (show 10 ≠ 11 by decide), sf_s, Nat.sub_self]
  exact ⟨⟨by decide, by decide⟩, by decide, by decide⟩
theorem ldF_few {I : hI} {D : FD} {a : Nat} {lo : Int32} (h6 : D.1 ≤ 6) (ho : ∀ k, k < D.1 → okR (D.2.1 k)) : 0 ≤ (am_rd 7 (ldF I D a lo 11) 0).toInt ∧ (am_rd 7 (ldF I D a lo 11) 0).toInt ≤ 44739240 := by
  have h := (ldF_b (I := I) (a := a) (lo := lo) h6 ho 0 (by omega)).1
  have e : am_rd 7 (ldF I D a lo 11) 0 = ldF I D a lo 11 0 := am_rdK (i := 0) rfl (by decide) (by decide)
  have := BK_6 (k := D.1 - 0) (by omega)
  rw [e]
  omega
theorem ldF_most {I : hI} {D : FD} {a : Nat} {lo : Int32} (h6 : D.1 ≤ 6) (ho : ∀ k, k < D.1 → okR (D.2.1 k)) : 0 ≤ (am_rd 7 (ldF I D a lo 10) 0).toInt ∧ (am_rd 7 (ldF I D a lo 10) 0).toInt ≤ 44739240 := by
  have h := (ldF_b (I := I) (a := a) (lo := lo) h6 ho 0 (by omega)).2
  have e : am_rd 7 (ldF I D a lo 10) 0 = ldF I D a lo 10 0 := am_rdK (i := 0) rfl (by decide) (by decide)
  have := BK_6 (k := D.1 - 0) (by omega)
  rw [e]
  omega
theorem ldF_SG {I : hI} {D : FD} {a : Nat} {lo : Int32} (hS : SG I) : SG (ldF I D a lo) := SG_of hS (ldF_c (by decide) (by decide) (by decide) (by decide) (by decide) (by decide) (by decide) (by decide))
/-- span -/
def spaF (I : hI) (D : FD) (w : Int32) : Int64 × hI :=
  if w < 0 then (-3, I) else if w ≤ 2 then
    (if w = 0 then ((am_rd 7 (ldF I D 22 0 10) 0).toInt64, ldF I D 22 0) else if w = 1 then ((am_rd 7 (ldF I D 22 0 11) 0).toInt64, ldF I D 22 0)
     else ((gpF (ldF I D 22 0) D.1 (am_rd 7 (ldF I D 22 0 11) 0)).1.toInt64, (gpF (ldF I D 22 0) D.1 (am_rd 7 (ldF I D 22 0 11) 0)).2))
  else (-3, I)
theorem c_span {I : hI} {D : FD} {w : Int32} (hD : DC 18 D I R T) (hB : BS I) (hS : SG I) : am_E sc (d + 8) 109 [.ref 0, .int w] (HH I J R T) (some (.long (spaF I D w).1)) (HH (spaF I D w).2 J R T) := by
  refine E_Z (Ze_of (Nat.le_of_ble_eq_true rfl) ?_)
  have hB1 : BS (ldF I D 22 0) := ldF_BS (DC_ok hD) hB
  have hf := ldF_few (I := I) (a := 22) (lo := 0) hD.2.1 (DC_ok hD)
  unfold spaF
  refine Z_jump 2 rfl ?_
  refine Z_bd (fun (c1 : w < (0 : Int32)) => ?_) (fun (c1 : ¬ (w < (0 : Int32))) => ?_)
  · refine Z_jump 1 rfl ?_
    show Zs _ _ (am_P 109).2 (12, [(0, .ref 0), (1, .int w)], [.long (-3 : Int64)]) (HH I J R T) _
    refine Z_ret rfl rfl rfl ?_
    rw [if_pos c1]
    exact ⟨rfl, rfl⟩
  · refine Z_jump 3 rfl ?_
    refine Z_bd (fun (c6 : w ≤ (2 : Int32)) => ?_) (fun (c6 : ¬ (w ≤ (2 : Int32))) => ?_)
    · refine Z_jump 7 rfl ?_
      show Zs _ _ (am_P 109).2 (26, [(0, .ref 0), (1, .int w)], [.int (0 : Int32), .ref 22, .ref 18, .ref 4]) (HH I J R T) _
      refine Z_c0 rfl rfl rfl (c_load (by decide) hD) ?_
      show Zs _ _ (am_P 109).2 (29, [(0, .ref 0), (1, .int w)], []) (HH (ldF I D 22 0) J R T) _
      refine Z_jump 2 rfl ?_
      refine Z_bn (fun (c30 : ¬ (w = (0 : Int32))) => ?_) (fun (c30 : w = (0 : Int32)) => ?_)
      · refine Z_jump 3 rfl ?_
        refine Z_bn (fun (c45 : ¬ (w = (1 : Int32))) => ?_) (fun (c45 : w = (1 : Int32)) => ?_)
        · refine Z_jump 4 rfl ?_
          show Zs _ _ (am_P 109).2 (66, [(0, .ref 0), (1, .int w)], [.int (0 : Int32), .ref 4, .ref 0]) (HH (ldF I D 22 0) J R T) _
          refine Z_c1 rfl rfl rfl (c_few) ?_
          show Zs _ _ (am_P 109).2 (69, [(0, .ref 0), (1, .int w)], [.int (am_rd 7 (ldF I D 22 0 11) 0), .ref 0]) (HH (ldF I D 22 0) J R T) _
          show Zs _ _ (am_P 109).2 (69, [(0, .ref 0), (1, .int w)], [.int (am_rd 7 (ldF I D 22 0 11) 0), .ref 0]) (HH (ldF I D 22 0) J R T) _
          refine Z_c1 rfl rfl rfl (c_gap hD.2.1 ldF_13 hB1 (ldF_SG hS) hf.1 (by omega)) ?_
          show Zs _ _ (am_P 109).2 (72, [(0, .ref 0), (1, .int w)], [.int (gpF (ldF I D 22 0) D.1 (am_rd 7 (ldF I D 22 0 11) 0)).1]) (HH (gpF (ldF I D 22 0) D.1 (am_rd 7 (ldF I D 22 0 11) 0)).2 J R T) _
          refine Z_jump 1 rfl ?_
          show Zs _ _ (am_P 109).2 (73, [(0, .ref 0), (1, .int w)], [.long (Int32.toInt64 (gpF (ldF I D 22 0) D.1 (am_rd 7 (ldF I D 22 0 11) 0)).1)]) (HH (gpF (ldF I D 22 0) D.1 (am_rd 7 (ldF I D 22 0 11) 0)).2 J R T) _
          refine Z_ret rfl rfl rfl ?_
          rw [if_neg c1, if_pos c6, if_neg c30, if_neg c45]
          exact ⟨rfl, rfl⟩
        · refine Z_jump 3 rfl ?_
          show Zs _ _ (am_P 109).2 (53, [(0, .ref 0), (1, .int w)], [.int (0 : Int32), .ref 4]) (HH (ldF I D 22 0) J R T) _
          refine Z_c1 rfl rfl rfl (c_few) ?_
          show Zs _ _ (am_P 109).2 (56, [(0, .ref 0), (1, .int w)], [.int (am_rd 7 (ldF I D 22 0 11) 0)]) (HH (ldF I D 22 0) J R T) _
          refine Z_jump 2 rfl ?_
          show Zs _ _ (am_P 109).2 (73, [(0, .ref 0), (1, .int w)], [.long (Int32.toInt64 (am_rd 7 (ldF I D 22 0 11) 0))]) (HH (ldF I D 22 0) J R T) _
          refine Z_ret rfl rfl rfl ?_
          rw [if_neg c1, if_pos c6, if_neg c30, if_pos c45]
          exact ⟨rfl, rfl⟩
      · refine Z_jump 3 rfl ?_
        show Zs _ _ (am_P 109).2 (38, [(0, .ref 0), (1, .int w)], [.int (0 : Int32), .ref 4]) (HH (ldF I D 22 0) J R T) _
        refine Z_c1 rfl rfl rfl (c_most) ?_
        show Zs _ _ (am_P 109).2 (41, [(0, .ref 0), (1, .int w)], [.int (am_rd 7 (ldF I D 22 0 10) 0)]) (HH (ldF I D 22 0) J R T) _
        refine Z_jump 1 rfl ?_
        show Zs _ _ (am_P 109).2 (42, [(0, .ref 0), (1, .int w)], [.long (Int32.toInt64 (am_rd 7 (ldF I D 22 0 10) 0))]) (HH (ldF I D 22 0) J R T) _
        refine Z_ret rfl rfl rfl ?_
        rw [if_neg c1, if_pos c6, if_pos c30]
        exact ⟨rfl, rfl⟩
    · refine Z_jump 1 rfl ?_
      show Zs _ _ (am_P 109).2 (12, [(0, .ref 0), (1, .int w)], [.long (-3 : Int64)]) (HH I J R T) _
      refine Z_ret rfl rfl rfl ?_
      rw [if_neg c1, if_neg c6]
      exact ⟨rfl, rfl⟩
/-- nearest -/
def nsl (I : hI) (v : Int32) : Nat → Nat → Int32
  | 0, _ => -1
  | k + 1, o => if isfP I 0 (v - nI o) then v - nI o else if isfP I 0 (v + nI o) then v + nI o else nsl I v k (o + 1)
theorem c_nsl {I : hI} {v fr up : Int32} : ∀ (k o : Nat) (x : Int32), o + k = 501 → x = nI o → Q (some (.int (nsl I v k o))) (HH I J R T) → Zs sc (d + 3) (am_P 135).2 (69, [(0, .ref 0), (1, .int v), (2, .int fr), (3, .int up), (4, .int x)], []) (HH I J R T) Q
  | 0, o, x, ho, hx, H => by
    refine Z_jump 3 rfl ?_
    refine Z_bd (fun c74 => ?_) (fun c74 => absurd ((show (500 : Int32) < x by rw [hx]; exact nI_lt (a := 500) (by omega) (by omega))) c74)
    refine Z_jump 1 rfl ?_
    show Zs _ _ (am_P 135).2 (122, [(0, .ref 0), (1, .int v), (2, .int fr), (3, .int up), (4, .int x)], [.int (-1 : Int32)]) (HH I J R T) _
    refine Z_rI rfl (by first | exact am_nw0 _ | exact am_nw01 | rfl | assumption) ?_
    exact H
  | k + 1, o, x, ho, hx, H => by
    have ex : x + 1 = nI (o + 1) := by rw [hx]; exact nI_1 o
    have c : ¬ (500 : Int32) < x := by rw [hx, show (500 : Int32) = nI 500 from rfl, nI_ltI (by omega) (by omega)]; omega
    subst hx
    unfold nsl at H
    refine Z_jump 3 rfl ?_
    refine Z_bd (fun c74 => absurd c74 (c)) (fun c74 => ?_)
    refine Z_jump 5 rfl ?_
    show Zs _ _ (am_P 135).2 (85, [(0, .ref 0), (1, .int v), (2, .int fr), (3, .int up), (4, .int (nI o))], [.int (v - (nI o)), .ref 4]) (HH I J R T) _
    by_cases b85 : isfP I 0 (v - nI o)
    · refine Z_c1 rfl rfl rfl (E_pos (c_isSifted) b85) ?_
      show Zs _ _ (am_P 135).2 (88, [(0, .ref 0), (1, .int v), (2, .int fr), (3, .int up), (4, .int (nI o))], [.int (1 : Int32)]) (HH I J R T) _
      refine Z_jump 4 rfl ?_
      show Zs _ _ (am_P 135).2 (95, [(0, .ref 0), (1, .int v), (2, .int fr), (3, .int up), (4, .int (nI o))], [.int (v - (nI o))]) (HH I J R T) _
      refine Z_rI rfl (by first | exact am_nw0 _ | exact am_nw01 | rfl | assumption) ?_
      rw [if_pos b85] at H
      exact H
    · refine Z_c1 rfl rfl rfl (E_neg (c_isSifted) b85) ?_
      show Zs _ _ (am_P 135).2 (88, [(0, .ref 0), (1, .int v), (2, .int fr), (3, .int up), (4, .int (nI o))], [.int (0 : Int32)]) (HH I J R T) _
      refine Z_jump 6 rfl ?_
      show Zs _ _ (am_P 135).2 (104, [(0, .ref 0), (1, .int v), (2, .int fr), (3, .int up), (4, .int (nI o))], [.int (v + (nI o)), .ref 4]) (HH I J R T) _
      by_cases b104 : isfP I 0 (v + nI o)
      · refine Z_c1 rfl rfl rfl (E_pos (c_isSifted) b104) ?_
        show Zs _ _ (am_P 135).2 (107, [(0, .ref 0), (1, .int v), (2, .int fr), (3, .int up), (4, .int (nI o))], [.int (1 : Int32)]) (HH I J R T) _
        refine Z_jump 4 rfl ?_
        show Zs _ _ (am_P 135).2 (114, [(0, .ref 0), (1, .int v), (2, .int fr), (3, .int up), (4, .int (nI o))], [.int (v + (nI o))]) (HH I J R T) _
        refine Z_rI rfl (by first | exact am_nw0 _ | exact am_nw01 | rfl | assumption) ?_
        rw [if_neg b85, if_pos b104] at H
        exact H
      · refine Z_c1 rfl rfl rfl (E_neg (c_isSifted) b104) ?_
        show Zs _ _ (am_P 135).2 (107, [(0, .ref 0), (1, .int v), (2, .int fr), (3, .int up), (4, .int (nI o))], [.int (0 : Int32)]) (HH I J R T) _
        refine Z_jump 3 rfl ?_
        show Zs _ _ (am_P 135).2 (69, [(0, .ref 0), (1, .int v), (2, .int fr), (3, .int up), (4, .int ((nI o) + 1))], []) (HH I J R T) _
        rw [if_neg b85, if_neg b104] at H
        exact c_nsl k (o + 1) _ (by omega) ex H
def nFr (I : hI) (v : Int32) : Int32 := if v - 500 < am_rd 7 (I 11) 0 then am_rd 7 (I 11) 0 else v - 500
def nUp (I : hI) (v : Int32) : Int32 := if am_rd 7 (I 10) 0 < v + 500 then am_rd 7 (I 10) 0 else v + 500
def nsF (I : hI) (n : Nat) (v : Int32) : Int32 × hI :=
  if nFr I v ≤ nUp I v then
    (if 1048576 ≤ (leF I n v.toInt64).1 then (nsl (sitF (leF I n v.toInt64).2 n (nFr I v) (nUp I v)) v 500 1, sitF (leF I n v.toInt64).2 n (nFr I v) (nUp I v)) else (v, (leF I n v.toInt64).2))
  else (-1, I)
theorem c_nearestShown {I : hI} {n : Nat} {v : Int32} (hn6 : n ≤ 6) (hn : I 4 13 = nI n) (hB : BS I) (hS : SG I) (hv : M_num v) (hf : (am_rd 7 (I 11) 0).toInt ≤ 44739240) : am_E sc (d + 11) 135 [.ref 0, .int v] (HH I J R T) (some (.int (nsF I n v).1)) (HH (nsF I n v).2 J R T) := by
  refine E_Z (Ze_of (Nat.le_of_ble_eq_true rfl) ?_)
  have z5 : (500 : Int32).toInt = 500 := rfl
  have hfr : (nFr I v).toInt ≤ 1500000000 := by
    have e : (v - 500).toInt = v.toInt - 500 := by rw [ti_sub] <;> omega
    unfold nFr
    split <;> omega
  have hn1 : (leF I n v.toInt64).2 4 13 = nI n := (congrFun (leF_c (by decide) (by decide)) _).trans hn
  unfold nsF
  refine Z_jump 6 rfl ?_
  show Zs _ _ (am_P 135).2 (10, [(0, .ref 0), (1, .int v)], [.int (0 : Int32), .ref 4, .int (v - (500 : Int32))]) (HH I J R T) _
  refine Z_c1 rfl rfl rfl (c_few) ?_
  show Zs _ _ (am_P 135).2 (13, [(0, .ref 0), (1, .int v)], [.int (am_rd 7 (I 11) 0), .int (v - (500 : Int32))]) (HH I J R T) _
  refine Z_jump 1 rfl ?_
  show Zs _ _ (am_P 135).2 (16, [(0, .ref 0), (1, .int v)], [.int (if (v - (500 : Int32)) < (am_rd 7 (I 11) 0) then (am_rd 7 (I 11) 0) else (v - (500 : Int32)))]) (HH I J R T) _
  refine Z_eqI (y := (nFr I v)) (rfl) ?_
  show Zs _ _ (am_P 135).2 (16, [(0, .ref 0), (1, .int v)], [.int (nFr I v)]) (HH I J R T) _
  refine Z_jump 7 rfl ?_
  show Zs _ _ (am_P 135).2 (27, [(0, .ref 0), (1, .int v), (2, .int (nFr I v))], [.int (0 : Int32), .ref 4, .int (v + (500 : Int32))]) (HH I J R T) _
  refine Z_c1 rfl rfl rfl (c_most) ?_
  show Zs _ _ (am_P 135).2 (30, [(0, .ref 0), (1, .int v), (2, .int (nFr I v))], [.int (am_rd 7 (I 10) 0), .int (v + (500 : Int32))]) (HH I J R T) _
  refine Z_jump 1 rfl ?_
  show Zs _ _ (am_P 135).2 (33, [(0, .ref 0), (1, .int v), (2, .int (nFr I v))], [.int (if (am_rd 7 (I 10) 0) < (v + (500 : Int32)) then (am_rd 7 (I 10) 0) else (v + (500 : Int32)))]) (HH I J R T) _
  refine Z_eqI (y := (nUp I v)) (rfl) ?_
  show Zs _ _ (am_P 135).2 (33, [(0, .ref 0), (1, .int v), (2, .int (nFr I v))], [.int (nUp I v)]) (HH I J R T) _
  refine Z_jump 4 rfl ?_
  refine Z_bd (fun (c36 : (nFr I v) ≤ (nUp I v)) => ?_) (fun (c36 : ¬ ((nFr I v) ≤ (nUp I v))) => ?_)
  · refine Z_jump 4 rfl ?_
    show Zs _ _ (am_P 135).2 (47, [(0, .ref 0), (1, .int v), (2, .int (nFr I v)), (3, .int (nUp I v))], [.long (Int32.toInt64 v), .ref 4]) (HH I J R T) _
    refine Z_c1 rfl rfl rfl (c_least hn6 hn hB) ?_
    show Zs _ _ (am_P 135).2 (50, [(0, .ref 0), (1, .int v), (2, .int (nFr I v)), (3, .int (nUp I v))], [.int (leF I n v.toInt64).1]) (HH (leF I n v.toInt64).2 J R T) _
    refine Z_jump 2 rfl ?_
    refine Z_bd (fun (c52 : (1048576 : Int32) ≤ (leF I n v.toInt64).1) => ?_) (fun (c52 : ¬ ((1048576 : Int32) ≤ (leF I n v.toInt64).1)) => ?_)
    · refine Z_jump 4 rfl ?_
      show Zs _ _ (am_P 135).2 (63, [(0, .ref 0), (1, .int v), (2, .int (nFr I v)), (3, .int (nUp I v))], [.int (nUp I v), .int (nFr I v), .ref 4]) (HH (leF I n v.toInt64).2 J R T) _
      refine Z_c0 rfl rfl rfl (c_sift hn6 hn1 (BS_of hB (leF_c (by decide) (by decide))) (SG_of hS (leF_c (by decide) (by decide))) hfr) ?_
      show Zs _ _ (am_P 135).2 (66, [(0, .ref 0), (1, .int v), (2, .int (nFr I v)), (3, .int (nUp I v))], []) (HH (sitF (leF I n v.toInt64).2 n (nFr I v) (nUp I v)) J R T) _
      refine Z_jump 2 rfl ?_
      show Zs _ _ (am_P 135).2 (69, [(0, .ref 0), (1, .int v), (2, .int (nFr I v)), (3, .int (nUp I v)), (4, .int (1 : Int32))], []) (HH (sitF (leF I n v.toInt64).2 n (nFr I v) (nUp I v)) J R T) _
      rw [if_pos c36, if_pos c52]
      exact c_nsl 500 1 _ (by omega) rfl ⟨rfl, rfl⟩
    · refine Z_jump 1 rfl ?_
      show Zs _ _ (am_P 135).2 (56, [(0, .ref 0), (1, .int v), (2, .int (nFr I v)), (3, .int (nUp I v))], [.int v]) (HH (leF I n v.toInt64).2 J R T) _
      refine Z_rI rfl (by first | exact am_nw0 _ | exact am_nw01 | rfl | assumption) ?_
      rw [if_pos c36, if_neg c52]
      exact ⟨rfl, rfl⟩
  · refine Z_jump 1 rfl ?_
    show Zs _ _ (am_P 135).2 (40, [(0, .ref 0), (1, .int v), (2, .int (nFr I v)), (3, .int (nUp I v))], [.int (-1 : Int32)]) (HH I J R T) _
    refine Z_rI rfl (by first | exact am_nw0 _ | exact am_nw01 | rfl | assumption) ?_
    rw [if_neg c36]
    exact ⟨rfl, rfl⟩
def neF (I : hI) (D : FD) (v : Int32) : Int32 × hI := if M_num v then nsF (ldF I D 22 0) D.1 v else (-3, I)
theorem c_nearest {I : hI} {D : FD} {v : Int32} (hD : DC 18 D I R T) (hB : BS I) (hS : SG I) : am_E sc (d + 12) 110 [.ref 0, .int v] (HH I J R T) (some (.int (neF I D v).1)) (HH (neF I D v).2 J R T) := by
  refine E_Z (Ze_of (Nat.le_of_ble_eq_true rfl) ?_)
  have hB1 : BS (ldF I D 22 0) := ldF_BS (DC_ok hD) hB
  have hf := ldF_few (I := I) (a := 22) (lo := 0) hD.2.1 (DC_ok hD)
  unfold neF
  refine Z_jump 1 rfl ?_
  show Zs _ _ (am_P 110).2 (1, [(0, .ref 0), (1, .int v)], [.int v]) (HH I J R T) _
  by_cases b1 : M_num v
  · refine Z_c1 rfl rfl rfl (E_pos (c_isNumber) b1) ?_
    show Zs _ _ (am_P 110).2 (4, [(0, .ref 0), (1, .int v)], [.int (1 : Int32)]) (HH I J R T) _
    refine Z_jump 8 rfl ?_
    show Zs _ _ (am_P 110).2 (23, [(0, .ref 0), (1, .int v)], [.int (0 : Int32), .ref 22, .ref 18, .ref 4]) (HH I J R T) _
    refine Z_c0 rfl rfl rfl (c_load (by decide) hD) ?_
    show Zs _ _ (am_P 110).2 (26, [(0, .ref 0), (1, .int v)], []) (HH (ldF I D 22 0) J R T) _
    refine Z_jump 2 rfl ?_
    show Zs _ _ (am_P 110).2 (28, [(0, .ref 0), (1, .int v)], [.int v, .ref 0]) (HH (ldF I D 22 0) J R T) _
    refine Z_c1 rfl rfl rfl (c_nearestShown hD.2.1 ldF_13 hB1 (ldF_SG hS) b1 hf.2) ?_
    show Zs _ _ (am_P 110).2 (31, [(0, .ref 0), (1, .int v)], [.int (nsF (ldF I D 22 0) D.1 v).1]) (HH (nsF (ldF I D 22 0) D.1 v).2 J R T) _
    show Zs _ _ (am_P 110).2 (31, [(0, .ref 0), (1, .int v)], [.int (nsF (ldF I D 22 0) D.1 v).1]) (HH (nsF (ldF I D 22 0) D.1 v).2 J R T) _
    refine Z_rI rfl (by first | exact am_nw0 _ | exact am_nw01 | rfl | assumption) ?_
    rw [if_pos b1]
    exact ⟨rfl, rfl⟩
  · refine Z_c1 rfl rfl rfl (E_neg (c_isNumber) b1) ?_
    show Zs _ _ (am_P 110).2 (4, [(0, .ref 0), (1, .int v)], [.int (0 : Int32)]) (HH I J R T) _
    refine Z_jump 2 rfl ?_
    show Zs _ _ (am_P 110).2 (9, [(0, .ref 0), (1, .int v)], [.int (-3 : Int32)]) (HH I J R T) _
    refine Z_rI rfl (by first | exact am_nw0 _ | exact am_nw01 | rfl | assumption) ?_
    rw [if_neg b1]
    exact ⟨rfl, rfl⟩
end WYA

