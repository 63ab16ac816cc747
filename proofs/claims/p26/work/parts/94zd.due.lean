/-! The reference: layDue. -/
section ML4
variable {sc : Nat × (Nat → Int32)} {d : Nat} {R : hR} {T : am_H} {Q : Option Value → am_H → Prop}
theorem n_d10 {k : Nat} (h : k < 2 ^ 31) : nI k / 10 = nI (k / 10) := by
  rw [fi_eq, ti_div (by decide), nI_toInt h, nI_toInt (by omega)]
  show (k : Int).tdiv (10 : Nat) = _
  rw [← Int.ofNat_tdiv]
theorem n_m10 {k : Nat} (h : k < 2 ^ 31) : nI k - nI k / 10 * 10 = nI (k % 10) := by
  rw [n_d10 h, show (10 : Int32) = nI 10 from rfl, show nI (k / 10) * nI 10 = nI (k / 10 * 10) from (Int32.ofNat_mul _ _).symm, nI_subI (by omega)]
  congr 1
  omega
def dL (b : Int32) : Int32 := b - b / 10 * 10
def dH (b : Int32) : Int32 := b / 10
def cK (r : Nat) (c : Int32) : Nat := (64 * nI r + c).toNatClampNeg
def duS (I : hI) (J : hJ) (D : FD) (o : Nat) (st : Int32) (r : Nat) (c : Int32) (k : Nat) (b : Int32) : Int32 :=
  if nI (D.2.1 r).2.2.2 < nI (k / 10) then b else if nI (D.2.1 r).2.2.1 < nI (k % 10) then b else if M_may I o st r (nI (k % 10)) (nI (k / 10)) then
    (if onF J D r c (shF D r (nI (k % 10)) (nI (k / 10))) < 0 then b else if lyM I o r (onF J D r c (shF D r (nI (k % 10)) (nI (k / 10)))) (nI (k % 10)) (nI (k / 10)) = I 82 (cK r c) then nI k else b) else b
def dul (I : hI) (J : hJ) (D : FD) (o : Nat) (st : Int32) (r : Nat) (c : Int32) : Nat → Nat → Int32 → Int32
  | 0, _, b => b
  | n + 1, k, b => if 0 ≤ b then b else dul I J D o st r c n (k + 1) (duS I J D o st r c k b)
def duB (I : hI) (J : hJ) (D : FD) (o : Nat) (st : Int32) (r : Nat) (c : Int32) : Int32 := dul I J D o st r c 40 0 (-1)
def duI (I : hI) (r : Nat) (b : Int32) : hI := sf (sf I 83 r (dL b)) 83 (6 + r) (dH b)
def duF (J : hJ) (D : FD) (o : Nat) (st : Int32) : Nat → Nat → Int32 → hI → hI
  | 0, _, _, I => I
  | n + 1, r, c, I => duF J D o st n (r + 1) (onF J D r c (shF D r (dL (duB I J D o st r c)) (dH (duB I J D o st r c)))) (duI I r (duB I J D o st r c))
theorem duI_c {I : hI} {r a : Nat} {b : Int32} (h : a ≠ 83) : duI I r b a = I a := by
  unfold duI
  rw [sf_c h, sf_c h]
theorem duF_c {J : hJ} {D : FD} {o a : Nat} {st : Int32} (h : a ≠ 83) : ∀ (n r : Nat) (c : Int32) (I : hI), duF J D o st n r c I a = I a
  | 0, r, c, I => rfl
  | n + 1, r, c, I => by unfold duF; rw [duF_c h n, duI_c h]
/-- what was found: none, or a choice that fits -/
def okK (D : FD) (r : Nat) (b : Int32) : Prop := b = -1 ∨ ∃ k, k < 40 ∧ b = nI k ∧ k / 10 ≤ (D.2.1 r).2.2.2 ∧ k % 10 ≤ (D.2.1 r).2.2.1
theorem duS_ok {I : hI} {J : hJ} {D : FD} {o r k : Nat} {st c b : Int32} (hq : okR (D.2.1 r)) (hk : k < 40) (h : okK D r b) : okK D r (duS I J D o st r c k b) := by
  have h3 := hq.2.2.2.1
  have h9 := hq.2.2.1.2
  unfold duS
  split
  · exact h
  · split
    · exact h
    · split
      · split
        · exact h
        · split
          · rename_i c1 c2 _ _ _
            rw [nI_ltI (by omega) (by omega)] at c1 c2
            exact Or.inr ⟨k, hk, rfl, by omega, by omega⟩
          · exact h
      · exact h
theorem dul_ok {I : hI} {J : hJ} {D : FD} {o r : Nat} {st c : Int32} (hq : okR (D.2.1 r)) : ∀ (n k : Nat) (b : Int32), k + n ≤ 40 → okK D r b → okK D r (dul I J D o st r c n k b)
  | 0, k, b, hk, h => h
  | n + 1, k, b, hk, h => by
    unfold dul
    split
    · exact h
    · exact dul_ok hq n (k + 1) _ (by omega) (duS_ok hq (by omega) h)
theorem okK_b {D : FD} {r : Nat} {b : Int32} (hq : okR (D.2.1 r)) (h : okK D r b) : (-1 ≤ (shF D r (dL b) (dH b)).toInt ∧ (shF D r (dL b) (dH b)).toInt ≤ 39) ∧ (-1 ≤ (dL b).toInt ∧ (dL b).toInt ≤ 9) ∧ (0 ≤ (dH b).toInt ∧ (dH b).toInt ≤ 3) := by
  rcases h with rfl | ⟨k, hk, rfl, h1, h2⟩
  · have e : shF D r (dL (-1)) (dH (-1)) = -1 := by
      unfold shF
      rw [show dH (-1) = 0 from rfl, show dL (-1) = -1 from rfl, Int32.zero_mul]
      rfl
    rw [e]
    exact ⟨⟨by decide, by decide⟩, ⟨by decide, by decide⟩, by decide, by decide⟩
  · have e1 : dL (nI k) = nI (k % 10) := n_m10 (by omega)
    have e2 : dH (nI k) = nI (k / 10) := n_d10 (by omega)
    have := shF_b (D := D) (r := r) hq h2 h1
    rw [e1, e2, nI_toInt (by omega), nI_toInt (by omega)]
    have h3 := hq.2.2.2.1
    exact ⟨⟨by omega, by omega⟩, ⟨by omega, by omega⟩, by omega, by omega⟩
theorem cK_e {r : Nat} {c : Int32} (hr : r < 6) (hc : -2 ≤ c.toInt ∧ c.toInt ≤ 63) (h0 : 0 ≤ c.toInt ∨ 1 ≤ r) : 64 * nI r + c = nI (cK r c) ∧ cK r c < 448 := by
  have e1 : (64 * nI r : Int32) = nI (64 * r) := (Int32.ofNat_mul 64 r).symm
  have e0 : (nI (64 * r)).toInt = 64 * (r : Int) := by rw [nI_toInt (by omega)]; omega
  have e2 : (64 * nI r + c).toInt = 64 * (r : Int) + c.toInt := by
    rw [e1, ti_add (by rw [e0]; omega) (by rw [e0]; omega), e0]
  obtain ⟨j, hj, ej⟩ := nI_of (x := 64 * nI r + c) (by rw [fi_lt, e2]; have z0 : (0 : Int32).toInt = 0 := rfl; omega)
  have e3 : cK r c = j := by unfold cK; rw [ej, nI_clamp hj]
  rw [e3]
  refine ⟨ej, ?_⟩
  rw [ej, nI_toInt hj] at e2
  omega
theorem m_dul {I : hI} {J : hJ} {D : FD} {o r : Nat} {st c : Int32} (ho : o = 78 ∨ o = 79) (hD : DMf D I) (hr : r < D.1) (hU : DU J D) (hc : -2 ≤ c.toInt ∧ c.toInt ≤ 63) (h0 : 0 ≤ c.toInt ∨ 1 ≤ r) : ∀ (n k : Nat) (b x : Int32), k + n = 40 → x = nI k → Zs sc (d + 3) (am_P 168).2 (181, [(0, .ref 73), (1, .ref o), (2, .int st), (3, .int c), (4, .int (nI r)), (5, .int (dul I J D o st r c n k b))], []) (HH I J R T) Q → Zs sc (d + 3) (am_P 168).2 (20, [(0, .ref 73), (1, .ref o), (2, .int st), (3, .int c), (4, .int (nI r)), (5, .int b), (6, .int x)], []) (HH I J R T) Q
  | 0, k, b, x, hk, hx, H => by
    refine Z_jump 3 rfl ?_
    refine Z_bd (fun c24 => ?_) (fun c24 => absurd ((show (40 : Int32) ≤ x by rw [hx]; exact nI_le (a := 40) (by omega) (by omega))) c24)
    show Zs _ _ (am_P 168).2 (181, [(0, .ref 73), (1, .ref o), (2, .int st), (3, .int c), (4, .int (nI r)), (5, .int b), (6, .int x)], []) (HH I J R T) _
    exact Zs_wk (H) (lnD rfl) (lnD rfl) (by repeat (first | exact trivial | refine ⟨rfl, ?_⟩))
  | n + 1, k, b, x, hk, hx, H => by
    have h6 := hD.2.1
    have hq := hD.2.2.2 r hr
    have e3 : I 76 r = nI (D.2.1 r).2.2.1 := hq.2.2.2.1
    have e4 : I 77 r = nI (D.2.1 r).2.2.2 := hq.2.2.2.2
    have okr := fun k hk => (hD.2.2.2 k hk).1
    have ex : x + 1 = nI (k + 1) := by rw [hx]; exact nI_1 k
    have hcK := cK_e (r := r) (c := c) (by omega) hc h0
    have e1 : nI r + 1 = nI (r + 1) := nI_1 r
    subst hx
    unfold dul duS at H
    have k24 : ¬ (40 : Int32) ≤ nI k := nI_ge (b := 40) (by omega) (by omega)
    have h3 := hq.1.2.2.2.1
    have h9 := hq.1.2.2.1.2
    refine Z_jump 3 rfl ?_
    refine Z_bd (fun c24 => absurd c24 (k24)) (fun c24 => ?_)
    refine Z_jump 2 rfl ?_
    refine Z_bd (fun (c29 : (0 : Int32) ≤ b) => ?_) (fun (c29 : ¬ ((0 : Int32) ≤ b)) => ?_)
    · show Zs _ _ (am_P 168).2 (181, [(0, .ref 73), (1, .ref o), (2, .int st), (3, .int c), (4, .int (nI r)), (5, .int b), (6, .int (nI k))], []) (HH I J R T) _
      rw [if_pos c29] at H
      exact Zs_wk (H) (lnD rfl) (lnD rfl) (by repeat (first | exact trivial | refine ⟨rfl, ?_⟩))
    · refine Z_jump 3 rfl ?_
      show Zs _ _ (am_P 168).2 (37, [(0, .ref 73), (1, .ref o), (2, .int st), (3, .int c), (4, .int (nI r)), (5, .int b), (6, .int (nI k))], [.int ((nI k) / (10 : Int32))]) (HH I J R T) _
      refine Z_eqI (y := (nI (k / 10))) (n_d10 (by omega)) ?_
      show Zs _ _ (am_P 168).2 (37, [(0, .ref 73), (1, .ref o), (2, .int st), (3, .int c), (4, .int (nI r)), (5, .int b), (6, .int (nI k))], [.int (nI (k / 10))]) (HH I J R T) _
      refine Z_jump 4 rfl ?_
      show Zs _ _ (am_P 168).2 (44, [(0, .ref 73), (1, .ref o), (2, .int st), (3, .int c), (4, .int (nI r)), (5, .int b), (6, .int (nI k)), (7, .int (nI (k / 10)))], [.int ((nI k) - (nI k) / (10 : Int32) * (10 : Int32))]) (HH I J R T) _
      refine Z_eqI (y := (nI (k % 10))) (n_m10 (by omega)) ?_
      show Zs _ _ (am_P 168).2 (44, [(0, .ref 73), (1, .ref o), (2, .int st), (3, .int c), (4, .int (nI r)), (5, .int b), (6, .int (nI k)), (7, .int (nI (k / 10)))], [.int (nI (k % 10))]) (HH I J R T) _
      refine Z_jump 5 rfl ?_
      show Zs _ _ (am_P 168).2 (54, [(0, .ref 73), (1, .ref o), (2, .int st), (3, .int c), (4, .int (nI r)), (5, .int b), (6, .int (nI k)), (7, .int (nI (k / 10))), (8, .int (nI (k % 10)))], [.int (nI r), .ref 77, .int (nI (k / 10))]) (HH I J R T) _
      refine Z_ialK (r) rfl rfl (rfl) (by omega) (by decide) ?_
      show Zs _ _ (am_P 168).2 (55, [(0, .ref 73), (1, .ref o), (2, .int st), (3, .int c), (4, .int (nI r)), (5, .int b), (6, .int (nI k)), (7, .int (nI (k / 10))), (8, .int (nI (k % 10)))], [.int (I 77 r), .int (nI (k / 10))]) (HH I J R T) _
      show Zs _ _ (am_P 168).2 (55, [(0, .ref 73), (1, .ref o), (2, .int st), (3, .int c), (4, .int (nI r)), (5, .int b), (6, .int (nI k)), (7, .int (nI (k / 10))), (8, .int (nI (k % 10)))], [.int (I 77 r), .int (nI (k / 10))]) (HH I J R T) _
      refine Z_eqI (y := (nI (D.2.1 r).2.2.2)) (e4) ?_
      show Zs _ _ (am_P 168).2 (55, [(0, .ref 73), (1, .ref o), (2, .int st), (3, .int c), (4, .int (nI r)), (5, .int b), (6, .int (nI k)), (7, .int (nI (k / 10))), (8, .int (nI (k % 10)))], [.int (nI (D.2.1 r).2.2.2), .int (nI (k / 10))]) (HH I J R T) _
      refine Z_jump 1 rfl ?_
      refine Z_bd (fun (c55 : (nI (D.2.1 r).2.2.2) < (nI (k / 10))) => ?_) (fun (c55 : ¬ ((nI (D.2.1 r).2.2.2) < (nI (k / 10)))) => ?_)
      · refine Z_jump 12 rfl ?_
        show Zs _ _ (am_P 168).2 (20, [(0, .ref 73), (1, .ref o), (2, .int st), (3, .int c), (4, .int (nI r)), (5, .int b), (6, .int ((nI k) + 1)), (7, .int (nI (k / 10))), (8, .int (nI (k % 10))), (9, .int (0 : Int32)), (10, .int (-1 : Int32))], []) (HH I J R T) _
        rw [if_neg c29, if_pos c55] at H
        exact Zs_wk (m_dul ho hD hr hU hc h0 n (k + 1) _ _ (by omega) ex H) (lnD rfl) (lnD rfl) (by repeat (first | exact trivial | refine ⟨rfl, ?_⟩))
      · refine Z_jump 4 rfl ?_
        show Zs _ _ (am_P 168).2 (66, [(0, .ref 73), (1, .ref o), (2, .int st), (3, .int c), (4, .int (nI r)), (5, .int b), (6, .int (nI k)), (7, .int (nI (k / 10))), (8, .int (nI (k % 10)))], [.int (nI r), .ref 76, .int (nI (k % 10))]) (HH I J R T) _
        refine Z_ialK (r) rfl rfl (rfl) (by omega) (by decide) ?_
        show Zs _ _ (am_P 168).2 (67, [(0, .ref 73), (1, .ref o), (2, .int st), (3, .int c), (4, .int (nI r)), (5, .int b), (6, .int (nI k)), (7, .int (nI (k / 10))), (8, .int (nI (k % 10)))], [.int (I 76 r), .int (nI (k % 10))]) (HH I J R T) _
        show Zs _ _ (am_P 168).2 (67, [(0, .ref 73), (1, .ref o), (2, .int st), (3, .int c), (4, .int (nI r)), (5, .int b), (6, .int (nI k)), (7, .int (nI (k / 10))), (8, .int (nI (k % 10)))], [.int (I 76 r), .int (nI (k % 10))]) (HH I J R T) _
        refine Z_eqI (y := (nI (D.2.1 r).2.2.1)) (e3) ?_
        show Zs _ _ (am_P 168).2 (67, [(0, .ref 73), (1, .ref o), (2, .int st), (3, .int c), (4, .int (nI r)), (5, .int b), (6, .int (nI k)), (7, .int (nI (k / 10))), (8, .int (nI (k % 10)))], [.int (nI (D.2.1 r).2.2.1), .int (nI (k % 10))]) (HH I J R T) _
        refine Z_jump 1 rfl ?_
        refine Z_bd (fun (c67 : (nI (D.2.1 r).2.2.1) < (nI (k % 10))) => ?_) (fun (c67 : ¬ ((nI (D.2.1 r).2.2.1) < (nI (k % 10)))) => ?_)
        · refine Z_jump 12 rfl ?_
          show Zs _ _ (am_P 168).2 (20, [(0, .ref 73), (1, .ref o), (2, .int st), (3, .int c), (4, .int (nI r)), (5, .int b), (6, .int ((nI k) + 1)), (7, .int (nI (k / 10))), (8, .int (nI (k % 10))), (9, .int (0 : Int32)), (10, .int (-1 : Int32))], []) (HH I J R T) _
          rw [if_neg c29, if_neg c55, if_pos c67] at H
          exact Zs_wk (m_dul ho hD hr hU hc h0 n (k + 1) _ _ (by omega) ex H) (lnD rfl) (lnD rfl) (by repeat (first | exact trivial | refine ⟨rfl, ?_⟩))
        · refine Z_jump 5 rfl ?_
          show Zs _ _ (am_P 168).2 (78, [(0, .ref 73), (1, .ref o), (2, .int st), (3, .int c), (4, .int (nI r)), (5, .int b), (6, .int (nI k)), (7, .int (nI (k / 10))), (8, .int (nI (k % 10)))], [.int (nI (k / 10)), .int (nI (k % 10)), .int (nI r), .int st, .ref o]) (HH I J R T) _
          by_cases b78 : M_may I o st r (nI (k % 10)) (nI (k / 10))
          · refine Z_c1 rfl rfl rfl (E_pos (m_may ho rfl (by omega)) b78) ?_
            show Zs _ _ (am_P 168).2 (81, [(0, .ref 73), (1, .ref o), (2, .int st), (3, .int c), (4, .int (nI r)), (5, .int b), (6, .int (nI k)), (7, .int (nI (k / 10))), (8, .int (nI (k % 10)))], [.int (1 : Int32)]) (HH I J R T) _
            refine Z_jump 13 rfl ?_
            show Zs _ _ (am_P 168).2 (107, [(0, .ref 73), (1, .ref o), (2, .int st), (3, .int c), (4, .int (nI r)), (5, .int b), (6, .int (nI k)), (7, .int (nI (k / 10))), (8, .int (nI (k % 10))), (9, .int (1 : Int32))], [.int (nI r), .ref 73, .int (nI (k / 10)), .int (nI (k % 10)), .int c, .int (nI r), .ref 73]) (HH I J R T) _
            refine Z_c1 rfl rfl rfl (m_worthD hD rfl hr) ?_
            show Zs _ _ (am_P 168).2 (110, [(0, .ref 73), (1, .ref o), (2, .int st), (3, .int c), (4, .int (nI r)), (5, .int b), (6, .int (nI k)), (7, .int (nI (k / 10))), (8, .int (nI (k % 10))), (9, .int (1 : Int32))], [.int (nI (hwv (D.2.1 r))), .int (nI (k / 10)), .int (nI (k % 10)), .int c, .int (nI r), .ref 73]) (HH I J R T) _
            refine Z_jump 2 rfl ?_
            show Zs _ _ (am_P 168).2 (112, [(0, .ref 73), (1, .ref o), (2, .int st), (3, .int c), (4, .int (nI r)), (5, .int b), (6, .int (nI k)), (7, .int (nI (k / 10))), (8, .int (nI (k % 10))), (9, .int (1 : Int32))], [.int ((nI (k % 10)) + ((nI (k / 10)) * (nI (hwv (D.2.1 r))))), .int c, .int (nI r), .ref 73]) (HH I J R T) _
            refine Z_eqI (y := (shF D r (nI (k % 10)) (nI (k / 10)))) (rfl) ?_
            show Zs _ _ (am_P 168).2 (112, [(0, .ref 73), (1, .ref o), (2, .int st), (3, .int c), (4, .int (nI r)), (5, .int b), (6, .int (nI k)), (7, .int (nI (k / 10))), (8, .int (nI (k % 10))), (9, .int (1 : Int32))], [.int (shF D r (nI (k % 10)) (nI (k / 10))), .int c, .int (nI r), .ref 73]) (HH I J R T) _
            show Zs _ _ (am_P 168).2 (112, [(0, .ref 73), (1, .ref o), (2, .int st), (3, .int c), (4, .int (nI r)), (5, .int b), (6, .int (nI k)), (7, .int (nI (k / 10))), (8, .int (nI (k % 10))), (9, .int (1 : Int32))], [.int (shF D r (nI (k % 10)) (nI (k / 10))), .int c, .int (nI r), .ref 73]) (HH I J R T) _
            refine Z_c1 rfl rfl rfl (m_onward hD rfl hr) ?_
            show Zs _ _ (am_P 168).2 (115, [(0, .ref 73), (1, .ref o), (2, .int st), (3, .int c), (4, .int (nI r)), (5, .int b), (6, .int (nI k)), (7, .int (nI (k / 10))), (8, .int (nI (k % 10))), (9, .int (1 : Int32))], [.int (onF J D r c (shF D r (nI (k % 10)) (nI (k / 10))))]) (HH I J R T) _
            refine Z_jump 4 rfl ?_
            refine Z_bd (fun (c123 : (onF J D r c (shF D r (nI (k % 10)) (nI (k / 10)))) < (0 : Int32)) => ?_) (fun (c123 : ¬ ((onF J D r c (shF D r (nI (k % 10)) (nI (k / 10)))) < (0 : Int32))) => ?_)
            · refine Z_jump 4 rfl ?_
              show Zs _ _ (am_P 168).2 (20, [(0, .ref 73), (1, .ref o), (2, .int st), (3, .int c), (4, .int (nI r)), (5, .int b), (6, .int ((nI k) + 1)), (7, .int (nI (k / 10))), (8, .int (nI (k % 10))), (9, .int (1 : Int32)), (10, .int (onF J D r c (shF D r (nI (k % 10)) (nI (k / 10)))))], []) (HH I J R T) _
              rw [if_neg c29, if_neg c55, if_neg c67, if_pos b78, if_pos c123] at H
              exact Zs_wk (m_dul ho hD hr hU hc h0 n (k + 1) _ _ (by omega) ex H) (lnD rfl) (lnD rfl) (by repeat (first | exact trivial | refine ⟨rfl, ?_⟩))
            · show Zs _ _ (am_P 168).2 (126, [(0, .ref 73), (1, .ref o), (2, .int st), (3, .int c), (4, .int (nI r)), (5, .int b), (6, .int (nI k)), (7, .int (nI (k / 10))), (8, .int (nI (k % 10))), (9, .int (1 : Int32)), (10, .int (onF J D r c (shF D r (nI (k % 10)) (nI (k / 10)))))], []) (HH I J R T) _
              have hs1 : k / 10 ≤ (D.2.1 r).2.2.2 ∧ k % 10 ≤ (D.2.1 r).2.2.1 := by rw [nI_ltI (by omega) (by omega)] at c55 c67; omega
              have hsb := shF_b (D := D) (r := r) hq.1 hs1.2 hs1.1
              have hob := onF_b hU okr hr hc (s := shF D r (nI (k % 10)) (nI (k / 10))) (by omega)
              obtain ⟨jn, hjn, ejn⟩ := nI_of c123
              have ejc : (onF J D r c (shF D r (nI (k % 10)) (nI (k / 10)))).toNatClampNeg = jn := by rw [ejn, nI_clamp hjn]
              have hj63 : jn ≤ 63 := by rw [ejn, nI_toInt hjn] at hob; omega
              have eK : (64 : Int32) * nI (r + 1) + onF J D r c (shF D r (nI (k % 10)) (nI (k / 10))) = nI (lyK r (onF J D r c (shF D r (nI (k % 10)) (nI (k / 10))))) := by unfold lyK; rw [ejc, ejn]; exact n64
              have hK : lyK r (onF J D r c (shF D r (nI (k % 10)) (nI (k / 10)))) < 448 := by unfold lyK; rw [ejc]; omega
              refine Z_jump 5 rfl ?_
              show Zs _ _ (am_P 168).2 (134, [(0, .ref 73), (1, .ref o), (2, .int st), (3, .int c), (4, .int (nI r)), (5, .int b), (6, .int (nI k)), (7, .int (nI (k / 10))), (8, .int (nI (k % 10))), (9, .int (1 : Int32)), (10, .int (onF J D r c (shF D r (nI (k % 10)) (nI (k / 10)))))], [.int ((nI r) + (1 : Int32)), .ref 82]) (HH I J R T) _
              refine Z_eqI (y := (nI (r + 1))) (e1) ?_
              show Zs _ _ (am_P 168).2 (134, [(0, .ref 73), (1, .ref o), (2, .int st), (3, .int c), (4, .int (nI r)), (5, .int b), (6, .int (nI k)), (7, .int (nI (k / 10))), (8, .int (nI (k % 10))), (9, .int (1 : Int32)), (10, .int (onF J D r c (shF D r (nI (k % 10)) (nI (k / 10)))))], [.int (nI (r + 1)), .ref 82]) (HH I J R T) _
              refine Z_jump 1 rfl ?_
              show Zs _ _ (am_P 168).2 (136, [(0, .ref 73), (1, .ref o), (2, .int st), (3, .int c), (4, .int (nI r)), (5, .int b), (6, .int (nI k)), (7, .int (nI (k / 10))), (8, .int (nI (k % 10))), (9, .int (1 : Int32)), (10, .int (onF J D r c (shF D r (nI (k % 10)) (nI (k / 10)))))], [.int (onF J D r c (shF D r (nI (k % 10)) (nI (k / 10)))), .int (nI (r + 1)), .ref 82]) (HH I J R T) _
              refine Z_c1 rfl rfl rfl (m_cell) ?_
              show Zs _ _ (am_P 168).2 (139, [(0, .ref 73), (1, .ref o), (2, .int st), (3, .int c), (4, .int (nI r)), (5, .int b), (6, .int (nI k)), (7, .int (nI (k / 10))), (8, .int (nI (k % 10))), (9, .int (1 : Int32)), (10, .int (onF J D r c (shF D r (nI (k % 10)) (nI (k / 10)))))], [.int (64 * nI (r + 1) + onF J D r c (shF D r (nI (k % 10)) (nI (k / 10)))), .ref 82]) (HH I J R T) _
              show Zs _ _ (am_P 168).2 (139, [(0, .ref 73), (1, .ref o), (2, .int st), (3, .int c), (4, .int (nI r)), (5, .int b), (6, .int (nI k)), (7, .int (nI (k / 10))), (8, .int (nI (k % 10))), (9, .int (1 : Int32)), (10, .int (onF J D r c (shF D r (nI (k % 10)) (nI (k / 10)))))], [.int (64 * nI (r + 1) + onF J D r c (shF D r (nI (k % 10)) (nI (k / 10)))), .ref 82]) (HH I J R T) _
              refine Z_ialK (lyK r (onF J D r c (shF D r (nI (k % 10)) (nI (k / 10))))) rfl rfl (eK) (hK) (by decide) ?_
              show Zs _ _ (am_P 168).2 (140, [(0, .ref 73), (1, .ref o), (2, .int st), (3, .int c), (4, .int (nI r)), (5, .int b), (6, .int (nI k)), (7, .int (nI (k / 10))), (8, .int (nI (k % 10))), (9, .int (1 : Int32)), (10, .int (onF J D r c (shF D r (nI (k % 10)) (nI (k / 10)))))], [.int (I 82 (lyK r (onF J D r c (shF D r (nI (k % 10)) (nI (k / 10))))))]) (HH I J R T) _
              refine Z_jump 5 rfl ?_
              show Zs _ _ (am_P 168).2 (148, [(0, .ref 73), (1, .ref o), (2, .int st), (3, .int c), (4, .int (nI r)), (5, .int b), (6, .int (nI k)), (7, .int (nI (k / 10))), (8, .int (nI (k % 10))), (9, .int (1 : Int32)), (10, .int (onF J D r c (shF D r (nI (k % 10)) (nI (k / 10)))))], [.int (nI (k / 10)), .int (nI (k % 10)), .int (nI r), .ref o, .ref 73, .int (I 82 (lyK r (onF J D r c (shF D r (nI (k % 10)) (nI (k / 10))))))]) (HH I J R T) _
              refine Z_c1 rfl rfl rfl (m_change ho rfl (by omega)) ?_
              show Zs _ _ (am_P 168).2 (151, [(0, .ref 73), (1, .ref o), (2, .int st), (3, .int c), (4, .int (nI r)), (5, .int b), (6, .int (nI k)), (7, .int (nI (k / 10))), (8, .int (nI (k % 10))), (9, .int (1 : Int32)), (10, .int (onF J D r c (shF D r (nI (k % 10)) (nI (k / 10)))))], [.int (M_ch I o r (nI (k % 10)) (nI (k / 10))), .int (I 82 (lyK r (onF J D r c (shF D r (nI (k % 10)) (nI (k / 10))))))]) (HH I J R T) _
              refine Z_jump 1 rfl ?_
              show Zs _ _ (am_P 168).2 (152, [(0, .ref 73), (1, .ref o), (2, .int st), (3, .int c), (4, .int (nI r)), (5, .int b), (6, .int (nI k)), (7, .int (nI (k / 10))), (8, .int (nI (k % 10))), (9, .int (1 : Int32)), (10, .int (onF J D r c (shF D r (nI (k % 10)) (nI (k / 10)))))], [.int ((I 82 (lyK r (onF J D r c (shF D r (nI (k % 10)) (nI (k / 10)))))) + (M_ch I o r (nI (k % 10)) (nI (k / 10))))]) (HH I J R T) _
              refine Z_eqI (y := (lyM I o r (onF J D r c (shF D r (nI (k % 10)) (nI (k / 10)))) (nI (k % 10)) (nI (k / 10)))) (rfl) ?_
              show Zs _ _ (am_P 168).2 (152, [(0, .ref 73), (1, .ref o), (2, .int st), (3, .int c), (4, .int (nI r)), (5, .int b), (6, .int (nI k)), (7, .int (nI (k / 10))), (8, .int (nI (k % 10))), (9, .int (1 : Int32)), (10, .int (onF J D r c (shF D r (nI (k % 10)) (nI (k / 10)))))], [.int (lyM I o r (onF J D r c (shF D r (nI (k % 10)) (nI (k / 10)))) (nI (k % 10)) (nI (k / 10)))]) (HH I J R T) _
              refine Z_jump 4 rfl ?_
              show Zs _ _ (am_P 168).2 (159, [(0, .ref 73), (1, .ref o), (2, .int st), (3, .int c), (4, .int (nI r)), (5, .int b), (6, .int (nI k)), (7, .int (nI (k / 10))), (8, .int (nI (k % 10))), (9, .int (1 : Int32)), (10, .int (onF J D r c (shF D r (nI (k % 10)) (nI (k / 10)))))], [.int c, .int (nI r), .ref 82, .int (lyM I o r (onF J D r c (shF D r (nI (k % 10)) (nI (k / 10)))) (nI (k % 10)) (nI (k / 10)))]) (HH I J R T) _
              refine Z_c1 rfl rfl rfl (m_cell) ?_
              show Zs _ _ (am_P 168).2 (162, [(0, .ref 73), (1, .ref o), (2, .int st), (3, .int c), (4, .int (nI r)), (5, .int b), (6, .int (nI k)), (7, .int (nI (k / 10))), (8, .int (nI (k % 10))), (9, .int (1 : Int32)), (10, .int (onF J D r c (shF D r (nI (k % 10)) (nI (k / 10)))))], [.int (64 * nI r + c), .ref 82, .int (lyM I o r (onF J D r c (shF D r (nI (k % 10)) (nI (k / 10)))) (nI (k % 10)) (nI (k / 10)))]) (HH I J R T) _
              show Zs _ _ (am_P 168).2 (162, [(0, .ref 73), (1, .ref o), (2, .int st), (3, .int c), (4, .int (nI r)), (5, .int b), (6, .int (nI k)), (7, .int (nI (k / 10))), (8, .int (nI (k % 10))), (9, .int (1 : Int32)), (10, .int (onF J D r c (shF D r (nI (k % 10)) (nI (k / 10)))))], [.int (64 * nI r + c), .ref 82, .int (lyM I o r (onF J D r c (shF D r (nI (k % 10)) (nI (k / 10)))) (nI (k % 10)) (nI (k / 10)))]) (HH I J R T) _
              refine Z_ialK (cK r c) rfl rfl (hcK.1) (hcK.2) (by decide) ?_
              show Zs _ _ (am_P 168).2 (163, [(0, .ref 73), (1, .ref o), (2, .int st), (3, .int c), (4, .int (nI r)), (5, .int b), (6, .int (nI k)), (7, .int (nI (k / 10))), (8, .int (nI (k % 10))), (9, .int (1 : Int32)), (10, .int (onF J D r c (shF D r (nI (k % 10)) (nI (k / 10)))))], [.int (I 82 (cK r c)), .int (lyM I o r (onF J D r c (shF D r (nI (k % 10)) (nI (k / 10)))) (nI (k % 10)) (nI (k / 10)))]) (HH I J R T) _
              refine Z_jump 1 rfl ?_
              refine Z_bn (fun (c163 : ¬ ((lyM I o r (onF J D r c (shF D r (nI (k % 10)) (nI (k / 10)))) (nI (k % 10)) (nI (k / 10))) = (I 82 (cK r c)))) => ?_) (fun (c163 : (lyM I o r (onF J D r c (shF D r (nI (k % 10)) (nI (k / 10)))) (nI (k % 10)) (nI (k / 10))) = (I 82 (cK r c))) => ?_)
              · refine Z_jump 4 rfl ?_
                show Zs _ _ (am_P 168).2 (20, [(0, .ref 73), (1, .ref o), (2, .int st), (3, .int c), (4, .int (nI r)), (5, .int b), (6, .int ((nI k) + 1)), (7, .int (nI (k / 10))), (8, .int (nI (k % 10))), (9, .int (1 : Int32)), (10, .int (onF J D r c (shF D r (nI (k % 10)) (nI (k / 10)))))], []) (HH I J R T) _
                rw [if_neg c29, if_neg c55, if_neg c67, if_pos b78, if_neg c123, if_neg c163] at H
                exact Zs_wk (m_dul ho hD hr hU hc h0 n (k + 1) _ _ (by omega) ex H) (lnD rfl) (lnD rfl) (by repeat (first | exact trivial | refine ⟨rfl, ?_⟩))
              · refine Z_jump 5 rfl ?_
                show Zs _ _ (am_P 168).2 (20, [(0, .ref 73), (1, .ref o), (2, .int st), (3, .int c), (4, .int (nI r)), (5, .int (nI k)), (6, .int ((nI k) + 1)), (7, .int (nI (k / 10))), (8, .int (nI (k % 10))), (9, .int (1 : Int32)), (10, .int (onF J D r c (shF D r (nI (k % 10)) (nI (k / 10)))))], []) (HH I J R T) _
                rw [if_neg c29, if_neg c55, if_neg c67, if_pos b78, if_neg c123, if_pos c163] at H
                exact Zs_wk (m_dul ho hD hr hU hc h0 n (k + 1) _ _ (by omega) ex H) (lnD rfl) (lnD rfl) (by repeat (first | exact trivial | refine ⟨rfl, ?_⟩))
          · refine Z_c1 rfl rfl rfl (E_neg (m_may ho rfl (by omega)) b78) ?_
            show Zs _ _ (am_P 168).2 (81, [(0, .ref 73), (1, .ref o), (2, .int st), (3, .int c), (4, .int (nI r)), (5, .int b), (6, .int (nI k)), (7, .int (nI (k / 10))), (8, .int (nI (k % 10)))], [.int (0 : Int32)]) (HH I J R T) _
            refine Z_jump 13 rfl ?_
            show Zs _ _ (am_P 168).2 (20, [(0, .ref 73), (1, .ref o), (2, .int st), (3, .int c), (4, .int (nI r)), (5, .int b), (6, .int ((nI k) + 1)), (7, .int (nI (k / 10))), (8, .int (nI (k % 10))), (9, .int (0 : Int32)), (10, .int (-1 : Int32))], []) (HH I J R T) _
            rw [if_neg c29, if_neg c55, if_neg c67, if_neg b78] at H
            exact Zs_wk (m_dul ho hD hr hU hc h0 n (k + 1) _ _ (by omega) ex H) (lnD rfl) (lnD rfl) (by repeat (first | exact trivial | refine ⟨rfl, ?_⟩))
theorem m_duF {J : hJ} {D : FD} {o : Nat} {st : Int32} (ho : o = 78 ∨ o = 79) (hU : DU J D) : ∀ (n r : Nat) (c : Int32) (I : hI) (x : Int32), r + n = D.1 → x = nI r → DMf D I → (-2 ≤ c.toInt ∧ c.toInt ≤ 63) → (0 ≤ c.toInt ∨ 1 ≤ r) → Q none (HH (duF J D o st n r c I) J R T) → Zs sc (d + 3) (am_P 168).2 (5, [(0, .ref 73), (1, .ref o), (2, .int st), (3, .int c), (4, .int x)], []) (HH I J R T) Q
  | 0, r, c, I, x, hr, hx, hD, hc, h0, H => by
    have h6 := hD.2.1
    refine Z_jump 4 rfl ?_
    refine Z_bd (fun c11 => ?_) (fun c11 => absurd ((show I 73 0 ≤ x by rw [hD.1, hx]; exact nI_le (by omega) (by omega))) c11)
    show Zs _ _ (am_P 168).2 (251, [(0, .ref 73), (1, .ref o), (2, .int st), (3, .int c), (4, .int x)], []) (HH I J R T) _
    refine Z_ret rfl rfl rfl ?_
    exact H
  | n + 1, r, c, I, x, hr, hx, hD, hc, h0, H => by
    have h6 := hD.2.1
    have hq := (hD.2.2.2 r (by omega)).1
    have okr := fun k hk => (hD.2.2.2 k hk).1
    have ex : x + 1 = nI (r + 1) := by rw [hx]; exact nI_1 r
    have hk : okK D r (duB I J D o st r c) := dul_ok hq 40 0 _ (by omega) (Or.inl rfl)
    subst hx
    unfold duF at H
    have W : Zs sc (d + 3) (am_P 168).2 (181, [(0, .ref 73), (1, .ref o), (2, .int st), (3, .int c), (4, .int (nI r)), (5, .int (duB I J D o st r c))], []) (HH I J R T) Q := by
      generalize duB I J D o st r c = b at hk H ⊢
      have hb := okK_b hq hk
      have hob := onF_b hU okr (show r < D.1 by omega) hc hb.1
      have ed1 : duI I r b 83 r = dL b := by unfold duI; rw [sf_k (by omega), sf_s]
      have ed2 : duI I r b 83 (6 + r) = dH b := by unfold duI; rw [sf_s]
      have hD1 : DMf D (duI I r b) := DMf_of hD (duI_c (by decide)) (duI_c (by decide)) (duI_c (by decide)) (duI_c (by decide)) (duI_c (by decide))
      refine Z_jump 8 rfl ?_
      show Zs _ _ (am_P 168).2 (194, [(0, .ref 73), (1, .ref o), (2, .int st), (3, .int c), (4, .int (nI r)), (5, .int b)], [.int (b - b / (10 : Int32) * (10 : Int32)), .int ((0 : Int32) + (nI r)), .ref 83]) (HH I J R T) _
      refine Z_iasK (r) rfl rfl (nI_z r) (by omega) (by decide) ?_
      show Zs _ _ (am_P 168).2 (195, [(0, .ref 73), (1, .ref o), (2, .int st), (3, .int c), (4, .int (nI r)), (5, .int b)], []) (HH (sf I 83 r (b - b / (10 : Int32) * (10 : Int32))) J R T) _
      refine Z_jump 8 rfl ?_
      show Zs _ _ (am_P 168).2 (209, [(0, .ref 73), (1, .ref o), (2, .int st), (3, .int c), (4, .int (nI r)), (5, .int b)], [.int (b / (10 : Int32)), .int ((6 : Int32) + (nI r)), .ref 83]) (HH (sf I 83 r (b - b / (10 : Int32) * (10 : Int32))) J R T) _
      refine Z_iasK (6 + r) rfl rfl (nI_6 r) (by omega) (by decide) ?_
      show Zs _ _ (am_P 168).2 (210, [(0, .ref 73), (1, .ref o), (2, .int st), (3, .int c), (4, .int (nI r)), (5, .int b)], []) (HH (sf (sf I 83 r (b - b / (10 : Int32) * (10 : Int32))) 83 (6 + r) (b / (10 : Int32))) J R T) _
      show Zs _ _ (am_P 168).2 (210, [(0, .ref 73), (1, .ref o), (2, .int st), (3, .int c), (4, .int (nI r)), (5, .int b)], []) (HH (sf (sf I 83 r (b - b / (10 : Int32) * (10 : Int32))) 83 (6 + r) (b / (10 : Int32))) J R T) _
      skip
      refine Z_jump 8 rfl ?_
      show Zs _ _ (am_P 168).2 (222, [(0, .ref 73), (1, .ref o), (2, .int st), (3, .int c), (4, .int (nI r)), (5, .int b)], [.int ((0 : Int32) + (nI r)), .ref 83, .int c, .int (nI r), .ref 73]) (HH (duI I r b) J R T) _
      refine Z_ialK (r) rfl rfl (nI_z r) (by omega) (by decide) ?_
      show Zs _ _ (am_P 168).2 (223, [(0, .ref 73), (1, .ref o), (2, .int st), (3, .int c), (4, .int (nI r)), (5, .int b)], [.int ((duI I r b) 83 r), .int c, .int (nI r), .ref 73]) (HH (duI I r b) J R T) _
      show Zs _ _ (am_P 168).2 (223, [(0, .ref 73), (1, .ref o), (2, .int st), (3, .int c), (4, .int (nI r)), (5, .int b)], [.int ((duI I r b) 83 r), .int c, .int (nI r), .ref 73]) (HH (duI I r b) J R T) _
      refine Z_eqI (y := (dL b)) (ed1) ?_
      show Zs _ _ (am_P 168).2 (223, [(0, .ref 73), (1, .ref o), (2, .int st), (3, .int c), (4, .int (nI r)), (5, .int b)], [.int (dL b), .int c, .int (nI r), .ref 73]) (HH (duI I r b) J R T) _
      refine Z_jump 5 rfl ?_
      show Zs _ _ (am_P 168).2 (232, [(0, .ref 73), (1, .ref o), (2, .int st), (3, .int c), (4, .int (nI r)), (5, .int b)], [.int ((6 : Int32) + (nI r)), .ref 83, .int (dL b), .int c, .int (nI r), .ref 73]) (HH (duI I r b) J R T) _
      refine Z_ialK (6 + r) rfl rfl (nI_6 r) (by omega) (by decide) ?_
      show Zs _ _ (am_P 168).2 (233, [(0, .ref 73), (1, .ref o), (2, .int st), (3, .int c), (4, .int (nI r)), (5, .int b)], [.int ((duI I r b) 83 (6 + r)), .int (dL b), .int c, .int (nI r), .ref 73]) (HH (duI I r b) J R T) _
      show Zs _ _ (am_P 168).2 (233, [(0, .ref 73), (1, .ref o), (2, .int st), (3, .int c), (4, .int (nI r)), (5, .int b)], [.int ((duI I r b) 83 (6 + r)), .int (dL b), .int c, .int (nI r), .ref 73]) (HH (duI I r b) J R T) _
      refine Z_eqI (y := (dH b)) (ed2) ?_
      show Zs _ _ (am_P 168).2 (233, [(0, .ref 73), (1, .ref o), (2, .int st), (3, .int c), (4, .int (nI r)), (5, .int b)], [.int (dH b), .int (dL b), .int c, .int (nI r), .ref 73]) (HH (duI I r b) J R T) _
      refine Z_jump 2 rfl ?_
      show Zs _ _ (am_P 168).2 (236, [(0, .ref 73), (1, .ref o), (2, .int st), (3, .int c), (4, .int (nI r)), (5, .int b)], [.int (nI r), .ref 73, .int (dH b), .int (dL b), .int c, .int (nI r), .ref 73]) (HH (duI I r b) J R T) _
      refine Z_c1 rfl rfl rfl (m_worthD hD1 rfl (by omega)) ?_
      show Zs _ _ (am_P 168).2 (239, [(0, .ref 73), (1, .ref o), (2, .int st), (3, .int c), (4, .int (nI r)), (5, .int b)], [.int (nI (hwv (D.2.1 r))), .int (dH b), .int (dL b), .int c, .int (nI r), .ref 73]) (HH (duI I r b) J R T) _
      refine Z_jump 2 rfl ?_
      show Zs _ _ (am_P 168).2 (241, [(0, .ref 73), (1, .ref o), (2, .int st), (3, .int c), (4, .int (nI r)), (5, .int b)], [.int ((dL b) + ((dH b) * (nI (hwv (D.2.1 r))))), .int c, .int (nI r), .ref 73]) (HH (duI I r b) J R T) _
      refine Z_eqI (y := (shF D r (dL b) (dH b))) (rfl) ?_
      show Zs _ _ (am_P 168).2 (241, [(0, .ref 73), (1, .ref o), (2, .int st), (3, .int c), (4, .int (nI r)), (5, .int b)], [.int (shF D r (dL b) (dH b)), .int c, .int (nI r), .ref 73]) (HH (duI I r b) J R T) _
      show Zs _ _ (am_P 168).2 (241, [(0, .ref 73), (1, .ref o), (2, .int st), (3, .int c), (4, .int (nI r)), (5, .int b)], [.int (shF D r (dL b) (dH b)), .int c, .int (nI r), .ref 73]) (HH (duI I r b) J R T) _
      refine Z_c1 rfl rfl rfl (m_onward hD1 rfl (by omega)) ?_
      show Zs _ _ (am_P 168).2 (244, [(0, .ref 73), (1, .ref o), (2, .int st), (3, .int c), (4, .int (nI r)), (5, .int b)], [.int (onF J D r c (shF D r (dL b) (dH b)))]) (HH (duI I r b) J R T) _
      refine Z_jump 3 rfl ?_
      show Zs _ _ (am_P 168).2 (5, [(0, .ref 73), (1, .ref o), (2, .int st), (3, .int (onF J D r c (shF D r (dL b) (dH b)))), (4, .int ((nI r) + 1)), (5, .int b)], []) (HH (duI I r b) J R T) _
      exact Zs_wk (m_duF ho hU n (r + 1) _ _ _ (by omega) ex hD1 hob (Or.inr (by omega)) H) (lnD rfl) (lnD rfl) (by repeat (first | exact trivial | refine ⟨rfl, ?_⟩))
    refine Z_jump 4 rfl ?_
    refine Z_bd (fun c11 => absurd c11 ((show ¬ I 73 0 ≤ nI r by rw [hD.1]; exact nI_ge (by omega) (by omega)))) (fun c11 => ?_)
    refine Z_jump 4 rfl ?_
    show Zs _ _ (am_P 168).2 (20, [(0, .ref 73), (1, .ref o), (2, .int st), (3, .int c), (4, .int (nI r)), (5, .int (-1 : Int32)), (6, .int (0 : Int32))], []) (HH I J R T) _
    exact m_dul ho hD (by omega) hU hc h0 40 0 _ _ (by omega) rfl W
theorem m_layDue {I : hI} {J : hJ} {D : FD} {o : Nat} {st : Int32} (ho : o = 78 ∨ o = 79) (hD : DMf D I) (hU : DU J D) : am_E sc (d + 4) 168 [.ref 73, .ref o, .int st] (HH I J R T) none (HH (duF J D o st D.1 0 0 I) J R T) := by
  refine E_Z (Ze_of (Nat.le_of_ble_eq_true rfl) ?_)
  refine Z_jump 4 rfl ?_
  show Zs _ _ (am_P 168).2 (5, [(0, .ref 73), (1, .ref o), (2, .int st), (3, .int (0 : Int32)), (4, .int (0 : Int32))], []) (HH I J R T) _
  exact m_duF ho hU D.1 0 _ _ _ (by omega) rfl hD ⟨by decide, by decide⟩ (Or.inl (by decide)) ⟨rfl, rfl⟩
end ML4

