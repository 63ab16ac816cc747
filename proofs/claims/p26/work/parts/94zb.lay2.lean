/-! The reference: layCell, lay, isShown. -/
section ML2
variable {sc : Nat × (Nat → Int32)} {d : Nat} {R : hR} {T : am_H} {Q : Option Value → am_H → Prop}
def shF (D : FD) (r : Nat) (lo hi : Int32) : Int32 := lo + hi * nI (hwv (D.2.1 r))
theorem hwv_b {q : RD4} (h : okR q) : hwv q ≤ 10 := by
  have := h.2.2.1
  unfold hwv
  split
  · omega
  · split <;> omega
/-- what a rod can show is below 40 -/
theorem wv40 {q : RD4} (h : okR q) {lo hi : Nat} (h1 : lo ≤ q.2.2.1) (h2 : hi ≤ q.2.2.2) : lo + hi * hwv q ≤ 39 := by
  obtain ⟨kd, b, l, g⟩ := q
  obtain ⟨a1, a2, a3, a4, a5⟩ := h
  dsimp only at *
  unfold hwv
  dsimp only
  split
  · rename_i e
    have := a5 e
    subst this
    have : hi = 0 := by omega
    subst this
    omega
  · split
    · rcases (show hi = 0 ∨ hi = 1 ∨ hi = 2 ∨ hi = 3 by omega) with rfl | rfl | rfl | rfl <;> omega
    · omega
theorem shF_n {D : FD} {r lo hi : Nat} : shF D r (nI lo) (nI hi) = nI (lo + hi * hwv (D.2.1 r)) := by
  unfold shF
  rw [← nI_add]
  congr 1
  exact (Int32.ofNat_mul hi _).symm
theorem shF_b {D : FD} {r lo hi : Nat} (h : okR (D.2.1 r)) (h1 : lo ≤ (D.2.1 r).2.2.1) (h2 : hi ≤ (D.2.1 r).2.2.2) : 0 ≤ (shF D r (nI lo) (nI hi)).toInt ∧ (shF D r (nI lo) (nI hi)).toInt ≤ 39 := by
  have := wv40 h h1 h2
  rw [shF_n, nI_toInt (by omega)]
  omega
def lyK (r : Nat) (on : Int32) : Nat := 64 * (r + 1) + on.toNatClampNeg
def lyM (I : hI) (o r : Nat) (on lo hi : Int32) : Int32 := I 82 (lyK r on) + M_ch I o r lo hi
def lyS (I : hI) (J : hJ) (D : FD) (o : Nat) (st : Int32) (r : Nat) (c : Int32) (hi lo : Nat) (p : Int64 × Int32) : Int64 × Int32 :=
  if M_may I o st r (nI lo) (nI hi) then
    (if onF J D r c (shF D r (nI lo) (nI hi)) < 0 then p
     else (p.1 + J 81 (lyK r (onF J D r c (shF D r (nI lo) (nI hi)))), if p.2 ≤ lyM I o r (onF J D r c (shF D r (nI lo) (nI hi))) (nI lo) (nI hi) then p.2 else lyM I o r (onF J D r c (shF D r (nI lo) (nI hi))) (nI lo) (nI hi)))
  else p
def lyl (I : hI) (J : hJ) (D : FD) (o : Nat) (st : Int32) (r : Nat) (c : Int32) (hi : Nat) : Nat → Nat → Int64 × Int32 → Int64 × Int32
  | 0, _, p => p
  | k + 1, lo, p => lyl I J D o st r c hi k (lo + 1) (lyS I J D o st r c hi lo p)
def lyh (I : hI) (J : hJ) (D : FD) (o : Nat) (st : Int32) (r : Nat) (c : Int32) : Nat → Nat → Int64 × Int32 → Int64 × Int32
  | 0, _, p => p
  | k + 1, hi, p => lyh I J D o st r c k (hi + 1) (lyl I J D o st r c hi ((D.2.1 r).2.2.1 + 1) 0 p)
def lyC (I : hI) (J : hJ) (D : FD) (o : Nat) (st : Int32) (r : Nat) (c : Int32) : Int64 × Int32 := lyh I J D o st r c ((D.2.1 r).2.2.2 + 1) 0 (0, 1000000000)
theorem m_lyl {I : hI} {J : hJ} {D : FD} {o r : Nat} {st c y : Int32} {hi : Nat} (ho : o = 78 ∨ o = 79) (hD : DMf D I) (hr : r < D.1) (hU : DU J D) (hc : -2 ≤ c.toInt ∧ c.toInt ≤ 63) (hh : hi ≤ (D.2.1 r).2.2.2) (hy : y = nI hi) : ∀ (k lo : Nat) (p : Int64 × Int32) (x : Int32), lo + k = (D.2.1 r).2.2.1 + 1 → x = nI lo → Zs sc (d + 3) (am_P 166).2 (143, [(0, .ref 73), (1, .ref o), (2, .int st), (3, .int (nI r)), (4, .int c), (5, .long (lyl I J D o st r c hi k lo p).1), (7, .int (lyl I J D o st r c hi k lo p).2), (8, .int y)], []) (HH I J R T) Q → Zs sc (d + 3) (am_P 166).2 (24, [(0, .ref 73), (1, .ref o), (2, .int st), (3, .int (nI r)), (4, .int c), (5, .long p.1), (7, .int p.2), (8, .int y), (9, .int x)], []) (HH I J R T) Q
  | 0, lo, p, x, hl, hx, H => by
    have h6 := hD.2.1
    have hq := hD.2.2.2 r hr
    have hb := hq.1.2.2.1
    have e3 : I 76 r = nI (D.2.1 r).2.2.1 := hq.2.2.2.1
    obtain ⟨p1, p2⟩ := p
    refine Z_jump 4 rfl ?_
    show Zs _ _ (am_P 166).2 (31, [(0, .ref 73), (1, .ref o), (2, .int st), (3, .int (nI r)), (4, .int c), (5, .long p1), (7, .int p2), (8, .int y), (9, .int x)], [.int (nI r), .ref 76, .int x]) (HH I J R T) _
    refine Z_ialK (r) rfl rfl (rfl) (by omega) (by decide) ?_
    show Zs _ _ (am_P 166).2 (32, [(0, .ref 73), (1, .ref o), (2, .int st), (3, .int (nI r)), (4, .int c), (5, .long p1), (7, .int p2), (8, .int y), (9, .int x)], [.int (I 76 r), .int x]) (HH I J R T) _
    refine Z_jump 1 rfl ?_
    refine Z_bd (fun c32 => ?_) (fun c32 => absurd ((show I 76 r < x by rw [e3, hx]; exact nI_lt (by omega) (by omega))) c32)
    show Zs _ _ (am_P 166).2 (143, [(0, .ref 73), (1, .ref o), (2, .int st), (3, .int (nI r)), (4, .int c), (5, .long p1), (7, .int p2), (8, .int y), (9, .int x)], []) (HH I J R T) _
    exact Zs_wk (H) (lnD rfl) (lnD rfl) (by repeat (first | exact trivial | refine ⟨rfl, ?_⟩))
  | k + 1, lo, p, x, hl, hx, H => by
    have h6 := hD.2.1
    have hq := hD.2.2.2 r hr
    have hb := hq.1.2.2.1
    have e3 : I 76 r = nI (D.2.1 r).2.2.1 := hq.2.2.2.1
    have okr := fun k hk => (hD.2.2.2 k hk).1
    have ex : x + 1 = nI (lo + 1) := by rw [hx]; exact nI_1 lo
    have k32 : ¬ I 76 r < x := by rw [e3, hx, nI_ltI (by omega) (by omega)]; omega
    have hsb := shF_b (D := D) (r := r) (lo := lo) (hi := hi) hq.1 (by omega) hh
    have hob := onF_b hU okr hr hc (s := shF D r (nI lo) (nI hi)) (by omega)
    obtain ⟨p1, p2⟩ := p
    subst hx
    subst hy
    unfold lyl lyS at H
    dsimp only at H
    have e1 : nI r + 1 = nI (r + 1) := nI_1 r
    refine Z_jump 4 rfl ?_
    show Zs _ _ (am_P 166).2 (31, [(0, .ref 73), (1, .ref o), (2, .int st), (3, .int (nI r)), (4, .int c), (5, .long p1), (7, .int p2), (8, .int (nI hi)), (9, .int (nI lo))], [.int (nI r), .ref 76, .int (nI lo)]) (HH I J R T) _
    refine Z_ialK (r) rfl rfl (rfl) (by omega) (by decide) ?_
    show Zs _ _ (am_P 166).2 (32, [(0, .ref 73), (1, .ref o), (2, .int st), (3, .int (nI r)), (4, .int c), (5, .long p1), (7, .int p2), (8, .int (nI hi)), (9, .int (nI lo))], [.int (I 76 r), .int (nI lo)]) (HH I J R T) _
    refine Z_jump 1 rfl ?_
    refine Z_bd (fun c32 => absurd c32 (k32)) (fun c32 => ?_)
    refine Z_jump 5 rfl ?_
    show Zs _ _ (am_P 166).2 (42, [(0, .ref 73), (1, .ref o), (2, .int st), (3, .int (nI r)), (4, .int c), (5, .long p1), (7, .int p2), (8, .int (nI hi)), (9, .int (nI lo))], [.int (nI hi), .int (nI lo), .int (nI r), .int st, .ref o]) (HH I J R T) _
    by_cases b42 : M_may I o st r (nI lo) (nI hi)
    · refine Z_c1 rfl rfl rfl (E_pos (m_may ho rfl (by omega)) b42) ?_
      show Zs _ _ (am_P 166).2 (45, [(0, .ref 73), (1, .ref o), (2, .int st), (3, .int (nI r)), (4, .int c), (5, .long p1), (7, .int p2), (8, .int (nI hi)), (9, .int (nI lo))], [.int (1 : Int32)]) (HH I J R T) _
      refine Z_jump 8 rfl ?_
      show Zs _ _ (am_P 166).2 (58, [(0, .ref 73), (1, .ref o), (2, .int st), (3, .int (nI r)), (4, .int c), (5, .long p1), (7, .int p2), (8, .int (nI hi)), (9, .int (nI lo))], [.int (nI r), .ref 73, .int (nI hi), .int (nI lo), .int c, .int (nI r), .ref 73]) (HH I J R T) _
      refine Z_c1 rfl rfl rfl (m_worthD hD rfl hr) ?_
      show Zs _ _ (am_P 166).2 (61, [(0, .ref 73), (1, .ref o), (2, .int st), (3, .int (nI r)), (4, .int c), (5, .long p1), (7, .int p2), (8, .int (nI hi)), (9, .int (nI lo))], [.int (nI (hwv (D.2.1 r))), .int (nI hi), .int (nI lo), .int c, .int (nI r), .ref 73]) (HH I J R T) _
      refine Z_jump 2 rfl ?_
      show Zs _ _ (am_P 166).2 (63, [(0, .ref 73), (1, .ref o), (2, .int st), (3, .int (nI r)), (4, .int c), (5, .long p1), (7, .int p2), (8, .int (nI hi)), (9, .int (nI lo))], [.int ((nI lo) + ((nI hi) * (nI (hwv (D.2.1 r))))), .int c, .int (nI r), .ref 73]) (HH I J R T) _
      refine Z_eqI (y := (shF D r (nI lo) (nI hi))) (rfl) ?_
      show Zs _ _ (am_P 166).2 (63, [(0, .ref 73), (1, .ref o), (2, .int st), (3, .int (nI r)), (4, .int c), (5, .long p1), (7, .int p2), (8, .int (nI hi)), (9, .int (nI lo))], [.int (shF D r (nI lo) (nI hi)), .int c, .int (nI r), .ref 73]) (HH I J R T) _
      show Zs _ _ (am_P 166).2 (63, [(0, .ref 73), (1, .ref o), (2, .int st), (3, .int (nI r)), (4, .int c), (5, .long p1), (7, .int p2), (8, .int (nI hi)), (9, .int (nI lo))], [.int (shF D r (nI lo) (nI hi)), .int c, .int (nI r), .ref 73]) (HH I J R T) _
      refine Z_c1 rfl rfl rfl (m_onward hD rfl hr) ?_
      show Zs _ _ (am_P 166).2 (66, [(0, .ref 73), (1, .ref o), (2, .int st), (3, .int (nI r)), (4, .int c), (5, .long p1), (7, .int p2), (8, .int (nI hi)), (9, .int (nI lo))], [.int (onF J D r c (shF D r (nI lo) (nI hi)))]) (HH I J R T) _
      refine Z_jump 4 rfl ?_
      refine Z_bd (fun (c74 : (onF J D r c (shF D r (nI lo) (nI hi))) < (0 : Int32)) => ?_) (fun (c74 : ¬ ((onF J D r c (shF D r (nI lo) (nI hi))) < (0 : Int32))) => ?_)
      · refine Z_jump 2 rfl ?_
        show Zs _ _ (am_P 166).2 (24, [(0, .ref 73), (1, .ref o), (2, .int st), (3, .int (nI r)), (4, .int c), (5, .long p1), (7, .int p2), (8, .int (nI hi)), (9, .int ((nI lo) + 1)), (10, .int (onF J D r c (shF D r (nI lo) (nI hi))))], []) (HH I J R T) _
        rw [if_pos b42, if_pos c74] at H
        exact Zs_wk (m_lyl ho hD hr hU hc hh rfl k (lo + 1) (_, _) _ (by omega) ex H) (lnD rfl) (lnD rfl) (by repeat (first | exact trivial | refine ⟨rfl, ?_⟩))
      · show Zs _ _ (am_P 166).2 (77, [(0, .ref 73), (1, .ref o), (2, .int st), (3, .int (nI r)), (4, .int c), (5, .long p1), (7, .int p2), (8, .int (nI hi)), (9, .int (nI lo)), (10, .int (onF J D r c (shF D r (nI lo) (nI hi))))], []) (HH I J R T) _
        obtain ⟨jn, hjn, ejn⟩ := nI_of c74
        have ejc : (onF J D r c (shF D r (nI lo) (nI hi))).toNatClampNeg = jn := by rw [ejn, nI_clamp hjn]
        have hj63 : jn ≤ 63 := by rw [ejn, nI_toInt hjn] at hob; omega
        have eK : (64 : Int32) * nI (r + 1) + onF J D r c (shF D r (nI lo) (nI hi)) = nI (lyK r (onF J D r c (shF D r (nI lo) (nI hi)))) := by unfold lyK; rw [ejc, ejn]; exact n64
        have hK : lyK r (onF J D r c (shF D r (nI lo) (nI hi))) < 448 := by unfold lyK; rw [ejc]; omega
        refine Z_jump 6 rfl ?_
        show Zs _ _ (am_P 166).2 (86, [(0, .ref 73), (1, .ref o), (2, .int st), (3, .int (nI r)), (4, .int c), (5, .long p1), (7, .int p2), (8, .int (nI hi)), (9, .int (nI lo)), (10, .int (onF J D r c (shF D r (nI lo) (nI hi))))], [.int ((nI r) + (1 : Int32)), .ref 81, .long p1]) (HH I J R T) _
        refine Z_eqI (y := (nI (r + 1))) (e1) ?_
        show Zs _ _ (am_P 166).2 (86, [(0, .ref 73), (1, .ref o), (2, .int st), (3, .int (nI r)), (4, .int c), (5, .long p1), (7, .int p2), (8, .int (nI hi)), (9, .int (nI lo)), (10, .int (onF J D r c (shF D r (nI lo) (nI hi))))], [.int (nI (r + 1)), .ref 81, .long p1]) (HH I J R T) _
        refine Z_jump 1 rfl ?_
        show Zs _ _ (am_P 166).2 (88, [(0, .ref 73), (1, .ref o), (2, .int st), (3, .int (nI r)), (4, .int c), (5, .long p1), (7, .int p2), (8, .int (nI hi)), (9, .int (nI lo)), (10, .int (onF J D r c (shF D r (nI lo) (nI hi))))], [.int (onF J D r c (shF D r (nI lo) (nI hi))), .int (nI (r + 1)), .ref 81, .long p1]) (HH I J R T) _
        refine Z_c1 rfl rfl rfl (m_cell) ?_
        show Zs _ _ (am_P 166).2 (91, [(0, .ref 73), (1, .ref o), (2, .int st), (3, .int (nI r)), (4, .int c), (5, .long p1), (7, .int p2), (8, .int (nI hi)), (9, .int (nI lo)), (10, .int (onF J D r c (shF D r (nI lo) (nI hi))))], [.int (64 * nI (r + 1) + onF J D r c (shF D r (nI lo) (nI hi))), .ref 81, .long p1]) (HH I J R T) _
        show Zs _ _ (am_P 166).2 (91, [(0, .ref 73), (1, .ref o), (2, .int st), (3, .int (nI r)), (4, .int c), (5, .long p1), (7, .int p2), (8, .int (nI hi)), (9, .int (nI lo)), (10, .int (onF J D r c (shF D r (nI lo) (nI hi))))], [.int (64 * nI (r + 1) + onF J D r c (shF D r (nI lo) (nI hi))), .ref 81, .long p1]) (HH I J R T) _
        refine Z_lalK (lyK r (onF J D r c (shF D r (nI lo) (nI hi)))) rfl rfl (eK) (hK) (by decide) ?_
        show Zs _ _ (am_P 166).2 (92, [(0, .ref 73), (1, .ref o), (2, .int st), (3, .int (nI r)), (4, .int c), (5, .long p1), (7, .int p2), (8, .int (nI hi)), (9, .int (nI lo)), (10, .int (onF J D r c (shF D r (nI lo) (nI hi))))], [.long (J 81 (lyK r (onF J D r c (shF D r (nI lo) (nI hi))))), .long p1]) (HH I J R T) _
        refine Z_jump 7 rfl ?_
        show Zs _ _ (am_P 166).2 (102, [(0, .ref 73), (1, .ref o), (2, .int st), (3, .int (nI r)), (4, .int c), (5, .long (p1 + (J 81 (lyK r (onF J D r c (shF D r (nI lo) (nI hi))))))), (7, .int p2), (8, .int (nI hi)), (9, .int (nI lo)), (10, .int (onF J D r c (shF D r (nI lo) (nI hi))))], [.int ((nI r) + (1 : Int32)), .ref 82]) (HH I J R T) _
        refine Z_eqI (y := (nI (r + 1))) (e1) ?_
        show Zs _ _ (am_P 166).2 (102, [(0, .ref 73), (1, .ref o), (2, .int st), (3, .int (nI r)), (4, .int c), (5, .long (p1 + (J 81 (lyK r (onF J D r c (shF D r (nI lo) (nI hi))))))), (7, .int p2), (8, .int (nI hi)), (9, .int (nI lo)), (10, .int (onF J D r c (shF D r (nI lo) (nI hi))))], [.int (nI (r + 1)), .ref 82]) (HH I J R T) _
        refine Z_jump 1 rfl ?_
        show Zs _ _ (am_P 166).2 (104, [(0, .ref 73), (1, .ref o), (2, .int st), (3, .int (nI r)), (4, .int c), (5, .long (p1 + (J 81 (lyK r (onF J D r c (shF D r (nI lo) (nI hi))))))), (7, .int p2), (8, .int (nI hi)), (9, .int (nI lo)), (10, .int (onF J D r c (shF D r (nI lo) (nI hi))))], [.int (onF J D r c (shF D r (nI lo) (nI hi))), .int (nI (r + 1)), .ref 82]) (HH I J R T) _
        refine Z_c1 rfl rfl rfl (m_cell) ?_
        show Zs _ _ (am_P 166).2 (107, [(0, .ref 73), (1, .ref o), (2, .int st), (3, .int (nI r)), (4, .int c), (5, .long (p1 + (J 81 (lyK r (onF J D r c (shF D r (nI lo) (nI hi))))))), (7, .int p2), (8, .int (nI hi)), (9, .int (nI lo)), (10, .int (onF J D r c (shF D r (nI lo) (nI hi))))], [.int (64 * nI (r + 1) + onF J D r c (shF D r (nI lo) (nI hi))), .ref 82]) (HH I J R T) _
        show Zs _ _ (am_P 166).2 (107, [(0, .ref 73), (1, .ref o), (2, .int st), (3, .int (nI r)), (4, .int c), (5, .long (p1 + (J 81 (lyK r (onF J D r c (shF D r (nI lo) (nI hi))))))), (7, .int p2), (8, .int (nI hi)), (9, .int (nI lo)), (10, .int (onF J D r c (shF D r (nI lo) (nI hi))))], [.int (64 * nI (r + 1) + onF J D r c (shF D r (nI lo) (nI hi))), .ref 82]) (HH I J R T) _
        refine Z_ialK (lyK r (onF J D r c (shF D r (nI lo) (nI hi)))) rfl rfl (eK) (hK) (by decide) ?_
        show Zs _ _ (am_P 166).2 (108, [(0, .ref 73), (1, .ref o), (2, .int st), (3, .int (nI r)), (4, .int c), (5, .long (p1 + (J 81 (lyK r (onF J D r c (shF D r (nI lo) (nI hi))))))), (7, .int p2), (8, .int (nI hi)), (9, .int (nI lo)), (10, .int (onF J D r c (shF D r (nI lo) (nI hi))))], [.int (I 82 (lyK r (onF J D r c (shF D r (nI lo) (nI hi)))))]) (HH I J R T) _
        refine Z_jump 5 rfl ?_
        show Zs _ _ (am_P 166).2 (115, [(0, .ref 73), (1, .ref o), (2, .int st), (3, .int (nI r)), (4, .int c), (5, .long (p1 + (J 81 (lyK r (onF J D r c (shF D r (nI lo) (nI hi))))))), (7, .int p2), (8, .int (nI hi)), (9, .int (nI lo)), (10, .int (onF J D r c (shF D r (nI lo) (nI hi))))], [.int (nI hi), .int (nI lo), .int (nI r), .ref o, .ref 73, .int (I 82 (lyK r (onF J D r c (shF D r (nI lo) (nI hi)))))]) (HH I J R T) _
        refine Z_c1 rfl rfl rfl (m_change ho rfl (by omega)) ?_
        show Zs _ _ (am_P 166).2 (118, [(0, .ref 73), (1, .ref o), (2, .int st), (3, .int (nI r)), (4, .int c), (5, .long (p1 + (J 81 (lyK r (onF J D r c (shF D r (nI lo) (nI hi))))))), (7, .int p2), (8, .int (nI hi)), (9, .int (nI lo)), (10, .int (onF J D r c (shF D r (nI lo) (nI hi))))], [.int (M_ch I o r (nI lo) (nI hi)), .int (I 82 (lyK r (onF J D r c (shF D r (nI lo) (nI hi)))))]) (HH I J R T) _
        refine Z_jump 1 rfl ?_
        show Zs _ _ (am_P 166).2 (119, [(0, .ref 73), (1, .ref o), (2, .int st), (3, .int (nI r)), (4, .int c), (5, .long (p1 + (J 81 (lyK r (onF J D r c (shF D r (nI lo) (nI hi))))))), (7, .int p2), (8, .int (nI hi)), (9, .int (nI lo)), (10, .int (onF J D r c (shF D r (nI lo) (nI hi))))], [.int ((I 82 (lyK r (onF J D r c (shF D r (nI lo) (nI hi))))) + (M_ch I o r (nI lo) (nI hi)))]) (HH I J R T) _
        refine Z_eqI (y := (lyM I o r (onF J D r c (shF D r (nI lo) (nI hi))) (nI lo) (nI hi))) (rfl) ?_
        show Zs _ _ (am_P 166).2 (119, [(0, .ref 73), (1, .ref o), (2, .int st), (3, .int (nI r)), (4, .int c), (5, .long (p1 + (J 81 (lyK r (onF J D r c (shF D r (nI lo) (nI hi))))))), (7, .int p2), (8, .int (nI hi)), (9, .int (nI lo)), (10, .int (onF J D r c (shF D r (nI lo) (nI hi))))], [.int (lyM I o r (onF J D r c (shF D r (nI lo) (nI hi))) (nI lo) (nI hi))]) (HH I J R T) _
        refine Z_jump 4 rfl ?_
        refine Z_bd (fun (c125 : p2 ≤ (lyM I o r (onF J D r c (shF D r (nI lo) (nI hi))) (nI lo) (nI hi))) => ?_) (fun (c125 : ¬ (p2 ≤ (lyM I o r (onF J D r c (shF D r (nI lo) (nI hi))) (nI lo) (nI hi)))) => ?_)
        · refine Z_jump 4 rfl ?_
          show Zs _ _ (am_P 166).2 (24, [(0, .ref 73), (1, .ref o), (2, .int st), (3, .int (nI r)), (4, .int c), (5, .long (p1 + (J 81 (lyK r (onF J D r c (shF D r (nI lo) (nI hi))))))), (7, .int p2), (8, .int (nI hi)), (9, .int ((nI lo) + 1)), (10, .int (onF J D r c (shF D r (nI lo) (nI hi)))), (11, .int (lyM I o r (onF J D r c (shF D r (nI lo) (nI hi))) (nI lo) (nI hi)))], []) (HH I J R T) _
          rw [if_pos b42, if_neg c74, if_pos c125] at H
          exact Zs_wk (m_lyl ho hD hr hU hc hh rfl k (lo + 1) (_, _) _ (by omega) ex H) (lnD rfl) (lnD rfl) (by repeat (first | exact trivial | refine ⟨rfl, ?_⟩))
        · refine Z_jump 5 rfl ?_
          show Zs _ _ (am_P 166).2 (24, [(0, .ref 73), (1, .ref o), (2, .int st), (3, .int (nI r)), (4, .int c), (5, .long (p1 + (J 81 (lyK r (onF J D r c (shF D r (nI lo) (nI hi))))))), (7, .int (lyM I o r (onF J D r c (shF D r (nI lo) (nI hi))) (nI lo) (nI hi))), (8, .int (nI hi)), (9, .int ((nI lo) + 1)), (10, .int (onF J D r c (shF D r (nI lo) (nI hi)))), (11, .int (lyM I o r (onF J D r c (shF D r (nI lo) (nI hi))) (nI lo) (nI hi)))], []) (HH I J R T) _
          rw [if_pos b42, if_neg c74, if_neg c125] at H
          exact Zs_wk (m_lyl ho hD hr hU hc hh rfl k (lo + 1) (_, _) _ (by omega) ex H) (lnD rfl) (lnD rfl) (by repeat (first | exact trivial | refine ⟨rfl, ?_⟩))
    · refine Z_c1 rfl rfl rfl (E_neg (m_may ho rfl (by omega)) b42) ?_
      show Zs _ _ (am_P 166).2 (45, [(0, .ref 73), (1, .ref o), (2, .int st), (3, .int (nI r)), (4, .int c), (5, .long p1), (7, .int p2), (8, .int (nI hi)), (9, .int (nI lo))], [.int (0 : Int32)]) (HH I J R T) _
      refine Z_jump 7 rfl ?_
      show Zs _ _ (am_P 166).2 (24, [(0, .ref 73), (1, .ref o), (2, .int st), (3, .int (nI r)), (4, .int c), (5, .long p1), (7, .int p2), (8, .int (nI hi)), (9, .int ((nI lo) + 1)), (10, .int (-1 : Int32))], []) (HH I J R T) _
      rw [if_neg b42] at H
      exact Zs_wk (m_lyl ho hD hr hU hc hh rfl k (lo + 1) (_, _) _ (by omega) ex H) (lnD rfl) (lnD rfl) (by repeat (first | exact trivial | refine ⟨rfl, ?_⟩))
theorem m_lyh {I : hI} {J : hJ} {D : FD} {o r : Nat} {st c : Int32} (ho : o = 78 ∨ o = 79) (hD : DMf D I) (hr : r < D.1) (hU : DU J D) (hc : -2 ≤ c.toInt ∧ c.toInt ≤ 63) : ∀ (k hi : Nat) (p : Int64 × Int32) (y : Int32), hi + k = (D.2.1 r).2.2.2 + 1 → y = nI hi → Zs sc (d + 3) (am_P 166).2 (149, [(0, .ref 73), (1, .ref o), (2, .int st), (3, .int (nI r)), (4, .int c), (5, .long (lyh I J D o st r c k hi p).1), (7, .int (lyh I J D o st r c k hi p).2)], []) (HH I J R T) Q → Zs sc (d + 3) (am_P 166).2 (10, [(0, .ref 73), (1, .ref o), (2, .int st), (3, .int (nI r)), (4, .int c), (5, .long p.1), (7, .int p.2), (8, .int y)], []) (HH I J R T) Q
  | 0, hi, p, y, hl, hy, H => by
    have h6 := hD.2.1
    have hq := hD.2.2.2 r hr
    have hb := hq.1.2.2.2.1
    have e4 : I 77 r = nI (D.2.1 r).2.2.2 := hq.2.2.2.2
    obtain ⟨p1, p2⟩ := p
    refine Z_jump 4 rfl ?_
    show Zs _ _ (am_P 166).2 (17, [(0, .ref 73), (1, .ref o), (2, .int st), (3, .int (nI r)), (4, .int c), (5, .long p1), (7, .int p2), (8, .int y)], [.int (nI r), .ref 77, .int y]) (HH I J R T) _
    refine Z_ialK (r) rfl rfl (rfl) (by omega) (by decide) ?_
    show Zs _ _ (am_P 166).2 (18, [(0, .ref 73), (1, .ref o), (2, .int st), (3, .int (nI r)), (4, .int c), (5, .long p1), (7, .int p2), (8, .int y)], [.int (I 77 r), .int y]) (HH I J R T) _
    refine Z_jump 1 rfl ?_
    refine Z_bd (fun c18 => ?_) (fun c18 => absurd ((show I 77 r < y by rw [e4, hy]; exact nI_lt (by omega) (by omega))) c18)
    show Zs _ _ (am_P 166).2 (149, [(0, .ref 73), (1, .ref o), (2, .int st), (3, .int (nI r)), (4, .int c), (5, .long p1), (7, .int p2), (8, .int y)], []) (HH I J R T) _
    exact Zs_wk (H) (lnD rfl) (lnD rfl) (by repeat (first | exact trivial | refine ⟨rfl, ?_⟩))
  | k + 1, hi, p, y, hl, hy, H => by
    have h6 := hD.2.1
    have hq := hD.2.2.2 r hr
    have hb := hq.1.2.2.2.1
    have e4 : I 77 r = nI (D.2.1 r).2.2.2 := hq.2.2.2.2
    have ey : y + 1 = nI (hi + 1) := by rw [hy]; exact nI_1 hi
    unfold lyh at H
    have W : Zs sc (d + 3) (am_P 166).2 (143, [(0, .ref 73), (1, .ref o), (2, .int st), (3, .int (nI r)), (4, .int c), (5, .long (lyl I J D o st r c hi ((D.2.1 r).2.2.1 + 1) 0 p).1), (7, .int (lyl I J D o st r c hi ((D.2.1 r).2.2.1 + 1) 0 p).2), (8, .int y)], []) (HH I J R T) Q := by
      generalize lyl I J D o st r c hi ((D.2.1 r).2.2.1 + 1) 0 p = p' at H ⊢
      obtain ⟨q1, q2⟩ := p'
      refine Z_jump 2 rfl ?_
      show Zs _ _ (am_P 166).2 (10, [(0, .ref 73), (1, .ref o), (2, .int st), (3, .int (nI r)), (4, .int c), (5, .long q1), (7, .int q2), (8, .int (y + 1))], []) (HH I J R T) _
      exact m_lyh ho hD hr hU hc k (hi + 1) (q1, q2) _ (by omega) ey H
    obtain ⟨p1, p2⟩ := p
    refine Z_jump 4 rfl ?_
    show Zs _ _ (am_P 166).2 (17, [(0, .ref 73), (1, .ref o), (2, .int st), (3, .int (nI r)), (4, .int c), (5, .long p1), (7, .int p2), (8, .int y)], [.int (nI r), .ref 77, .int y]) (HH I J R T) _
    refine Z_ialK (r) rfl rfl (rfl) (by omega) (by decide) ?_
    show Zs _ _ (am_P 166).2 (18, [(0, .ref 73), (1, .ref o), (2, .int st), (3, .int (nI r)), (4, .int c), (5, .long p1), (7, .int p2), (8, .int y)], [.int (I 77 r), .int y]) (HH I J R T) _
    refine Z_jump 1 rfl ?_
    refine Z_bd (fun c18 => absurd c18 ((show ¬ I 77 r < y by rw [e4, hy, nI_ltI (by omega) (by omega)]; omega))) (fun c18 => ?_)
    refine Z_jump 2 rfl ?_
    show Zs _ _ (am_P 166).2 (24, [(0, .ref 73), (1, .ref o), (2, .int st), (3, .int (nI r)), (4, .int c), (5, .long p1), (7, .int p2), (8, .int y), (9, .int (0 : Int32))], []) (HH I J R T) _
    exact m_lyl ho hD hr hU hc (by omega) hy ((D.2.1 r).2.2.1 + 1) 0 (p1, p2) _ (by omega) rfl W
def lcI (I : hI) (J : hJ) (D : FD) (o : Nat) (st : Int32) (r c : Nat) : hI := sf I 82 (64 * r + c) (lyC I J D o st r (nI c)).2
def lcJ (I : hI) (J : hJ) (D : FD) (o : Nat) (st : Int32) (r c : Nat) : hJ := sl J 81 (64 * r + c) (lyC I J D o st r (nI c)).1
theorem m_layCell {I : hI} {J : hJ} {D : FD} {o r c : Nat} {st x : Int32} (ho : o = 78 ∨ o = 79) (hD : DMf D I) (hr : r < D.1) (hU : DU J D) (hc : c < 64) (hx : x = nI c) : am_E sc (d + 4) 166 [.ref 73, .ref o, .int st, .int (nI r), .int x] (HH I J R T) none (HH (lcI I J D o st r c) (lcJ I J D o st r c) R T) := by
  refine E_Z (Ze_of (Nat.le_of_ble_eq_true rfl) ?_)
  have h6 := hD.2.1
  have eK : (64 : Int32) * nI r + nI c = nI (64 * r + c) := n64
  subst hx
  unfold lcI lcJ lyC
  refine Z_jump 6 rfl ?_
  show Zs _ _ (am_P 166).2 (10, [(0, .ref 73), (1, .ref o), (2, .int st), (3, .int (nI r)), (4, .int (nI c)), (5, .long (0 : Int64)), (7, .int (1000000000 : Int32)), (8, .int (0 : Int32))], []) (HH I J R T) _
  refine m_lyh ho hD hr hU (by rw [nI_toInt (by omega)]; omega) ((D.2.1 r).2.2.2 + 1) 0 (0, 1000000000) _ (by omega) rfl ?_
  generalize lyh I J D o st r (nI c) ((D.2.1 r).2.2.2 + 1) 0 (0, 1000000000) = p'
  obtain ⟨q1, q2⟩ := p'
  refine Z_jump 4 rfl ?_
  show Zs _ _ (am_P 166).2 (156, [(0, .ref 73), (1, .ref o), (2, .int st), (3, .int (nI r)), (4, .int (nI c)), (5, .long q1), (7, .int q2)], [.int (nI c), .int (nI r), .ref 81]) (HH I J R T) _
  refine Z_c1 rfl rfl rfl (m_cell) ?_
  show Zs _ _ (am_P 166).2 (159, [(0, .ref 73), (1, .ref o), (2, .int st), (3, .int (nI r)), (4, .int (nI c)), (5, .long q1), (7, .int q2)], [.int (64 * nI r + nI c), .ref 81]) (HH I J R T) _
  refine Z_jump 1 rfl ?_
  show Zs _ _ (am_P 166).2 (161, [(0, .ref 73), (1, .ref o), (2, .int st), (3, .int (nI r)), (4, .int (nI c)), (5, .long q1), (7, .int q2)], [.long q1, .int (64 * nI r + nI c), .ref 81]) (HH I J R T) _
  refine Z_lasK (64 * r + c) rfl rfl (eK) (by omega) (by decide) ?_
  show Zs _ _ (am_P 166).2 (162, [(0, .ref 73), (1, .ref o), (2, .int st), (3, .int (nI r)), (4, .int (nI c)), (5, .long q1), (7, .int q2)], []) (HH I (sl J 81 (64 * r + c) q1) R T) _
  refine Z_jump 4 rfl ?_
  show Zs _ _ (am_P 166).2 (169, [(0, .ref 73), (1, .ref o), (2, .int st), (3, .int (nI r)), (4, .int (nI c)), (5, .long q1), (7, .int q2)], [.int (nI c), .int (nI r), .ref 82]) (HH I (sl J 81 (64 * r + c) q1) R T) _
  refine Z_c1 rfl rfl rfl (m_cell) ?_
  show Zs _ _ (am_P 166).2 (172, [(0, .ref 73), (1, .ref o), (2, .int st), (3, .int (nI r)), (4, .int (nI c)), (5, .long q1), (7, .int q2)], [.int (64 * nI r + nI c), .ref 82]) (HH I (sl J 81 (64 * r + c) q1) R T) _
  refine Z_jump 1 rfl ?_
  show Zs _ _ (am_P 166).2 (174, [(0, .ref 73), (1, .ref o), (2, .int st), (3, .int (nI r)), (4, .int (nI c)), (5, .long q1), (7, .int q2)], [.int q2, .int (64 * nI r + nI c), .ref 82]) (HH I (sl J 81 (64 * r + c) q1) R T) _
  refine Z_iasK (64 * r + c) rfl rfl (eK) (by omega) (by decide) ?_
  show Zs _ _ (am_P 166).2 (175, [(0, .ref 73), (1, .ref o), (2, .int st), (3, .int (nI r)), (4, .int (nI c)), (5, .long q1), (7, .int q2)], []) (HH (sf I 82 (64 * r + c) q2) (sl J 81 (64 * r + c) q1) R T) _
  show Zs _ _ (am_P 166).2 (175, [(0, .ref 73), (1, .ref o), (2, .int st), (3, .int (nI r)), (4, .int (nI c)), (5, .long q1), (7, .int q2)], []) (HH (sf I 82 (64 * r + c) q2) (sl J 81 (64 * r + c) q1) R T) _
  refine Z_ret rfl rfl rfl ?_
  exact ⟨rfl, rfl⟩
end ML2

