/-! The class's Ways: leastFrom, least. -/
section WY4
variable {sc : Nat × (Nat → Int32)} {d : Nat} {J : hJ} {R : hR} {T : am_H} {Q : Option Value → am_H → Prop}
/-- bases are small -/
def BS (I : hI) : Prop := ∀ j, j < 6 → (I 8 j).toInt ≤ 16
theorem BS_of {I I' : hI} (h : BS I) (e : I' 8 = I 8) : BS I' := fun j hj => by rw [e]; exact h j hj
theorem baseF_b {I : hI} {x : Int32} (h : BS I) : 2 ≤ (baseF I x).toInt ∧ (baseF I x).toInt ≤ 16 := by
  have z2 : (2 : Int32).toInt = 2 := rfl
  unfold baseF
  by_cases hc : am_rd 6 (I 8) x < 2
  · rw [if_pos hc]; omega
  · rw [if_neg hc]
    rw [fi_lt] at hc
    refine ⟨by omega, ?_⟩
    unfold am_rd
    by_cases hx : x < 0 ∨ Int32.ofNat 6 ≤ x
    · rw [if_pos hx]; decide
    · rw [if_neg hx]
      have h1 : ¬ x < 0 := fun z => hx (Or.inl z)
      obtain ⟨j, hj, e⟩ := nI_of h1
      subst e
      rw [nI_clamp hj]
      refine h j ?_
      have h2 : ¬ Int32.ofNat 6 ≤ nI j := fun z => hx (Or.inr z)
      by_cases h3 : j < 6
      · exact h3
      · exact absurd (nI_le (a := 6) (by omega) hj) h2
def lfl (f : hI → Int32 → Int32 → Int32 × hI) (i left base : Int32) : Nat → hI → Int32 → Int32 → Int32 × hI
  | 0, I, _, best => (best, I)
  | k + 1, I, s, best => if left < s then (best, I) else if 40 ≤ s then (best, I) else if best ≤ costF I i s then lfl f i left base k I (s + base) best
    else lfl f i left base k (f I (i + 1) ((left - s) / base)).2 (s + base) (if costF I i s + (f I (i + 1) ((left - s) / base)).1 < best then costF I i s + (f I (i + 1) ((left - s) / base)).1 else best)
def lfF : Nat → hI → Int32 → Int32 → Int32 × hI
  | 0, I, _, _ => (0, I)
  | k + 1, I, i, left =>
    if I 4 13 ≤ i then (if left = 0 then 0 else 1048576, I)
    else if ¬ inR I i left then (1048576, I)
    else if slotF i (am_rd 6 (I 13) i - left) ≠ -1 ∧ am_rd 240 (I 12) (slotF i (am_rd 6 (I 13) i - left)) ≠ -1 then (am_rd 240 (I 12) (slotF i (am_rd 6 (I 13) i - left)), I)
    else ((lfl (lfF k) i left (baseF I i) 60 I (left - left / baseF I i * baseF I i) 1048576).1, wI (lfl (lfF k) i left (baseF I i) 60 I (left - left / baseF I i * baseF I i) 1048576).2 12 240 (slotF i (am_rd 6 (I 13) i - left)) (lfl (lfF k) i left (baseF I i) 60 I (left - left / baseF I i * baseF I i) 1048576).1)
theorem lfl_c {f : hI → Int32 → Int32 → Int32 × hI} {i left base : Int32} {c : Nat} (hf : ∀ I i left, (f I i left).2 c = I c) : ∀ (k : Nat) (I : hI) (s best : Int32), (lfl f i left base k I s best).2 c = I c
  | 0, I, s, best => rfl
  | k + 1, I, s, best => by
    unfold lfl
    split
    · rfl
    · split
      · rfl
      · split
        · exact lfl_c hf k _ _ _
        · rw [lfl_c hf k, hf]
theorem lfF_c {c : Nat} (h : c ≠ 12) : ∀ (k : Nat) (I : hI) (i left : Int32), (lfF k I i left).2 c = I c
  | 0, I, i, left => rfl
  | k + 1, I, i, left => by
    unfold lfF
    split
    · rfl
    · split
      · rfl
      · split
        · rfl
        · show wI _ 12 240 _ _ c = I c
          rw [wI_c h]
          exact lfl_c (lfF_c h k) _ _ _ _
def LFs (sc : Nat × (Nat → Int32)) (d n : Nat) (J : hJ) (R : hR) (T : am_H) (k : Nat) : Prop := ∀ (I : hI) (i : Nat) (left : Int32), I 4 13 = nI n → BS I → i ≤ n → n < i + k → am_E sc (d + k + 2) 79 [.ref 4, .int (nI i), .int left] (HH I J R T) (some (.int (lfF k I (nI i) left).1)) (HH (lfF k I (nI i) left).2 J R T)
theorem c_lfl {k n i : Nat} {left sl b : Int32} (ih : LFs sc d n J R T k) (hb : 2 ≤ b.toInt ∧ b.toInt ≤ 16) (hi : i < n) (hk : n < i + 1 + k) : ∀ (m : Nat) (I : hI) (s best : Int32), I 4 13 = nI n → BS I → 40 - s.toInt ≤ m → Zs sc (d + k + 2) (am_P 79).2 (157, [(0, .ref 4), (1, .int (nI i)), (2, .int left), (3, .int sl), (4, .int b), (5, .int (lfl (lfF k) (nI i) left b m I s best).1)], []) (HH (lfl (lfF k) (nI i) left b m I s best).2 J R T) Q → Zs sc (d + k + 2) (am_P 79).2 (94, [(0, .ref 4), (1, .int (nI i)), (2, .int left), (3, .int sl), (4, .int b), (5, .int best), (6, .int s)], []) (HH I J R T) Q
  | 0, I, s, best, hn, hB, hm, H => by
    have z40 : (40 : Int32).toInt = 40 := rfl
    refine Z_jump 3 rfl ?_
    refine Z_bd (fun (c97 : left < s) => ?_) (fun (c97 : ¬ (left < s)) => ?_)
    · show Zs _ _ (am_P 79).2 (157, [(0, .ref 4), (1, .int (nI i)), (2, .int left), (3, .int sl), (4, .int b), (5, .int best), (6, .int s)], []) (HH I J R T) _
      exact Zs_wk (H) (lnD rfl) (lnD rfl) (by repeat (first | exact trivial | refine ⟨rfl, ?_⟩))
    · refine Z_jump 3 rfl ?_
      refine Z_bd (fun c104 => ?_) (fun c104 => absurd ((show (40 : Int32) ≤ s by rw [fi_le]; omega)) c104)
      show Zs _ _ (am_P 79).2 (157, [(0, .ref 4), (1, .int (nI i)), (2, .int left), (3, .int sl), (4, .int b), (5, .int best), (6, .int s)], []) (HH I J R T) _
      exact Zs_wk (H) (lnD rfl) (lnD rfl) (by repeat (first | exact trivial | refine ⟨rfl, ?_⟩))
  | m + 1, I, s, best, hn, hB, hm, H => by
    have z40 : (40 : Int32).toInt = 40 := rfl
    have hlo := ti_lo s
    have hb0 : ¬ b = 0 := fun z => by rw [z] at hb; exact absurd hb.1 (by decide)
    unfold lfl at H
    by_cases h1 : left < s
    · rw [if_pos h1] at H
      refine Z_jump 3 rfl ?_
      refine Z_bd (fun c97 => ?_) (fun c97 => absurd (h1) c97)
      show Zs _ _ (am_P 79).2 (157, [(0, .ref 4), (1, .int (nI i)), (2, .int left), (3, .int sl), (4, .int b), (5, .int best), (6, .int s)], []) (HH I J R T) _
      exact Zs_wk (H) (lnD rfl) (lnD rfl) (by repeat (first | exact trivial | refine ⟨rfl, ?_⟩))
    · rw [if_neg h1] at H
      by_cases h2 : 40 ≤ s
      · rw [if_pos h2] at H
        refine Z_jump 3 rfl ?_
        refine Z_bd (fun c97 => absurd c97 (h1)) (fun c97 => ?_)
        refine Z_jump 3 rfl ?_
        refine Z_bd (fun c104 => ?_) (fun c104 => absurd (h2) c104)
        show Zs _ _ (am_P 79).2 (157, [(0, .ref 4), (1, .int (nI i)), (2, .int left), (3, .int sl), (4, .int b), (5, .int best), (6, .int s)], []) (HH I J R T) _
        exact Zs_wk (H) (lnD rfl) (lnD rfl) (by repeat (first | exact trivial | refine ⟨rfl, ?_⟩))
      · rw [if_neg h2] at H
        have h2' := h2
        rw [fi_le] at h2'
        have es : (s + b).toInt = s.toInt + b.toInt := ti_add (by omega) (by omega)
        by_cases h3 : best ≤ costF I (nI i) s
        · rw [if_pos h3] at H
          refine Z_jump 3 rfl ?_
          refine Z_bd (fun c97 => absurd c97 (h1)) (fun c97 => ?_)
          refine Z_jump 3 rfl ?_
          refine Z_bd (fun c104 => absurd c104 (h2)) (fun c104 => ?_)
          refine Z_jump 3 rfl ?_
          show Zs _ _ (am_P 79).2 (111, [(0, .ref 4), (1, .int (nI i)), (2, .int left), (3, .int sl), (4, .int b), (5, .int best), (6, .int s)], [.int s, .int (nI i), .ref 4]) (HH I J R T) _
          refine Z_c1 rfl rfl rfl (c_costOf) ?_
          show Zs _ _ (am_P 79).2 (114, [(0, .ref 4), (1, .int (nI i)), (2, .int left), (3, .int sl), (4, .int b), (5, .int best), (6, .int s)], [.int (costF I (nI i) s)]) (HH I J R T) _
          refine Z_jump 4 rfl ?_
          refine Z_bd (fun c120 => ?_) (fun c120 => absurd (h3) c120)
          refine Z_jump 5 rfl ?_
          show Zs _ _ (am_P 79).2 (94, [(0, .ref 4), (1, .int (nI i)), (2, .int left), (3, .int sl), (4, .int b), (5, .int best), (6, .int (s + b)), (7, .int (costF I (nI i) s))], []) (HH I J R T) _
          exact Zs_wk (c_lfl ih hb hi hk m _ _ _ hn hB (by omega) H) (lnD rfl) (lnD rfl) (by repeat (first | exact trivial | refine ⟨rfl, ?_⟩))
        · rw [if_neg h3] at H
          have e1 : nI i + 1 = nI (i + 1) := nI_1 i
          refine Z_jump 3 rfl ?_
          refine Z_bd (fun c97 => absurd c97 (h1)) (fun c97 => ?_)
          refine Z_jump 3 rfl ?_
          refine Z_bd (fun c104 => absurd c104 (h2)) (fun c104 => ?_)
          refine Z_jump 3 rfl ?_
          show Zs _ _ (am_P 79).2 (111, [(0, .ref 4), (1, .int (nI i)), (2, .int left), (3, .int sl), (4, .int b), (5, .int best), (6, .int s)], [.int s, .int (nI i), .ref 4]) (HH I J R T) _
          refine Z_c1 rfl rfl rfl (c_costOf) ?_
          show Zs _ _ (am_P 79).2 (114, [(0, .ref 4), (1, .int (nI i)), (2, .int left), (3, .int sl), (4, .int b), (5, .int best), (6, .int s)], [.int (costF I (nI i) s)]) (HH I J R T) _
          refine Z_jump 4 rfl ?_
          refine Z_bd (fun c120 => absurd c120 (h3)) (fun c120 => ?_)
          refine Z_jump 10 rfl ?_
          show Zs _ _ (am_P 79).2 (137, [(0, .ref 4), (1, .int (nI i)), (2, .int left), (3, .int sl), (4, .int b), (5, .int best), (6, .int s), (7, .int (costF I (nI i) s))], [.int b, .int (left - s), .int ((nI i) + (1 : Int32)), .ref 4, .int (costF I (nI i) s), .int best]) (HH I J R T) _
          refine Z_idiv rfl (by exact hb0) ?_
          show Zs _ _ (am_P 79).2 (138, [(0, .ref 4), (1, .int (nI i)), (2, .int left), (3, .int sl), (4, .int b), (5, .int best), (6, .int s), (7, .int (costF I (nI i) s))], [.int ((left - s) / b), .int ((nI i) + (1 : Int32)), .ref 4, .int (costF I (nI i) s), .int best]) (HH I J R T) _
          refine Z_c1 rfl rfl rfl ((e1 ▸ ih I (i + 1) ((left - s) / b) hn hB (by omega) (by omega))) ?_
          show Zs _ _ (am_P 79).2 (141, [(0, .ref 4), (1, .int (nI i)), (2, .int left), (3, .int sl), (4, .int b), (5, .int best), (6, .int s), (7, .int (costF I (nI i) s))], [.int (lfF k I (nI i + 1) ((left - s) / b)).1, .int (costF I (nI i) s), .int best]) (HH (lfF k I (nI i + 1) ((left - s) / b)).2 J R T) _
          refine Z_jump 8 rfl ?_
          show Zs _ _ (am_P 79).2 (94, [(0, .ref 4), (1, .int (nI i)), (2, .int left), (3, .int sl), (4, .int b), (5, .int (if ((costF I (nI i) s) + (lfF k I (nI i + 1) ((left - s) / b)).1) < best then ((costF I (nI i) s) + (lfF k I (nI i + 1) ((left - s) / b)).1) else best)), (6, .int (s + b)), (7, .int (costF I (nI i) s))], []) (HH (lfF k I (nI i + 1) ((left - s) / b)).2 J R T) _
          exact Zs_wk (c_lfl ih hb hi hk m _ _ _ ((congrFun (lfF_c (by decide) _ _ _ _) _).trans hn) (BS_of hB (lfF_c (by decide) _ _ _ _)) (by omega) H) (lnD rfl) (lnD rfl) (by repeat (first | exact trivial | refine ⟨rfl, ?_⟩))
theorem c_lfF {n : Nat} (hn6 : n ≤ 6) : ∀ k, LFs sc d n J R T k
  | 0 => fun I i left hn hB h1 h2 => absurd h2 (by omega)
  | k + 1 => fun I i left hn hB h1 h2 => by
    show am_E sc ((d + k + 2) + 1) _ _ _ _ _
    refine E_Z (Ze_of (Nat.le_of_ble_eq_true rfl) ?_)
    unfold lfF
    by_cases a1 : I 4 13 ≤ nI i
    · rw [if_pos a1]
      refine Z_jump 4 rfl ?_
      refine Z_bd (fun c5 => ?_) (fun c5 => absurd (a1) c5)
      refine Z_jump 4 rfl ?_
      refine Z_bd (fun c22 => absurd c22 ((show ¬ nI i < I 4 13 by rw [fi_le] at a1; rw [fi_lt]; omega))) (fun c22 => ?_)
      refine Z_jump 2 rfl ?_
      refine Z_bn (fun (c26 : ¬ (left = (0 : Int32))) => ?_) (fun (c26 : left = (0 : Int32)) => ?_)
      · refine Z_jump 1 rfl ?_
        show Zs _ _ (am_P 79).2 (35, [(0, .ref 4), (1, .int (nI i)), (2, .int left)], [.int (1048576 : Int32)]) (HH I J R T) _
        refine Z_rI rfl (by first | exact am_nw0 _ | exact am_nw01 | rfl | assumption) ?_
        exact ⟨am_ii (by rw [if_neg c26]), rfl⟩
      · refine Z_jump 2 rfl ?_
        show Zs _ _ (am_P 79).2 (35, [(0, .ref 4), (1, .int (nI i)), (2, .int left)], [.int (0 : Int32)]) (HH I J R T) _
        refine Z_rI rfl (by first | exact am_nw0 _ | exact am_nw01 | rfl | assumption) ?_
        exact ⟨am_ii (by rw [if_pos c26]), rfl⟩
    · rw [if_neg a1]
      have hin : i < n := by
        rw [hn, fi_le, nI_toInt (by omega), nI_toInt (by omega)] at a1
        omega
      by_cases a2 : inR I (nI i) left
      · rw [if_neg (fun z => z a2)]
        by_cases a3 : slotF (nI i) (am_rd 6 (I 13) (nI i) - left) ≠ -1 ∧ am_rd 240 (I 12) (slotF (nI i) (am_rd 6 (I 13) (nI i) - left)) ≠ -1
        · rw [if_pos a3]
          refine Z_jump 4 rfl ?_
          refine Z_bd (fun c5 => absurd c5 (a1)) (fun c5 => ?_)
          refine Z_jump 3 rfl ?_
          show Zs _ _ (am_P 79).2 (11, [(0, .ref 4), (1, .int (nI i)), (2, .int left)], [.int left, .int (nI i), .ref 4]) (HH I J R T) _
          refine Z_c1 rfl rfl rfl (E_pos c_inReach a2) ?_
          show Zs _ _ (am_P 79).2 (14, [(0, .ref 4), (1, .int (nI i)), (2, .int left)], [.int (1 : Int32)]) (HH I J R T) _
          refine Z_jump 5 rfl ?_
          show Zs _ _ (am_P 79).2 (42, [(0, .ref 4), (1, .int (nI i)), (2, .int left)], [.int (nI i), .ref 13, .int (nI i)]) (HH I J R T) _
          refine Z_c1 rfl rfl rfl (k_at (a := 13) (L := 6) (f := I 13) rfl (by decide)) ?_
          show Zs _ _ (am_P 79).2 (45, [(0, .ref 4), (1, .int (nI i)), (2, .int left)], [.int (am_rd 6 (I 13) (nI i)), .int (nI i)]) (HH I J R T) _
          refine Z_jump 2 rfl ?_
          show Zs _ _ (am_P 79).2 (47, [(0, .ref 4), (1, .int (nI i)), (2, .int left)], [.int ((am_rd 6 (I 13) (nI i)) - left), .int (nI i)]) (HH I J R T) _
          refine Z_c1 rfl rfl rfl (c_slot) ?_
          show Zs _ _ (am_P 79).2 (50, [(0, .ref 4), (1, .int (nI i)), (2, .int left)], [.int (slotF (nI i) (am_rd 6 (I 13) (nI i) - left))]) (HH I J R T) _
          refine Z_jump 4 rfl ?_
          refine Z_bd (fun c53 => absurd c53 (a3.1)) (fun c53 => ?_)
          refine Z_jump 3 rfl ?_
          show Zs _ _ (am_P 79).2 (61, [(0, .ref 4), (1, .int (nI i)), (2, .int left), (3, .int (slotF (nI i) (am_rd 6 (I 13) (nI i) - left)))], [.int (slotF (nI i) (am_rd 6 (I 13) (nI i) - left)), .ref 12]) (HH I J R T) _
          refine Z_c1 rfl rfl rfl (k_at (a := 12) (L := 240) (f := I 12) rfl (by decide)) ?_
          show Zs _ _ (am_P 79).2 (64, [(0, .ref 4), (1, .int (nI i)), (2, .int left), (3, .int (slotF (nI i) (am_rd 6 (I 13) (nI i) - left)))], [.int (am_rd 240 (I 12) (slotF (nI i) (am_rd 6 (I 13) (nI i) - left)))]) (HH I J R T) _
          refine Z_jump 2 rfl ?_
          refine Z_bd (fun c65 => absurd c65 (a3.2)) (fun c65 => ?_)
          refine Z_jump 3 rfl ?_
          show Zs _ _ (am_P 79).2 (73, [(0, .ref 4), (1, .int (nI i)), (2, .int left), (3, .int (slotF (nI i) (am_rd 6 (I 13) (nI i) - left)))], [.int (slotF (nI i) (am_rd 6 (I 13) (nI i) - left)), .ref 12]) (HH I J R T) _
          refine Z_c1 rfl rfl rfl (k_at (a := 12) (L := 240) (f := I 12) rfl (by decide)) ?_
          show Zs _ _ (am_P 79).2 (76, [(0, .ref 4), (1, .int (nI i)), (2, .int left), (3, .int (slotF (nI i) (am_rd 6 (I 13) (nI i) - left)))], [.int (am_rd 240 (I 12) (slotF (nI i) (am_rd 6 (I 13) (nI i) - left)))]) (HH I J R T) _
          show Zs _ _ (am_P 79).2 (76, [(0, .ref 4), (1, .int (nI i)), (2, .int left), (3, .int (slotF (nI i) (am_rd 6 (I 13) (nI i) - left)))], [.int (am_rd 240 (I 12) (slotF (nI i) (am_rd 6 (I 13) (nI i) - left)))]) (HH I J R T) _
          refine Z_rI rfl (by first | exact am_nw0 _ | exact am_nw01 | rfl | assumption) ?_
          exact ⟨rfl, rfl⟩
        · rw [if_neg a3]
          have hb := baseF_b (x := nI i) hB
          have hr := ti_rem (x := left) hb.1
          have hr2 := tm_lt (a := left.toInt) hb.1
          have K : ∀ (h' : am_H) (Q : Option Value → am_H → Prop), Q (some (.int (lfl (lfF k) (nI i) left (baseF I (nI i)) 60 I (left - left / baseF I (nI i) * baseF I (nI i)) 1048576).1)) (HH (wI (lfl (lfF k) (nI i) left (baseF I (nI i)) 60 I (left - left / baseF I (nI i) * baseF I (nI i)) 1048576).2 12 240 (slotF (nI i) (am_rd 6 (I 13) (nI i) - left)) (lfl (lfF k) (nI i) left (baseF I (nI i)) 60 I (left - left / baseF I (nI i) * baseF I (nI i)) 1048576).1) J R T) → Zs sc (d + k + 2) (am_P 79).2 (77, [(0, .ref 4), (1, .int (nI i)), (2, .int left), (3, .int (slotF (nI i) (am_rd 6 (I 13) (nI i) - left)))], []) (HH I J R T) Q := fun h' Q H => by
            generalize hsl : slotF (nI i) (am_rd 6 (I 13) (nI i) - left) = sl at H ⊢
            generalize hbb : baseF I (nI i) = b at hb hr hr2 H ⊢
            refine Z_jump 2 rfl ?_
            show Zs _ _ (am_P 79).2 (79, [(0, .ref 4), (1, .int (nI i)), (2, .int left), (3, .int sl)], [.int (nI i), .ref 4]) (HH I J R T) _
            refine Z_c1 rfl rfl rfl (c_baseOf) ?_
            show Zs _ _ (am_P 79).2 (82, [(0, .ref 4), (1, .int (nI i)), (2, .int left), (3, .int sl)], [.int (baseF I (nI i))]) (HH I J R T) _
            show Zs _ _ (am_P 79).2 (82, [(0, .ref 4), (1, .int (nI i)), (2, .int left), (3, .int sl)], [.int (baseF I (nI i))]) (HH I J R T) _
            refine Z_eqI (y := b) (hbb) ?_
            show Zs _ _ (am_P 79).2 (82, [(0, .ref 4), (1, .int (nI i)), (2, .int left), (3, .int sl)], [.int b]) (HH I J R T) _
            refine Z_jump 5 rfl ?_
            show Zs _ _ (am_P 79).2 (91, [(0, .ref 4), (1, .int (nI i)), (2, .int left), (3, .int sl), (4, .int b), (5, .int (1048576 : Int32))], [.int b, .int left]) (HH I J R T) _
            refine Z_irem rfl (by exact (fun z => by rw [z] at hb; exact absurd hb.1 (by decide))) ?_
            refine Z_jump 1 rfl ?_
            show Zs _ _ (am_P 79).2 (94, [(0, .ref 4), (1, .int (nI i)), (2, .int left), (3, .int sl), (4, .int b), (5, .int (1048576 : Int32)), (6, .int (left - left / b * b))], []) (HH I J R T) _
            refine c_lfl (c_lfF hn6 k) hb hin (by omega) 60 I _ _ hn hB (by omega) ?_
            generalize hL : lfl (lfF k) (nI i) left b 60 I (left - left / b * b) 1048576 = w at H ⊢
            refine Z_jump 4 rfl ?_
            show Zs _ _ (am_P 79).2 (164, [(0, .ref 4), (1, .int (nI i)), (2, .int left), (3, .int sl), (4, .int b), (5, .int w.1)], [.int w.1, .int sl, .ref 12]) (HH w.2 J R T) _
            refine Z_c0 rfl rfl rfl (k_put (a := 12) (L := 240) (f := w.2 12) rfl (by decide)) ?_
            show Zs _ _ (am_P 79).2 (167, [(0, .ref 4), (1, .int (nI i)), (2, .int left), (3, .int sl), (4, .int b), (5, .int w.1)], []) (HH (wI w.2 12 240 sl w.1) J R T) _
            refine Z_jump 1 rfl ?_
            show Zs _ _ (am_P 79).2 (169, [(0, .ref 4), (1, .int (nI i)), (2, .int left), (3, .int sl), (4, .int b), (5, .int w.1)], [.int w.1]) (HH (wI w.2 12 240 sl w.1) J R T) _
            refine Z_rI rfl (by first | exact am_nw0 _ | exact am_nw01 | rfl | assumption) ?_
            exact H
          refine Z_jump 4 rfl ?_
          refine Z_bd (fun c5 => absurd c5 (a1)) (fun c5 => ?_)
          refine Z_jump 3 rfl ?_
          show Zs _ _ (am_P 79).2 (11, [(0, .ref 4), (1, .int (nI i)), (2, .int left)], [.int left, .int (nI i), .ref 4]) (HH I J R T) _
          refine Z_c1 rfl rfl rfl (E_pos c_inReach a2) ?_
          show Zs _ _ (am_P 79).2 (14, [(0, .ref 4), (1, .int (nI i)), (2, .int left)], [.int (1 : Int32)]) (HH I J R T) _
          refine Z_jump 5 rfl ?_
          show Zs _ _ (am_P 79).2 (42, [(0, .ref 4), (1, .int (nI i)), (2, .int left)], [.int (nI i), .ref 13, .int (nI i)]) (HH I J R T) _
          refine Z_c1 rfl rfl rfl (k_at (a := 13) (L := 6) (f := I 13) rfl (by decide)) ?_
          show Zs _ _ (am_P 79).2 (45, [(0, .ref 4), (1, .int (nI i)), (2, .int left)], [.int (am_rd 6 (I 13) (nI i)), .int (nI i)]) (HH I J R T) _
          refine Z_jump 2 rfl ?_
          show Zs _ _ (am_P 79).2 (47, [(0, .ref 4), (1, .int (nI i)), (2, .int left)], [.int ((am_rd 6 (I 13) (nI i)) - left), .int (nI i)]) (HH I J R T) _
          refine Z_c1 rfl rfl rfl (c_slot) ?_
          show Zs _ _ (am_P 79).2 (50, [(0, .ref 4), (1, .int (nI i)), (2, .int left)], [.int (slotF (nI i) (am_rd 6 (I 13) (nI i) - left))]) (HH I J R T) _
          refine Z_jump 4 rfl ?_
          refine Z_bd (fun (c53 : (slotF (nI i) (am_rd 6 (I 13) (nI i) - left)) = (-1 : Int32)) => ?_) (fun (c53 : ¬ ((slotF (nI i) (am_rd 6 (I 13) (nI i) - left)) = (-1 : Int32))) => ?_)
          · show Zs _ _ (am_P 79).2 (77, [(0, .ref 4), (1, .int (nI i)), (2, .int left), (3, .int (slotF (nI i) (am_rd 6 (I 13) (nI i) - left)))], []) (HH I J R T) _
            exact K [] _ ⟨rfl, rfl⟩
          · refine Z_jump 3 rfl ?_
            show Zs _ _ (am_P 79).2 (61, [(0, .ref 4), (1, .int (nI i)), (2, .int left), (3, .int (slotF (nI i) (am_rd 6 (I 13) (nI i) - left)))], [.int (slotF (nI i) (am_rd 6 (I 13) (nI i) - left)), .ref 12]) (HH I J R T) _
            refine Z_c1 rfl rfl rfl (k_at (a := 12) (L := 240) (f := I 12) rfl (by decide)) ?_
            show Zs _ _ (am_P 79).2 (64, [(0, .ref 4), (1, .int (nI i)), (2, .int left), (3, .int (slotF (nI i) (am_rd 6 (I 13) (nI i) - left)))], [.int (am_rd 240 (I 12) (slotF (nI i) (am_rd 6 (I 13) (nI i) - left)))]) (HH I J R T) _
            refine Z_jump 2 rfl ?_
            refine Z_bd (fun c65 => ?_) (fun c65 => absurd ((Decidable.byContradiction (fun z => a3 ⟨c53, z⟩))) c65)
            show Zs _ _ (am_P 79).2 (77, [(0, .ref 4), (1, .int (nI i)), (2, .int left), (3, .int (slotF (nI i) (am_rd 6 (I 13) (nI i) - left)))], []) (HH I J R T) _
            exact K [] _ ⟨rfl, rfl⟩
      · rw [if_pos a2]
        refine Z_jump 4 rfl ?_
        refine Z_bd (fun c5 => absurd c5 (a1)) (fun c5 => ?_)
        refine Z_jump 3 rfl ?_
        show Zs _ _ (am_P 79).2 (11, [(0, .ref 4), (1, .int (nI i)), (2, .int left)], [.int left, .int (nI i), .ref 4]) (HH I J R T) _
        refine Z_c1 rfl rfl rfl (E_neg c_inReach a2) ?_
        show Zs _ _ (am_P 79).2 (14, [(0, .ref 4), (1, .int (nI i)), (2, .int left)], [.int (0 : Int32)]) (HH I J R T) _
        refine Z_jump 5 rfl ?_
        refine Z_bd (fun c22 => ?_) (fun c22 => absurd ((show nI i < I 4 13 by rw [fi_le] at a1; rw [fi_lt]; omega)) c22)
        refine Z_jump 1 rfl ?_
        show Zs _ _ (am_P 79).2 (35, [(0, .ref 4), (1, .int (nI i)), (2, .int left)], [.int (1048576 : Int32)]) (HH I J R T) _
        refine Z_rI rfl (by first | exact am_nw0 _ | exact am_nw01 | rfl | assumption) ?_
        exact ⟨rfl, rfl⟩
end WY4

