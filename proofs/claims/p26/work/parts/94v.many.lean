/-! The class's Ways: howManyFrom, howMany, least. -/
section WY5
variable {sc : Nat × (Nat → Int32)} {d : Nat} {J : hJ} {R : hR} {T : am_H} {Q : Option Value → am_H → Prop}
def chF (I : hI) (i s : Int32) : Int32 := am_rd 240 (I 7) (slotF i s)
def hml (f : hI → Int32 → Int32 → Int32 × hI) (i left base : Int32) : Nat → hI → Int32 → Int32 → Int32 × hI
  | 0, I, _, sum => (sum, I)
  | k + 1, I, s, sum => if left < s then (sum, I) else if 40 ≤ s then (sum, I) else if chF I i s ≤ 0 then hml f i left base k I (s + base) sum
    else hml f i left base k (f I (i + 1) ((left - s) / base)).2 (s + base) (sum + chF I i s * (f I (i + 1) ((left - s) / base)).1)
def hmF : Nat → hI → Int32 → Int32 → Int32 × hI
  | 0, I, _, _ => (0, I)
  | k + 1, I, i, left =>
    if I 4 13 ≤ i then (if left = 0 then 1 else 0, I)
    else if ¬ inR I i left then (0, I)
    else if slotF i (am_rd 6 (I 13) i - left) ≠ -1 ∧ am_rd 240 (I 12) (slotF i (am_rd 6 (I 13) i - left)) ≠ -1 then (am_rd 240 (I 12) (slotF i (am_rd 6 (I 13) i - left)), I)
    else ((hml (hmF k) i left (baseF I i) 60 I (left - left / baseF I i * baseF I i) 0).1, wI (hml (hmF k) i left (baseF I i) 60 I (left - left / baseF I i * baseF I i) 0).2 12 240 (slotF i (am_rd 6 (I 13) i - left)) (hml (hmF k) i left (baseF I i) 60 I (left - left / baseF I i * baseF I i) 0).1)
theorem hml_c {f : hI → Int32 → Int32 → Int32 × hI} {i left base : Int32} {c : Nat} (hf : ∀ I i left, (f I i left).2 c = I c) : ∀ (k : Nat) (I : hI) (s best : Int32), (hml f i left base k I s best).2 c = I c
  | 0, I, s, best => rfl
  | k + 1, I, s, best => by
    unfold hml
    split
    · rfl
    · split
      · rfl
      · split
        · exact hml_c hf k _ _ _
        · rw [hml_c hf k, hf]
theorem hmF_c {c : Nat} (h : c ≠ 12) : ∀ (k : Nat) (I : hI) (i left : Int32), (hmF k I i left).2 c = I c
  | 0, I, i, left => rfl
  | k + 1, I, i, left => by
    unfold hmF
    split
    · rfl
    · split
      · rfl
      · split
        · rfl
        · show wI _ 12 240 _ _ c = I c
          rw [wI_c h]
          exact hml_c (hmF_c h k) _ _ _ _
def HMs (sc : Nat × (Nat → Int32)) (d n : Nat) (J : hJ) (R : hR) (T : am_H) (k : Nat) : Prop := ∀ (I : hI) (i : Nat) (left : Int32), I 4 13 = nI n → BS I → i ≤ n → n < i + k → am_E sc (d + k + 2) 80 [.ref 4, .int (nI i), .int left] (HH I J R T) (some (.int (hmF k I (nI i) left).1)) (HH (hmF k I (nI i) left).2 J R T)
theorem c_hml {k n i : Nat} {left sl b : Int32} (ih : HMs sc d n J R T k) (hb : 2 ≤ b.toInt ∧ b.toInt ≤ 16) (hi : i < n) (hk : n < i + 1 + k) : ∀ (m : Nat) (I : hI) (s best : Int32), I 4 13 = nI n → BS I → 40 - s.toInt ≤ m → Zs sc (d + k + 2) (am_P 80).2 (157, [(0, .ref 4), (1, .int (nI i)), (2, .int left), (3, .int sl), (4, .int b), (5, .int (hml (hmF k) (nI i) left b m I s best).1)], []) (HH (hml (hmF k) (nI i) left b m I s best).2 J R T) Q → Zs sc (d + k + 2) (am_P 80).2 (92, [(0, .ref 4), (1, .int (nI i)), (2, .int left), (3, .int sl), (4, .int b), (5, .int best), (6, .int s)], []) (HH I J R T) Q
  | 0, I, s, best, hn, hB, hm, H => by
    have z40 : (40 : Int32).toInt = 40 := rfl
    refine Z_jump 3 rfl ?_
    refine Z_bd (fun (c95 : left < s) => ?_) (fun (c95 : ¬ (left < s)) => ?_)
    · show Zs _ _ (am_P 80).2 (157, [(0, .ref 4), (1, .int (nI i)), (2, .int left), (3, .int sl), (4, .int b), (5, .int best), (6, .int s)], []) (HH I J R T) _
      exact Zs_wk (H) (lnD rfl) (lnD rfl) (by repeat (first | exact trivial | refine ⟨rfl, ?_⟩))
    · refine Z_jump 3 rfl ?_
      refine Z_bd (fun c102 => ?_) (fun c102 => absurd ((show (40 : Int32) ≤ s by rw [fi_le]; omega)) c102)
      show Zs _ _ (am_P 80).2 (157, [(0, .ref 4), (1, .int (nI i)), (2, .int left), (3, .int sl), (4, .int b), (5, .int best), (6, .int s)], []) (HH I J R T) _
      exact Zs_wk (H) (lnD rfl) (lnD rfl) (by repeat (first | exact trivial | refine ⟨rfl, ?_⟩))
  | m + 1, I, s, best, hn, hB, hm, H => by
    have z40 : (40 : Int32).toInt = 40 := rfl
    have hlo := ti_lo s
    have hb0 : ¬ b = 0 := fun z => by rw [z] at hb; exact absurd hb.1 (by decide)
    unfold hml at H
    by_cases h1 : left < s
    · rw [if_pos h1] at H
      refine Z_jump 3 rfl ?_
      refine Z_bd (fun c95 => ?_) (fun c95 => absurd (h1) c95)
      show Zs _ _ (am_P 80).2 (157, [(0, .ref 4), (1, .int (nI i)), (2, .int left), (3, .int sl), (4, .int b), (5, .int best), (6, .int s)], []) (HH I J R T) _
      exact Zs_wk (H) (lnD rfl) (lnD rfl) (by repeat (first | exact trivial | refine ⟨rfl, ?_⟩))
    · rw [if_neg h1] at H
      by_cases h2 : 40 ≤ s
      · rw [if_pos h2] at H
        refine Z_jump 3 rfl ?_
        refine Z_bd (fun c95 => absurd c95 (h1)) (fun c95 => ?_)
        refine Z_jump 3 rfl ?_
        refine Z_bd (fun c102 => ?_) (fun c102 => absurd (h2) c102)
        show Zs _ _ (am_P 80).2 (157, [(0, .ref 4), (1, .int (nI i)), (2, .int left), (3, .int sl), (4, .int b), (5, .int best), (6, .int s)], []) (HH I J R T) _
        exact Zs_wk (H) (lnD rfl) (lnD rfl) (by repeat (first | exact trivial | refine ⟨rfl, ?_⟩))
      · rw [if_neg h2] at H
        have h2' := h2
        rw [fi_le] at h2'
        have es : (s + b).toInt = s.toInt + b.toInt := ti_add (by omega) (by omega)
        by_cases h3 : chF I (nI i) s ≤ 0
        · rw [if_pos h3] at H
          refine Z_jump 3 rfl ?_
          refine Z_bd (fun c95 => absurd c95 (h1)) (fun c95 => ?_)
          refine Z_jump 3 rfl ?_
          refine Z_bd (fun c102 => absurd c102 (h2)) (fun c102 => ?_)
          refine Z_jump 4 rfl ?_
          show Zs _ _ (am_P 80).2 (112, [(0, .ref 4), (1, .int (nI i)), (2, .int left), (3, .int sl), (4, .int b), (5, .int best), (6, .int s)], [.int s, .int (nI i), .ref 7]) (HH I J R T) _
          refine Z_c1 rfl rfl rfl (c_slot) ?_
          show Zs _ _ (am_P 80).2 (115, [(0, .ref 4), (1, .int (nI i)), (2, .int left), (3, .int sl), (4, .int b), (5, .int best), (6, .int s)], [.int (slotF (nI i) s), .ref 7]) (HH I J R T) _
          show Zs _ _ (am_P 80).2 (115, [(0, .ref 4), (1, .int (nI i)), (2, .int left), (3, .int sl), (4, .int b), (5, .int best), (6, .int s)], [.int (slotF (nI i) s), .ref 7]) (HH I J R T) _
          refine Z_c1 rfl rfl rfl (k_at (a := 7) (L := 240) (f := I 7) rfl (by decide)) ?_
          show Zs _ _ (am_P 80).2 (118, [(0, .ref 4), (1, .int (nI i)), (2, .int left), (3, .int sl), (4, .int b), (5, .int best), (6, .int s)], [.int (chF I (nI i) s)]) (HH I J R T) _
          refine Z_jump 3 rfl ?_
          refine Z_bd (fun c122 => ?_) (fun c122 => absurd (h3) c122)
          refine Z_jump 5 rfl ?_
          show Zs _ _ (am_P 80).2 (92, [(0, .ref 4), (1, .int (nI i)), (2, .int left), (3, .int sl), (4, .int b), (5, .int best), (6, .int (s + b)), (7, .int (chF I (nI i) s))], []) (HH I J R T) _
          exact Zs_wk (c_hml ih hb hi hk m _ _ _ hn hB (by omega) H) (lnD rfl) (lnD rfl) (by repeat (first | exact trivial | refine ⟨rfl, ?_⟩))
        · rw [if_neg h3] at H
          have e1 : nI i + 1 = nI (i + 1) := nI_1 i
          refine Z_jump 3 rfl ?_
          refine Z_bd (fun c95 => absurd c95 (h1)) (fun c95 => ?_)
          refine Z_jump 3 rfl ?_
          refine Z_bd (fun c102 => absurd c102 (h2)) (fun c102 => ?_)
          refine Z_jump 4 rfl ?_
          show Zs _ _ (am_P 80).2 (112, [(0, .ref 4), (1, .int (nI i)), (2, .int left), (3, .int sl), (4, .int b), (5, .int best), (6, .int s)], [.int s, .int (nI i), .ref 7]) (HH I J R T) _
          refine Z_c1 rfl rfl rfl (c_slot) ?_
          show Zs _ _ (am_P 80).2 (115, [(0, .ref 4), (1, .int (nI i)), (2, .int left), (3, .int sl), (4, .int b), (5, .int best), (6, .int s)], [.int (slotF (nI i) s), .ref 7]) (HH I J R T) _
          show Zs _ _ (am_P 80).2 (115, [(0, .ref 4), (1, .int (nI i)), (2, .int left), (3, .int sl), (4, .int b), (5, .int best), (6, .int s)], [.int (slotF (nI i) s), .ref 7]) (HH I J R T) _
          refine Z_c1 rfl rfl rfl (k_at (a := 7) (L := 240) (f := I 7) rfl (by decide)) ?_
          show Zs _ _ (am_P 80).2 (118, [(0, .ref 4), (1, .int (nI i)), (2, .int left), (3, .int sl), (4, .int b), (5, .int best), (6, .int s)], [.int (chF I (nI i) s)]) (HH I J R T) _
          refine Z_jump 3 rfl ?_
          refine Z_bd (fun c122 => absurd c122 (h3)) (fun c122 => ?_)
          refine Z_jump 10 rfl ?_
          show Zs _ _ (am_P 80).2 (139, [(0, .ref 4), (1, .int (nI i)), (2, .int left), (3, .int sl), (4, .int b), (5, .int best), (6, .int s), (7, .int (chF I (nI i) s))], [.int b, .int (left - s), .int ((nI i) + (1 : Int32)), .ref 4, .int (chF I (nI i) s), .int best]) (HH I J R T) _
          refine Z_idiv rfl (by exact hb0) ?_
          show Zs _ _ (am_P 80).2 (140, [(0, .ref 4), (1, .int (nI i)), (2, .int left), (3, .int sl), (4, .int b), (5, .int best), (6, .int s), (7, .int (chF I (nI i) s))], [.int ((left - s) / b), .int ((nI i) + (1 : Int32)), .ref 4, .int (chF I (nI i) s), .int best]) (HH I J R T) _
          refine Z_c1 rfl rfl rfl ((e1 ▸ ih I (i + 1) ((left - s) / b) hn hB (by omega) (by omega))) ?_
          show Zs _ _ (am_P 80).2 (143, [(0, .ref 4), (1, .int (nI i)), (2, .int left), (3, .int sl), (4, .int b), (5, .int best), (6, .int s), (7, .int (chF I (nI i) s))], [.int (hmF k I (nI i + 1) ((left - s) / b)).1, .int (chF I (nI i) s), .int best]) (HH (hmF k I (nI i + 1) ((left - s) / b)).2 J R T) _
          refine Z_jump 8 rfl ?_
          show Zs _ _ (am_P 80).2 (92, [(0, .ref 4), (1, .int (nI i)), (2, .int left), (3, .int sl), (4, .int b), (5, .int (best + ((chF I (nI i) s) * (hmF k I (nI i + 1) ((left - s) / b)).1))), (6, .int (s + b)), (7, .int (chF I (nI i) s))], []) (HH (hmF k I (nI i + 1) ((left - s) / b)).2 J R T) _
          exact Zs_wk (c_hml ih hb hi hk m _ _ _ ((congrFun (hmF_c (by decide) _ _ _ _) _).trans hn) (BS_of hB (hmF_c (by decide) _ _ _ _)) (by omega) H) (lnD rfl) (lnD rfl) (by repeat (first | exact trivial | refine ⟨rfl, ?_⟩))
theorem c_hmF {n : Nat} (hn6 : n ≤ 6) : ∀ k, HMs sc d n J R T k
  | 0 => fun I i left hn hB h1 h2 => absurd h2 (by omega)
  | k + 1 => fun I i left hn hB h1 h2 => by
    show am_E sc ((d + k + 2) + 1) _ _ _ _ _
    refine E_Z (Ze_of (Nat.le_of_ble_eq_true rfl) ?_)
    unfold hmF
    by_cases a1 : I 4 13 ≤ nI i
    · rw [if_pos a1]
      refine Z_jump 4 rfl ?_
      refine Z_bd (fun c5 => ?_) (fun c5 => absurd (a1) c5)
      refine Z_jump 4 rfl ?_
      refine Z_bd (fun c22 => absurd c22 ((show ¬ nI i < I 4 13 by rw [fi_le] at a1; rw [fi_lt]; omega))) (fun c22 => ?_)
      refine Z_jump 2 rfl ?_
      refine Z_bn (fun (c26 : ¬ (left = (0 : Int32))) => ?_) (fun (c26 : left = (0 : Int32)) => ?_)
      · refine Z_jump 1 rfl ?_
        show Zs _ _ (am_P 80).2 (34, [(0, .ref 4), (1, .int (nI i)), (2, .int left)], [.int (0 : Int32)]) (HH I J R T) _
        refine Z_rI rfl (by first | exact am_nw0 _ | exact am_nw01 | rfl | assumption) ?_
        exact ⟨am_ii (by rw [if_neg c26]), rfl⟩
      · refine Z_jump 2 rfl ?_
        show Zs _ _ (am_P 80).2 (34, [(0, .ref 4), (1, .int (nI i)), (2, .int left)], [.int (1 : Int32)]) (HH I J R T) _
        refine Z_rI rfl (by first | exact am_nw0 _ | exact am_nw01 | rfl | assumption) ?_
        exact ⟨am_ii (by rw [if_pos c26]), rfl⟩
    · rw [if_neg a1]
      have hin : i < n := by
        rw [hn, fi_le, nI_toInt (by omega), nI_toInt (by omega)] at a1
        omega
      by_cases a2 : inR I (nI i) left
      · rw [if_neg (fun z => z a2)]
        by_cases a3 : slotF (nI i) (am_rd 6 (I 13) (nI i) - left) ≠ -1 ∧ am_rd 240 (I 12) (slotF (nI i) (am_rd 6 (I 13) (nI i) - left)) ≠ -1
        · rw [if_pos a3]
          refine Z_jump 4 rfl ?_
          refine Z_bd (fun c5 => absurd c5 (a1)) (fun c5 => ?_)
          refine Z_jump 3 rfl ?_
          show Zs _ _ (am_P 80).2 (11, [(0, .ref 4), (1, .int (nI i)), (2, .int left)], [.int left, .int (nI i), .ref 4]) (HH I J R T) _
          refine Z_c1 rfl rfl rfl (E_pos c_inReach a2) ?_
          show Zs _ _ (am_P 80).2 (14, [(0, .ref 4), (1, .int (nI i)), (2, .int left)], [.int (1 : Int32)]) (HH I J R T) _
          refine Z_jump 5 rfl ?_
          show Zs _ _ (am_P 80).2 (41, [(0, .ref 4), (1, .int (nI i)), (2, .int left)], [.int (nI i), .ref 13, .int (nI i)]) (HH I J R T) _
          refine Z_c1 rfl rfl rfl (k_at (a := 13) (L := 6) (f := I 13) rfl (by decide)) ?_
          show Zs _ _ (am_P 80).2 (44, [(0, .ref 4), (1, .int (nI i)), (2, .int left)], [.int (am_rd 6 (I 13) (nI i)), .int (nI i)]) (HH I J R T) _
          refine Z_jump 2 rfl ?_
          show Zs _ _ (am_P 80).2 (46, [(0, .ref 4), (1, .int (nI i)), (2, .int left)], [.int ((am_rd 6 (I 13) (nI i)) - left), .int (nI i)]) (HH I J R T) _
          refine Z_c1 rfl rfl rfl (c_slot) ?_
          show Zs _ _ (am_P 80).2 (49, [(0, .ref 4), (1, .int (nI i)), (2, .int left)], [.int (slotF (nI i) (am_rd 6 (I 13) (nI i) - left))]) (HH I J R T) _
          refine Z_jump 4 rfl ?_
          refine Z_bd (fun c52 => absurd c52 (a3.1)) (fun c52 => ?_)
          refine Z_jump 3 rfl ?_
          show Zs _ _ (am_P 80).2 (60, [(0, .ref 4), (1, .int (nI i)), (2, .int left), (3, .int (slotF (nI i) (am_rd 6 (I 13) (nI i) - left)))], [.int (slotF (nI i) (am_rd 6 (I 13) (nI i) - left)), .ref 12]) (HH I J R T) _
          refine Z_c1 rfl rfl rfl (k_at (a := 12) (L := 240) (f := I 12) rfl (by decide)) ?_
          show Zs _ _ (am_P 80).2 (63, [(0, .ref 4), (1, .int (nI i)), (2, .int left), (3, .int (slotF (nI i) (am_rd 6 (I 13) (nI i) - left)))], [.int (am_rd 240 (I 12) (slotF (nI i) (am_rd 6 (I 13) (nI i) - left)))]) (HH I J R T) _
          refine Z_jump 2 rfl ?_
          refine Z_bd (fun c64 => absurd c64 (a3.2)) (fun c64 => ?_)
          refine Z_jump 3 rfl ?_
          show Zs _ _ (am_P 80).2 (72, [(0, .ref 4), (1, .int (nI i)), (2, .int left), (3, .int (slotF (nI i) (am_rd 6 (I 13) (nI i) - left)))], [.int (slotF (nI i) (am_rd 6 (I 13) (nI i) - left)), .ref 12]) (HH I J R T) _
          refine Z_c1 rfl rfl rfl (k_at (a := 12) (L := 240) (f := I 12) rfl (by decide)) ?_
          show Zs _ _ (am_P 80).2 (75, [(0, .ref 4), (1, .int (nI i)), (2, .int left), (3, .int (slotF (nI i) (am_rd 6 (I 13) (nI i) - left)))], [.int (am_rd 240 (I 12) (slotF (nI i) (am_rd 6 (I 13) (nI i) - left)))]) (HH I J R T) _
          show Zs _ _ (am_P 80).2 (75, [(0, .ref 4), (1, .int (nI i)), (2, .int left), (3, .int (slotF (nI i) (am_rd 6 (I 13) (nI i) - left)))], [.int (am_rd 240 (I 12) (slotF (nI i) (am_rd 6 (I 13) (nI i) - left)))]) (HH I J R T) _
          refine Z_rI rfl (by first | exact am_nw0 _ | exact am_nw01 | rfl | assumption) ?_
          exact ⟨rfl, rfl⟩
        · rw [if_neg a3]
          have hb := baseF_b (x := nI i) hB
          have hr := ti_rem (x := left) hb.1
          have hr2 := tm_lt (a := left.toInt) hb.1
          have K : ∀ (h' : am_H) (Q : Option Value → am_H → Prop), Q (some (.int (hml (hmF k) (nI i) left (baseF I (nI i)) 60 I (left - left / baseF I (nI i) * baseF I (nI i)) 0).1)) (HH (wI (hml (hmF k) (nI i) left (baseF I (nI i)) 60 I (left - left / baseF I (nI i) * baseF I (nI i)) 0).2 12 240 (slotF (nI i) (am_rd 6 (I 13) (nI i) - left)) (hml (hmF k) (nI i) left (baseF I (nI i)) 60 I (left - left / baseF I (nI i) * baseF I (nI i)) 0).1) J R T) → Zs sc (d + k + 2) (am_P 80).2 (76, [(0, .ref 4), (1, .int (nI i)), (2, .int left), (3, .int (slotF (nI i) (am_rd 6 (I 13) (nI i) - left)))], []) (HH I J R T) Q := fun h' Q H => by
            generalize hsl : slotF (nI i) (am_rd 6 (I 13) (nI i) - left) = sl at H ⊢
            generalize hbb : baseF I (nI i) = b at hb hr hr2 H ⊢
            refine Z_jump 2 rfl ?_
            show Zs _ _ (am_P 80).2 (78, [(0, .ref 4), (1, .int (nI i)), (2, .int left), (3, .int sl)], [.int (nI i), .ref 4]) (HH I J R T) _
            refine Z_c1 rfl rfl rfl (c_baseOf) ?_
            show Zs _ _ (am_P 80).2 (81, [(0, .ref 4), (1, .int (nI i)), (2, .int left), (3, .int sl)], [.int (baseF I (nI i))]) (HH I J R T) _
            show Zs _ _ (am_P 80).2 (81, [(0, .ref 4), (1, .int (nI i)), (2, .int left), (3, .int sl)], [.int (baseF I (nI i))]) (HH I J R T) _
            refine Z_eqI (y := b) (hbb) ?_
            show Zs _ _ (am_P 80).2 (81, [(0, .ref 4), (1, .int (nI i)), (2, .int left), (3, .int sl)], [.int b]) (HH I J R T) _
            refine Z_jump 5 rfl ?_
            show Zs _ _ (am_P 80).2 (89, [(0, .ref 4), (1, .int (nI i)), (2, .int left), (3, .int sl), (4, .int b), (5, .int (0 : Int32))], [.int b, .int left]) (HH I J R T) _
            refine Z_irem rfl (by exact (fun z => by rw [z] at hb; exact absurd hb.1 (by decide))) ?_
            refine Z_jump 1 rfl ?_
            show Zs _ _ (am_P 80).2 (92, [(0, .ref 4), (1, .int (nI i)), (2, .int left), (3, .int sl), (4, .int b), (5, .int (0 : Int32)), (6, .int (left - left / b * b))], []) (HH I J R T) _
            refine c_hml (c_hmF hn6 k) hb hin (by omega) 60 I _ _ hn hB (by omega) ?_
            generalize hL : hml (hmF k) (nI i) left b 60 I (left - left / b * b) 0 = w at H ⊢
            refine Z_jump 4 rfl ?_
            show Zs _ _ (am_P 80).2 (164, [(0, .ref 4), (1, .int (nI i)), (2, .int left), (3, .int sl), (4, .int b), (5, .int w.1)], [.int w.1, .int sl, .ref 12]) (HH w.2 J R T) _
            refine Z_c0 rfl rfl rfl (k_put (a := 12) (L := 240) (f := w.2 12) rfl (by decide)) ?_
            show Zs _ _ (am_P 80).2 (167, [(0, .ref 4), (1, .int (nI i)), (2, .int left), (3, .int sl), (4, .int b), (5, .int w.1)], []) (HH (wI w.2 12 240 sl w.1) J R T) _
            refine Z_jump 1 rfl ?_
            show Zs _ _ (am_P 80).2 (169, [(0, .ref 4), (1, .int (nI i)), (2, .int left), (3, .int sl), (4, .int b), (5, .int w.1)], [.int w.1]) (HH (wI w.2 12 240 sl w.1) J R T) _
            refine Z_rI rfl (by first | exact am_nw0 _ | exact am_nw01 | rfl | assumption) ?_
            exact H
          refine Z_jump 4 rfl ?_
          refine Z_bd (fun c5 => absurd c5 (a1)) (fun c5 => ?_)
          refine Z_jump 3 rfl ?_
          show Zs _ _ (am_P 80).2 (11, [(0, .ref 4), (1, .int (nI i)), (2, .int left)], [.int left, .int (nI i), .ref 4]) (HH I J R T) _
          refine Z_c1 rfl rfl rfl (E_pos c_inReach a2) ?_
          show Zs _ _ (am_P 80).2 (14, [(0, .ref 4), (1, .int (nI i)), (2, .int left)], [.int (1 : Int32)]) (HH I J R T) _
          refine Z_jump 5 rfl ?_
          show Zs _ _ (am_P 80).2 (41, [(0, .ref 4), (1, .int (nI i)), (2, .int left)], [.int (nI i), .ref 13, .int (nI i)]) (HH I J R T) _
          refine Z_c1 rfl rfl rfl (k_at (a := 13) (L := 6) (f := I 13) rfl (by decide)) ?_
          show Zs _ _ (am_P 80).2 (44, [(0, .ref 4), (1, .int (nI i)), (2, .int left)], [.int (am_rd 6 (I 13) (nI i)), .int (nI i)]) (HH I J R T) _
          refine Z_jump 2 rfl ?_
          show Zs _ _ (am_P 80).2 (46, [(0, .ref 4), (1, .int (nI i)), (2, .int left)], [.int ((am_rd 6 (I 13) (nI i)) - left), .int (nI i)]) (HH I J R T) _
          refine Z_c1 rfl rfl rfl (c_slot) ?_
          show Zs _ _ (am_P 80).2 (49, [(0, .ref 4), (1, .int (nI i)), (2, .int left)], [.int (slotF (nI i) (am_rd 6 (I 13) (nI i) - left))]) (HH I J R T) _
          refine Z_jump 4 rfl ?_
          refine Z_bd (fun (c52 : (slotF (nI i) (am_rd 6 (I 13) (nI i) - left)) = (-1 : Int32)) => ?_) (fun (c52 : ¬ ((slotF (nI i) (am_rd 6 (I 13) (nI i) - left)) = (-1 : Int32))) => ?_)
          · show Zs _ _ (am_P 80).2 (76, [(0, .ref 4), (1, .int (nI i)), (2, .int left), (3, .int (slotF (nI i) (am_rd 6 (I 13) (nI i) - left)))], []) (HH I J R T) _
            exact K [] _ ⟨rfl, rfl⟩
          · refine Z_jump 3 rfl ?_
            show Zs _ _ (am_P 80).2 (60, [(0, .ref 4), (1, .int (nI i)), (2, .int left), (3, .int (slotF (nI i) (am_rd 6 (I 13) (nI i) - left)))], [.int (slotF (nI i) (am_rd 6 (I 13) (nI i) - left)), .ref 12]) (HH I J R T) _
            refine Z_c1 rfl rfl rfl (k_at (a := 12) (L := 240) (f := I 12) rfl (by decide)) ?_
            show Zs _ _ (am_P 80).2 (63, [(0, .ref 4), (1, .int (nI i)), (2, .int left), (3, .int (slotF (nI i) (am_rd 6 (I 13) (nI i) - left)))], [.int (am_rd 240 (I 12) (slotF (nI i) (am_rd 6 (I 13) (nI i) - left)))]) (HH I J R T) _
            refine Z_jump 2 rfl ?_
            refine Z_bd (fun c64 => ?_) (fun c64 => absurd ((Decidable.byContradiction (fun z => a3 ⟨c52, z⟩))) c64)
            show Zs _ _ (am_P 80).2 (76, [(0, .ref 4), (1, .int (nI i)), (2, .int left), (3, .int (slotF (nI i) (am_rd 6 (I 13) (nI i) - left)))], []) (HH I J R T) _
            exact K [] _ ⟨rfl, rfl⟩
      · rw [if_pos a2]
        refine Z_jump 4 rfl ?_
        refine Z_bd (fun c5 => absurd c5 (a1)) (fun c5 => ?_)
        refine Z_jump 3 rfl ?_
        show Zs _ _ (am_P 80).2 (11, [(0, .ref 4), (1, .int (nI i)), (2, .int left)], [.int left, .int (nI i), .ref 4]) (HH I J R T) _
        refine Z_c1 rfl rfl rfl (E_neg c_inReach a2) ?_
        show Zs _ _ (am_P 80).2 (14, [(0, .ref 4), (1, .int (nI i)), (2, .int left)], [.int (0 : Int32)]) (HH I J R T) _
        refine Z_jump 5 rfl ?_
        refine Z_bd (fun c22 => ?_) (fun c22 => absurd ((show nI i < I 4 13 by rw [fi_le] at a1; rw [fi_lt]; omega)) c22)
        refine Z_jump 1 rfl ?_
        show Zs _ _ (am_P 80).2 (34, [(0, .ref 4), (1, .int (nI i)), (2, .int left)], [.int (0 : Int32)]) (HH I J R T) _
        refine Z_rI rfl (by first | exact am_nw0 _ | exact am_nw01 | rfl | assumption) ?_
        exact ⟨rfl, rfl⟩
/-- least, howMany -/
def leF (I : hI) (n : Nat) (v : Int64) : Int32 × hI := if v < (am_rd 7 (I 11) 0).toInt64 then (1048576, I) else if v ≤ (am_rd 7 (I 10) 0).toInt64 then lfF 7 (aimF I n v.toInt32) 0 v.toInt32 else (1048576, I)
theorem c_least {I : hI} {n : Nat} {v : Int64} (hn6 : n ≤ 6) (hn : I 4 13 = nI n) (hB : BS I) : am_E sc (d + 10) 75 [.ref 4, .long v] (HH I J R T) (some (.int (leF I n v).1)) (HH (leF I n v).2 J R T) := by
  refine E_Z (Ze_of (Nat.le_of_ble_eq_true rfl) ?_)
  refine Z_jump 3 rfl ?_
  show Zs _ _ (am_P 75).2 (3, [(0, .ref 4), (1, .long v)], [.int (0 : Int32), .ref 4, .long v]) (HH I J R T) _
  refine Z_c1 rfl rfl rfl (c_few) ?_
  show Zs _ _ (am_P 75).2 (6, [(0, .ref 4), (1, .long v)], [.int (am_rd 7 (I 11) 0), .long v]) (HH I J R T) _
  refine Z_jump 3 rfl ?_
  refine Z_bd (fun (c8 : (lg_cmp v (Int32.toInt64 (am_rd 7 (I 11) 0))) < (0 : Int32)) => ?_) (fun (c8 : ¬ ((lg_cmp v (Int32.toInt64 (am_rd 7 (I 11) 0))) < (0 : Int32))) => ?_)
  · rw [lc_lt] at c8
    refine Z_jump 1 rfl ?_
    show Zs _ _ (am_P 75).2 (24, [(0, .ref 4), (1, .long v)], [.int (1048576 : Int32)]) (HH I J R T) _
    refine Z_rI rfl (by first | exact am_nw0 _ | exact am_nw01 | rfl | assumption) ?_
    unfold leF
    rw [if_pos c8]
    exact ⟨rfl, rfl⟩
  · rw [lc_lt] at c8
    refine Z_jump 3 rfl ?_
    show Zs _ _ (am_P 75).2 (14, [(0, .ref 4), (1, .long v)], [.int (0 : Int32), .ref 4, .long v]) (HH I J R T) _
    refine Z_c1 rfl rfl rfl (c_most) ?_
    show Zs _ _ (am_P 75).2 (17, [(0, .ref 4), (1, .long v)], [.int (am_rd 7 (I 10) 0), .long v]) (HH I J R T) _
    refine Z_jump 3 rfl ?_
    refine Z_bd (fun (c19 : (lg_cmp v (Int32.toInt64 (am_rd 7 (I 10) 0))) ≤ (0 : Int32)) => ?_) (fun (c19 : ¬ ((lg_cmp v (Int32.toInt64 (am_rd 7 (I 10) 0))) ≤ (0 : Int32))) => ?_)
    · rw [lc_le] at c19
      refine Z_jump 3 rfl ?_
      show Zs _ _ (am_P 75).2 (28, [(0, .ref 4), (1, .long v)], [.int (Int64.toInt32 v), .ref 4]) (HH I J R T) _
      refine Z_c0 rfl rfl rfl (c_aim hn6 hn) ?_
      show Zs _ _ (am_P 75).2 (31, [(0, .ref 4), (1, .long v)], []) (HH (aimF I n v.toInt32) J R T) _
      refine Z_jump 4 rfl ?_
      show Zs _ _ (am_P 75).2 (35, [(0, .ref 4), (1, .long v)], [.int (Int64.toInt32 v), .int (0 : Int32), .ref 4]) (HH (aimF I n v.toInt32) J R T) _
      refine Z_c1 rfl rfl rfl (c_lfF (d := d) hn6 7 (aimF I n v.toInt32) 0 v.toInt32 ((congrFun (aimF_c (by decide) (by decide)) _).trans hn) (BS_of hB (aimF_c (by decide) (by decide))) (by omega) (by omega)) ?_
      show Zs _ _ (am_P 75).2 (38, [(0, .ref 4), (1, .long v)], [.int (lfF 7 (aimF I n v.toInt32) 0 v.toInt32).1]) (HH (lfF 7 (aimF I n v.toInt32) 0 v.toInt32).2 J R T) _
      show Zs _ _ (am_P 75).2 (38, [(0, .ref 4), (1, .long v)], [.int (lfF 7 (aimF I n v.toInt32) 0 v.toInt32).1]) (HH (lfF 7 (aimF I n v.toInt32) 0 v.toInt32).2 J R T) _
      refine Z_rI rfl (by first | exact am_nw0 _ | exact am_nw01 | rfl | assumption) ?_
      unfold leF
      rw [if_neg c8, if_pos c19]
      exact ⟨rfl, rfl⟩
    · rw [lc_le] at c19
      refine Z_jump 1 rfl ?_
      show Zs _ _ (am_P 75).2 (24, [(0, .ref 4), (1, .long v)], [.int (1048576 : Int32)]) (HH I J R T) _
      refine Z_rI rfl (by first | exact am_nw0 _ | exact am_nw01 | rfl | assumption) ?_
      unfold leF
      rw [if_neg c8, if_neg c19]
      exact ⟨rfl, rfl⟩
def hoF (I : hI) (n : Nat) (v : Int64) : Int32 × hI := if v < (am_rd 7 (I 11) 0).toInt64 then (0, I) else if v ≤ (am_rd 7 (I 10) 0).toInt64 then hmF 7 (aimF I n v.toInt32) 0 v.toInt32 else (0, I)
theorem c_howMany {I : hI} {n : Nat} {v : Int64} (hn6 : n ≤ 6) (hn : I 4 13 = nI n) (hB : BS I) : am_E sc (d + 10) 76 [.ref 4, .long v] (HH I J R T) (some (.int (hoF I n v).1)) (HH (hoF I n v).2 J R T) := by
  refine E_Z (Ze_of (Nat.le_of_ble_eq_true rfl) ?_)
  refine Z_jump 3 rfl ?_
  show Zs _ _ (am_P 76).2 (3, [(0, .ref 4), (1, .long v)], [.int (0 : Int32), .ref 4, .long v]) (HH I J R T) _
  refine Z_c1 rfl rfl rfl (c_few) ?_
  show Zs _ _ (am_P 76).2 (6, [(0, .ref 4), (1, .long v)], [.int (am_rd 7 (I 11) 0), .long v]) (HH I J R T) _
  refine Z_jump 3 rfl ?_
  refine Z_bd (fun (c8 : (lg_cmp v (Int32.toInt64 (am_rd 7 (I 11) 0))) < (0 : Int32)) => ?_) (fun (c8 : ¬ ((lg_cmp v (Int32.toInt64 (am_rd 7 (I 11) 0))) < (0 : Int32))) => ?_)
  · rw [lc_lt] at c8
    refine Z_jump 1 rfl ?_
    show Zs _ _ (am_P 76).2 (23, [(0, .ref 4), (1, .long v)], [.int (0 : Int32)]) (HH I J R T) _
    refine Z_rI rfl (by first | exact am_nw0 _ | exact am_nw01 | rfl | assumption) ?_
    unfold hoF
    rw [if_pos c8]
    exact ⟨rfl, rfl⟩
  · rw [lc_lt] at c8
    refine Z_jump 3 rfl ?_
    show Zs _ _ (am_P 76).2 (14, [(0, .ref 4), (1, .long v)], [.int (0 : Int32), .ref 4, .long v]) (HH I J R T) _
    refine Z_c1 rfl rfl rfl (c_most) ?_
    show Zs _ _ (am_P 76).2 (17, [(0, .ref 4), (1, .long v)], [.int (am_rd 7 (I 10) 0), .long v]) (HH I J R T) _
    refine Z_jump 3 rfl ?_
    refine Z_bd (fun (c19 : (lg_cmp v (Int32.toInt64 (am_rd 7 (I 10) 0))) ≤ (0 : Int32)) => ?_) (fun (c19 : ¬ ((lg_cmp v (Int32.toInt64 (am_rd 7 (I 10) 0))) ≤ (0 : Int32))) => ?_)
    · rw [lc_le] at c19
      refine Z_jump 3 rfl ?_
      show Zs _ _ (am_P 76).2 (27, [(0, .ref 4), (1, .long v)], [.int (Int64.toInt32 v), .ref 4]) (HH I J R T) _
      refine Z_c0 rfl rfl rfl (c_aim hn6 hn) ?_
      show Zs _ _ (am_P 76).2 (30, [(0, .ref 4), (1, .long v)], []) (HH (aimF I n v.toInt32) J R T) _
      refine Z_jump 4 rfl ?_
      show Zs _ _ (am_P 76).2 (34, [(0, .ref 4), (1, .long v)], [.int (Int64.toInt32 v), .int (0 : Int32), .ref 4]) (HH (aimF I n v.toInt32) J R T) _
      refine Z_c1 rfl rfl rfl (c_hmF (d := d) hn6 7 (aimF I n v.toInt32) 0 v.toInt32 ((congrFun (aimF_c (by decide) (by decide)) _).trans hn) (BS_of hB (aimF_c (by decide) (by decide))) (by omega) (by omega)) ?_
      show Zs _ _ (am_P 76).2 (37, [(0, .ref 4), (1, .long v)], [.int (hmF 7 (aimF I n v.toInt32) 0 v.toInt32).1]) (HH (hmF 7 (aimF I n v.toInt32) 0 v.toInt32).2 J R T) _
      show Zs _ _ (am_P 76).2 (37, [(0, .ref 4), (1, .long v)], [.int (hmF 7 (aimF I n v.toInt32) 0 v.toInt32).1]) (HH (hmF 7 (aimF I n v.toInt32) 0 v.toInt32).2 J R T) _
      refine Z_rI rfl (by first | exact am_nw0 _ | exact am_nw01 | rfl | assumption) ?_
      unfold hoF
      rw [if_neg c8, if_pos c19]
      exact ⟨rfl, rfl⟩
    · rw [lc_le] at c19
      refine Z_jump 1 rfl ?_
      show Zs _ _ (am_P 76).2 (23, [(0, .ref 4), (1, .long v)], [.int (0 : Int32)]) (HH I J R T) _
      refine Z_rI rfl (by first | exact am_nw0 _ | exact am_nw01 | rfl | assumption) ?_
      unfold hoF
      rw [if_neg c8, if_neg c19]
      exact ⟨rfl, rfl⟩
theorem leF_c {I : hI} {n c : Nat} {v : Int64} (h2 : c ≠ 12) (h3 : c ≠ 13) : (leF I n v).2 c = I c := by
  unfold leF
  split
  · rfl
  · split
    · rw [lfF_c h2, aimF_c h2 h3]
    · rfl
theorem hoF_c {I : hI} {n c : Nat} {v : Int64} (h2 : c ≠ 12) (h3 : c ≠ 13) : (hoF I n v).2 c = I c := by
  unfold hoF
  split
  · rfl
  · split
    · rw [hmF_c h2, aimF_c h2 h3]
    · rfl
end WY5

