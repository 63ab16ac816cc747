/-! The class's Ways: shownByWay, placeRod, placeAll; settle, carryOver. -/
section WY6
variable {sc : Nat × (Nat → Int32)} {d : Nat} {J : hJ} {R : hR} {T : am_H} {Q : Option Value → am_H → Prop}
def few (h l fh fl : Int32) : Int32 := if h < fh then 1 else if h = fh then (if fl ≤ l then 0 else 1) else 0
def hgF (I : hI) (i s : Int32) : Int32 := am_rd 240 (I 6) (slotF i s)
def lwF (I : hI) (i s : Int32) : Int32 := s - hgF I i s * am_rd 6 (I 9) i
def sbl (i left b goal : Int32) : Nat → hI → Int32 → Int32 → Int32 → Int32 → Int32 × hI
  | 0, I, _, ch, _, _ => (ch, I)
  | m + 1, I, s, ch, fh, fl => if left < s then (ch, I) else if 40 ≤ s then (ch, I) else
    if 1048576 ≤ costF I i s then sbl i left b goal m I (s + b) ch fh fl
    else if few (hgF I i s) (lwF I i s) fh fl = 0 then sbl i left b goal m I (s + b) ch fh fl
    else if costF I i s + (lfF 7 I (i + 1) ((left - s) / b)).1 = goal then sbl i left b goal m (lfF 7 I (i + 1) ((left - s) / b)).2 (s + b) s (hgF I i s) (lwF I i s)
    else sbl i left b goal m (lfF 7 I (i + 1) ((left - s) / b)).2 (s + b) ch fh fl
def sbF (I : hI) (i left : Int32) : Int32 × hI := sbl i left (baseF (lfF 7 I i left).2 i) (lfF 7 I i left).1 60 (lfF 7 I i left).2 (left - left / baseF (lfF 7 I i left).2 i * baseF (lfF 7 I i left).2 i) 0 40 40
theorem sbl_c {i left b goal : Int32} {c : Nat} (h : c ≠ 12) : ∀ (m : Nat) (I : hI) (s ch fh fl : Int32), (sbl i left b goal m I s ch fh fl).2 c = I c
  | 0, I, s, ch, fh, fl => rfl
  | m + 1, I, s, ch, fh, fl => by
    unfold sbl
    split
    · rfl
    · split
      · rfl
      · split
        · exact sbl_c h m _ _ _ _ _
        · split
          · exact sbl_c h m _ _ _ _ _
          · split
            · rw [sbl_c h m, lfF_c h]
            · rw [sbl_c h m, lfF_c h]
theorem sbF_c {I : hI} {i left : Int32} {c : Nat} (h : c ≠ 12) : (sbF I i left).2 c = I c := by
  unfold sbF
  rw [sbl_c h, lfF_c h]
theorem c_few1 {I : hI} {i : Nat} {left goal b ch fh fl s here h l : Int32} (H : Zs sc d (am_P 82).2 (112, [(0, .ref 4), (1, .int (nI i)), (2, .int left), (3, .int goal), (4, .int b), (5, .int ch), (6, .int fh), (7, .int fl), (8, .int s), (9, .int here), (10, .int h), (11, .int l), (12, .int (few h l fh fl))], []) (HH I J R T) Q) : Zs sc d (am_P 82).2 (84, [(0, .ref 4), (1, .int (nI i)), (2, .int left), (3, .int goal), (4, .int b), (5, .int ch), (6, .int fh), (7, .int fl), (8, .int s), (9, .int here), (10, .int h), (11, .int l)], []) (HH I J R T) Q := by
  unfold few at H
  refine Z_jump 3 rfl ?_
  refine Z_bd (fun (c88 : h < fh) => ?_) (fun (c88 : ¬ (h < fh)) => ?_)
  · refine Z_jump 3 rfl ?_
    show Zs _ _ (am_P 82).2 (112, [(0, .ref 4), (1, .int (nI i)), (2, .int left), (3, .int goal), (4, .int b), (5, .int ch), (6, .int fh), (7, .int fl), (8, .int s), (9, .int here), (10, .int h), (11, .int l), (12, .int (1 : Int32))], []) (HH I J R T) _
    rw [if_pos c88] at H
    exact H
  · refine Z_jump 3 rfl ?_
    refine Z_bn (fun (c95 : ¬ (h = fh)) => ?_) (fun (c95 : h = fh) => ?_)
    · refine Z_jump 2 rfl ?_
      show Zs _ _ (am_P 82).2 (112, [(0, .ref 4), (1, .int (nI i)), (2, .int left), (3, .int goal), (4, .int b), (5, .int ch), (6, .int fh), (7, .int fl), (8, .int s), (9, .int here), (10, .int h), (11, .int l), (12, .int (0 : Int32))], []) (HH I J R T) _
      rw [if_neg c88, if_neg c95] at H
      exact H
    · refine Z_jump 3 rfl ?_
      refine Z_bd (fun (c102 : fl ≤ l) => ?_) (fun (c102 : ¬ (fl ≤ l)) => ?_)
      · refine Z_jump 2 rfl ?_
        show Zs _ _ (am_P 82).2 (112, [(0, .ref 4), (1, .int (nI i)), (2, .int left), (3, .int goal), (4, .int b), (5, .int ch), (6, .int fh), (7, .int fl), (8, .int s), (9, .int here), (10, .int h), (11, .int l), (12, .int (0 : Int32))], []) (HH I J R T) _
        rw [if_neg c88, if_pos c95, if_pos c102] at H
        exact H
      · refine Z_jump 3 rfl ?_
        show Zs _ _ (am_P 82).2 (112, [(0, .ref 4), (1, .int (nI i)), (2, .int left), (3, .int goal), (4, .int b), (5, .int ch), (6, .int fh), (7, .int fl), (8, .int s), (9, .int here), (10, .int h), (11, .int l), (12, .int (1 : Int32))], []) (HH I J R T) _
        rw [if_neg c88, if_pos c95, if_neg c102] at H
        exact H
theorem c_sbl {n i : Nat} {left b goal : Int32} (hn6 : n ≤ 6) (hb : 2 ≤ b.toInt ∧ b.toInt ≤ 16) (hi : i < n) : ∀ (m : Nat) (I : hI) (s ch fh fl : Int32), I 4 13 = nI n → BS I → 40 - s.toInt ≤ m → Q (some (.int (sbl (nI i) left b goal m I s ch fh fl).1)) (HH (sbl (nI i) left b goal m I s ch fh fl).2 J R T) → Zs sc (d + 9) (am_P 82).2 (31, [(0, .ref 4), (1, .int (nI i)), (2, .int left), (3, .int goal), (4, .int b), (5, .int ch), (6, .int fh), (7, .int fl), (8, .int s)], []) (HH I J R T) Q
  | 0, I, s, ch, fh, fl, hn, hB, hm, H => by
    have z40 : (40 : Int32).toInt = 40 := rfl
    refine Z_jump 3 rfl ?_
    refine Z_bd (fun (c34 : left < s) => ?_) (fun (c34 : ¬ (left < s)) => ?_)
    · refine Z_jump 1 rfl ?_
      show Zs _ _ (am_P 82).2 (169, [(0, .ref 4), (1, .int (nI i)), (2, .int left), (3, .int goal), (4, .int b), (5, .int ch), (6, .int fh), (7, .int fl), (8, .int s)], [.int ch]) (HH I J R T) _
      refine Z_rI rfl (by first | exact am_nw0 _ | exact am_nw01 | rfl | assumption) ?_
      exact H
    · refine Z_jump 3 rfl ?_
      refine Z_bd (fun c41 => ?_) (fun c41 => absurd ((show (40 : Int32) ≤ s by rw [fi_le]; omega)) c41)
      refine Z_jump 1 rfl ?_
      show Zs _ _ (am_P 82).2 (169, [(0, .ref 4), (1, .int (nI i)), (2, .int left), (3, .int goal), (4, .int b), (5, .int ch), (6, .int fh), (7, .int fl), (8, .int s)], [.int ch]) (HH I J R T) _
      refine Z_rI rfl (by first | exact am_nw0 _ | exact am_nw01 | rfl | assumption) ?_
      exact H
  | m + 1, I, s, ch, fh, fl, hn, hB, hm, H => by
    have z40 : (40 : Int32).toInt = 40 := rfl
    have hlo := ti_lo s
    have hb0 : ¬ b = 0 := fun z => by rw [z] at hb; exact absurd hb.1 (by decide)
    unfold sbl at H
    by_cases h1 : left < s
    · rw [if_pos h1] at H
      refine Z_jump 3 rfl ?_
      refine Z_bd (fun c34 => ?_) (fun c34 => absurd (h1) c34)
      refine Z_jump 1 rfl ?_
      show Zs _ _ (am_P 82).2 (169, [(0, .ref 4), (1, .int (nI i)), (2, .int left), (3, .int goal), (4, .int b), (5, .int ch), (6, .int fh), (7, .int fl), (8, .int s)], [.int ch]) (HH I J R T) _
      refine Z_rI rfl (by first | exact am_nw0 _ | exact am_nw01 | rfl | assumption) ?_
      exact H
    · rw [if_neg h1] at H
      by_cases h2 : 40 ≤ s
      · rw [if_pos h2] at H
        refine Z_jump 3 rfl ?_
        refine Z_bd (fun c34 => absurd c34 (h1)) (fun c34 => ?_)
        refine Z_jump 3 rfl ?_
        refine Z_bd (fun c41 => ?_) (fun c41 => absurd (h2) c41)
        refine Z_jump 1 rfl ?_
        show Zs _ _ (am_P 82).2 (169, [(0, .ref 4), (1, .int (nI i)), (2, .int left), (3, .int goal), (4, .int b), (5, .int ch), (6, .int fh), (7, .int fl), (8, .int s)], [.int ch]) (HH I J R T) _
        refine Z_rI rfl (by first | exact am_nw0 _ | exact am_nw01 | rfl | assumption) ?_
        exact H
      · rw [if_neg h2] at H
        have h2' := h2
        rw [fi_le] at h2'
        have es : (s + b).toInt = s.toInt + b.toInt := ti_add (by omega) (by omega)
        refine Z_jump 3 rfl ?_
        refine Z_bd (fun c34 => absurd c34 (h1)) (fun c34 => ?_)
        refine Z_jump 3 rfl ?_
        refine Z_bd (fun c41 => absurd c41 (h2)) (fun c41 => ?_)
        refine Z_jump 3 rfl ?_
        show Zs _ _ (am_P 82).2 (48, [(0, .ref 4), (1, .int (nI i)), (2, .int left), (3, .int goal), (4, .int b), (5, .int ch), (6, .int fh), (7, .int fl), (8, .int s)], [.int s, .int (nI i), .ref 4]) (HH I J R T) _
        refine Z_c1 rfl rfl rfl (c_costOf) ?_
        show Zs _ _ (am_P 82).2 (51, [(0, .ref 4), (1, .int (nI i)), (2, .int left), (3, .int goal), (4, .int b), (5, .int ch), (6, .int fh), (7, .int fl), (8, .int s)], [.int (costF I (nI i) s)]) (HH I J R T) _
        refine Z_jump 5 rfl ?_
        show Zs _ _ (am_P 82).2 (60, [(0, .ref 4), (1, .int (nI i)), (2, .int left), (3, .int goal), (4, .int b), (5, .int ch), (6, .int fh), (7, .int fl), (8, .int s), (9, .int (costF I (nI i) s))], [.int s, .int (nI i), .ref 6]) (HH I J R T) _
        refine Z_c1 rfl rfl rfl (c_slot) ?_
        show Zs _ _ (am_P 82).2 (63, [(0, .ref 4), (1, .int (nI i)), (2, .int left), (3, .int goal), (4, .int b), (5, .int ch), (6, .int fh), (7, .int fl), (8, .int s), (9, .int (costF I (nI i) s))], [.int (slotF (nI i) s), .ref 6]) (HH I J R T) _
        show Zs _ _ (am_P 82).2 (63, [(0, .ref 4), (1, .int (nI i)), (2, .int left), (3, .int goal), (4, .int b), (5, .int ch), (6, .int fh), (7, .int fl), (8, .int s), (9, .int (costF I (nI i) s))], [.int (slotF (nI i) s), .ref 6]) (HH I J R T) _
        refine Z_c1 rfl rfl rfl (k_at (a := 6) (L := 240) (f := I 6) rfl (by decide)) ?_
        show Zs _ _ (am_P 82).2 (66, [(0, .ref 4), (1, .int (nI i)), (2, .int left), (3, .int goal), (4, .int b), (5, .int ch), (6, .int fh), (7, .int fl), (8, .int s), (9, .int (costF I (nI i) s))], [.int (hgF I (nI i) s)]) (HH I J R T) _
        refine Z_jump 6 rfl ?_
        show Zs _ _ (am_P 82).2 (77, [(0, .ref 4), (1, .int (nI i)), (2, .int left), (3, .int goal), (4, .int b), (5, .int ch), (6, .int fh), (7, .int fl), (8, .int s), (9, .int (costF I (nI i) s)), (10, .int (hgF I (nI i) s))], [.int (nI i), .ref 9, .int (hgF I (nI i) s), .int s]) (HH I J R T) _
        refine Z_c1 rfl rfl rfl (k_at (a := 9) (L := 6) (f := I 9) rfl (by decide)) ?_
        show Zs _ _ (am_P 82).2 (80, [(0, .ref 4), (1, .int (nI i)), (2, .int left), (3, .int goal), (4, .int b), (5, .int ch), (6, .int fh), (7, .int fl), (8, .int s), (9, .int (costF I (nI i) s)), (10, .int (hgF I (nI i) s))], [.int (am_rd 6 (I 9) (nI i)), .int (hgF I (nI i) s), .int s]) (HH I J R T) _
        refine Z_jump 2 rfl ?_
        show Zs _ _ (am_P 82).2 (82, [(0, .ref 4), (1, .int (nI i)), (2, .int left), (3, .int goal), (4, .int b), (5, .int ch), (6, .int fh), (7, .int fl), (8, .int s), (9, .int (costF I (nI i) s)), (10, .int (hgF I (nI i) s))], [.int (s - ((hgF I (nI i) s) * (am_rd 6 (I 9) (nI i))))]) (HH I J R T) _
        refine Z_eqI (y := (lwF I (nI i) s)) (rfl) ?_
        show Zs _ _ (am_P 82).2 (82, [(0, .ref 4), (1, .int (nI i)), (2, .int left), (3, .int goal), (4, .int b), (5, .int ch), (6, .int fh), (7, .int fl), (8, .int s), (9, .int (costF I (nI i) s)), (10, .int (hgF I (nI i) s))], [.int (lwF I (nI i) s)]) (HH I J R T) _
        refine Z_jump 1 rfl ?_
        show Zs _ _ (am_P 82).2 (84, [(0, .ref 4), (1, .int (nI i)), (2, .int left), (3, .int goal), (4, .int b), (5, .int ch), (6, .int fh), (7, .int fl), (8, .int s), (9, .int (costF I (nI i) s)), (10, .int (hgF I (nI i) s)), (11, .int (lwF I (nI i) s))], []) (HH I J R T) _
        refine c_few1 ?_
        by_cases h3 : 1048576 ≤ costF I (nI i) s
        · rw [if_pos h3] at H
          refine Z_jump 3 rfl ?_
          refine Z_bd (fun c116 => ?_) (fun c116 => absurd (h3) c116)
          refine Z_jump 5 rfl ?_
          show Zs _ _ (am_P 82).2 (31, [(0, .ref 4), (1, .int (nI i)), (2, .int left), (3, .int goal), (4, .int b), (5, .int ch), (6, .int fh), (7, .int fl), (8, .int (s + b)), (9, .int (costF I (nI i) s)), (10, .int (hgF I (nI i) s)), (11, .int (lwF I (nI i) s)), (12, .int (few (hgF I (nI i) s) (lwF I (nI i) s) fh fl))], []) (HH I J R T) _
          exact Zs_wk (c_sbl hn6 hb hi m _ _ _ _ _ hn hB (by omega) H) (lnD rfl) (lnD rfl) (by repeat (first | exact trivial | refine ⟨rfl, ?_⟩))
        · rw [if_neg h3] at H
          by_cases h4 : few (hgF I (nI i) s) (lwF I (nI i) s) fh fl = 0
          · rw [if_pos h4] at H
            refine Z_jump 3 rfl ?_
            refine Z_bd (fun c116 => absurd c116 (h3)) (fun c116 => ?_)
            refine Z_jump 2 rfl ?_
            refine Z_bd (fun c121 => ?_) (fun c121 => absurd (h4) c121)
            refine Z_jump 5 rfl ?_
            show Zs _ _ (am_P 82).2 (31, [(0, .ref 4), (1, .int (nI i)), (2, .int left), (3, .int goal), (4, .int b), (5, .int ch), (6, .int fh), (7, .int fl), (8, .int (s + b)), (9, .int (costF I (nI i) s)), (10, .int (hgF I (nI i) s)), (11, .int (lwF I (nI i) s)), (12, .int (few (hgF I (nI i) s) (lwF I (nI i) s) fh fl))], []) (HH I J R T) _
            exact Zs_wk (c_sbl hn6 hb hi m _ _ _ _ _ hn hB (by omega) H) (lnD rfl) (lnD rfl) (by repeat (first | exact trivial | refine ⟨rfl, ?_⟩))
          · rw [if_neg h4] at H
            have e1 : nI i + 1 = nI (i + 1) := nI_1 i
            by_cases h5 : costF I (nI i) s + (lfF 7 I (nI i + 1) ((left - s) / b)).1 = goal
            · rw [if_pos h5] at H
              refine Z_jump 3 rfl ?_
              refine Z_bd (fun c116 => absurd c116 (h3)) (fun c116 => ?_)
              refine Z_jump 2 rfl ?_
              refine Z_bd (fun c121 => absurd c121 (h4)) (fun c121 => ?_)
              refine Z_jump 9 rfl ?_
              show Zs _ _ (am_P 82).2 (136, [(0, .ref 4), (1, .int (nI i)), (2, .int left), (3, .int goal), (4, .int b), (5, .int ch), (6, .int fh), (7, .int fl), (8, .int s), (9, .int (costF I (nI i) s)), (10, .int (hgF I (nI i) s)), (11, .int (lwF I (nI i) s)), (12, .int (few (hgF I (nI i) s) (lwF I (nI i) s) fh fl))], [.int b, .int (left - s), .int ((nI i) + (1 : Int32)), .ref 4, .int (costF I (nI i) s)]) (HH I J R T) _
              refine Z_idiv rfl (by exact hb0) ?_
              show Zs _ _ (am_P 82).2 (137, [(0, .ref 4), (1, .int (nI i)), (2, .int left), (3, .int goal), (4, .int b), (5, .int ch), (6, .int fh), (7, .int fl), (8, .int s), (9, .int (costF I (nI i) s)), (10, .int (hgF I (nI i) s)), (11, .int (lwF I (nI i) s)), (12, .int (few (hgF I (nI i) s) (lwF I (nI i) s) fh fl))], [.int ((left - s) / b), .int ((nI i) + (1 : Int32)), .ref 4, .int (costF I (nI i) s)]) (HH I J R T) _
              refine Z_c1 rfl rfl rfl ((e1 ▸ c_lfF (d := d) hn6 7 I (i + 1) ((left - s) / b) hn hB (by omega) (by omega))) ?_
              show Zs _ _ (am_P 82).2 (140, [(0, .ref 4), (1, .int (nI i)), (2, .int left), (3, .int goal), (4, .int b), (5, .int ch), (6, .int fh), (7, .int fl), (8, .int s), (9, .int (costF I (nI i) s)), (10, .int (hgF I (nI i) s)), (11, .int (lwF I (nI i) s)), (12, .int (few (hgF I (nI i) s) (lwF I (nI i) s) fh fl))], [.int (lfF 7 I (nI i + 1) ((left - s) / b)).1, .int (costF I (nI i) s)]) (HH (lfF 7 I (nI i + 1) ((left - s) / b)).2 J R T) _
              refine Z_jump 3 rfl ?_
              refine Z_bn (fun c142 => absurd (h5) c142) (fun c142 => ?_)
              refine Z_jump 11 rfl ?_
              show Zs _ _ (am_P 82).2 (31, [(0, .ref 4), (1, .int (nI i)), (2, .int left), (3, .int goal), (4, .int b), (5, .int s), (6, .int (hgF I (nI i) s)), (7, .int (lwF I (nI i) s)), (8, .int (s + b)), (9, .int (costF I (nI i) s)), (10, .int (hgF I (nI i) s)), (11, .int (lwF I (nI i) s)), (12, .int (few (hgF I (nI i) s) (lwF I (nI i) s) fh fl))], []) (HH (lfF 7 I (nI i + 1) ((left - s) / b)).2 J R T) _
              exact Zs_wk (c_sbl hn6 hb hi m _ _ _ _ _ ((congrFun (lfF_c (by decide) _ _ _ _) _).trans hn) (BS_of hB (lfF_c (by decide) _ _ _ _)) (by omega) H) (lnD rfl) (lnD rfl) (by repeat (first | exact trivial | refine ⟨rfl, ?_⟩))
            · rw [if_neg h5] at H
              refine Z_jump 3 rfl ?_
              refine Z_bd (fun c116 => absurd c116 (h3)) (fun c116 => ?_)
              refine Z_jump 2 rfl ?_
              refine Z_bd (fun c121 => absurd c121 (h4)) (fun c121 => ?_)
              refine Z_jump 9 rfl ?_
              show Zs _ _ (am_P 82).2 (136, [(0, .ref 4), (1, .int (nI i)), (2, .int left), (3, .int goal), (4, .int b), (5, .int ch), (6, .int fh), (7, .int fl), (8, .int s), (9, .int (costF I (nI i) s)), (10, .int (hgF I (nI i) s)), (11, .int (lwF I (nI i) s)), (12, .int (few (hgF I (nI i) s) (lwF I (nI i) s) fh fl))], [.int b, .int (left - s), .int ((nI i) + (1 : Int32)), .ref 4, .int (costF I (nI i) s)]) (HH I J R T) _
              refine Z_idiv rfl (by exact hb0) ?_
              show Zs _ _ (am_P 82).2 (137, [(0, .ref 4), (1, .int (nI i)), (2, .int left), (3, .int goal), (4, .int b), (5, .int ch), (6, .int fh), (7, .int fl), (8, .int s), (9, .int (costF I (nI i) s)), (10, .int (hgF I (nI i) s)), (11, .int (lwF I (nI i) s)), (12, .int (few (hgF I (nI i) s) (lwF I (nI i) s) fh fl))], [.int ((left - s) / b), .int ((nI i) + (1 : Int32)), .ref 4, .int (costF I (nI i) s)]) (HH I J R T) _
              refine Z_c1 rfl rfl rfl ((e1 ▸ c_lfF (d := d) hn6 7 I (i + 1) ((left - s) / b) hn hB (by omega) (by omega))) ?_
              show Zs _ _ (am_P 82).2 (140, [(0, .ref 4), (1, .int (nI i)), (2, .int left), (3, .int goal), (4, .int b), (5, .int ch), (6, .int fh), (7, .int fl), (8, .int s), (9, .int (costF I (nI i) s)), (10, .int (hgF I (nI i) s)), (11, .int (lwF I (nI i) s)), (12, .int (few (hgF I (nI i) s) (lwF I (nI i) s) fh fl))], [.int (lfF 7 I (nI i + 1) ((left - s) / b)).1, .int (costF I (nI i) s)]) (HH (lfF 7 I (nI i + 1) ((left - s) / b)).2 J R T) _
              refine Z_jump 3 rfl ?_
              refine Z_bn (fun c142 => ?_) (fun c142 => absurd c142 (h5))
              refine Z_jump 5 rfl ?_
              show Zs _ _ (am_P 82).2 (31, [(0, .ref 4), (1, .int (nI i)), (2, .int left), (3, .int goal), (4, .int b), (5, .int ch), (6, .int fh), (7, .int fl), (8, .int (s + b)), (9, .int (costF I (nI i) s)), (10, .int (hgF I (nI i) s)), (11, .int (lwF I (nI i) s)), (12, .int (few (hgF I (nI i) s) (lwF I (nI i) s) fh fl))], []) (HH (lfF 7 I (nI i + 1) ((left - s) / b)).2 J R T) _
              exact Zs_wk (c_sbl hn6 hb hi m _ _ _ _ _ ((congrFun (lfF_c (by decide) _ _ _ _) _).trans hn) (BS_of hB (lfF_c (by decide) _ _ _ _)) (by omega) H) (lnD rfl) (lnD rfl) (by repeat (first | exact trivial | refine ⟨rfl, ?_⟩))
theorem c_shownByWay {I : hI} {n i : Nat} {left : Int32} (hn6 : n ≤ 6) (hn : I 4 13 = nI n) (hB : BS I) (hi : i < n) : am_E sc (d + 10) 82 [.ref 4, .int (nI i), .int left] (HH I J R T) (some (.int (sbF I (nI i) left).1)) (HH (sbF I (nI i) left).2 J R T) := by
  refine E_Z (Ze_of (Nat.le_of_ble_eq_true rfl) ?_)
  have hn1 : (lfF 7 I (nI i) left).2 4 13 = nI n := (congrFun (lfF_c (by decide) _ _ _ _) _).trans hn
  have hB1 : BS (lfF 7 I (nI i) left).2 := BS_of hB (lfF_c (by decide) _ _ _ _)
  have hb := baseF_b (x := nI i) hB1
  have hr := ti_rem (x := left) hb.1
  have hr2 := tm_lt (a := left.toInt) hb.1
  refine Z_jump 3 rfl ?_
  show Zs _ _ (am_P 82).2 (3, [(0, .ref 4), (1, .int (nI i)), (2, .int left)], [.int left, .int (nI i), .ref 4]) (HH I J R T) _
  refine Z_c1 rfl rfl rfl (c_lfF (d := d) hn6 7 I i left hn hB (by omega) (by omega)) ?_
  show Zs _ _ (am_P 82).2 (6, [(0, .ref 4), (1, .int (nI i)), (2, .int left)], [.int (lfF 7 I (nI i) left).1]) (HH (lfF 7 I (nI i) left).2 J R T) _
  refine Z_jump 3 rfl ?_
  show Zs _ _ (am_P 82).2 (9, [(0, .ref 4), (1, .int (nI i)), (2, .int left), (3, .int (lfF 7 I (nI i) left).1)], [.int (nI i), .ref 4]) (HH (lfF 7 I (nI i) left).2 J R T) _
  refine Z_c1 rfl rfl rfl (c_baseOf) ?_
  show Zs _ _ (am_P 82).2 (12, [(0, .ref 4), (1, .int (nI i)), (2, .int left), (3, .int (lfF 7 I (nI i) left).1)], [.int (baseF (lfF 7 I (nI i) left).2 (nI i))]) (HH (lfF 7 I (nI i) left).2 J R T) _
  refine Z_jump 9 rfl ?_
  show Zs _ _ (am_P 82).2 (28, [(0, .ref 4), (1, .int (nI i)), (2, .int left), (3, .int (lfF 7 I (nI i) left).1), (4, .int (baseF (lfF 7 I (nI i) left).2 (nI i))), (5, .int (0 : Int32)), (6, .int (40 : Int32)), (7, .int (40 : Int32))], [.int (baseF (lfF 7 I (nI i) left).2 (nI i)), .int left]) (HH (lfF 7 I (nI i) left).2 J R T) _
  refine Z_irem rfl (by exact baseF_0) ?_
  refine Z_jump 1 rfl ?_
  show Zs _ _ (am_P 82).2 (31, [(0, .ref 4), (1, .int (nI i)), (2, .int left), (3, .int (lfF 7 I (nI i) left).1), (4, .int (baseF (lfF 7 I (nI i) left).2 (nI i))), (5, .int (0 : Int32)), (6, .int (40 : Int32)), (7, .int (40 : Int32)), (8, .int (left - left / (baseF (lfF 7 I (nI i) left).2 (nI i)) * (baseF (lfF 7 I (nI i) left).2 (nI i))))], []) (HH (lfF 7 I (nI i) left).2 J R T) _
  exact c_sbl hn6 hb hi 60 _ _ _ _ _ hn1 hB1 (by omega) ⟨rfl, rfl⟩
theorem st_ge {a : Nat} (h : isSt a) : 22 ≤ a ∧ a ≤ 67 := by
  rcases isSt_c h with rfl | rfl | rfl | rfl | rfl | rfl | rfl | rfl | rfl | rfl | rfl | rfl | rfl | rfl | rfl <;> decide
def prF (I : hI) (a i : Nat) (s : Int32) : hI := sf (sf I (a + 2) i (hgF I (nI i) s)) (a + 1) i (lwF I (nI i) s)
theorem prF_c {I : hI} {a i c : Nat} {s : Int32} (h1 : c ≠ a + 1) (h2 : c ≠ a + 2) : prF I a i s c = I c := by
  unfold prF
  rw [sf_c h1, sf_c h2]
theorem c_placeRod {I : hI} {a i : Nat} {s : Int32} (ha : isSt a) (hi : i < 6) : am_E sc (d + 3) 83 [.ref 4, .ref a, .int (nI i), .int s] (HH I J R T) none (HH (prF I a i s) J R T) := by
  refine E_Z (Ze_of (Nat.le_of_ble_eq_true rfl) ?_)
  have hg := st_ge ha
  refine Z_jump 4 rfl ?_
  show Zs _ _ (am_P 83).2 (6, [(0, .ref 4), (1, .ref a), (2, .int (nI i)), (3, .int s)], [.int s, .int (nI i), .ref 6]) (HH I J R T) _
  refine Z_c1 rfl rfl rfl (c_slot) ?_
  show Zs _ _ (am_P 83).2 (9, [(0, .ref 4), (1, .ref a), (2, .int (nI i)), (3, .int s)], [.int (slotF (nI i) s), .ref 6]) (HH I J R T) _
  show Zs _ _ (am_P 83).2 (9, [(0, .ref 4), (1, .ref a), (2, .int (nI i)), (3, .int s)], [.int (slotF (nI i) s), .ref 6]) (HH I J R T) _
  refine Z_c1 rfl rfl rfl (k_at (a := 6) (L := 240) (f := I 6) rfl (by decide)) ?_
  show Zs _ _ (am_P 83).2 (12, [(0, .ref 4), (1, .ref a), (2, .int (nI i)), (3, .int s)], [.int (hgF I (nI i) s)]) (HH I J R T) _
  refine Z_jump 5 rfl ?_
  show Zs _ _ (am_P 83).2 (19, [(0, .ref 4), (1, .ref a), (2, .int (nI i)), (3, .int s), (4, .int (hgF I (nI i) s))], [.int (hgF I (nI i) s), .int (1 : Int32), .int (nI i), .ref a]) (HH I J R T) _
  refine Z_c0 rfl (am_do_inv (st_0 ha) rfl (rfl) (Nat.le_of_ble_eq_true rfl)) rfl (c_place (p := 1) ha rfl hi) ?_
  show Zs _ _ (am_P 83).2 (22, [(0, .ref 4), (1, .ref a), (2, .int (nI i)), (3, .int s), (4, .int (hgF I (nI i) s))], []) (HH (sf I (a + 2) i (hgF I (nI i) s)) J R T) _
  refine Z_jump 8 rfl ?_
  show Zs _ _ (am_P 83).2 (33, [(0, .ref 4), (1, .ref a), (2, .int (nI i)), (3, .int s), (4, .int (hgF I (nI i) s))], [.int (nI i), .ref 9, .int (hgF I (nI i) s), .int s, .int (0 : Int32), .int (nI i), .ref a]) (HH (sf I (a + 2) i (hgF I (nI i) s)) J R T) _
  refine Z_c1 rfl rfl rfl (k_at (a := 9) (L := 6) (f := (sf I (a + 2) i (hgF I (nI i) s)) 9) rfl (by decide)) ?_
  show Zs _ _ (am_P 83).2 (36, [(0, .ref 4), (1, .ref a), (2, .int (nI i)), (3, .int s), (4, .int (hgF I (nI i) s))], [.int (am_rd 6 (sf I (a + 2) i (hgF I (nI i) s) 9) (nI i)), .int (hgF I (nI i) s), .int s, .int (0 : Int32), .int (nI i), .ref a]) (HH (sf I (a + 2) i (hgF I (nI i) s)) J R T) _
  show Zs _ _ (am_P 83).2 (36, [(0, .ref 4), (1, .ref a), (2, .int (nI i)), (3, .int s), (4, .int (hgF I (nI i) s))], [.int (am_rd 6 (sf I (a + 2) i (hgF I (nI i) s) 9) (nI i)), .int (hgF I (nI i) s), .int s, .int (0 : Int32), .int (nI i), .ref a]) (HH (sf I (a + 2) i (hgF I (nI i) s)) J R T) _
  refine Z_eqI (y := (am_rd 6 (I 9) (nI i))) ((by rw [sf_c (show 9 ≠ a + 2 by omega)])) ?_
  show Zs _ _ (am_P 83).2 (36, [(0, .ref 4), (1, .ref a), (2, .int (nI i)), (3, .int s), (4, .int (hgF I (nI i) s))], [.int (am_rd 6 (I 9) (nI i)), .int (hgF I (nI i) s), .int s, .int (0 : Int32), .int (nI i), .ref a]) (HH (sf I (a + 2) i (hgF I (nI i) s)) J R T) _
  refine Z_jump 2 rfl ?_
  show Zs _ _ (am_P 83).2 (38, [(0, .ref 4), (1, .ref a), (2, .int (nI i)), (3, .int s), (4, .int (hgF I (nI i) s))], [.int (s - ((hgF I (nI i) s) * (am_rd 6 (I 9) (nI i)))), .int (0 : Int32), .int (nI i), .ref a]) (HH (sf I (a + 2) i (hgF I (nI i) s)) J R T) _
  refine Z_eqI (y := (lwF I (nI i) s)) (rfl) ?_
  show Zs _ _ (am_P 83).2 (38, [(0, .ref 4), (1, .ref a), (2, .int (nI i)), (3, .int s), (4, .int (hgF I (nI i) s))], [.int (lwF I (nI i) s), .int (0 : Int32), .int (nI i), .ref a]) (HH (sf I (a + 2) i (hgF I (nI i) s)) J R T) _
  show Zs _ _ (am_P 83).2 (38, [(0, .ref 4), (1, .ref a), (2, .int (nI i)), (3, .int s), (4, .int (hgF I (nI i) s))], [.int (lwF I (nI i) s), .int (0 : Int32), .int (nI i), .ref a]) (HH (sf I (a + 2) i (hgF I (nI i) s)) J R T) _
  refine Z_c0 rfl (am_do_inv (st_0 ha) rfl (rfl) (Nat.le_of_ble_eq_true rfl)) rfl (c_place (p := 0) ha rfl hi) ?_
  show Zs _ _ (am_P 83).2 (41, [(0, .ref 4), (1, .ref a), (2, .int (nI i)), (3, .int s), (4, .int (hgF I (nI i) s))], []) (HH (prF I a i s) J R T) _
  show Zs _ _ (am_P 83).2 (41, [(0, .ref 4), (1, .ref a), (2, .int (nI i)), (3, .int s), (4, .int (hgF I (nI i) s))], []) (HH (prF I a i s) J R T) _
  refine Z_ret rfl rfl rfl ?_
  exact ⟨rfl, rfl⟩
def pal (a : Nat) : Nat → Nat → Int32 → hI → hI
  | 0, _, _, I => I
  | k + 1, i, left, I => pal a k (i + 1) ((left - (sbF I (nI i) left).1) / baseF (prF (sbF I (nI i) left).2 a i (sbF I (nI i) left).1) (nI i)) (prF (sbF I (nI i) left).2 a i (sbF I (nI i) left).1)
theorem pal_c {a c : Nat} (h : c ≠ 12) (h1 : c ≠ a + 1) (h2 : c ≠ a + 2) : ∀ (k i : Nat) (left : Int32) (I : hI), pal a k i left I c = I c
  | 0, i, left, I => rfl
  | k + 1, i, left, I => by
    unfold pal
    rw [pal_c h h1 h2 k, prF_c h1 h2, sbF_c h]
def paF (I : hI) (a n : Nat) : hI := pal a n 0 (if I 4 13 ≤ 0 then 0 else am_rd 6 (I 13) 0) I
theorem c_pal {n a : Nat} (hn6 : n ≤ 6) (ha : isSt a) : ∀ (k i : Nat) (I : hI) (x left : Int32), i + k = n → x = nI i → I 4 13 = nI n → BS I → Q none (HH (pal a k i left I) J R T) → Zs sc (d + 10) (am_P 81).2 (22, [(0, .ref 4), (1, .ref a), (2, .int left), (3, .int x)], []) (HH I J R T) Q
  | 0, i, I, x, left, hi, hx, hn, hB, H => by
    refine Z_jump 4 rfl ?_
    refine Z_bd (fun c27 => ?_) (fun c27 => absurd ((show I 4 13 ≤ x by rw [hn, hx]; exact nI_le (by omega) (by omega))) c27)
    show Zs _ _ (am_P 81).2 (63, [(0, .ref 4), (1, .ref a), (2, .int left), (3, .int x)], []) (HH I J R T) _
    refine Z_ret rfl rfl rfl ?_
    exact H
  | k + 1, i, I, x, left, hi, hx, hn, hB, H => by
    have ex : x + 1 = nI (i + 1) := by rw [hx]; exact nI_1 i
    have hg := st_ge ha
    have hn1 : (prF (sbF I (nI i) left).2 a i (sbF I (nI i) left).1) 4 13 = nI n := by rw [prF_c (by omega) (by omega), sbF_c (by decide)]; exact hn
    have hB1 : BS (prF (sbF I (nI i) left).2 a i (sbF I (nI i) left).1) := BS_of hB (by rw [prF_c (by omega) (by omega), sbF_c (by decide)])
    subst hx
    refine Z_jump 4 rfl ?_
    refine Z_bd (fun c27 => absurd c27 ((show ¬ I 4 13 ≤ nI i by rw [hn]; exact nI_ge (by omega) (by omega)))) (fun c27 => ?_)
    refine Z_jump 3 rfl ?_
    show Zs _ _ (am_P 81).2 (33, [(0, .ref 4), (1, .ref a), (2, .int left), (3, .int (nI i))], [.int left, .int (nI i), .ref 4]) (HH I J R T) _
    refine Z_c1 rfl rfl rfl (c_shownByWay hn6 hn hB (by omega)) ?_
    show Zs _ _ (am_P 81).2 (36, [(0, .ref 4), (1, .ref a), (2, .int left), (3, .int (nI i))], [.int (sbF I (nI i) left).1]) (HH (sbF I (nI i) left).2 J R T) _
    refine Z_jump 5 rfl ?_
    show Zs _ _ (am_P 81).2 (43, [(0, .ref 4), (1, .ref a), (2, .int left), (3, .int (nI i)), (4, .int (sbF I (nI i) left).1)], [.int (sbF I (nI i) left).1, .int (nI i), .ref a, .ref 4]) (HH (sbF I (nI i) left).2 J R T) _
    refine Z_c0 rfl rfl rfl (c_placeRod ha (by omega)) ?_
    show Zs _ _ (am_P 81).2 (46, [(0, .ref 4), (1, .ref a), (2, .int left), (3, .int (nI i)), (4, .int (sbF I (nI i) left).1)], []) (HH (prF (sbF I (nI i) left).2 a i (sbF I (nI i) left).1) J R T) _
    refine Z_jump 5 rfl ?_
    show Zs _ _ (am_P 81).2 (52, [(0, .ref 4), (1, .ref a), (2, .int left), (3, .int (nI i)), (4, .int (sbF I (nI i) left).1)], [.int (nI i), .ref 4, .int (left - (sbF I (nI i) left).1)]) (HH (prF (sbF I (nI i) left).2 a i (sbF I (nI i) left).1) J R T) _
    refine Z_c1 rfl rfl rfl (c_baseOf) ?_
    show Zs _ _ (am_P 81).2 (55, [(0, .ref 4), (1, .ref a), (2, .int left), (3, .int (nI i)), (4, .int (sbF I (nI i) left).1)], [.int (baseF (prF (sbF I (nI i) left).2 a i (sbF I (nI i) left).1) (nI i)), .int (left - (sbF I (nI i) left).1)]) (HH (prF (sbF I (nI i) left).2 a i (sbF I (nI i) left).1) J R T) _
    show Zs _ _ (am_P 81).2 (55, [(0, .ref 4), (1, .ref a), (2, .int left), (3, .int (nI i)), (4, .int (sbF I (nI i) left).1)], [.int (baseF (prF (sbF I (nI i) left).2 a i (sbF I (nI i) left).1) (nI i)), .int (left - (sbF I (nI i) left).1)]) (HH (prF (sbF I (nI i) left).2 a i (sbF I (nI i) left).1) J R T) _
    refine Z_idiv rfl (by exact baseF_0) ?_
    refine Z_jump 3 rfl ?_
    show Zs _ _ (am_P 81).2 (22, [(0, .ref 4), (1, .ref a), (2, .int ((left - (sbF I (nI i) left).1) / (baseF (prF (sbF I (nI i) left).2 a i (sbF I (nI i) left).1) (nI i)))), (3, .int ((nI i) + 1)), (4, .int (sbF I (nI i) left).1)], []) (HH (prF (sbF I (nI i) left).2 a i (sbF I (nI i) left).1) J R T) _
    exact Zs_wk (c_pal hn6 ha k (i + 1) _ _ _ (by omega) ex hn1 hB1 H) (lnD rfl) (lnD rfl) (by repeat (first | exact trivial | refine ⟨rfl, ?_⟩))
theorem c_placeAll {I : hI} {n a : Nat} (hn6 : n ≤ 6) (ha : isSt a) (hn : I 4 13 = nI n) (hB : BS I) : am_E sc (d + 11) 81 [.ref 4, .ref a] (HH I J R T) none (HH (paF I a n) J R T) := by
  refine E_Z (Ze_of (Nat.le_of_ble_eq_true rfl) ?_)
  unfold paF
  refine Z_jump 3 rfl ?_
  refine Z_bd (fun (c4 : (I 4 13) ≤ (0 : Int32)) => ?_) (fun (c4 : ¬ ((I 4 13) ≤ (0 : Int32))) => ?_)
  · refine Z_jump 4 rfl ?_
    show Zs _ _ (am_P 81).2 (22, [(0, .ref 4), (1, .ref a), (2, .int (0 : Int32)), (3, .int (0 : Int32))], []) (HH I J R T) _
    rw [if_pos c4]
    exact c_pal hn6 ha n 0 _ _ _ (by omega) rfl hn hB ⟨rfl, rfl⟩
  · refine Z_jump 3 rfl ?_
    show Zs _ _ (am_P 81).2 (12, [(0, .ref 4), (1, .ref a)], [.int (0 : Int32), .ref 13]) (HH I J R T) _
    refine Z_c1 rfl rfl rfl (k_at (a := 13) (L := 6) (f := I 13) rfl (by decide)) ?_
    show Zs _ _ (am_P 81).2 (15, [(0, .ref 4), (1, .ref a)], [.int (am_rd 6 (I 13) 0)]) (HH I J R T) _
    refine Z_jump 4 rfl ?_
    show Zs _ _ (am_P 81).2 (22, [(0, .ref 4), (1, .ref a), (2, .int (am_rd 6 (I 13) 0)), (3, .int (0 : Int32))], []) (HH I J R T) _
    rw [if_neg c4]
    exact c_pal hn6 ha n 0 _ _ _ (by omega) rfl hn hB ⟨rfl, rfl⟩
end WY6

