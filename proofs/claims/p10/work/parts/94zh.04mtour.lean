section MLA
variable {sc : Nat × (Nat → Int32)} {d : Nat} {R : hR} {T : am_H} {Q : Option Value → am_H → Prop}
theorem m_tm5 {D : FD} {a b c w : Int32} {I : hI} {J : hJ} {le be : Int32} (hD : DMf D I) (H : trQ w R T Q (tm5 D a b c I J le be)) : Zs sc (d + 7) (am_P 220).2 (60, [(0, .ref 73), (1, .int a), (2, .int b), (3, .int c), (4, .int w), (5, .int be), (6, .int le), (7, .int 5)], []) (HH I J R T) Q := by
  have hD0 : DMf D (cpN I) := DMf_k hD trK_n
  have hDt : DMf D (tr3 D c b a I J).2.1 := DMf_k hD tr3_c
  unfold tm5 trN at H
  have X : ∀ (t : Int32 × hI × hJ), tr3 D c b a I J = t → Zs sc (d + 7) (am_P 220).2 (152, [(0, .ref 73), (1, .int a), (2, .int b), (3, .int c), (4, .int w), (5, .int be), (6, .int le), (7, .int 5), (8, .int t.1)], []) (HH t.2.1 t.2.2 R T) Q := fun t ht => by
    rw [ht] at H hDt
    refine Z_jump 2 rfl ?_
    refine Z_bd (fun (c154 : (0 : Int32) ≤ t.1) => ?_) (fun (c154 : ¬ ((0 : Int32) ≤ t.1)) => ?_)
    · refine Z_jump 3 rfl ?_
      refine Z_bd (fun (c163 : le ≤ t.1) => ?_) (fun (c163 : ¬ (le ≤ t.1)) => ?_)
      · refine Z_jump 5 rfl ?_
        refine Z_bd (fun (c179 : le ≤ t.1) => ?_) (fun (c179 : ¬ (le ≤ t.1)) => ?_)
        · refine Z_jump 4 rfl ?_
          show Zs _ _ (am_P 220).2 (60, [(0, .ref 73), (1, .int a), (2, .int b), (3, .int c), (4, .int w), (5, .int be), (6, .int le), (7, .int (6 : Int32)), (8, .int t.1)], []) (HH t.2.1 t.2.2 R T) _
          first | exact absurd c163 c179 | exact absurd c179 c163 | (rw [if_pos c154, if_pos c163] at H; exact Zs_wk (m_tm6 H) (lnD rfl) (lnD rfl) (by repeat (first | exact trivial | refine ⟨rfl, ?_⟩))) | (rw [if_pos c154, if_neg c163] at H; exact Zs_wk (m_tm6 H) (lnD rfl) (lnD rfl) (by repeat (first | exact trivial | refine ⟨rfl, ?_⟩)))
        · refine Z_jump 5 rfl ?_
          show Zs _ _ (am_P 220).2 (60, [(0, .ref 73), (1, .int a), (2, .int b), (3, .int c), (4, .int w), (5, .int be), (6, .int t.1), (7, .int (6 : Int32)), (8, .int t.1)], []) (HH t.2.1 t.2.2 R T) _
          first | exact absurd c163 c179 | exact absurd c179 c163 | (rw [if_pos c154, if_pos c163] at H; exact Zs_wk (m_tm6 H) (lnD rfl) (lnD rfl) (by repeat (first | exact trivial | refine ⟨rfl, ?_⟩))) | (rw [if_pos c154, if_neg c163] at H; exact Zs_wk (m_tm6 H) (lnD rfl) (lnD rfl) (by repeat (first | exact trivial | refine ⟨rfl, ?_⟩)))
      · refine Z_jump 6 rfl ?_
        refine Z_bd (fun (c179 : le ≤ t.1) => ?_) (fun (c179 : ¬ (le ≤ t.1)) => ?_)
        · refine Z_jump 4 rfl ?_
          show Zs _ _ (am_P 220).2 (60, [(0, .ref 73), (1, .int a), (2, .int b), (3, .int c), (4, .int w), (5, .int (5 : Int32)), (6, .int le), (7, .int (6 : Int32)), (8, .int t.1)], []) (HH t.2.1 t.2.2 R T) _
          first | exact absurd c163 c179 | exact absurd c179 c163 | (rw [if_pos c154, if_pos c163] at H; exact Zs_wk (m_tm6 H) (lnD rfl) (lnD rfl) (by repeat (first | exact trivial | refine ⟨rfl, ?_⟩))) | (rw [if_pos c154, if_neg c163] at H; exact Zs_wk (m_tm6 H) (lnD rfl) (lnD rfl) (by repeat (first | exact trivial | refine ⟨rfl, ?_⟩)))
        · refine Z_jump 5 rfl ?_
          show Zs _ _ (am_P 220).2 (60, [(0, .ref 73), (1, .int a), (2, .int b), (3, .int c), (4, .int w), (5, .int (5 : Int32)), (6, .int t.1), (7, .int (6 : Int32)), (8, .int t.1)], []) (HH t.2.1 t.2.2 R T) _
          first | exact absurd c163 c179 | exact absurd c179 c163 | (rw [if_pos c154, if_pos c163] at H; exact Zs_wk (m_tm6 H) (lnD rfl) (lnD rfl) (by repeat (first | exact trivial | refine ⟨rfl, ?_⟩))) | (rw [if_pos c154, if_neg c163] at H; exact Zs_wk (m_tm6 H) (lnD rfl) (lnD rfl) (by repeat (first | exact trivial | refine ⟨rfl, ?_⟩)))
    · refine Z_jump 1 rfl ?_
      show Zs _ _ (am_P 220).2 (158, [(0, .ref 73), (1, .int a), (2, .int b), (3, .int c), (4, .int w), (5, .int be), (6, .int le), (7, .int (5 : Int32)), (8, .int t.1)], [.int (-1 : Int32)]) (HH t.2.1 t.2.2 R T) _
      refine Z_rI rfl (by first | exact am_nw0 _ | exact am_nw01 | rfl | assumption) ?_
      rw [if_neg c154] at H
      exact H
  unfold tr3 trS at X
  have hE1 := m_sets6 (sc := sc) (d := d) (R := R) (T := T) (J := J) (to := c.toInt64) hD0
  have k1 : DMf D (seF (cpN I) J D 79 c.toInt64).2.1 := DMf_k hD0 (fun a h9 h10 h6 => seF_c h9 h10 h6)
  generalize seF (cpN I) J D 79 c.toInt64 = w1 at X hE1 k1
  have hE2 := m_sets6 (sc := sc) (d := d) (R := R) (T := T) (J := w1.2.2) (to := b.toInt64) k1
  have k2 : DMf D (seF w1.2.1 w1.2.2 D 79 b.toInt64).2.1 := DMf_k k1 (fun a h9 h10 h6 => seF_c h9 h10 h6)
  dsimp only at X
  generalize seF w1.2.1 w1.2.2 D 79 b.toInt64 = w2 at X hE2 k2
  have hE3 := m_sets6 (sc := sc) (d := d) (R := R) (T := T) (J := w2.2.2) (to := a.toInt64) k2
  generalize seF w2.2.1 w2.2.2 D 79 a.toInt64 = w3 at X hE3
  refine Z_jump 4 rfl ?_
  show Zs _ _ (am_P 220).2 (68, [(0, .ref 73), (1, .int a), (2, .int b), (3, .int c), (4, .int w), (5, .int be), (6, .int le), (7, .int (5 : Int32))], [.ref 73]) (HH I J R T) _
  refine Z_c0 rfl rfl rfl (m_copyNow) ?_
  show Zs _ _ (am_P 220).2 (71, [(0, .ref 73), (1, .int a), (2, .int b), (3, .int c), (4, .int w), (5, .int be), (6, .int le), (7, .int (5 : Int32))], []) (HH (cpN I) J R T) _
  refine Z_jump 11 rfl ?_
  show Zs _ _ (am_P 220).2 (92, [(0, .ref 73), (1, .int a), (2, .int b), (3, .int c), (4, .int w), (5, .int be), (6, .int le), (7, .int (5 : Int32)), (8, .int (0 : Int32)), (9, .int (0 : Int32))], [.int (0 : Int32), .int (5 : Int32)]) (HH (cpN I) J R T) _
  refine Z_c1 rfl rfl rfl (io_50) ?_
  show Zs _ _ (am_P 220).2 (95, [(0, .ref 73), (1, .int a), (2, .int b), (3, .int c), (4, .int w), (5, .int be), (6, .int le), (7, .int (5 : Int32)), (8, .int (0 : Int32)), (9, .int (0 : Int32))], [.int (2 : Int32)]) (HH (cpN I) J R T) _
  refine Z_jump 11 rfl ?_
  show Zs _ _ (am_P 220).2 (125, [(0, .ref 73), (1, .int a), (2, .int b), (3, .int c), (4, .int w), (5, .int be), (6, .int le), (7, .int (5 : Int32)), (8, .int (0 : Int32)), (9, .int (0 : Int32)), (10, .int (2 : Int32))], [.long (Int32.toInt64 c), .ref 79, .ref 73]) (HH (cpN I) J R T) _
  refine Z_c1 rfl rfl rfl (hE1) ?_
  show Zs _ _ (am_P 220).2 (128, [(0, .ref 73), (1, .int a), (2, .int b), (3, .int c), (4, .int w), (5, .int be), (6, .int le), (7, .int (5 : Int32)), (8, .int (0 : Int32)), (9, .int (0 : Int32)), (10, .int (2 : Int32))], [.int w1.1]) (HH w1.2.1 w1.2.2 R T) _
  refine Z_jump 3 rfl ?_
  refine Z_bd (fun (c132 : (0 : Int32) ≤ w1.1) => ?_) (fun (c132 : ¬ ((0 : Int32) ≤ w1.1)) => ?_)
  · refine Z_jump 11 rfl ?_
    refine Z_bd (fun (c85 : ((0 : Int32) + w1.1) < (0 : Int32)) => ?_) (fun (c85 : ¬ (((0 : Int32) + w1.1) < (0 : Int32))) => ?_)
    · show Zs _ _ (am_P 220).2 (152, [(0, .ref 73), (1, .int a), (2, .int b), (3, .int c), (4, .int w), (5, .int be), (6, .int le), (7, .int (5 : Int32)), (8, .int ((0 : Int32) + w1.1)), (9, .int (1 : Int32)), (10, .int (2 : Int32)), (11, .int w1.1)], []) (HH w1.2.1 w1.2.2 R T) _
      exact Zs_wk (X (((0 : Int32) + w1.1), w1.2.1, w1.2.2) (by first | (rw [if_pos c132, if_pos c85]; done) | (rw [if_pos c132, if_pos c85, if_pos (show (-1 : Int32) < 0 by decide)]; done))) (lnD rfl) (lnD rfl) (by repeat (first | exact trivial | refine ⟨rfl, ?_⟩))
    · refine Z_jump 2 rfl ?_
      show Zs _ _ (am_P 220).2 (92, [(0, .ref 73), (1, .int a), (2, .int b), (3, .int c), (4, .int w), (5, .int be), (6, .int le), (7, .int (5 : Int32)), (8, .int ((0 : Int32) + w1.1)), (9, .int (1 : Int32)), (10, .int (2 : Int32)), (11, .int w1.1)], [.int (1 : Int32), .int (5 : Int32)]) (HH w1.2.1 w1.2.2 R T) _
      refine Z_c1 rfl rfl rfl (io_51) ?_
      show Zs _ _ (am_P 220).2 (95, [(0, .ref 73), (1, .int a), (2, .int b), (3, .int c), (4, .int w), (5, .int be), (6, .int le), (7, .int (5 : Int32)), (8, .int ((0 : Int32) + w1.1)), (9, .int (1 : Int32)), (10, .int (2 : Int32)), (11, .int w1.1)], [.int (1 : Int32)]) (HH w1.2.1 w1.2.2 R T) _
      refine Z_jump 12 rfl ?_
      show Zs _ _ (am_P 220).2 (125, [(0, .ref 73), (1, .int a), (2, .int b), (3, .int c), (4, .int w), (5, .int be), (6, .int le), (7, .int (5 : Int32)), (8, .int ((0 : Int32) + w1.1)), (9, .int (1 : Int32)), (10, .int (1 : Int32)), (11, .int w1.1)], [.long (Int32.toInt64 b), .ref 79, .ref 73]) (HH w1.2.1 w1.2.2 R T) _
      refine Z_c1 rfl rfl rfl (hE2) ?_
      show Zs _ _ (am_P 220).2 (128, [(0, .ref 73), (1, .int a), (2, .int b), (3, .int c), (4, .int w), (5, .int be), (6, .int le), (7, .int (5 : Int32)), (8, .int ((0 : Int32) + w1.1)), (9, .int (1 : Int32)), (10, .int (1 : Int32)), (11, .int w1.1)], [.int w2.1]) (HH w2.2.1 w2.2.2 R T) _
      refine Z_jump 3 rfl ?_
      refine Z_bd (fun (c132b : (0 : Int32) ≤ w2.1) => ?_) (fun (c132b : ¬ ((0 : Int32) ≤ w2.1)) => ?_)
      · refine Z_jump 11 rfl ?_
        refine Z_bd (fun (c85b : (((0 : Int32) + w1.1) + w2.1) < (0 : Int32)) => ?_) (fun (c85b : ¬ ((((0 : Int32) + w1.1) + w2.1) < (0 : Int32))) => ?_)
        · show Zs _ _ (am_P 220).2 (152, [(0, .ref 73), (1, .int a), (2, .int b), (3, .int c), (4, .int w), (5, .int be), (6, .int le), (7, .int (5 : Int32)), (8, .int (((0 : Int32) + w1.1) + w2.1)), (9, .int (2 : Int32)), (10, .int (1 : Int32)), (11, .int w2.1)], []) (HH w2.2.1 w2.2.2 R T) _
          exact Zs_wk (X ((((0 : Int32) + w1.1) + w2.1), w2.2.1, w2.2.2) (by first | (rw [if_pos c132, if_neg c85, if_pos c132b, if_pos c85b]; done) | (rw [if_pos c132, if_neg c85, if_pos c132b, if_pos c85b, if_pos (show (-1 : Int32) < 0 by decide)]; done))) (lnD rfl) (lnD rfl) (by repeat (first | exact trivial | refine ⟨rfl, ?_⟩))
        · refine Z_jump 2 rfl ?_
          show Zs _ _ (am_P 220).2 (92, [(0, .ref 73), (1, .int a), (2, .int b), (3, .int c), (4, .int w), (5, .int be), (6, .int le), (7, .int (5 : Int32)), (8, .int (((0 : Int32) + w1.1) + w2.1)), (9, .int (2 : Int32)), (10, .int (1 : Int32)), (11, .int w2.1)], [.int (2 : Int32), .int (5 : Int32)]) (HH w2.2.1 w2.2.2 R T) _
          refine Z_c1 rfl rfl rfl (io_52) ?_
          show Zs _ _ (am_P 220).2 (95, [(0, .ref 73), (1, .int a), (2, .int b), (3, .int c), (4, .int w), (5, .int be), (6, .int le), (7, .int (5 : Int32)), (8, .int (((0 : Int32) + w1.1) + w2.1)), (9, .int (2 : Int32)), (10, .int (1 : Int32)), (11, .int w2.1)], [.int (0 : Int32)]) (HH w2.2.1 w2.2.2 R T) _
          refine Z_jump 9 rfl ?_
          show Zs _ _ (am_P 220).2 (125, [(0, .ref 73), (1, .int a), (2, .int b), (3, .int c), (4, .int w), (5, .int be), (6, .int le), (7, .int (5 : Int32)), (8, .int (((0 : Int32) + w1.1) + w2.1)), (9, .int (2 : Int32)), (10, .int (0 : Int32)), (11, .int w2.1)], [.long (Int32.toInt64 a), .ref 79, .ref 73]) (HH w2.2.1 w2.2.2 R T) _
          refine Z_c1 rfl rfl rfl (hE3) ?_
          show Zs _ _ (am_P 220).2 (128, [(0, .ref 73), (1, .int a), (2, .int b), (3, .int c), (4, .int w), (5, .int be), (6, .int le), (7, .int (5 : Int32)), (8, .int (((0 : Int32) + w1.1) + w2.1)), (9, .int (2 : Int32)), (10, .int (0 : Int32)), (11, .int w2.1)], [.int w3.1]) (HH w3.2.1 w3.2.2 R T) _
          refine Z_jump 3 rfl ?_
          refine Z_bd (fun (c132c : (0 : Int32) ≤ w3.1) => ?_) (fun (c132c : ¬ ((0 : Int32) ≤ w3.1)) => ?_)
          · refine Z_jump 9 rfl ?_
            show Zs _ _ (am_P 220).2 (152, [(0, .ref 73), (1, .int a), (2, .int b), (3, .int c), (4, .int w), (5, .int be), (6, .int le), (7, .int (5 : Int32)), (8, .int ((((0 : Int32) + w1.1) + w2.1) + w3.1)), (9, .int (3 : Int32)), (10, .int (0 : Int32)), (11, .int w3.1)], []) (HH w3.2.1 w3.2.2 R T) _
            exact Zs_wk (X (((((0 : Int32) + w1.1) + w2.1) + w3.1), w3.2.1, w3.2.2) (by first | (rw [if_pos c132, if_neg c85, if_pos c132b, if_neg c85b, if_pos c132c]; done) | (rw [if_pos c132, if_neg c85, if_pos c132b, if_neg c85b, if_pos c132c, if_pos (show (-1 : Int32) < 0 by decide)]; done))) (lnD rfl) (lnD rfl) (by repeat (first | exact trivial | refine ⟨rfl, ?_⟩))
          · refine Z_jump 8 rfl ?_
            show Zs _ _ (am_P 220).2 (152, [(0, .ref 73), (1, .int a), (2, .int b), (3, .int c), (4, .int w), (5, .int be), (6, .int le), (7, .int (5 : Int32)), (8, .int (-1 : Int32)), (9, .int (3 : Int32)), (10, .int (0 : Int32)), (11, .int w3.1)], []) (HH w3.2.1 w3.2.2 R T) _
            exact Zs_wk (X ((-1 : Int32), w3.2.1, w3.2.2) (by first | (rw [if_pos c132, if_neg c85, if_pos c132b, if_neg c85b, if_neg c132c]; done) | (rw [if_pos c132, if_neg c85, if_pos c132b, if_neg c85b, if_neg c132c, if_pos (show (-1 : Int32) < 0 by decide)]; done))) (lnD rfl) (lnD rfl) (by repeat (first | exact trivial | refine ⟨rfl, ?_⟩))
      · refine Z_jump 10 rfl ?_
        show Zs _ _ (am_P 220).2 (152, [(0, .ref 73), (1, .int a), (2, .int b), (3, .int c), (4, .int w), (5, .int be), (6, .int le), (7, .int (5 : Int32)), (8, .int (-1 : Int32)), (9, .int (2 : Int32)), (10, .int (1 : Int32)), (11, .int w2.1)], []) (HH w2.2.1 w2.2.2 R T) _
        exact Zs_wk (X ((-1 : Int32), w2.2.1, w2.2.2) (by first | (rw [if_pos c132, if_neg c85, if_neg c132b]; done) | (rw [if_pos c132, if_neg c85, if_neg c132b, if_pos (show (-1 : Int32) < 0 by decide)]; done))) (lnD rfl) (lnD rfl) (by repeat (first | exact trivial | refine ⟨rfl, ?_⟩))
  · refine Z_jump 10 rfl ?_
    show Zs _ _ (am_P 220).2 (152, [(0, .ref 73), (1, .int a), (2, .int b), (3, .int c), (4, .int w), (5, .int be), (6, .int le), (7, .int (5 : Int32)), (8, .int (-1 : Int32)), (9, .int (1 : Int32)), (10, .int (2 : Int32)), (11, .int w1.1)], []) (HH w1.2.1 w1.2.2 R T) _
    exact Zs_wk (X ((-1 : Int32), w1.2.1, w1.2.2) (by first | (rw [if_neg c132]; done) | (rw [if_neg c132, if_pos (show (-1 : Int32) < 0 by decide)]; done))) (lnD rfl) (lnD rfl) (by repeat (first | exact trivial | refine ⟨rfl, ?_⟩))
end MLA
