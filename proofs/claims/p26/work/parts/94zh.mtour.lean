/-! The reference: tour, kinds. -/
section MLA
variable {sc : Nat × (Nat → Int32)} {d : Nat} {R : hR} {T : am_H} {Q : Option Value → am_H → Prop}
/-- three numbers set one behind the other: the sum of the times, below 0 if one can't be shown -/
def trS (D : FD) (v s : Int32) (I : hI) (J : hJ) : Int32 × hI × hJ := (if 0 ≤ (seF I J D 79 v.toInt64).1 then s + (seF I J D 79 v.toInt64).1 else -1, (seF I J D 79 v.toInt64).2)
def tr3 (D : FD) (x y z : Int32) (I : hI) (J : hJ) : Int32 × hI × hJ :=
  if (trS D x 0 (cpN I) J).1 < 0 then trS D x 0 (cpN I) J else
  if (trS D y (trS D x 0 (cpN I) J).1 (trS D x 0 (cpN I) J).2.1 (trS D x 0 (cpN I) J).2.2).1 < 0 then trS D y (trS D x 0 (cpN I) J).1 (trS D x 0 (cpN I) J).2.1 (trS D x 0 (cpN I) J).2.2
  else trS D z (trS D y (trS D x 0 (cpN I) J).1 (trS D x 0 (cpN I) J).2.1 (trS D x 0 (cpN I) J).2.2).1 (trS D y (trS D x 0 (cpN I) J).1 (trS D x 0 (cpN I) J).2.1 (trS D x 0 (cpN I) J).2.2).2.1 (trS D y (trS D x 0 (cpN I) J).1 (trS D x 0 (cpN I) J).2.1 (trS D x 0 (cpN I) J).2.2).2.2
abbrev trT : Type := Option (Int32 × Int32) × hI × hJ
def trN (D : FD) (x y z o : Int32) (K : hI → hJ → Int32 → Int32 → trT) (I : hI) (J : hJ) (le be : Int32) : trT :=
  if 0 ≤ (tr3 D x y z I J).1 then (if le ≤ (tr3 D x y z I J).1 then K (tr3 D x y z I J).2.1 (tr3 D x y z I J).2.2 le be else K (tr3 D x y z I J).2.1 (tr3 D x y z I J).2.2 (tr3 D x y z I J).1 o) else (none, (tr3 D x y z I J).2)
def tm6 (_ : FD) (_ _ _ : Int32) : hI → hJ → Int32 → Int32 → trT := fun I J le be => (some (le, be), I, J)
def tm5 (D : FD) (a b c : Int32) : hI → hJ → Int32 → Int32 → trT := trN D c b a 5 (tm6 D a b c)
def tm4 (D : FD) (a b c : Int32) : hI → hJ → Int32 → Int32 → trT := trN D c a b 4 (tm5 D a b c)
def tm3 (D : FD) (a b c : Int32) : hI → hJ → Int32 → Int32 → trT := trN D b c a 3 (tm4 D a b c)
def tm2 (D : FD) (a b c : Int32) : hI → hJ → Int32 → Int32 → trT := trN D b a c 2 (tm3 D a b c)
def tm1 (D : FD) (a b c : Int32) : hI → hJ → Int32 → Int32 → trT := trN D a c b 1 (tm2 D a b c)
def tm0 (D : FD) (a b c : Int32) : hI → hJ → Int32 → Int32 → trT := trN D a b c 0 (tm1 D a b c)
def trK (I I' : hI) : Prop := ∀ a, a ≠ 82 → a ≠ 83 → a ≠ 79 → I' a = I a
theorem trS_c {D : FD} {v s : Int32} {I : hI} {J : hJ} : trK I (trS D v s I J).2.1 := fun a h9 h10 h6 => seF_c h9 h10 h6
theorem trK_t {I I1 I2 : hI} (h : trK I I1) (g : trK I1 I2) : trK I I2 := fun a h9 h10 h6 => (g a h9 h10 h6).trans (h a h9 h10 h6)
theorem trK_n {I : hI} : trK I (cpN I) := fun a _ _ h6 => up_ne h6
theorem tr3_c {D : FD} {x y z : Int32} {I : hI} {J : hJ} : trK I (tr3 D x y z I J).2.1 := by
  unfold tr3
  split
  · exact trK_t trK_n trS_c
  · split
    · exact trK_t trK_n (trK_t trS_c trS_c)
    · exact trK_t trK_n (trK_t trS_c (trK_t trS_c trS_c))
def jK (J J' : hJ) : Prop := ∀ a, a ≠ 81 → a ≠ 80 → J' a = J a
theorem jK_t {J J1 J2 : hJ} (h : jK J J1) (g : jK J1 J2) : jK J J2 := fun a h8 h7 => (g a h8 h7).trans (h a h8 h7)
theorem trS_j {D : FD} {v s : Int32} {I : hI} {J : hJ} : jK J (trS D v s I J).2.2 := fun a h8 h7 => seF_J h8 h7
theorem tr3_j {D : FD} {x y z : Int32} {I : hI} {J : hJ} : jK J (tr3 D x y z I J).2.2 := by
  unfold tr3
  split
  · exact trS_j
  · split
    · exact jK_t trS_j trS_j
    · exact jK_t trS_j (jK_t trS_j trS_j)
theorem DMf_k {D : FD} {I I' : hI} (h : DMf D I) (k : trK I I') : DMf D I' := DMf_of h (k _ (by decide) (by decide) (by decide)) (k _ (by decide) (by decide) (by decide)) (k _ (by decide) (by decide) (by decide)) (k _ (by decide) (by decide) (by decide)) (k _ (by decide) (by decide) (by decide))
def trQ (w : Int32) (R : hR) (T : am_H) (Q : Option Value → am_H → Prop) (x : trT) : Prop := Q (some (.int (match x.1 with
  | none => -1
  | some p => if w = 0 then p.1 else p.2))) (HH x.2.1 x.2.2 R T)
/-- which number comes at which place of an order: run once over any heap -/
theorem io_00 {h : am_H} : am_E sc (d + 7) 219 [.int (0 : Int32), .int (0 : Int32)] h (some (.int (0 : Int32))) h := E_run 40 rfl
theorem io_01 {h : am_H} : am_E sc (d + 7) 219 [.int (0 : Int32), .int (1 : Int32)] h (some (.int (1 : Int32))) h := E_run 40 rfl
theorem io_02 {h : am_H} : am_E sc (d + 7) 219 [.int (0 : Int32), .int (2 : Int32)] h (some (.int (2 : Int32))) h := E_run 40 rfl
theorem io_10 {h : am_H} : am_E sc (d + 7) 219 [.int (1 : Int32), .int (0 : Int32)] h (some (.int (0 : Int32))) h := E_run 40 rfl
theorem io_11 {h : am_H} : am_E sc (d + 7) 219 [.int (1 : Int32), .int (1 : Int32)] h (some (.int (2 : Int32))) h := E_run 40 rfl
theorem io_12 {h : am_H} : am_E sc (d + 7) 219 [.int (1 : Int32), .int (2 : Int32)] h (some (.int (1 : Int32))) h := E_run 40 rfl
theorem io_20 {h : am_H} : am_E sc (d + 7) 219 [.int (2 : Int32), .int (0 : Int32)] h (some (.int (1 : Int32))) h := E_run 40 rfl
theorem io_21 {h : am_H} : am_E sc (d + 7) 219 [.int (2 : Int32), .int (1 : Int32)] h (some (.int (0 : Int32))) h := E_run 40 rfl
theorem io_22 {h : am_H} : am_E sc (d + 7) 219 [.int (2 : Int32), .int (2 : Int32)] h (some (.int (2 : Int32))) h := E_run 40 rfl
theorem io_30 {h : am_H} : am_E sc (d + 7) 219 [.int (3 : Int32), .int (0 : Int32)] h (some (.int (1 : Int32))) h := E_run 40 rfl
theorem io_31 {h : am_H} : am_E sc (d + 7) 219 [.int (3 : Int32), .int (1 : Int32)] h (some (.int (2 : Int32))) h := E_run 40 rfl
theorem io_32 {h : am_H} : am_E sc (d + 7) 219 [.int (3 : Int32), .int (2 : Int32)] h (some (.int (0 : Int32))) h := E_run 40 rfl
theorem io_40 {h : am_H} : am_E sc (d + 7) 219 [.int (4 : Int32), .int (0 : Int32)] h (some (.int (2 : Int32))) h := E_run 40 rfl
theorem io_41 {h : am_H} : am_E sc (d + 7) 219 [.int (4 : Int32), .int (1 : Int32)] h (some (.int (0 : Int32))) h := E_run 40 rfl
theorem io_42 {h : am_H} : am_E sc (d + 7) 219 [.int (4 : Int32), .int (2 : Int32)] h (some (.int (1 : Int32))) h := E_run 40 rfl
theorem io_50 {h : am_H} : am_E sc (d + 7) 219 [.int (5 : Int32), .int (0 : Int32)] h (some (.int (2 : Int32))) h := E_run 40 rfl
theorem io_51 {h : am_H} : am_E sc (d + 7) 219 [.int (5 : Int32), .int (1 : Int32)] h (some (.int (1 : Int32))) h := E_run 40 rfl
theorem io_52 {h : am_H} : am_E sc (d + 7) 219 [.int (5 : Int32), .int (2 : Int32)] h (some (.int (0 : Int32))) h := E_run 40 rfl
theorem m_tm6 {D : FD} {a b c w : Int32} {I : hI} {J : hJ} {le be : Int32} (H : trQ w R T Q (tm6 D a b c I J le be)) : Zs sc (d + 7) (am_P 220).2 (60, [(0, .ref 73), (1, .int a), (2, .int b), (3, .int c), (4, .int w), (5, .int be), (6, .int le), (7, .int 6)], []) (HH I J R T) Q := by
  unfold tm6 trQ at H
  dsimp only at H
  refine Z_jump 5 rfl ?_
  refine Z_bn (fun (c199 : ¬ (w = (0 : Int32))) => ?_) (fun (c199 : w = (0 : Int32)) => ?_)
  · refine Z_jump 1 rfl ?_
    show Zs _ _ (am_P 220).2 (209, [(0, .ref 73), (1, .int a), (2, .int b), (3, .int c), (4, .int w), (5, .int be), (6, .int le), (7, .int (6 : Int32))], [.int be]) (HH I J R T) _
    refine Z_rI rfl (by first | exact am_nw0 _ | exact am_nw01 | rfl | assumption) ?_
    rw [if_neg c199] at H
    exact H
  · refine Z_jump 2 rfl ?_
    show Zs _ _ (am_P 220).2 (209, [(0, .ref 73), (1, .int a), (2, .int b), (3, .int c), (4, .int w), (5, .int be), (6, .int le), (7, .int (6 : Int32))], [.int le]) (HH I J R T) _
    refine Z_rI rfl (by first | exact am_nw0 _ | exact am_nw01 | rfl | assumption) ?_
    rw [if_pos c199] at H
    exact H
theorem m_tm5 {D : FD} {a b c w : Int32} {I : hI} {J : hJ} {le be : Int32} (hD : DMf D I) (H : trQ w R T Q (tm5 D a b c I J le be)) : Zs sc (d + 7) (am_P 220).2 (60, [(0, .ref 73), (1, .int a), (2, .int b), (3, .int c), (4, .int w), (5, .int be), (6, .int le), (7, .int 5)], []) (HH I J R T) Q := by
  have hD0 : DMf D (cpN I) := DMf_k hD trK_n
  have hDt : DMf D (tr3 D c b a I J).2.1 := DMf_k hD tr3_c
  unfold tm5 trN at H
  have X : ∀ (t : Int32 × hI × hJ), tr3 D c b a I J = t → Zs sc (d + 7) (am_P 220).2 (152, [(0, .ref 73), (1, .int a), (2, .int b), (3, .int c), (4, .int w), (5, .int be), (6, .int le), (7, .int 5), (8, .int t.1)], []) (HH t.2.1 t.2.2 R T) Q := fun t ht => by
    rw [ht] at H hDt
    refine Z_jump 2 rfl ?_
    refine Z_bd (fun (c154 : (0 : Int32) ≤ t.1) => ?_) (fun (c154 : ¬ ((0 : Int32) ≤ t.1)) => ?_)
    · refine Z_jump 3 rfl ?_
      refine Z_bd (fun (c163 : le ≤ t.1) => ?_) (fun (c163 : ¬ (le ≤ t.1)) => ?_)
      · refine Z_jump 5 rfl ?_
        refine Z_bd (fun (c179 : le ≤ t.1) => ?_) (fun (c179 : ¬ (le ≤ t.1)) => ?_)
        · refine Z_jump 4 rfl ?_
          show Zs _ _ (am_P 220).2 (60, [(0, .ref 73), (1, .int a), (2, .int b), (3, .int c), (4, .int w), (5, .int be), (6, .int le), (7, .int (6 : Int32)), (8, .int t.1)], []) (HH t.2.1 t.2.2 R T) _
          first | exact absurd c163 c179 | exact absurd c179 c163 | (rw [if_pos c154, if_pos c163] at H; exact Zs_wk (m_tm6 H) (lnD rfl) (lnD rfl) (by repeat (first | exact trivial | refine ⟨rfl, ?_⟩))) | (rw [if_pos c154, if_neg c163] at H; exact Zs_wk (m_tm6 H) (lnD rfl) (lnD rfl) (by repeat (first | exact trivial | refine ⟨rfl, ?_⟩)))
        · refine Z_jump 5 rfl ?_
          show Zs _ _ (am_P 220).2 (60, [(0, .ref 73), (1, .int a), (2, .int b), (3, .int c), (4, .int w), (5, .int be), (6, .int t.1), (7, .int (6 : Int32)), (8, .int t.1)], []) (HH t.2.1 t.2.2 R T) _
          first | exact absurd c163 c179 | exact absurd c179 c163 | (rw [if_pos c154, if_pos c163] at H; exact Zs_wk (m_tm6 H) (lnD rfl) (lnD rfl) (by repeat (first | exact trivial | refine ⟨rfl, ?_⟩))) | (rw [if_pos c154, if_neg c163] at H; exact Zs_wk (m_tm6 H) (lnD rfl) (lnD rfl) (by repeat (first | exact trivial | refine ⟨rfl, ?_⟩)))
      · refine Z_jump 6 rfl ?_
        refine Z_bd (fun (c179 : le ≤ t.1) => ?_) (fun (c179 : ¬ (le ≤ t.1)) => ?_)
        · refine Z_jump 4 rfl ?_
          show Zs _ _ (am_P 220).2 (60, [(0, .ref 73), (1, .int a), (2, .int b), (3, .int c), (4, .int w), (5, .int (5 : Int32)), (6, .int le), (7, .int (6 : Int32)), (8, .int t.1)], []) (HH t.2.1 t.2.2 R T) _
          first | exact absurd c163 c179 | exact absurd c179 c163 | (rw [if_pos c154, if_pos c163] at H; exact Zs_wk (m_tm6 H) (lnD rfl) (lnD rfl) (by repeat (first | exact trivial | refine ⟨rfl, ?_⟩))) | (rw [if_pos c154, if_neg c163] at H; exact Zs_wk (m_tm6 H) (lnD rfl) (lnD rfl) (by repeat (first | exact trivial | refine ⟨rfl, ?_⟩)))
        · refine Z_jump 5 rfl ?_
          show Zs _ _ (am_P 220).2 (60, [(0, .ref 73), (1, .int a), (2, .int b), (3, .int c), (4, .int w), (5, .int (5 : Int32)), (6, .int t.1), (7, .int (6 : Int32)), (8, .int t.1)], []) (HH t.2.1 t.2.2 R T) _
          first | exact absurd c163 c179 | exact absurd c179 c163 | (rw [if_pos c154, if_pos c163] at H; exact Zs_wk (m_tm6 H) (lnD rfl) (lnD rfl) (by repeat (first | exact trivial | refine ⟨rfl, ?_⟩))) | (rw [if_pos c154, if_neg c163] at H; exact Zs_wk (m_tm6 H) (lnD rfl) (lnD rfl) (by repeat (first | exact trivial | refine ⟨rfl, ?_⟩)))
    · refine Z_jump 1 rfl ?_
      show Zs _ _ (am_P 220).2 (158, [(0, .ref 73), (1, .int a), (2, .int b), (3, .int c), (4, .int w), (5, .int be), (6, .int le), (7, .int (5 : Int32)), (8, .int t.1)], [.int (-1 : Int32)]) (HH t.2.1 t.2.2 R T) _
      refine Z_rI rfl (by first | exact am_nw0 _ | exact am_nw01 | rfl | assumption) ?_
      rw [if_neg c154] at H
      exact H
  unfold tr3 trS at X
  have hE1 := m_sets6 (sc := sc) (d := d) (R := R) (T := T) (J := J) (to := c.toInt64) hD0
  have k1 : DMf D (seF (cpN I) J D 79 c.toInt64).2.1 := DMf_k hD0 (fun a h9 h10 h6 => seF_c h9 h10 h6)
  generalize seF (cpN I) J D 79 c.toInt64 = w1 at X hE1 k1
  have hE2 := m_sets6 (sc := sc) (d := d) (R := R) (T := T) (J := w1.2.2) (to := b.toInt64) k1
  have k2 : DMf D (seF w1.2.1 w1.2.2 D 79 b.toInt64).2.1 := DMf_k k1 (fun a h9 h10 h6 => seF_c h9 h10 h6)
  dsimp only at X
  generalize seF w1.2.1 w1.2.2 D 79 b.toInt64 = w2 at X hE2 k2
  have hE3 := m_sets6 (sc := sc) (d := d) (R := R) (T := T) (J := w2.2.2) (to := a.toInt64) k2
  generalize seF w2.2.1 w2.2.2 D 79 a.toInt64 = w3 at X hE3
  refine Z_jump 4 rfl ?_
  show Zs _ _ (am_P 220).2 (68, [(0, .ref 73), (1, .int a), (2, .int b), (3, .int c), (4, .int w), (5, .int be), (6, .int le), (7, .int (5 : Int32))], [.ref 73]) (HH I J R T) _
  refine Z_c0 rfl rfl rfl (m_copyNow) ?_
  show Zs _ _ (am_P 220).2 (71, [(0, .ref 73), (1, .int a), (2, .int b), (3, .int c), (4, .int w), (5, .int be), (6, .int le), (7, .int (5 : Int32))], []) (HH (cpN I) J R T) _
  refine Z_jump 11 rfl ?_
  show Zs _ _ (am_P 220).2 (92, [(0, .ref 73), (1, .int a), (2, .int b), (3, .int c), (4, .int w), (5, .int be), (6, .int le), (7, .int (5 : Int32)), (8, .int (0 : Int32)), (9, .int (0 : Int32))], [.int (0 : Int32), .int (5 : Int32)]) (HH (cpN I) J R T) _
  refine Z_c1 rfl rfl rfl (io_50) ?_
  show Zs _ _ (am_P 220).2 (95, [(0, .ref 73), (1, .int a), (2, .int b), (3, .int c), (4, .int w), (5, .int be), (6, .int le), (7, .int (5 : Int32)), (8, .int (0 : Int32)), (9, .int (0 : Int32))], [.int (2 : Int32)]) (HH (cpN I) J R T) _
  refine Z_jump 11 rfl ?_
  show Zs _ _ (am_P 220).2 (125, [(0, .ref 73), (1, .int a), (2, .int b), (3, .int c), (4, .int w), (5, .int be), (6, .int le), (7, .int (5 : Int32)), (8, .int (0 : Int32)), (9, .int (0 : Int32)), (10, .int (2 : Int32))], [.long (Int32.toInt64 c), .ref 79, .ref 73]) (HH (cpN I) J R T) _
  refine Z_c1 rfl rfl rfl (hE1) ?_
  show Zs _ _ (am_P 220).2 (128, [(0, .ref 73), (1, .int a), (2, .int b), (3, .int c), (4, .int w), (5, .int be), (6, .int le), (7, .int (5 : Int32)), (8, .int (0 : Int32)), (9, .int (0 : Int32)), (10, .int (2 : Int32))], [.int w1.1]) (HH w1.2.1 w1.2.2 R T) _
  refine Z_jump 3 rfl ?_
  refine Z_bd (fun (c132 : (0 : Int32) ≤ w1.1) => ?_) (fun (c132 : ¬ ((0 : Int32) ≤ w1.1)) => ?_)
  · refine Z_jump 11 rfl ?_
    refine Z_bd (fun (c85 : ((0 : Int32) + w1.1) < (0 : Int32)) => ?_) (fun (c85 : ¬ (((0 : Int32) + w1.1) < (0 : Int32))) => ?_)
    · show Zs _ _ (am_P 220).2 (152, [(0, .ref 73), (1, .int a), (2, .int b), (3, .int c), (4, .int w), (5, .int be), (6, .int le), (7, .int (5 : Int32)), (8, .int ((0 : Int32) + w1.1)), (9, .int (1 : Int32)), (10, .int (2 : Int32)), (11, .int w1.1)], []) (HH w1.2.1 w1.2.2 R T) _
      exact Zs_wk (X (((0 : Int32) + w1.1), w1.2.1, w1.2.2) (by first | (rw [if_pos c132, if_pos c85]; done) | (rw [if_pos c132, if_pos c85, if_pos (show (-1 : Int32) < 0 by decide)]; done))) (lnD rfl) (lnD rfl) (by repeat (first | exact trivial | refine ⟨rfl, ?_⟩))
    · refine Z_jump 2 rfl ?_
      show Zs _ _ (am_P 220).2 (92, [(0, .ref 73), (1, .int a), (2, .int b), (3, .int c), (4, .int w), (5, .int be), (6, .int le), (7, .int (5 : Int32)), (8, .int ((0 : Int32) + w1.1)), (9, .int (1 : Int32)), (10, .int (2 : Int32)), (11, .int w1.1)], [.int (1 : Int32), .int (5 : Int32)]) (HH w1.2.1 w1.2.2 R T) _
      refine Z_c1 rfl rfl rfl (io_51) ?_
      show Zs _ _ (am_P 220).2 (95, [(0, .ref 73), (1, .int a), (2, .int b), (3, .int c), (4, .int w), (5, .int be), (6, .int le), (7, .int (5 : Int32)), (8, .int ((0 : Int32) + w1.1)), (9, .int (1 : Int32)), (10, .int (2 : Int32)), (11, .int w1.1)], [.int (1 : Int32)]) (HH w1.2.1 w1.2.2 R T) _
      refine Z_jump 12 rfl ?_
      show Zs _ _ (am_P 220).2 (125, [(0, .ref 73), (1, .int a), (2, .int b), (3, .int c), (4, .int w), (5, .int be), (6, .int le), (7, .int (5 : Int32)), (8, .int ((0 : Int32) + w1.1)), (9, .int (1 : Int32)), (10, .int (1 : Int32)), (11, .int w1.1)], [.long (Int32.toInt64 b), .ref 79, .ref 73]) (HH w1.2.1 w1.2.2 R T) _
      refine Z_c1 rfl rfl rfl (hE2) ?_
      show Zs _ _ (am_P 220).2 (128, [(0, .ref 73), (1, .int a), (2, .int b), (3, .int c), (4, .int w), (5, .int be), (6, .int le), (7, .int (5 : Int32)), (8, .int ((0 : Int32) + w1.1)), (9, .int (1 : Int32)), (10, .int (1 : Int32)), (11, .int w1.1)], [.int w2.1]) (HH w2.2.1 w2.2.2 R T) _
      refine Z_jump 3 rfl ?_
      refine Z_bd (fun (c132b : (0 : Int32) ≤ w2.1) => ?_) (fun (c132b : ¬ ((0 : Int32) ≤ w2.1)) => ?_)
      · refine Z_jump 11 rfl ?_
        refine Z_bd (fun (c85b : (((0 : Int32) + w1.1) + w2.1) < (0 : Int32)) => ?_) (fun (c85b : ¬ ((((0 : Int32) + w1.1) + w2.1) < (0 : Int32))) => ?_)
        · show Zs _ _ (am_P 220).2 (152, [(0, .ref 73), (1, .int a), (2, .int b), (3, .int c), (4, .int w), (5, .int be), (6, .int le), (7, .int (5 : Int32)), (8, .int (((0 : Int32) + w1.1) + w2.1)), (9, .int (2 : Int32)), (10, .int (1 : Int32)), (11, .int w2.1)], []) (HH w2.2.1 w2.2.2 R T) _
          exact Zs_wk (X ((((0 : Int32) + w1.1) + w2.1), w2.2.1, w2.2.2) (by first | (rw [if_pos c132, if_neg c85, if_pos c132b, if_pos c85b]; done) | (rw [if_pos c132, if_neg c85, if_pos c132b, if_pos c85b, if_pos (show (-1 : Int32) < 0 by decide)]; done))) (lnD rfl) (lnD rfl) (by repeat (first | exact trivial | refine ⟨rfl, ?_⟩))
        · refine Z_jump 2 rfl ?_
          show Zs _ _ (am_P 220).2 (92, [(0, .ref 73), (1, .int a), (2, .int b), (3, .int c), (4, .int w), (5, .int be), (6, .int le), (7, .int (5 : Int32)), (8, .int (((0 : Int32) + w1.1) + w2.1)), (9, .int (2 : Int32)), (10, .int (1 : Int32)), (11, .int w2.1)], [.int (2 : Int32), .int (5 : Int32)]) (HH w2.2.1 w2.2.2 R T) _
          refine Z_c1 rfl rfl rfl (io_52) ?_
          show Zs _ _ (am_P 220).2 (95, [(0, .ref 73), (1, .int a), (2, .int b), (3, .int c), (4, .int w), (5, .int be), (6, .int le), (7, .int (5 : Int32)), (8, .int (((0 : Int32) + w1.1) + w2.1)), (9, .int (2 : Int32)), (10, .int (1 : Int32)), (11, .int w2.1)], [.int (0 : Int32)]) (HH w2.2.1 w2.2.2 R T) _
          refine Z_jump 9 rfl ?_
          show Zs _ _ (am_P 220).2 (125, [(0, .ref 73), (1, .int a), (2, .int b), (3, .int c), (4, .int w), (5, .int be), (6, .int le), (7, .int (5 : Int32)), (8, .int (((0 : Int32) + w1.1) + w2.1)), (9, .int (2 : Int32)), (10, .int (0 : Int32)), (11, .int w2.1)], [.long (Int32.toInt64 a), .ref 79, .ref 73]) (HH w2.2.1 w2.2.2 R T) _
          refine Z_c1 rfl rfl rfl (hE3) ?_
          show Zs _ _ (am_P 220).2 (128, [(0, .ref 73), (1, .int a), (2, .int b), (3, .int c), (4, .int w), (5, .int be), (6, .int le), (7, .int (5 : Int32)), (8, .int (((0 : Int32) + w1.1) + w2.1)), (9, .int (2 : Int32)), (10, .int (0 : Int32)), (11, .int w2.1)], [.int w3.1]) (HH w3.2.1 w3.2.2 R T) _
          refine Z_jump 3 rfl ?_
          refine Z_bd (fun (c132c : (0 : Int32) ≤ w3.1) => ?_) (fun (c132c : ¬ ((0 : Int32) ≤ w3.1)) => ?_)
          · refine Z_jump 9 rfl ?_
            show Zs _ _ (am_P 220).2 (152, [(0, .ref 73), (1, .int a), (2, .int b), (3, .int c), (4, .int w), (5, .int be), (6, .int le), (7, .int (5 : Int32)), (8, .int ((((0 : Int32) + w1.1) + w2.1) + w3.1)), (9, .int (3 : Int32)), (10, .int (0 : Int32)), (11, .int w3.1)], []) (HH w3.2.1 w3.2.2 R T) _
            exact Zs_wk (X (((((0 : Int32) + w1.1) + w2.1) + w3.1), w3.2.1, w3.2.2) (by first | (rw [if_pos c132, if_neg c85, if_pos c132b, if_neg c85b, if_pos c132c]; done) | (rw [if_pos c132, if_neg c85, if_pos c132b, if_neg c85b, if_pos c132c, if_pos (show (-1 : Int32) < 0 by decide)]; done))) (lnD rfl) (lnD rfl) (by repeat (first | exact trivial | refine ⟨rfl, ?_⟩))
          · refine Z_jump 8 rfl ?_
            show Zs _ _ (am_P 220).2 (152, [(0, .ref 73), (1, .int a), (2, .int b), (3, .int c), (4, .int w), (5, .int be), (6, .int le), (7, .int (5 : Int32)), (8, .int (-1 : Int32)), (9, .int (3 : Int32)), (10, .int (0 : Int32)), (11, .int w3.1)], []) (HH w3.2.1 w3.2.2 R T) _
            exact Zs_wk (X ((-1 : Int32), w3.2.1, w3.2.2) (by first | (rw [if_pos c132, if_neg c85, if_pos c132b, if_neg c85b, if_neg c132c]; done) | (rw [if_pos c132, if_neg c85, if_pos c132b, if_neg c85b, if_neg c132c, if_pos (show (-1 : Int32) < 0 by decide)]; done))) (lnD rfl) (lnD rfl) (by repeat (first | exact trivial | refine ⟨rfl, ?_⟩))
      · refine Z_jump 10 rfl ?_
        show Zs _ _ (am_P 220).2 (152, [(0, .ref 73), (1, .int a), (2, .int b), (3, .int c), (4, .int w), (5, .int be), (6, .int le), (7, .int (5 : Int32)), (8, .int (-1 : Int32)), (9, .int (2 : Int32)), (10, .int (1 : Int32)), (11, .int w2.1)], []) (HH w2.2.1 w2.2.2 R T) _
        exact Zs_wk (X ((-1 : Int32), w2.2.1, w2.2.2) (by first | (rw [if_pos c132, if_neg c85, if_neg c132b]; done) | (rw [if_pos c132, if_neg c85, if_neg c132b, if_pos (show (-1 : Int32) < 0 by decide)]; done))) (lnD rfl) (lnD rfl) (by repeat (first | exact trivial | refine ⟨rfl, ?_⟩))
  · refine Z_jump 10 rfl ?_
    show Zs _ _ (am_P 220).2 (152, [(0, .ref 73), (1, .int a), (2, .int b), (3, .int c), (4, .int w), (5, .int be), (6, .int le), (7, .int (5 : Int32)), (8, .int (-1 : Int32)), (9, .int (1 : Int32)), (10, .int (2 : Int32)), (11, .int w1.1)], []) (HH w1.2.1 w1.2.2 R T) _
    exact Zs_wk (X ((-1 : Int32), w1.2.1, w1.2.2) (by first | (rw [if_neg c132]; done) | (rw [if_neg c132, if_pos (show (-1 : Int32) < 0 by decide)]; done))) (lnD rfl) (lnD rfl) (by repeat (first | exact trivial | refine ⟨rfl, ?_⟩))
theorem m_tm4 {D : FD} {a b c w : Int32} {I : hI} {J : hJ} {le be : Int32} (hD : DMf D I) (H : trQ w R T Q (tm4 D a b c I J le be)) : Zs sc (d + 7) (am_P 220).2 (60, [(0, .ref 73), (1, .int a), (2, .int b), (3, .int c), (4, .int w), (5, .int be), (6, .int le), (7, .int 4)], []) (HH I J R T) Q := by
  have hD0 : DMf D (cpN I) := DMf_k hD trK_n
  have hDt : DMf D (tr3 D c a b I J).2.1 := DMf_k hD tr3_c
  unfold tm4 trN at H
  have X : ∀ (t : Int32 × hI × hJ), tr3 D c a b I J = t → Zs sc (d + 7) (am_P 220).2 (152, [(0, .ref 73), (1, .int a), (2, .int b), (3, .int c), (4, .int w), (5, .int be), (6, .int le), (7, .int 4), (8, .int t.1)], []) (HH t.2.1 t.2.2 R T) Q := fun t ht => by
    rw [ht] at H hDt
    refine Z_jump 2 rfl ?_
    refine Z_bd (fun (c154 : (0 : Int32) ≤ t.1) => ?_) (fun (c154 : ¬ ((0 : Int32) ≤ t.1)) => ?_)
    · refine Z_jump 3 rfl ?_
      refine Z_bd (fun (c163 : le ≤ t.1) => ?_) (fun (c163 : ¬ (le ≤ t.1)) => ?_)
      · refine Z_jump 5 rfl ?_
        refine Z_bd (fun (c179 : le ≤ t.1) => ?_) (fun (c179 : ¬ (le ≤ t.1)) => ?_)
        · refine Z_jump 4 rfl ?_
          show Zs _ _ (am_P 220).2 (60, [(0, .ref 73), (1, .int a), (2, .int b), (3, .int c), (4, .int w), (5, .int be), (6, .int le), (7, .int (5 : Int32)), (8, .int t.1)], []) (HH t.2.1 t.2.2 R T) _
          first | exact absurd c163 c179 | exact absurd c179 c163 | (rw [if_pos c154, if_pos c163] at H; exact Zs_wk (m_tm5 hDt H) (lnD rfl) (lnD rfl) (by repeat (first | exact trivial | refine ⟨rfl, ?_⟩))) | (rw [if_pos c154, if_neg c163] at H; exact Zs_wk (m_tm5 hDt H) (lnD rfl) (lnD rfl) (by repeat (first | exact trivial | refine ⟨rfl, ?_⟩)))
        · refine Z_jump 5 rfl ?_
          show Zs _ _ (am_P 220).2 (60, [(0, .ref 73), (1, .int a), (2, .int b), (3, .int c), (4, .int w), (5, .int be), (6, .int t.1), (7, .int (5 : Int32)), (8, .int t.1)], []) (HH t.2.1 t.2.2 R T) _
          first | exact absurd c163 c179 | exact absurd c179 c163 | (rw [if_pos c154, if_pos c163] at H; exact Zs_wk (m_tm5 hDt H) (lnD rfl) (lnD rfl) (by repeat (first | exact trivial | refine ⟨rfl, ?_⟩))) | (rw [if_pos c154, if_neg c163] at H; exact Zs_wk (m_tm5 hDt H) (lnD rfl) (lnD rfl) (by repeat (first | exact trivial | refine ⟨rfl, ?_⟩)))
      · refine Z_jump 6 rfl ?_
        refine Z_bd (fun (c179 : le ≤ t.1) => ?_) (fun (c179 : ¬ (le ≤ t.1)) => ?_)
        · refine Z_jump 4 rfl ?_
          show Zs _ _ (am_P 220).2 (60, [(0, .ref 73), (1, .int a), (2, .int b), (3, .int c), (4, .int w), (5, .int (4 : Int32)), (6, .int le), (7, .int (5 : Int32)), (8, .int t.1)], []) (HH t.2.1 t.2.2 R T) _
          first | exact absurd c163 c179 | exact absurd c179 c163 | (rw [if_pos c154, if_pos c163] at H; exact Zs_wk (m_tm5 hDt H) (lnD rfl) (lnD rfl) (by repeat (first | exact trivial | refine ⟨rfl, ?_⟩))) | (rw [if_pos c154, if_neg c163] at H; exact Zs_wk (m_tm5 hDt H) (lnD rfl) (lnD rfl) (by repeat (first | exact trivial | refine ⟨rfl, ?_⟩)))
        · refine Z_jump 5 rfl ?_
          show Zs _ _ (am_P 220).2 (60, [(0, .ref 73), (1, .int a), (2, .int b), (3, .int c), (4, .int w), (5, .int (4 : Int32)), (6, .int t.1), (7, .int (5 : Int32)), (8, .int t.1)], []) (HH t.2.1 t.2.2 R T) _
          first | exact absurd c163 c179 | exact absurd c179 c163 | (rw [if_pos c154, if_pos c163] at H; exact Zs_wk (m_tm5 hDt H) (lnD rfl) (lnD rfl) (by repeat (first | exact trivial | refine ⟨rfl, ?_⟩))) | (rw [if_pos c154, if_neg c163] at H; exact Zs_wk (m_tm5 hDt H) (lnD rfl) (lnD rfl) (by repeat (first | exact trivial | refine ⟨rfl, ?_⟩)))
    · refine Z_jump 1 rfl ?_
      show Zs _ _ (am_P 220).2 (158, [(0, .ref 73), (1, .int a), (2, .int b), (3, .int c), (4, .int w), (5, .int be), (6, .int le), (7, .int (4 : Int32)), (8, .int t.1)], [.int (-1 : Int32)]) (HH t.2.1 t.2.2 R T) _
      refine Z_rI rfl (by first | exact am_nw0 _ | exact am_nw01 | rfl | assumption) ?_
      rw [if_neg c154] at H
      exact H
  unfold tr3 trS at X
  have hE1 := m_sets6 (sc := sc) (d := d) (R := R) (T := T) (J := J) (to := c.toInt64) hD0
  have k1 : DMf D (seF (cpN I) J D 79 c.toInt64).2.1 := DMf_k hD0 (fun a h9 h10 h6 => seF_c h9 h10 h6)
  generalize seF (cpN I) J D 79 c.toInt64 = w1 at X hE1 k1
  have hE2 := m_sets6 (sc := sc) (d := d) (R := R) (T := T) (J := w1.2.2) (to := a.toInt64) k1
  have k2 : DMf D (seF w1.2.1 w1.2.2 D 79 a.toInt64).2.1 := DMf_k k1 (fun a h9 h10 h6 => seF_c h9 h10 h6)
  dsimp only at X
  generalize seF w1.2.1 w1.2.2 D 79 a.toInt64 = w2 at X hE2 k2
  have hE3 := m_sets6 (sc := sc) (d := d) (R := R) (T := T) (J := w2.2.2) (to := b.toInt64) k2
  generalize seF w2.2.1 w2.2.2 D 79 b.toInt64 = w3 at X hE3
  refine Z_jump 4 rfl ?_
  show Zs _ _ (am_P 220).2 (68, [(0, .ref 73), (1, .int a), (2, .int b), (3, .int c), (4, .int w), (5, .int be), (6, .int le), (7, .int (4 : Int32))], [.ref 73]) (HH I J R T) _
  refine Z_c0 rfl rfl rfl (m_copyNow) ?_
  show Zs _ _ (am_P 220).2 (71, [(0, .ref 73), (1, .int a), (2, .int b), (3, .int c), (4, .int w), (5, .int be), (6, .int le), (7, .int (4 : Int32))], []) (HH (cpN I) J R T) _
  refine Z_jump 11 rfl ?_
  show Zs _ _ (am_P 220).2 (92, [(0, .ref 73), (1, .int a), (2, .int b), (3, .int c), (4, .int w), (5, .int be), (6, .int le), (7, .int (4 : Int32)), (8, .int (0 : Int32)), (9, .int (0 : Int32))], [.int (0 : Int32), .int (4 : Int32)]) (HH (cpN I) J R T) _
  refine Z_c1 rfl rfl rfl (io_40) ?_
  show Zs _ _ (am_P 220).2 (95, [(0, .ref 73), (1, .int a), (2, .int b), (3, .int c), (4, .int w), (5, .int be), (6, .int le), (7, .int (4 : Int32)), (8, .int (0 : Int32)), (9, .int (0 : Int32))], [.int (2 : Int32)]) (HH (cpN I) J R T) _
  refine Z_jump 11 rfl ?_
  show Zs _ _ (am_P 220).2 (125, [(0, .ref 73), (1, .int a), (2, .int b), (3, .int c), (4, .int w), (5, .int be), (6, .int le), (7, .int (4 : Int32)), (8, .int (0 : Int32)), (9, .int (0 : Int32)), (10, .int (2 : Int32))], [.long (Int32.toInt64 c), .ref 79, .ref 73]) (HH (cpN I) J R T) _
  refine Z_c1 rfl rfl rfl (hE1) ?_
  show Zs _ _ (am_P 220).2 (128, [(0, .ref 73), (1, .int a), (2, .int b), (3, .int c), (4, .int w), (5, .int be), (6, .int le), (7, .int (4 : Int32)), (8, .int (0 : Int32)), (9, .int (0 : Int32)), (10, .int (2 : Int32))], [.int w1.1]) (HH w1.2.1 w1.2.2 R T) _
  refine Z_jump 3 rfl ?_
  refine Z_bd (fun (c132 : (0 : Int32) ≤ w1.1) => ?_) (fun (c132 : ¬ ((0 : Int32) ≤ w1.1)) => ?_)
  · refine Z_jump 11 rfl ?_
    refine Z_bd (fun (c85 : ((0 : Int32) + w1.1) < (0 : Int32)) => ?_) (fun (c85 : ¬ (((0 : Int32) + w1.1) < (0 : Int32))) => ?_)
    · show Zs _ _ (am_P 220).2 (152, [(0, .ref 73), (1, .int a), (2, .int b), (3, .int c), (4, .int w), (5, .int be), (6, .int le), (7, .int (4 : Int32)), (8, .int ((0 : Int32) + w1.1)), (9, .int (1 : Int32)), (10, .int (2 : Int32)), (11, .int w1.1)], []) (HH w1.2.1 w1.2.2 R T) _
      exact Zs_wk (X (((0 : Int32) + w1.1), w1.2.1, w1.2.2) (by first | (rw [if_pos c132, if_pos c85]; done) | (rw [if_pos c132, if_pos c85, if_pos (show (-1 : Int32) < 0 by decide)]; done))) (lnD rfl) (lnD rfl) (by repeat (first | exact trivial | refine ⟨rfl, ?_⟩))
    · refine Z_jump 2 rfl ?_
      show Zs _ _ (am_P 220).2 (92, [(0, .ref 73), (1, .int a), (2, .int b), (3, .int c), (4, .int w), (5, .int be), (6, .int le), (7, .int (4 : Int32)), (8, .int ((0 : Int32) + w1.1)), (9, .int (1 : Int32)), (10, .int (2 : Int32)), (11, .int w1.1)], [.int (1 : Int32), .int (4 : Int32)]) (HH w1.2.1 w1.2.2 R T) _
      refine Z_c1 rfl rfl rfl (io_41) ?_
      show Zs _ _ (am_P 220).2 (95, [(0, .ref 73), (1, .int a), (2, .int b), (3, .int c), (4, .int w), (5, .int be), (6, .int le), (7, .int (4 : Int32)), (8, .int ((0 : Int32) + w1.1)), (9, .int (1 : Int32)), (10, .int (2 : Int32)), (11, .int w1.1)], [.int (0 : Int32)]) (HH w1.2.1 w1.2.2 R T) _
      refine Z_jump 9 rfl ?_
      show Zs _ _ (am_P 220).2 (125, [(0, .ref 73), (1, .int a), (2, .int b), (3, .int c), (4, .int w), (5, .int be), (6, .int le), (7, .int (4 : Int32)), (8, .int ((0 : Int32) + w1.1)), (9, .int (1 : Int32)), (10, .int (0 : Int32)), (11, .int w1.1)], [.long (Int32.toInt64 a), .ref 79, .ref 73]) (HH w1.2.1 w1.2.2 R T) _
      refine Z_c1 rfl rfl rfl (hE2) ?_
      show Zs _ _ (am_P 220).2 (128, [(0, .ref 73), (1, .int a), (2, .int b), (3, .int c), (4, .int w), (5, .int be), (6, .int le), (7, .int (4 : Int32)), (8, .int ((0 : Int32) + w1.1)), (9, .int (1 : Int32)), (10, .int (0 : Int32)), (11, .int w1.1)], [.int w2.1]) (HH w2.2.1 w2.2.2 R T) _
      refine Z_jump 3 rfl ?_
      refine Z_bd (fun (c132b : (0 : Int32) ≤ w2.1) => ?_) (fun (c132b : ¬ ((0 : Int32) ≤ w2.1)) => ?_)
      · refine Z_jump 11 rfl ?_
        refine Z_bd (fun (c85b : (((0 : Int32) + w1.1) + w2.1) < (0 : Int32)) => ?_) (fun (c85b : ¬ ((((0 : Int32) + w1.1) + w2.1) < (0 : Int32))) => ?_)
        · show Zs _ _ (am_P 220).2 (152, [(0, .ref 73), (1, .int a), (2, .int b), (3, .int c), (4, .int w), (5, .int be), (6, .int le), (7, .int (4 : Int32)), (8, .int (((0 : Int32) + w1.1) + w2.1)), (9, .int (2 : Int32)), (10, .int (0 : Int32)), (11, .int w2.1)], []) (HH w2.2.1 w2.2.2 R T) _
          exact Zs_wk (X ((((0 : Int32) + w1.1) + w2.1), w2.2.1, w2.2.2) (by first | (rw [if_pos c132, if_neg c85, if_pos c132b, if_pos c85b]; done) | (rw [if_pos c132, if_neg c85, if_pos c132b, if_pos c85b, if_pos (show (-1 : Int32) < 0 by decide)]; done))) (lnD rfl) (lnD rfl) (by repeat (first | exact trivial | refine ⟨rfl, ?_⟩))
        · refine Z_jump 2 rfl ?_
          show Zs _ _ (am_P 220).2 (92, [(0, .ref 73), (1, .int a), (2, .int b), (3, .int c), (4, .int w), (5, .int be), (6, .int le), (7, .int (4 : Int32)), (8, .int (((0 : Int32) + w1.1) + w2.1)), (9, .int (2 : Int32)), (10, .int (0 : Int32)), (11, .int w2.1)], [.int (2 : Int32), .int (4 : Int32)]) (HH w2.2.1 w2.2.2 R T) _
          refine Z_c1 rfl rfl rfl (io_42) ?_
          show Zs _ _ (am_P 220).2 (95, [(0, .ref 73), (1, .int a), (2, .int b), (3, .int c), (4, .int w), (5, .int be), (6, .int le), (7, .int (4 : Int32)), (8, .int (((0 : Int32) + w1.1) + w2.1)), (9, .int (2 : Int32)), (10, .int (0 : Int32)), (11, .int w2.1)], [.int (1 : Int32)]) (HH w2.2.1 w2.2.2 R T) _
          refine Z_jump 12 rfl ?_
          show Zs _ _ (am_P 220).2 (125, [(0, .ref 73), (1, .int a), (2, .int b), (3, .int c), (4, .int w), (5, .int be), (6, .int le), (7, .int (4 : Int32)), (8, .int (((0 : Int32) + w1.1) + w2.1)), (9, .int (2 : Int32)), (10, .int (1 : Int32)), (11, .int w2.1)], [.long (Int32.toInt64 b), .ref 79, .ref 73]) (HH w2.2.1 w2.2.2 R T) _
          refine Z_c1 rfl rfl rfl (hE3) ?_
          show Zs _ _ (am_P 220).2 (128, [(0, .ref 73), (1, .int a), (2, .int b), (3, .int c), (4, .int w), (5, .int be), (6, .int le), (7, .int (4 : Int32)), (8, .int (((0 : Int32) + w1.1) + w2.1)), (9, .int (2 : Int32)), (10, .int (1 : Int32)), (11, .int w2.1)], [.int w3.1]) (HH w3.2.1 w3.2.2 R T) _
          refine Z_jump 3 rfl ?_
          refine Z_bd (fun (c132c : (0 : Int32) ≤ w3.1) => ?_) (fun (c132c : ¬ ((0 : Int32) ≤ w3.1)) => ?_)
          · refine Z_jump 9 rfl ?_
            show Zs _ _ (am_P 220).2 (152, [(0, .ref 73), (1, .int a), (2, .int b), (3, .int c), (4, .int w), (5, .int be), (6, .int le), (7, .int (4 : Int32)), (8, .int ((((0 : Int32) + w1.1) + w2.1) + w3.1)), (9, .int (3 : Int32)), (10, .int (1 : Int32)), (11, .int w3.1)], []) (HH w3.2.1 w3.2.2 R T) _
            exact Zs_wk (X (((((0 : Int32) + w1.1) + w2.1) + w3.1), w3.2.1, w3.2.2) (by first | (rw [if_pos c132, if_neg c85, if_pos c132b, if_neg c85b, if_pos c132c]; done) | (rw [if_pos c132, if_neg c85, if_pos c132b, if_neg c85b, if_pos c132c, if_pos (show (-1 : Int32) < 0 by decide)]; done))) (lnD rfl) (lnD rfl) (by repeat (first | exact trivial | refine ⟨rfl, ?_⟩))
          · refine Z_jump 8 rfl ?_
            show Zs _ _ (am_P 220).2 (152, [(0, .ref 73), (1, .int a), (2, .int b), (3, .int c), (4, .int w), (5, .int be), (6, .int le), (7, .int (4 : Int32)), (8, .int (-1 : Int32)), (9, .int (3 : Int32)), (10, .int (1 : Int32)), (11, .int w3.1)], []) (HH w3.2.1 w3.2.2 R T) _
            exact Zs_wk (X ((-1 : Int32), w3.2.1, w3.2.2) (by first | (rw [if_pos c132, if_neg c85, if_pos c132b, if_neg c85b, if_neg c132c]; done) | (rw [if_pos c132, if_neg c85, if_pos c132b, if_neg c85b, if_neg c132c, if_pos (show (-1 : Int32) < 0 by decide)]; done))) (lnD rfl) (lnD rfl) (by repeat (first | exact trivial | refine ⟨rfl, ?_⟩))
      · refine Z_jump 10 rfl ?_
        show Zs _ _ (am_P 220).2 (152, [(0, .ref 73), (1, .int a), (2, .int b), (3, .int c), (4, .int w), (5, .int be), (6, .int le), (7, .int (4 : Int32)), (8, .int (-1 : Int32)), (9, .int (2 : Int32)), (10, .int (0 : Int32)), (11, .int w2.1)], []) (HH w2.2.1 w2.2.2 R T) _
        exact Zs_wk (X ((-1 : Int32), w2.2.1, w2.2.2) (by first | (rw [if_pos c132, if_neg c85, if_neg c132b]; done) | (rw [if_pos c132, if_neg c85, if_neg c132b, if_pos (show (-1 : Int32) < 0 by decide)]; done))) (lnD rfl) (lnD rfl) (by repeat (first | exact trivial | refine ⟨rfl, ?_⟩))
  · refine Z_jump 10 rfl ?_
    show Zs _ _ (am_P 220).2 (152, [(0, .ref 73), (1, .int a), (2, .int b), (3, .int c), (4, .int w), (5, .int be), (6, .int le), (7, .int (4 : Int32)), (8, .int (-1 : Int32)), (9, .int (1 : Int32)), (10, .int (2 : Int32)), (11, .int w1.1)], []) (HH w1.2.1 w1.2.2 R T) _
    exact Zs_wk (X ((-1 : Int32), w1.2.1, w1.2.2) (by first | (rw [if_neg c132]; done) | (rw [if_neg c132, if_pos (show (-1 : Int32) < 0 by decide)]; done))) (lnD rfl) (lnD rfl) (by repeat (first | exact trivial | refine ⟨rfl, ?_⟩))
theorem m_tm3 {D : FD} {a b c w : Int32} {I : hI} {J : hJ} {le be : Int32} (hD : DMf D I) (H : trQ w R T Q (tm3 D a b c I J le be)) : Zs sc (d + 7) (am_P 220).2 (60, [(0, .ref 73), (1, .int a), (2, .int b), (3, .int c), (4, .int w), (5, .int be), (6, .int le), (7, .int 3)], []) (HH I J R T) Q := by
  have hD0 : DMf D (cpN I) := DMf_k hD trK_n
  have hDt : DMf D (tr3 D b c a I J).2.1 := DMf_k hD tr3_c
  unfold tm3 trN at H
  have X : ∀ (t : Int32 × hI × hJ), tr3 D b c a I J = t → Zs sc (d + 7) (am_P 220).2 (152, [(0, .ref 73), (1, .int a), (2, .int b), (3, .int c), (4, .int w), (5, .int be), (6, .int le), (7, .int 3), (8, .int t.1)], []) (HH t.2.1 t.2.2 R T) Q := fun t ht => by
    rw [ht] at H hDt
    refine Z_jump 2 rfl ?_
    refine Z_bd (fun (c154 : (0 : Int32) ≤ t.1) => ?_) (fun (c154 : ¬ ((0 : Int32) ≤ t.1)) => ?_)
    · refine Z_jump 3 rfl ?_
      refine Z_bd (fun (c163 : le ≤ t.1) => ?_) (fun (c163 : ¬ (le ≤ t.1)) => ?_)
      · refine Z_jump 5 rfl ?_
        refine Z_bd (fun (c179 : le ≤ t.1) => ?_) (fun (c179 : ¬ (le ≤ t.1)) => ?_)
        · refine Z_jump 4 rfl ?_
          show Zs _ _ (am_P 220).2 (60, [(0, .ref 73), (1, .int a), (2, .int b), (3, .int c), (4, .int w), (5, .int be), (6, .int le), (7, .int (4 : Int32)), (8, .int t.1)], []) (HH t.2.1 t.2.2 R T) _
          first | exact absurd c163 c179 | exact absurd c179 c163 | (rw [if_pos c154, if_pos c163] at H; exact Zs_wk (m_tm4 hDt H) (lnD rfl) (lnD rfl) (by repeat (first | exact trivial | refine ⟨rfl, ?_⟩))) | (rw [if_pos c154, if_neg c163] at H; exact Zs_wk (m_tm4 hDt H) (lnD rfl) (lnD rfl) (by repeat (first | exact trivial | refine ⟨rfl, ?_⟩)))
        · refine Z_jump 5 rfl ?_
          show Zs _ _ (am_P 220).2 (60, [(0, .ref 73), (1, .int a), (2, .int b), (3, .int c), (4, .int w), (5, .int be), (6, .int t.1), (7, .int (4 : Int32)), (8, .int t.1)], []) (HH t.2.1 t.2.2 R T) _
          first | exact absurd c163 c179 | exact absurd c179 c163 | (rw [if_pos c154, if_pos c163] at H; exact Zs_wk (m_tm4 hDt H) (lnD rfl) (lnD rfl) (by repeat (first | exact trivial | refine ⟨rfl, ?_⟩))) | (rw [if_pos c154, if_neg c163] at H; exact Zs_wk (m_tm4 hDt H) (lnD rfl) (lnD rfl) (by repeat (first | exact trivial | refine ⟨rfl, ?_⟩)))
      · refine Z_jump 6 rfl ?_
        refine Z_bd (fun (c179 : le ≤ t.1) => ?_) (fun (c179 : ¬ (le ≤ t.1)) => ?_)
        · refine Z_jump 4 rfl ?_
          show Zs _ _ (am_P 220).2 (60, [(0, .ref 73), (1, .int a), (2, .int b), (3, .int c), (4, .int w), (5, .int (3 : Int32)), (6, .int le), (7, .int (4 : Int32)), (8, .int t.1)], []) (HH t.2.1 t.2.2 R T) _
          first | exact absurd c163 c179 | exact absurd c179 c163 | (rw [if_pos c154, if_pos c163] at H; exact Zs_wk (m_tm4 hDt H) (lnD rfl) (lnD rfl) (by repeat (first | exact trivial | refine ⟨rfl, ?_⟩))) | (rw [if_pos c154, if_neg c163] at H; exact Zs_wk (m_tm4 hDt H) (lnD rfl) (lnD rfl) (by repeat (first | exact trivial | refine ⟨rfl, ?_⟩)))
        · refine Z_jump 5 rfl ?_
          show Zs _ _ (am_P 220).2 (60, [(0, .ref 73), (1, .int a), (2, .int b), (3, .int c), (4, .int w), (5, .int (3 : Int32)), (6, .int t.1), (7, .int (4 : Int32)), (8, .int t.1)], []) (HH t.2.1 t.2.2 R T) _
          first | exact absurd c163 c179 | exact absurd c179 c163 | (rw [if_pos c154, if_pos c163] at H; exact Zs_wk (m_tm4 hDt H) (lnD rfl) (lnD rfl) (by repeat (first | exact trivial | refine ⟨rfl, ?_⟩))) | (rw [if_pos c154, if_neg c163] at H; exact Zs_wk (m_tm4 hDt H) (lnD rfl) (lnD rfl) (by repeat (first | exact trivial | refine ⟨rfl, ?_⟩)))
    · refine Z_jump 1 rfl ?_
      show Zs _ _ (am_P 220).2 (158, [(0, .ref 73), (1, .int a), (2, .int b), (3, .int c), (4, .int w), (5, .int be), (6, .int le), (7, .int (3 : Int32)), (8, .int t.1)], [.int (-1 : Int32)]) (HH t.2.1 t.2.2 R T) _
      refine Z_rI rfl (by first | exact am_nw0 _ | exact am_nw01 | rfl | assumption) ?_
      rw [if_neg c154] at H
      exact H
  unfold tr3 trS at X
  have hE1 := m_sets6 (sc := sc) (d := d) (R := R) (T := T) (J := J) (to := b.toInt64) hD0
  have k1 : DMf D (seF (cpN I) J D 79 b.toInt64).2.1 := DMf_k hD0 (fun a h9 h10 h6 => seF_c h9 h10 h6)
  generalize seF (cpN I) J D 79 b.toInt64 = w1 at X hE1 k1
  have hE2 := m_sets6 (sc := sc) (d := d) (R := R) (T := T) (J := w1.2.2) (to := c.toInt64) k1
  have k2 : DMf D (seF w1.2.1 w1.2.2 D 79 c.toInt64).2.1 := DMf_k k1 (fun a h9 h10 h6 => seF_c h9 h10 h6)
  dsimp only at X
  generalize seF w1.2.1 w1.2.2 D 79 c.toInt64 = w2 at X hE2 k2
  have hE3 := m_sets6 (sc := sc) (d := d) (R := R) (T := T) (J := w2.2.2) (to := a.toInt64) k2
  generalize seF w2.2.1 w2.2.2 D 79 a.toInt64 = w3 at X hE3
  refine Z_jump 4 rfl ?_
  show Zs _ _ (am_P 220).2 (68, [(0, .ref 73), (1, .int a), (2, .int b), (3, .int c), (4, .int w), (5, .int be), (6, .int le), (7, .int (3 : Int32))], [.ref 73]) (HH I J R T) _
  refine Z_c0 rfl rfl rfl (m_copyNow) ?_
  show Zs _ _ (am_P 220).2 (71, [(0, .ref 73), (1, .int a), (2, .int b), (3, .int c), (4, .int w), (5, .int be), (6, .int le), (7, .int (3 : Int32))], []) (HH (cpN I) J R T) _
  refine Z_jump 11 rfl ?_
  show Zs _ _ (am_P 220).2 (92, [(0, .ref 73), (1, .int a), (2, .int b), (3, .int c), (4, .int w), (5, .int be), (6, .int le), (7, .int (3 : Int32)), (8, .int (0 : Int32)), (9, .int (0 : Int32))], [.int (0 : Int32), .int (3 : Int32)]) (HH (cpN I) J R T) _
  refine Z_c1 rfl rfl rfl (io_30) ?_
  show Zs _ _ (am_P 220).2 (95, [(0, .ref 73), (1, .int a), (2, .int b), (3, .int c), (4, .int w), (5, .int be), (6, .int le), (7, .int (3 : Int32)), (8, .int (0 : Int32)), (9, .int (0 : Int32))], [.int (1 : Int32)]) (HH (cpN I) J R T) _
  refine Z_jump 12 rfl ?_
  show Zs _ _ (am_P 220).2 (125, [(0, .ref 73), (1, .int a), (2, .int b), (3, .int c), (4, .int w), (5, .int be), (6, .int le), (7, .int (3 : Int32)), (8, .int (0 : Int32)), (9, .int (0 : Int32)), (10, .int (1 : Int32))], [.long (Int32.toInt64 b), .ref 79, .ref 73]) (HH (cpN I) J R T) _
  refine Z_c1 rfl rfl rfl (hE1) ?_
  show Zs _ _ (am_P 220).2 (128, [(0, .ref 73), (1, .int a), (2, .int b), (3, .int c), (4, .int w), (5, .int be), (6, .int le), (7, .int (3 : Int32)), (8, .int (0 : Int32)), (9, .int (0 : Int32)), (10, .int (1 : Int32))], [.int w1.1]) (HH w1.2.1 w1.2.2 R T) _
  refine Z_jump 3 rfl ?_
  refine Z_bd (fun (c132 : (0 : Int32) ≤ w1.1) => ?_) (fun (c132 : ¬ ((0 : Int32) ≤ w1.1)) => ?_)
  · refine Z_jump 11 rfl ?_
    refine Z_bd (fun (c85 : ((0 : Int32) + w1.1) < (0 : Int32)) => ?_) (fun (c85 : ¬ (((0 : Int32) + w1.1) < (0 : Int32))) => ?_)
    · show Zs _ _ (am_P 220).2 (152, [(0, .ref 73), (1, .int a), (2, .int b), (3, .int c), (4, .int w), (5, .int be), (6, .int le), (7, .int (3 : Int32)), (8, .int ((0 : Int32) + w1.1)), (9, .int (1 : Int32)), (10, .int (1 : Int32)), (11, .int w1.1)], []) (HH w1.2.1 w1.2.2 R T) _
      exact Zs_wk (X (((0 : Int32) + w1.1), w1.2.1, w1.2.2) (by first | (rw [if_pos c132, if_pos c85]; done) | (rw [if_pos c132, if_pos c85, if_pos (show (-1 : Int32) < 0 by decide)]; done))) (lnD rfl) (lnD rfl) (by repeat (first | exact trivial | refine ⟨rfl, ?_⟩))
    · refine Z_jump 2 rfl ?_
      show Zs _ _ (am_P 220).2 (92, [(0, .ref 73), (1, .int a), (2, .int b), (3, .int c), (4, .int w), (5, .int be), (6, .int le), (7, .int (3 : Int32)), (8, .int ((0 : Int32) + w1.1)), (9, .int (1 : Int32)), (10, .int (1 : Int32)), (11, .int w1.1)], [.int (1 : Int32), .int (3 : Int32)]) (HH w1.2.1 w1.2.2 R T) _
      refine Z_c1 rfl rfl rfl (io_31) ?_
      show Zs _ _ (am_P 220).2 (95, [(0, .ref 73), (1, .int a), (2, .int b), (3, .int c), (4, .int w), (5, .int be), (6, .int le), (7, .int (3 : Int32)), (8, .int ((0 : Int32) + w1.1)), (9, .int (1 : Int32)), (10, .int (1 : Int32)), (11, .int w1.1)], [.int (2 : Int32)]) (HH w1.2.1 w1.2.2 R T) _
      refine Z_jump 11 rfl ?_
      show Zs _ _ (am_P 220).2 (125, [(0, .ref 73), (1, .int a), (2, .int b), (3, .int c), (4, .int w), (5, .int be), (6, .int le), (7, .int (3 : Int32)), (8, .int ((0 : Int32) + w1.1)), (9, .int (1 : Int32)), (10, .int (2 : Int32)), (11, .int w1.1)], [.long (Int32.toInt64 c), .ref 79, .ref 73]) (HH w1.2.1 w1.2.2 R T) _
      refine Z_c1 rfl rfl rfl (hE2) ?_
      show Zs _ _ (am_P 220).2 (128, [(0, .ref 73), (1, .int a), (2, .int b), (3, .int c), (4, .int w), (5, .int be), (6, .int le), (7, .int (3 : Int32)), (8, .int ((0 : Int32) + w1.1)), (9, .int (1 : Int32)), (10, .int (2 : Int32)), (11, .int w1.1)], [.int w2.1]) (HH w2.2.1 w2.2.2 R T) _
      refine Z_jump 3 rfl ?_
      refine Z_bd (fun (c132b : (0 : Int32) ≤ w2.1) => ?_) (fun (c132b : ¬ ((0 : Int32) ≤ w2.1)) => ?_)
      · refine Z_jump 11 rfl ?_
        refine Z_bd (fun (c85b : (((0 : Int32) + w1.1) + w2.1) < (0 : Int32)) => ?_) (fun (c85b : ¬ ((((0 : Int32) + w1.1) + w2.1) < (0 : Int32))) => ?_)
        · show Zs _ _ (am_P 220).2 (152, [(0, .ref 73), (1, .int a), (2, .int b), (3, .int c), (4, .int w), (5, .int be), (6, .int le), (7, .int (3 : Int32)), (8, .int (((0 : Int32) + w1.1) + w2.1)), (9, .int (2 : Int32)), (10, .int (2 : Int32)), (11, .int w2.1)], []) (HH w2.2.1 w2.2.2 R T) _
          exact Zs_wk (X ((((0 : Int32) + w1.1) + w2.1), w2.2.1, w2.2.2) (by first | (rw [if_pos c132, if_neg c85, if_pos c132b, if_pos c85b]; done) | (rw [if_pos c132, if_neg c85, if_pos c132b, if_pos c85b, if_pos (show (-1 : Int32) < 0 by decide)]; done))) (lnD rfl) (lnD rfl) (by repeat (first | exact trivial | refine ⟨rfl, ?_⟩))
        · refine Z_jump 2 rfl ?_
          show Zs _ _ (am_P 220).2 (92, [(0, .ref 73), (1, .int a), (2, .int b), (3, .int c), (4, .int w), (5, .int be), (6, .int le), (7, .int (3 : Int32)), (8, .int (((0 : Int32) + w1.1) + w2.1)), (9, .int (2 : Int32)), (10, .int (2 : Int32)), (11, .int w2.1)], [.int (2 : Int32), .int (3 : Int32)]) (HH w2.2.1 w2.2.2 R T) _
          refine Z_c1 rfl rfl rfl (io_32) ?_
          show Zs _ _ (am_P 220).2 (95, [(0, .ref 73), (1, .int a), (2, .int b), (3, .int c), (4, .int w), (5, .int be), (6, .int le), (7, .int (3 : Int32)), (8, .int (((0 : Int32) + w1.1) + w2.1)), (9, .int (2 : Int32)), (10, .int (2 : Int32)), (11, .int w2.1)], [.int (0 : Int32)]) (HH w2.2.1 w2.2.2 R T) _
          refine Z_jump 9 rfl ?_
          show Zs _ _ (am_P 220).2 (125, [(0, .ref 73), (1, .int a), (2, .int b), (3, .int c), (4, .int w), (5, .int be), (6, .int le), (7, .int (3 : Int32)), (8, .int (((0 : Int32) + w1.1) + w2.1)), (9, .int (2 : Int32)), (10, .int (0 : Int32)), (11, .int w2.1)], [.long (Int32.toInt64 a), .ref 79, .ref 73]) (HH w2.2.1 w2.2.2 R T) _
          refine Z_c1 rfl rfl rfl (hE3) ?_
          show Zs _ _ (am_P 220).2 (128, [(0, .ref 73), (1, .int a), (2, .int b), (3, .int c), (4, .int w), (5, .int be), (6, .int le), (7, .int (3 : Int32)), (8, .int (((0 : Int32) + w1.1) + w2.1)), (9, .int (2 : Int32)), (10, .int (0 : Int32)), (11, .int w2.1)], [.int w3.1]) (HH w3.2.1 w3.2.2 R T) _
          refine Z_jump 3 rfl ?_
          refine Z_bd (fun (c132c : (0 : Int32) ≤ w3.1) => ?_) (fun (c132c : ¬ ((0 : Int32) ≤ w3.1)) => ?_)
          · refine Z_jump 9 rfl ?_
            show Zs _ _ (am_P 220).2 (152, [(0, .ref 73), (1, .int a), (2, .int b), (3, .int c), (4, .int w), (5, .int be), (6, .int le), (7, .int (3 : Int32)), (8, .int ((((0 : Int32) + w1.1) + w2.1) + w3.1)), (9, .int (3 : Int32)), (10, .int (0 : Int32)), (11, .int w3.1)], []) (HH w3.2.1 w3.2.2 R T) _
            exact Zs_wk (X (((((0 : Int32) + w1.1) + w2.1) + w3.1), w3.2.1, w3.2.2) (by first | (rw [if_pos c132, if_neg c85, if_pos c132b, if_neg c85b, if_pos c132c]; done) | (rw [if_pos c132, if_neg c85, if_pos c132b, if_neg c85b, if_pos c132c, if_pos (show (-1 : Int32) < 0 by decide)]; done))) (lnD rfl) (lnD rfl) (by repeat (first | exact trivial | refine ⟨rfl, ?_⟩))
          · refine Z_jump 8 rfl ?_
            show Zs _ _ (am_P 220).2 (152, [(0, .ref 73), (1, .int a), (2, .int b), (3, .int c), (4, .int w), (5, .int be), (6, .int le), (7, .int (3 : Int32)), (8, .int (-1 : Int32)), (9, .int (3 : Int32)), (10, .int (0 : Int32)), (11, .int w3.1)], []) (HH w3.2.1 w3.2.2 R T) _
            exact Zs_wk (X ((-1 : Int32), w3.2.1, w3.2.2) (by first | (rw [if_pos c132, if_neg c85, if_pos c132b, if_neg c85b, if_neg c132c]; done) | (rw [if_pos c132, if_neg c85, if_pos c132b, if_neg c85b, if_neg c132c, if_pos (show (-1 : Int32) < 0 by decide)]; done))) (lnD rfl) (lnD rfl) (by repeat (first | exact trivial | refine ⟨rfl, ?_⟩))
      · refine Z_jump 10 rfl ?_
        show Zs _ _ (am_P 220).2 (152, [(0, .ref 73), (1, .int a), (2, .int b), (3, .int c), (4, .int w), (5, .int be), (6, .int le), (7, .int (3 : Int32)), (8, .int (-1 : Int32)), (9, .int (2 : Int32)), (10, .int (2 : Int32)), (11, .int w2.1)], []) (HH w2.2.1 w2.2.2 R T) _
        exact Zs_wk (X ((-1 : Int32), w2.2.1, w2.2.2) (by first | (rw [if_pos c132, if_neg c85, if_neg c132b]; done) | (rw [if_pos c132, if_neg c85, if_neg c132b, if_pos (show (-1 : Int32) < 0 by decide)]; done))) (lnD rfl) (lnD rfl) (by repeat (first | exact trivial | refine ⟨rfl, ?_⟩))
  · refine Z_jump 10 rfl ?_
    show Zs _ _ (am_P 220).2 (152, [(0, .ref 73), (1, .int a), (2, .int b), (3, .int c), (4, .int w), (5, .int be), (6, .int le), (7, .int (3 : Int32)), (8, .int (-1 : Int32)), (9, .int (1 : Int32)), (10, .int (1 : Int32)), (11, .int w1.1)], []) (HH w1.2.1 w1.2.2 R T) _
    exact Zs_wk (X ((-1 : Int32), w1.2.1, w1.2.2) (by first | (rw [if_neg c132]; done) | (rw [if_neg c132, if_pos (show (-1 : Int32) < 0 by decide)]; done))) (lnD rfl) (lnD rfl) (by repeat (first | exact trivial | refine ⟨rfl, ?_⟩))
theorem m_tm2 {D : FD} {a b c w : Int32} {I : hI} {J : hJ} {le be : Int32} (hD : DMf D I) (H : trQ w R T Q (tm2 D a b c I J le be)) : Zs sc (d + 7) (am_P 220).2 (60, [(0, .ref 73), (1, .int a), (2, .int b), (3, .int c), (4, .int w), (5, .int be), (6, .int le), (7, .int 2)], []) (HH I J R T) Q := by
  have hD0 : DMf D (cpN I) := DMf_k hD trK_n
  have hDt : DMf D (tr3 D b a c I J).2.1 := DMf_k hD tr3_c
  unfold tm2 trN at H
  have X : ∀ (t : Int32 × hI × hJ), tr3 D b a c I J = t → Zs sc (d + 7) (am_P 220).2 (152, [(0, .ref 73), (1, .int a), (2, .int b), (3, .int c), (4, .int w), (5, .int be), (6, .int le), (7, .int 2), (8, .int t.1)], []) (HH t.2.1 t.2.2 R T) Q := fun t ht => by
    rw [ht] at H hDt
    refine Z_jump 2 rfl ?_
    refine Z_bd (fun (c154 : (0 : Int32) ≤ t.1) => ?_) (fun (c154 : ¬ ((0 : Int32) ≤ t.1)) => ?_)
    · refine Z_jump 3 rfl ?_
      refine Z_bd (fun (c163 : le ≤ t.1) => ?_) (fun (c163 : ¬ (le ≤ t.1)) => ?_)
      · refine Z_jump 5 rfl ?_
        refine Z_bd (fun (c179 : le ≤ t.1) => ?_) (fun (c179 : ¬ (le ≤ t.1)) => ?_)
        · refine Z_jump 4 rfl ?_
          show Zs _ _ (am_P 220).2 (60, [(0, .ref 73), (1, .int a), (2, .int b), (3, .int c), (4, .int w), (5, .int be), (6, .int le), (7, .int (3 : Int32)), (8, .int t.1)], []) (HH t.2.1 t.2.2 R T) _
          first | exact absurd c163 c179 | exact absurd c179 c163 | (rw [if_pos c154, if_pos c163] at H; exact Zs_wk (m_tm3 hDt H) (lnD rfl) (lnD rfl) (by repeat (first | exact trivial | refine ⟨rfl, ?_⟩))) | (rw [if_pos c154, if_neg c163] at H; exact Zs_wk (m_tm3 hDt H) (lnD rfl) (lnD rfl) (by repeat (first | exact trivial | refine ⟨rfl, ?_⟩)))
        · refine Z_jump 5 rfl ?_
          show Zs _ _ (am_P 220).2 (60, [(0, .ref 73), (1, .int a), (2, .int b), (3, .int c), (4, .int w), (5, .int be), (6, .int t.1), (7, .int (3 : Int32)), (8, .int t.1)], []) (HH t.2.1 t.2.2 R T) _
          first | exact absurd c163 c179 | exact absurd c179 c163 | (rw [if_pos c154, if_pos c163] at H; exact Zs_wk (m_tm3 hDt H) (lnD rfl) (lnD rfl) (by repeat (first | exact trivial | refine ⟨rfl, ?_⟩))) | (rw [if_pos c154, if_neg c163] at H; exact Zs_wk (m_tm3 hDt H) (lnD rfl) (lnD rfl) (by repeat (first | exact trivial | refine ⟨rfl, ?_⟩)))
      · refine Z_jump 6 rfl ?_
        refine Z_bd (fun (c179 : le ≤ t.1) => ?_) (fun (c179 : ¬ (le ≤ t.1)) => ?_)
        · refine Z_jump 4 rfl ?_
          show Zs _ _ (am_P 220).2 (60, [(0, .ref 73), (1, .int a), (2, .int b), (3, .int c), (4, .int w), (5, .int (2 : Int32)), (6, .int le), (7, .int (3 : Int32)), (8, .int t.1)], []) (HH t.2.1 t.2.2 R T) _
          first | exact absurd c163 c179 | exact absurd c179 c163 | (rw [if_pos c154, if_pos c163] at H; exact Zs_wk (m_tm3 hDt H) (lnD rfl) (lnD rfl) (by repeat (first | exact trivial | refine ⟨rfl, ?_⟩))) | (rw [if_pos c154, if_neg c163] at H; exact Zs_wk (m_tm3 hDt H) (lnD rfl) (lnD rfl) (by repeat (first | exact trivial | refine ⟨rfl, ?_⟩)))
        · refine Z_jump 5 rfl ?_
          show Zs _ _ (am_P 220).2 (60, [(0, .ref 73), (1, .int a), (2, .int b), (3, .int c), (4, .int w), (5, .int (2 : Int32)), (6, .int t.1), (7, .int (3 : Int32)), (8, .int t.1)], []) (HH t.2.1 t.2.2 R T) _
          first | exact absurd c163 c179 | exact absurd c179 c163 | (rw [if_pos c154, if_pos c163] at H; exact Zs_wk (m_tm3 hDt H) (lnD rfl) (lnD rfl) (by repeat (first | exact trivial | refine ⟨rfl, ?_⟩))) | (rw [if_pos c154, if_neg c163] at H; exact Zs_wk (m_tm3 hDt H) (lnD rfl) (lnD rfl) (by repeat (first | exact trivial | refine ⟨rfl, ?_⟩)))
    · refine Z_jump 1 rfl ?_
      show Zs _ _ (am_P 220).2 (158, [(0, .ref 73), (1, .int a), (2, .int b), (3, .int c), (4, .int w), (5, .int be), (6, .int le), (7, .int (2 : Int32)), (8, .int t.1)], [.int (-1 : Int32)]) (HH t.2.1 t.2.2 R T) _
      refine Z_rI rfl (by first | exact am_nw0 _ | exact am_nw01 | rfl | assumption) ?_
      rw [if_neg c154] at H
      exact H
  unfold tr3 trS at X
  have hE1 := m_sets6 (sc := sc) (d := d) (R := R) (T := T) (J := J) (to := b.toInt64) hD0
  have k1 : DMf D (seF (cpN I) J D 79 b.toInt64).2.1 := DMf_k hD0 (fun a h9 h10 h6 => seF_c h9 h10 h6)
  generalize seF (cpN I) J D 79 b.toInt64 = w1 at X hE1 k1
  have hE2 := m_sets6 (sc := sc) (d := d) (R := R) (T := T) (J := w1.2.2) (to := a.toInt64) k1
  have k2 : DMf D (seF w1.2.1 w1.2.2 D 79 a.toInt64).2.1 := DMf_k k1 (fun a h9 h10 h6 => seF_c h9 h10 h6)
  dsimp only at X
  generalize seF w1.2.1 w1.2.2 D 79 a.toInt64 = w2 at X hE2 k2
  have hE3 := m_sets6 (sc := sc) (d := d) (R := R) (T := T) (J := w2.2.2) (to := c.toInt64) k2
  generalize seF w2.2.1 w2.2.2 D 79 c.toInt64 = w3 at X hE3
  refine Z_jump 4 rfl ?_
  show Zs _ _ (am_P 220).2 (68, [(0, .ref 73), (1, .int a), (2, .int b), (3, .int c), (4, .int w), (5, .int be), (6, .int le), (7, .int (2 : Int32))], [.ref 73]) (HH I J R T) _
  refine Z_c0 rfl rfl rfl (m_copyNow) ?_
  show Zs _ _ (am_P 220).2 (71, [(0, .ref 73), (1, .int a), (2, .int b), (3, .int c), (4, .int w), (5, .int be), (6, .int le), (7, .int (2 : Int32))], []) (HH (cpN I) J R T) _
  refine Z_jump 11 rfl ?_
  show Zs _ _ (am_P 220).2 (92, [(0, .ref 73), (1, .int a), (2, .int b), (3, .int c), (4, .int w), (5, .int be), (6, .int le), (7, .int (2 : Int32)), (8, .int (0 : Int32)), (9, .int (0 : Int32))], [.int (0 : Int32), .int (2 : Int32)]) (HH (cpN I) J R T) _
  refine Z_c1 rfl rfl rfl (io_20) ?_
  show Zs _ _ (am_P 220).2 (95, [(0, .ref 73), (1, .int a), (2, .int b), (3, .int c), (4, .int w), (5, .int be), (6, .int le), (7, .int (2 : Int32)), (8, .int (0 : Int32)), (9, .int (0 : Int32))], [.int (1 : Int32)]) (HH (cpN I) J R T) _
  refine Z_jump 12 rfl ?_
  show Zs _ _ (am_P 220).2 (125, [(0, .ref 73), (1, .int a), (2, .int b), (3, .int c), (4, .int w), (5, .int be), (6, .int le), (7, .int (2 : Int32)), (8, .int (0 : Int32)), (9, .int (0 : Int32)), (10, .int (1 : Int32))], [.long (Int32.toInt64 b), .ref 79, .ref 73]) (HH (cpN I) J R T) _
  refine Z_c1 rfl rfl rfl (hE1) ?_
  show Zs _ _ (am_P 220).2 (128, [(0, .ref 73), (1, .int a), (2, .int b), (3, .int c), (4, .int w), (5, .int be), (6, .int le), (7, .int (2 : Int32)), (8, .int (0 : Int32)), (9, .int (0 : Int32)), (10, .int (1 : Int32))], [.int w1.1]) (HH w1.2.1 w1.2.2 R T) _
  refine Z_jump 3 rfl ?_
  refine Z_bd (fun (c132 : (0 : Int32) ≤ w1.1) => ?_) (fun (c132 : ¬ ((0 : Int32) ≤ w1.1)) => ?_)
  · refine Z_jump 11 rfl ?_
    refine Z_bd (fun (c85 : ((0 : Int32) + w1.1) < (0 : Int32)) => ?_) (fun (c85 : ¬ (((0 : Int32) + w1.1) < (0 : Int32))) => ?_)
    · show Zs _ _ (am_P 220).2 (152, [(0, .ref 73), (1, .int a), (2, .int b), (3, .int c), (4, .int w), (5, .int be), (6, .int le), (7, .int (2 : Int32)), (8, .int ((0 : Int32) + w1.1)), (9, .int (1 : Int32)), (10, .int (1 : Int32)), (11, .int w1.1)], []) (HH w1.2.1 w1.2.2 R T) _
      exact Zs_wk (X (((0 : Int32) + w1.1), w1.2.1, w1.2.2) (by first | (rw [if_pos c132, if_pos c85]; done) | (rw [if_pos c132, if_pos c85, if_pos (show (-1 : Int32) < 0 by decide)]; done))) (lnD rfl) (lnD rfl) (by repeat (first | exact trivial | refine ⟨rfl, ?_⟩))
    · refine Z_jump 2 rfl ?_
      show Zs _ _ (am_P 220).2 (92, [(0, .ref 73), (1, .int a), (2, .int b), (3, .int c), (4, .int w), (5, .int be), (6, .int le), (7, .int (2 : Int32)), (8, .int ((0 : Int32) + w1.1)), (9, .int (1 : Int32)), (10, .int (1 : Int32)), (11, .int w1.1)], [.int (1 : Int32), .int (2 : Int32)]) (HH w1.2.1 w1.2.2 R T) _
      refine Z_c1 rfl rfl rfl (io_21) ?_
      show Zs _ _ (am_P 220).2 (95, [(0, .ref 73), (1, .int a), (2, .int b), (3, .int c), (4, .int w), (5, .int be), (6, .int le), (7, .int (2 : Int32)), (8, .int ((0 : Int32) + w1.1)), (9, .int (1 : Int32)), (10, .int (1 : Int32)), (11, .int w1.1)], [.int (0 : Int32)]) (HH w1.2.1 w1.2.2 R T) _
      refine Z_jump 9 rfl ?_
      show Zs _ _ (am_P 220).2 (125, [(0, .ref 73), (1, .int a), (2, .int b), (3, .int c), (4, .int w), (5, .int be), (6, .int le), (7, .int (2 : Int32)), (8, .int ((0 : Int32) + w1.1)), (9, .int (1 : Int32)), (10, .int (0 : Int32)), (11, .int w1.1)], [.long (Int32.toInt64 a), .ref 79, .ref 73]) (HH w1.2.1 w1.2.2 R T) _
      refine Z_c1 rfl rfl rfl (hE2) ?_
      show Zs _ _ (am_P 220).2 (128, [(0, .ref 73), (1, .int a), (2, .int b), (3, .int c), (4, .int w), (5, .int be), (6, .int le), (7, .int (2 : Int32)), (8, .int ((0 : Int32) + w1.1)), (9, .int (1 : Int32)), (10, .int (0 : Int32)), (11, .int w1.1)], [.int w2.1]) (HH w2.2.1 w2.2.2 R T) _
      refine Z_jump 3 rfl ?_
      refine Z_bd (fun (c132b : (0 : Int32) ≤ w2.1) => ?_) (fun (c132b : ¬ ((0 : Int32) ≤ w2.1)) => ?_)
      · refine Z_jump 11 rfl ?_
        refine Z_bd (fun (c85b : (((0 : Int32) + w1.1) + w2.1) < (0 : Int32)) => ?_) (fun (c85b : ¬ ((((0 : Int32) + w1.1) + w2.1) < (0 : Int32))) => ?_)
        · show Zs _ _ (am_P 220).2 (152, [(0, .ref 73), (1, .int a), (2, .int b), (3, .int c), (4, .int w), (5, .int be), (6, .int le), (7, .int (2 : Int32)), (8, .int (((0 : Int32) + w1.1) + w2.1)), (9, .int (2 : Int32)), (10, .int (0 : Int32)), (11, .int w2.1)], []) (HH w2.2.1 w2.2.2 R T) _
          exact Zs_wk (X ((((0 : Int32) + w1.1) + w2.1), w2.2.1, w2.2.2) (by first | (rw [if_pos c132, if_neg c85, if_pos c132b, if_pos c85b]; done) | (rw [if_pos c132, if_neg c85, if_pos c132b, if_pos c85b, if_pos (show (-1 : Int32) < 0 by decide)]; done))) (lnD rfl) (lnD rfl) (by repeat (first | exact trivial | refine ⟨rfl, ?_⟩))
        · refine Z_jump 2 rfl ?_
          show Zs _ _ (am_P 220).2 (92, [(0, .ref 73), (1, .int a), (2, .int b), (3, .int c), (4, .int w), (5, .int be), (6, .int le), (7, .int (2 : Int32)), (8, .int (((0 : Int32) + w1.1) + w2.1)), (9, .int (2 : Int32)), (10, .int (0 : Int32)), (11, .int w2.1)], [.int (2 : Int32), .int (2 : Int32)]) (HH w2.2.1 w2.2.2 R T) _
          refine Z_c1 rfl rfl rfl (io_22) ?_
          show Zs _ _ (am_P 220).2 (95, [(0, .ref 73), (1, .int a), (2, .int b), (3, .int c), (4, .int w), (5, .int be), (6, .int le), (7, .int (2 : Int32)), (8, .int (((0 : Int32) + w1.1) + w2.1)), (9, .int (2 : Int32)), (10, .int (0 : Int32)), (11, .int w2.1)], [.int (2 : Int32)]) (HH w2.2.1 w2.2.2 R T) _
          refine Z_jump 11 rfl ?_
          show Zs _ _ (am_P 220).2 (125, [(0, .ref 73), (1, .int a), (2, .int b), (3, .int c), (4, .int w), (5, .int be), (6, .int le), (7, .int (2 : Int32)), (8, .int (((0 : Int32) + w1.1) + w2.1)), (9, .int (2 : Int32)), (10, .int (2 : Int32)), (11, .int w2.1)], [.long (Int32.toInt64 c), .ref 79, .ref 73]) (HH w2.2.1 w2.2.2 R T) _
          refine Z_c1 rfl rfl rfl (hE3) ?_
          show Zs _ _ (am_P 220).2 (128, [(0, .ref 73), (1, .int a), (2, .int b), (3, .int c), (4, .int w), (5, .int be), (6, .int le), (7, .int (2 : Int32)), (8, .int (((0 : Int32) + w1.1) + w2.1)), (9, .int (2 : Int32)), (10, .int (2 : Int32)), (11, .int w2.1)], [.int w3.1]) (HH w3.2.1 w3.2.2 R T) _
          refine Z_jump 3 rfl ?_
          refine Z_bd (fun (c132c : (0 : Int32) ≤ w3.1) => ?_) (fun (c132c : ¬ ((0 : Int32) ≤ w3.1)) => ?_)
          · refine Z_jump 9 rfl ?_
            show Zs _ _ (am_P 220).2 (152, [(0, .ref 73), (1, .int a), (2, .int b), (3, .int c), (4, .int w), (5, .int be), (6, .int le), (7, .int (2 : Int32)), (8, .int ((((0 : Int32) + w1.1) + w2.1) + w3.1)), (9, .int (3 : Int32)), (10, .int (2 : Int32)), (11, .int w3.1)], []) (HH w3.2.1 w3.2.2 R T) _
            exact Zs_wk (X (((((0 : Int32) + w1.1) + w2.1) + w3.1), w3.2.1, w3.2.2) (by first | (rw [if_pos c132, if_neg c85, if_pos c132b, if_neg c85b, if_pos c132c]; done) | (rw [if_pos c132, if_neg c85, if_pos c132b, if_neg c85b, if_pos c132c, if_pos (show (-1 : Int32) < 0 by decide)]; done))) (lnD rfl) (lnD rfl) (by repeat (first | exact trivial | refine ⟨rfl, ?_⟩))
          · refine Z_jump 8 rfl ?_
            show Zs _ _ (am_P 220).2 (152, [(0, .ref 73), (1, .int a), (2, .int b), (3, .int c), (4, .int w), (5, .int be), (6, .int le), (7, .int (2 : Int32)), (8, .int (-1 : Int32)), (9, .int (3 : Int32)), (10, .int (2 : Int32)), (11, .int w3.1)], []) (HH w3.2.1 w3.2.2 R T) _
            exact Zs_wk (X ((-1 : Int32), w3.2.1, w3.2.2) (by first | (rw [if_pos c132, if_neg c85, if_pos c132b, if_neg c85b, if_neg c132c]; done) | (rw [if_pos c132, if_neg c85, if_pos c132b, if_neg c85b, if_neg c132c, if_pos (show (-1 : Int32) < 0 by decide)]; done))) (lnD rfl) (lnD rfl) (by repeat (first | exact trivial | refine ⟨rfl, ?_⟩))
      · refine Z_jump 10 rfl ?_
        show Zs _ _ (am_P 220).2 (152, [(0, .ref 73), (1, .int a), (2, .int b), (3, .int c), (4, .int w), (5, .int be), (6, .int le), (7, .int (2 : Int32)), (8, .int (-1 : Int32)), (9, .int (2 : Int32)), (10, .int (0 : Int32)), (11, .int w2.1)], []) (HH w2.2.1 w2.2.2 R T) _
        exact Zs_wk (X ((-1 : Int32), w2.2.1, w2.2.2) (by first | (rw [if_pos c132, if_neg c85, if_neg c132b]; done) | (rw [if_pos c132, if_neg c85, if_neg c132b, if_pos (show (-1 : Int32) < 0 by decide)]; done))) (lnD rfl) (lnD rfl) (by repeat (first | exact trivial | refine ⟨rfl, ?_⟩))
  · refine Z_jump 10 rfl ?_
    show Zs _ _ (am_P 220).2 (152, [(0, .ref 73), (1, .int a), (2, .int b), (3, .int c), (4, .int w), (5, .int be), (6, .int le), (7, .int (2 : Int32)), (8, .int (-1 : Int32)), (9, .int (1 : Int32)), (10, .int (1 : Int32)), (11, .int w1.1)], []) (HH w1.2.1 w1.2.2 R T) _
    exact Zs_wk (X ((-1 : Int32), w1.2.1, w1.2.2) (by first | (rw [if_neg c132]; done) | (rw [if_neg c132, if_pos (show (-1 : Int32) < 0 by decide)]; done))) (lnD rfl) (lnD rfl) (by repeat (first | exact trivial | refine ⟨rfl, ?_⟩))
theorem m_tm1 {D : FD} {a b c w : Int32} {I : hI} {J : hJ} {le be : Int32} (hD : DMf D I) (H : trQ w R T Q (tm1 D a b c I J le be)) : Zs sc (d + 7) (am_P 220).2 (60, [(0, .ref 73), (1, .int a), (2, .int b), (3, .int c), (4, .int w), (5, .int be), (6, .int le), (7, .int 1)], []) (HH I J R T) Q := by
  have hD0 : DMf D (cpN I) := DMf_k hD trK_n
  have hDt : DMf D (tr3 D a c b I J).2.1 := DMf_k hD tr3_c
  unfold tm1 trN at H
  have X : ∀ (t : Int32 × hI × hJ), tr3 D a c b I J = t → Zs sc (d + 7) (am_P 220).2 (152, [(0, .ref 73), (1, .int a), (2, .int b), (3, .int c), (4, .int w), (5, .int be), (6, .int le), (7, .int 1), (8, .int t.1)], []) (HH t.2.1 t.2.2 R T) Q := fun t ht => by
    rw [ht] at H hDt
    refine Z_jump 2 rfl ?_
    refine Z_bd (fun (c154 : (0 : Int32) ≤ t.1) => ?_) (fun (c154 : ¬ ((0 : Int32) ≤ t.1)) => ?_)
    · refine Z_jump 3 rfl ?_
      refine Z_bd (fun (c163 : le ≤ t.1) => ?_) (fun (c163 : ¬ (le ≤ t.1)) => ?_)
      · refine Z_jump 5 rfl ?_
        refine Z_bd (fun (c179 : le ≤ t.1) => ?_) (fun (c179 : ¬ (le ≤ t.1)) => ?_)
        · refine Z_jump 4 rfl ?_
          show Zs _ _ (am_P 220).2 (60, [(0, .ref 73), (1, .int a), (2, .int b), (3, .int c), (4, .int w), (5, .int be), (6, .int le), (7, .int (2 : Int32)), (8, .int t.1)], []) (HH t.2.1 t.2.2 R T) _
          first | exact absurd c163 c179 | exact absurd c179 c163 | (rw [if_pos c154, if_pos c163] at H; exact Zs_wk (m_tm2 hDt H) (lnD rfl) (lnD rfl) (by repeat (first | exact trivial | refine ⟨rfl, ?_⟩))) | (rw [if_pos c154, if_neg c163] at H; exact Zs_wk (m_tm2 hDt H) (lnD rfl) (lnD rfl) (by repeat (first | exact trivial | refine ⟨rfl, ?_⟩)))
        · refine Z_jump 5 rfl ?_
          show Zs _ _ (am_P 220).2 (60, [(0, .ref 73), (1, .int a), (2, .int b), (3, .int c), (4, .int w), (5, .int be), (6, .int t.1), (7, .int (2 : Int32)), (8, .int t.1)], []) (HH t.2.1 t.2.2 R T) _
          first | exact absurd c163 c179 | exact absurd c179 c163 | (rw [if_pos c154, if_pos c163] at H; exact Zs_wk (m_tm2 hDt H) (lnD rfl) (lnD rfl) (by repeat (first | exact trivial | refine ⟨rfl, ?_⟩))) | (rw [if_pos c154, if_neg c163] at H; exact Zs_wk (m_tm2 hDt H) (lnD rfl) (lnD rfl) (by repeat (first | exact trivial | refine ⟨rfl, ?_⟩)))
      · refine Z_jump 6 rfl ?_
        refine Z_bd (fun (c179 : le ≤ t.1) => ?_) (fun (c179 : ¬ (le ≤ t.1)) => ?_)
        · refine Z_jump 4 rfl ?_
          show Zs _ _ (am_P 220).2 (60, [(0, .ref 73), (1, .int a), (2, .int b), (3, .int c), (4, .int w), (5, .int (1 : Int32)), (6, .int le), (7, .int (2 : Int32)), (8, .int t.1)], []) (HH t.2.1 t.2.2 R T) _
          first | exact absurd c163 c179 | exact absurd c179 c163 | (rw [if_pos c154, if_pos c163] at H; exact Zs_wk (m_tm2 hDt H) (lnD rfl) (lnD rfl) (by repeat (first | exact trivial | refine ⟨rfl, ?_⟩))) | (rw [if_pos c154, if_neg c163] at H; exact Zs_wk (m_tm2 hDt H) (lnD rfl) (lnD rfl) (by repeat (first | exact trivial | refine ⟨rfl, ?_⟩)))
        · refine Z_jump 5 rfl ?_
          show Zs _ _ (am_P 220).2 (60, [(0, .ref 73), (1, .int a), (2, .int b), (3, .int c), (4, .int w), (5, .int (1 : Int32)), (6, .int t.1), (7, .int (2 : Int32)), (8, .int t.1)], []) (HH t.2.1 t.2.2 R T) _
          first | exact absurd c163 c179 | exact absurd c179 c163 | (rw [if_pos c154, if_pos c163] at H; exact Zs_wk (m_tm2 hDt H) (lnD rfl) (lnD rfl) (by repeat (first | exact trivial | refine ⟨rfl, ?_⟩))) | (rw [if_pos c154, if_neg c163] at H; exact Zs_wk (m_tm2 hDt H) (lnD rfl) (lnD rfl) (by repeat (first | exact trivial | refine ⟨rfl, ?_⟩)))
    · refine Z_jump 1 rfl ?_
      show Zs _ _ (am_P 220).2 (158, [(0, .ref 73), (1, .int a), (2, .int b), (3, .int c), (4, .int w), (5, .int be), (6, .int le), (7, .int (1 : Int32)), (8, .int t.1)], [.int (-1 : Int32)]) (HH t.2.1 t.2.2 R T) _
      refine Z_rI rfl (by first | exact am_nw0 _ | exact am_nw01 | rfl | assumption) ?_
      rw [if_neg c154] at H
      exact H
  unfold tr3 trS at X
  have hE1 := m_sets6 (sc := sc) (d := d) (R := R) (T := T) (J := J) (to := a.toInt64) hD0
  have k1 : DMf D (seF (cpN I) J D 79 a.toInt64).2.1 := DMf_k hD0 (fun a h9 h10 h6 => seF_c h9 h10 h6)
  generalize seF (cpN I) J D 79 a.toInt64 = w1 at X hE1 k1
  have hE2 := m_sets6 (sc := sc) (d := d) (R := R) (T := T) (J := w1.2.2) (to := c.toInt64) k1
  have k2 : DMf D (seF w1.2.1 w1.2.2 D 79 c.toInt64).2.1 := DMf_k k1 (fun a h9 h10 h6 => seF_c h9 h10 h6)
  dsimp only at X
  generalize seF w1.2.1 w1.2.2 D 79 c.toInt64 = w2 at X hE2 k2
  have hE3 := m_sets6 (sc := sc) (d := d) (R := R) (T := T) (J := w2.2.2) (to := b.toInt64) k2
  generalize seF w2.2.1 w2.2.2 D 79 b.toInt64 = w3 at X hE3
  refine Z_jump 4 rfl ?_
  show Zs _ _ (am_P 220).2 (68, [(0, .ref 73), (1, .int a), (2, .int b), (3, .int c), (4, .int w), (5, .int be), (6, .int le), (7, .int (1 : Int32))], [.ref 73]) (HH I J R T) _
  refine Z_c0 rfl rfl rfl (m_copyNow) ?_
  show Zs _ _ (am_P 220).2 (71, [(0, .ref 73), (1, .int a), (2, .int b), (3, .int c), (4, .int w), (5, .int be), (6, .int le), (7, .int (1 : Int32))], []) (HH (cpN I) J R T) _
  refine Z_jump 11 rfl ?_
  show Zs _ _ (am_P 220).2 (92, [(0, .ref 73), (1, .int a), (2, .int b), (3, .int c), (4, .int w), (5, .int be), (6, .int le), (7, .int (1 : Int32)), (8, .int (0 : Int32)), (9, .int (0 : Int32))], [.int (0 : Int32), .int (1 : Int32)]) (HH (cpN I) J R T) _
  refine Z_c1 rfl rfl rfl (io_10) ?_
  show Zs _ _ (am_P 220).2 (95, [(0, .ref 73), (1, .int a), (2, .int b), (3, .int c), (4, .int w), (5, .int be), (6, .int le), (7, .int (1 : Int32)), (8, .int (0 : Int32)), (9, .int (0 : Int32))], [.int (0 : Int32)]) (HH (cpN I) J R T) _
  refine Z_jump 9 rfl ?_
  show Zs _ _ (am_P 220).2 (125, [(0, .ref 73), (1, .int a), (2, .int b), (3, .int c), (4, .int w), (5, .int be), (6, .int le), (7, .int (1 : Int32)), (8, .int (0 : Int32)), (9, .int (0 : Int32)), (10, .int (0 : Int32))], [.long (Int32.toInt64 a), .ref 79, .ref 73]) (HH (cpN I) J R T) _
  refine Z_c1 rfl rfl rfl (hE1) ?_
  show Zs _ _ (am_P 220).2 (128, [(0, .ref 73), (1, .int a), (2, .int b), (3, .int c), (4, .int w), (5, .int be), (6, .int le), (7, .int (1 : Int32)), (8, .int (0 : Int32)), (9, .int (0 : Int32)), (10, .int (0 : Int32))], [.int w1.1]) (HH w1.2.1 w1.2.2 R T) _
  refine Z_jump 3 rfl ?_
  refine Z_bd (fun (c132 : (0 : Int32) ≤ w1.1) => ?_) (fun (c132 : ¬ ((0 : Int32) ≤ w1.1)) => ?_)
  · refine Z_jump 11 rfl ?_
    refine Z_bd (fun (c85 : ((0 : Int32) + w1.1) < (0 : Int32)) => ?_) (fun (c85 : ¬ (((0 : Int32) + w1.1) < (0 : Int32))) => ?_)
    · show Zs _ _ (am_P 220).2 (152, [(0, .ref 73), (1, .int a), (2, .int b), (3, .int c), (4, .int w), (5, .int be), (6, .int le), (7, .int (1 : Int32)), (8, .int ((0 : Int32) + w1.1)), (9, .int (1 : Int32)), (10, .int (0 : Int32)), (11, .int w1.1)], []) (HH w1.2.1 w1.2.2 R T) _
      exact Zs_wk (X (((0 : Int32) + w1.1), w1.2.1, w1.2.2) (by first | (rw [if_pos c132, if_pos c85]; done) | (rw [if_pos c132, if_pos c85, if_pos (show (-1 : Int32) < 0 by decide)]; done))) (lnD rfl) (lnD rfl) (by repeat (first | exact trivial | refine ⟨rfl, ?_⟩))
    · refine Z_jump 2 rfl ?_
      show Zs _ _ (am_P 220).2 (92, [(0, .ref 73), (1, .int a), (2, .int b), (3, .int c), (4, .int w), (5, .int be), (6, .int le), (7, .int (1 : Int32)), (8, .int ((0 : Int32) + w1.1)), (9, .int (1 : Int32)), (10, .int (0 : Int32)), (11, .int w1.1)], [.int (1 : Int32), .int (1 : Int32)]) (HH w1.2.1 w1.2.2 R T) _
      refine Z_c1 rfl rfl rfl (io_11) ?_
      show Zs _ _ (am_P 220).2 (95, [(0, .ref 73), (1, .int a), (2, .int b), (3, .int c), (4, .int w), (5, .int be), (6, .int le), (7, .int (1 : Int32)), (8, .int ((0 : Int32) + w1.1)), (9, .int (1 : Int32)), (10, .int (0 : Int32)), (11, .int w1.1)], [.int (2 : Int32)]) (HH w1.2.1 w1.2.2 R T) _
      refine Z_jump 11 rfl ?_
      show Zs _ _ (am_P 220).2 (125, [(0, .ref 73), (1, .int a), (2, .int b), (3, .int c), (4, .int w), (5, .int be), (6, .int le), (7, .int (1 : Int32)), (8, .int ((0 : Int32) + w1.1)), (9, .int (1 : Int32)), (10, .int (2 : Int32)), (11, .int w1.1)], [.long (Int32.toInt64 c), .ref 79, .ref 73]) (HH w1.2.1 w1.2.2 R T) _
      refine Z_c1 rfl rfl rfl (hE2) ?_
      show Zs _ _ (am_P 220).2 (128, [(0, .ref 73), (1, .int a), (2, .int b), (3, .int c), (4, .int w), (5, .int be), (6, .int le), (7, .int (1 : Int32)), (8, .int ((0 : Int32) + w1.1)), (9, .int (1 : Int32)), (10, .int (2 : Int32)), (11, .int w1.1)], [.int w2.1]) (HH w2.2.1 w2.2.2 R T) _
      refine Z_jump 3 rfl ?_
      refine Z_bd (fun (c132b : (0 : Int32) ≤ w2.1) => ?_) (fun (c132b : ¬ ((0 : Int32) ≤ w2.1)) => ?_)
      · refine Z_jump 11 rfl ?_
        refine Z_bd (fun (c85b : (((0 : Int32) + w1.1) + w2.1) < (0 : Int32)) => ?_) (fun (c85b : ¬ ((((0 : Int32) + w1.1) + w2.1) < (0 : Int32))) => ?_)
        · show Zs _ _ (am_P 220).2 (152, [(0, .ref 73), (1, .int a), (2, .int b), (3, .int c), (4, .int w), (5, .int be), (6, .int le), (7, .int (1 : Int32)), (8, .int (((0 : Int32) + w1.1) + w2.1)), (9, .int (2 : Int32)), (10, .int (2 : Int32)), (11, .int w2.1)], []) (HH w2.2.1 w2.2.2 R T) _
          exact Zs_wk (X ((((0 : Int32) + w1.1) + w2.1), w2.2.1, w2.2.2) (by first | (rw [if_pos c132, if_neg c85, if_pos c132b, if_pos c85b]; done) | (rw [if_pos c132, if_neg c85, if_pos c132b, if_pos c85b, if_pos (show (-1 : Int32) < 0 by decide)]; done))) (lnD rfl) (lnD rfl) (by repeat (first | exact trivial | refine ⟨rfl, ?_⟩))
        · refine Z_jump 2 rfl ?_
          show Zs _ _ (am_P 220).2 (92, [(0, .ref 73), (1, .int a), (2, .int b), (3, .int c), (4, .int w), (5, .int be), (6, .int le), (7, .int (1 : Int32)), (8, .int (((0 : Int32) + w1.1) + w2.1)), (9, .int (2 : Int32)), (10, .int (2 : Int32)), (11, .int w2.1)], [.int (2 : Int32), .int (1 : Int32)]) (HH w2.2.1 w2.2.2 R T) _
          refine Z_c1 rfl rfl rfl (io_12) ?_
          show Zs _ _ (am_P 220).2 (95, [(0, .ref 73), (1, .int a), (2, .int b), (3, .int c), (4, .int w), (5, .int be), (6, .int le), (7, .int (1 : Int32)), (8, .int (((0 : Int32) + w1.1) + w2.1)), (9, .int (2 : Int32)), (10, .int (2 : Int32)), (11, .int w2.1)], [.int (1 : Int32)]) (HH w2.2.1 w2.2.2 R T) _
          refine Z_jump 12 rfl ?_
          show Zs _ _ (am_P 220).2 (125, [(0, .ref 73), (1, .int a), (2, .int b), (3, .int c), (4, .int w), (5, .int be), (6, .int le), (7, .int (1 : Int32)), (8, .int (((0 : Int32) + w1.1) + w2.1)), (9, .int (2 : Int32)), (10, .int (1 : Int32)), (11, .int w2.1)], [.long (Int32.toInt64 b), .ref 79, .ref 73]) (HH w2.2.1 w2.2.2 R T) _
          refine Z_c1 rfl rfl rfl (hE3) ?_
          show Zs _ _ (am_P 220).2 (128, [(0, .ref 73), (1, .int a), (2, .int b), (3, .int c), (4, .int w), (5, .int be), (6, .int le), (7, .int (1 : Int32)), (8, .int (((0 : Int32) + w1.1) + w2.1)), (9, .int (2 : Int32)), (10, .int (1 : Int32)), (11, .int w2.1)], [.int w3.1]) (HH w3.2.1 w3.2.2 R T) _
          refine Z_jump 3 rfl ?_
          refine Z_bd (fun (c132c : (0 : Int32) ≤ w3.1) => ?_) (fun (c132c : ¬ ((0 : Int32) ≤ w3.1)) => ?_)
          · refine Z_jump 9 rfl ?_
            show Zs _ _ (am_P 220).2 (152, [(0, .ref 73), (1, .int a), (2, .int b), (3, .int c), (4, .int w), (5, .int be), (6, .int le), (7, .int (1 : Int32)), (8, .int ((((0 : Int32) + w1.1) + w2.1) + w3.1)), (9, .int (3 : Int32)), (10, .int (1 : Int32)), (11, .int w3.1)], []) (HH w3.2.1 w3.2.2 R T) _
            exact Zs_wk (X (((((0 : Int32) + w1.1) + w2.1) + w3.1), w3.2.1, w3.2.2) (by first | (rw [if_pos c132, if_neg c85, if_pos c132b, if_neg c85b, if_pos c132c]; done) | (rw [if_pos c132, if_neg c85, if_pos c132b, if_neg c85b, if_pos c132c, if_pos (show (-1 : Int32) < 0 by decide)]; done))) (lnD rfl) (lnD rfl) (by repeat (first | exact trivial | refine ⟨rfl, ?_⟩))
          · refine Z_jump 8 rfl ?_
            show Zs _ _ (am_P 220).2 (152, [(0, .ref 73), (1, .int a), (2, .int b), (3, .int c), (4, .int w), (5, .int be), (6, .int le), (7, .int (1 : Int32)), (8, .int (-1 : Int32)), (9, .int (3 : Int32)), (10, .int (1 : Int32)), (11, .int w3.1)], []) (HH w3.2.1 w3.2.2 R T) _
            exact Zs_wk (X ((-1 : Int32), w3.2.1, w3.2.2) (by first | (rw [if_pos c132, if_neg c85, if_pos c132b, if_neg c85b, if_neg c132c]; done) | (rw [if_pos c132, if_neg c85, if_pos c132b, if_neg c85b, if_neg c132c, if_pos (show (-1 : Int32) < 0 by decide)]; done))) (lnD rfl) (lnD rfl) (by repeat (first | exact trivial | refine ⟨rfl, ?_⟩))
      · refine Z_jump 10 rfl ?_
        show Zs _ _ (am_P 220).2 (152, [(0, .ref 73), (1, .int a), (2, .int b), (3, .int c), (4, .int w), (5, .int be), (6, .int le), (7, .int (1 : Int32)), (8, .int (-1 : Int32)), (9, .int (2 : Int32)), (10, .int (2 : Int32)), (11, .int w2.1)], []) (HH w2.2.1 w2.2.2 R T) _
        exact Zs_wk (X ((-1 : Int32), w2.2.1, w2.2.2) (by first | (rw [if_pos c132, if_neg c85, if_neg c132b]; done) | (rw [if_pos c132, if_neg c85, if_neg c132b, if_pos (show (-1 : Int32) < 0 by decide)]; done))) (lnD rfl) (lnD rfl) (by repeat (first | exact trivial | refine ⟨rfl, ?_⟩))
  · refine Z_jump 10 rfl ?_
    show Zs _ _ (am_P 220).2 (152, [(0, .ref 73), (1, .int a), (2, .int b), (3, .int c), (4, .int w), (5, .int be), (6, .int le), (7, .int (1 : Int32)), (8, .int (-1 : Int32)), (9, .int (1 : Int32)), (10, .int (0 : Int32)), (11, .int w1.1)], []) (HH w1.2.1 w1.2.2 R T) _
    exact Zs_wk (X ((-1 : Int32), w1.2.1, w1.2.2) (by first | (rw [if_neg c132]; done) | (rw [if_neg c132, if_pos (show (-1 : Int32) < 0 by decide)]; done))) (lnD rfl) (lnD rfl) (by repeat (first | exact trivial | refine ⟨rfl, ?_⟩))
theorem m_tm0 {D : FD} {a b c w : Int32} {I : hI} {J : hJ} {le be : Int32} (hD : DMf D I) (H : trQ w R T Q (tm0 D a b c I J le be)) : Zs sc (d + 7) (am_P 220).2 (60, [(0, .ref 73), (1, .int a), (2, .int b), (3, .int c), (4, .int w), (5, .int be), (6, .int le), (7, .int 0)], []) (HH I J R T) Q := by
  have hD0 : DMf D (cpN I) := DMf_k hD trK_n
  have hDt : DMf D (tr3 D a b c I J).2.1 := DMf_k hD tr3_c
  unfold tm0 trN at H
  have X : ∀ (t : Int32 × hI × hJ), tr3 D a b c I J = t → Zs sc (d + 7) (am_P 220).2 (152, [(0, .ref 73), (1, .int a), (2, .int b), (3, .int c), (4, .int w), (5, .int be), (6, .int le), (7, .int 0), (8, .int t.1)], []) (HH t.2.1 t.2.2 R T) Q := fun t ht => by
    rw [ht] at H hDt
    refine Z_jump 2 rfl ?_
    refine Z_bd (fun (c154 : (0 : Int32) ≤ t.1) => ?_) (fun (c154 : ¬ ((0 : Int32) ≤ t.1)) => ?_)
    · refine Z_jump 3 rfl ?_
      refine Z_bd (fun (c163 : le ≤ t.1) => ?_) (fun (c163 : ¬ (le ≤ t.1)) => ?_)
      · refine Z_jump 5 rfl ?_
        refine Z_bd (fun (c179 : le ≤ t.1) => ?_) (fun (c179 : ¬ (le ≤ t.1)) => ?_)
        · refine Z_jump 4 rfl ?_
          show Zs _ _ (am_P 220).2 (60, [(0, .ref 73), (1, .int a), (2, .int b), (3, .int c), (4, .int w), (5, .int be), (6, .int le), (7, .int (1 : Int32)), (8, .int t.1)], []) (HH t.2.1 t.2.2 R T) _
          first | exact absurd c163 c179 | exact absurd c179 c163 | (rw [if_pos c154, if_pos c163] at H; exact Zs_wk (m_tm1 hDt H) (lnD rfl) (lnD rfl) (by repeat (first | exact trivial | refine ⟨rfl, ?_⟩))) | (rw [if_pos c154, if_neg c163] at H; exact Zs_wk (m_tm1 hDt H) (lnD rfl) (lnD rfl) (by repeat (first | exact trivial | refine ⟨rfl, ?_⟩)))
        · refine Z_jump 5 rfl ?_
          show Zs _ _ (am_P 220).2 (60, [(0, .ref 73), (1, .int a), (2, .int b), (3, .int c), (4, .int w), (5, .int be), (6, .int t.1), (7, .int (1 : Int32)), (8, .int t.1)], []) (HH t.2.1 t.2.2 R T) _
          first | exact absurd c163 c179 | exact absurd c179 c163 | (rw [if_pos c154, if_pos c163] at H; exact Zs_wk (m_tm1 hDt H) (lnD rfl) (lnD rfl) (by repeat (first | exact trivial | refine ⟨rfl, ?_⟩))) | (rw [if_pos c154, if_neg c163] at H; exact Zs_wk (m_tm1 hDt H) (lnD rfl) (lnD rfl) (by repeat (first | exact trivial | refine ⟨rfl, ?_⟩)))
      · refine Z_jump 6 rfl ?_
        refine Z_bd (fun (c179 : le ≤ t.1) => ?_) (fun (c179 : ¬ (le ≤ t.1)) => ?_)
        · refine Z_jump 4 rfl ?_
          show Zs _ _ (am_P 220).2 (60, [(0, .ref 73), (1, .int a), (2, .int b), (3, .int c), (4, .int w), (5, .int (0 : Int32)), (6, .int le), (7, .int (1 : Int32)), (8, .int t.1)], []) (HH t.2.1 t.2.2 R T) _
          first | exact absurd c163 c179 | exact absurd c179 c163 | (rw [if_pos c154, if_pos c163] at H; exact Zs_wk (m_tm1 hDt H) (lnD rfl) (lnD rfl) (by repeat (first | exact trivial | refine ⟨rfl, ?_⟩))) | (rw [if_pos c154, if_neg c163] at H; exact Zs_wk (m_tm1 hDt H) (lnD rfl) (lnD rfl) (by repeat (first | exact trivial | refine ⟨rfl, ?_⟩)))
        · refine Z_jump 5 rfl ?_
          show Zs _ _ (am_P 220).2 (60, [(0, .ref 73), (1, .int a), (2, .int b), (3, .int c), (4, .int w), (5, .int (0 : Int32)), (6, .int t.1), (7, .int (1 : Int32)), (8, .int t.1)], []) (HH t.2.1 t.2.2 R T) _
          first | exact absurd c163 c179 | exact absurd c179 c163 | (rw [if_pos c154, if_pos c163] at H; exact Zs_wk (m_tm1 hDt H) (lnD rfl) (lnD rfl) (by repeat (first | exact trivial | refine ⟨rfl, ?_⟩))) | (rw [if_pos c154, if_neg c163] at H; exact Zs_wk (m_tm1 hDt H) (lnD rfl) (lnD rfl) (by repeat (first | exact trivial | refine ⟨rfl, ?_⟩)))
    · refine Z_jump 1 rfl ?_
      show Zs _ _ (am_P 220).2 (158, [(0, .ref 73), (1, .int a), (2, .int b), (3, .int c), (4, .int w), (5, .int be), (6, .int le), (7, .int (0 : Int32)), (8, .int t.1)], [.int (-1 : Int32)]) (HH t.2.1 t.2.2 R T) _
      refine Z_rI rfl (by first | exact am_nw0 _ | exact am_nw01 | rfl | assumption) ?_
      rw [if_neg c154] at H
      exact H
  unfold tr3 trS at X
  have hE1 := m_sets6 (sc := sc) (d := d) (R := R) (T := T) (J := J) (to := a.toInt64) hD0
  have k1 : DMf D (seF (cpN I) J D 79 a.toInt64).2.1 := DMf_k hD0 (fun a h9 h10 h6 => seF_c h9 h10 h6)
  generalize seF (cpN I) J D 79 a.toInt64 = w1 at X hE1 k1
  have hE2 := m_sets6 (sc := sc) (d := d) (R := R) (T := T) (J := w1.2.2) (to := b.toInt64) k1
  have k2 : DMf D (seF w1.2.1 w1.2.2 D 79 b.toInt64).2.1 := DMf_k k1 (fun a h9 h10 h6 => seF_c h9 h10 h6)
  dsimp only at X
  generalize seF w1.2.1 w1.2.2 D 79 b.toInt64 = w2 at X hE2 k2
  have hE3 := m_sets6 (sc := sc) (d := d) (R := R) (T := T) (J := w2.2.2) (to := c.toInt64) k2
  generalize seF w2.2.1 w2.2.2 D 79 c.toInt64 = w3 at X hE3
  refine Z_jump 4 rfl ?_
  show Zs _ _ (am_P 220).2 (68, [(0, .ref 73), (1, .int a), (2, .int b), (3, .int c), (4, .int w), (5, .int be), (6, .int le), (7, .int (0 : Int32))], [.ref 73]) (HH I J R T) _
  refine Z_c0 rfl rfl rfl (m_copyNow) ?_
  show Zs _ _ (am_P 220).2 (71, [(0, .ref 73), (1, .int a), (2, .int b), (3, .int c), (4, .int w), (5, .int be), (6, .int le), (7, .int (0 : Int32))], []) (HH (cpN I) J R T) _
  refine Z_jump 11 rfl ?_
  show Zs _ _ (am_P 220).2 (92, [(0, .ref 73), (1, .int a), (2, .int b), (3, .int c), (4, .int w), (5, .int be), (6, .int le), (7, .int (0 : Int32)), (8, .int (0 : Int32)), (9, .int (0 : Int32))], [.int (0 : Int32), .int (0 : Int32)]) (HH (cpN I) J R T) _
  refine Z_c1 rfl rfl rfl (io_00) ?_
  show Zs _ _ (am_P 220).2 (95, [(0, .ref 73), (1, .int a), (2, .int b), (3, .int c), (4, .int w), (5, .int be), (6, .int le), (7, .int (0 : Int32)), (8, .int (0 : Int32)), (9, .int (0 : Int32))], [.int (0 : Int32)]) (HH (cpN I) J R T) _
  refine Z_jump 9 rfl ?_
  show Zs _ _ (am_P 220).2 (125, [(0, .ref 73), (1, .int a), (2, .int b), (3, .int c), (4, .int w), (5, .int be), (6, .int le), (7, .int (0 : Int32)), (8, .int (0 : Int32)), (9, .int (0 : Int32)), (10, .int (0 : Int32))], [.long (Int32.toInt64 a), .ref 79, .ref 73]) (HH (cpN I) J R T) _
  refine Z_c1 rfl rfl rfl (hE1) ?_
  show Zs _ _ (am_P 220).2 (128, [(0, .ref 73), (1, .int a), (2, .int b), (3, .int c), (4, .int w), (5, .int be), (6, .int le), (7, .int (0 : Int32)), (8, .int (0 : Int32)), (9, .int (0 : Int32)), (10, .int (0 : Int32))], [.int w1.1]) (HH w1.2.1 w1.2.2 R T) _
  refine Z_jump 3 rfl ?_
  refine Z_bd (fun (c132 : (0 : Int32) ≤ w1.1) => ?_) (fun (c132 : ¬ ((0 : Int32) ≤ w1.1)) => ?_)
  · refine Z_jump 11 rfl ?_
    refine Z_bd (fun (c85 : ((0 : Int32) + w1.1) < (0 : Int32)) => ?_) (fun (c85 : ¬ (((0 : Int32) + w1.1) < (0 : Int32))) => ?_)
    · show Zs _ _ (am_P 220).2 (152, [(0, .ref 73), (1, .int a), (2, .int b), (3, .int c), (4, .int w), (5, .int be), (6, .int le), (7, .int (0 : Int32)), (8, .int ((0 : Int32) + w1.1)), (9, .int (1 : Int32)), (10, .int (0 : Int32)), (11, .int w1.1)], []) (HH w1.2.1 w1.2.2 R T) _
      exact Zs_wk (X (((0 : Int32) + w1.1), w1.2.1, w1.2.2) (by first | (rw [if_pos c132, if_pos c85]; done) | (rw [if_pos c132, if_pos c85, if_pos (show (-1 : Int32) < 0 by decide)]; done))) (lnD rfl) (lnD rfl) (by repeat (first | exact trivial | refine ⟨rfl, ?_⟩))
    · refine Z_jump 2 rfl ?_
      show Zs _ _ (am_P 220).2 (92, [(0, .ref 73), (1, .int a), (2, .int b), (3, .int c), (4, .int w), (5, .int be), (6, .int le), (7, .int (0 : Int32)), (8, .int ((0 : Int32) + w1.1)), (9, .int (1 : Int32)), (10, .int (0 : Int32)), (11, .int w1.1)], [.int (1 : Int32), .int (0 : Int32)]) (HH w1.2.1 w1.2.2 R T) _
      refine Z_c1 rfl rfl rfl (io_01) ?_
      show Zs _ _ (am_P 220).2 (95, [(0, .ref 73), (1, .int a), (2, .int b), (3, .int c), (4, .int w), (5, .int be), (6, .int le), (7, .int (0 : Int32)), (8, .int ((0 : Int32) + w1.1)), (9, .int (1 : Int32)), (10, .int (0 : Int32)), (11, .int w1.1)], [.int (1 : Int32)]) (HH w1.2.1 w1.2.2 R T) _
      refine Z_jump 12 rfl ?_
      show Zs _ _ (am_P 220).2 (125, [(0, .ref 73), (1, .int a), (2, .int b), (3, .int c), (4, .int w), (5, .int be), (6, .int le), (7, .int (0 : Int32)), (8, .int ((0 : Int32) + w1.1)), (9, .int (1 : Int32)), (10, .int (1 : Int32)), (11, .int w1.1)], [.long (Int32.toInt64 b), .ref 79, .ref 73]) (HH w1.2.1 w1.2.2 R T) _
      refine Z_c1 rfl rfl rfl (hE2) ?_
      show Zs _ _ (am_P 220).2 (128, [(0, .ref 73), (1, .int a), (2, .int b), (3, .int c), (4, .int w), (5, .int be), (6, .int le), (7, .int (0 : Int32)), (8, .int ((0 : Int32) + w1.1)), (9, .int (1 : Int32)), (10, .int (1 : Int32)), (11, .int w1.1)], [.int w2.1]) (HH w2.2.1 w2.2.2 R T) _
      refine Z_jump 3 rfl ?_
      refine Z_bd (fun (c132b : (0 : Int32) ≤ w2.1) => ?_) (fun (c132b : ¬ ((0 : Int32) ≤ w2.1)) => ?_)
      · refine Z_jump 11 rfl ?_
        refine Z_bd (fun (c85b : (((0 : Int32) + w1.1) + w2.1) < (0 : Int32)) => ?_) (fun (c85b : ¬ ((((0 : Int32) + w1.1) + w2.1) < (0 : Int32))) => ?_)
        · show Zs _ _ (am_P 220).2 (152, [(0, .ref 73), (1, .int a), (2, .int b), (3, .int c), (4, .int w), (5, .int be), (6, .int le), (7, .int (0 : Int32)), (8, .int (((0 : Int32) + w1.1) + w2.1)), (9, .int (2 : Int32)), (10, .int (1 : Int32)), (11, .int w2.1)], []) (HH w2.2.1 w2.2.2 R T) _
          exact Zs_wk (X ((((0 : Int32) + w1.1) + w2.1), w2.2.1, w2.2.2) (by first | (rw [if_pos c132, if_neg c85, if_pos c132b, if_pos c85b]; done) | (rw [if_pos c132, if_neg c85, if_pos c132b, if_pos c85b, if_pos (show (-1 : Int32) < 0 by decide)]; done))) (lnD rfl) (lnD rfl) (by repeat (first | exact trivial | refine ⟨rfl, ?_⟩))
        · refine Z_jump 2 rfl ?_
          show Zs _ _ (am_P 220).2 (92, [(0, .ref 73), (1, .int a), (2, .int b), (3, .int c), (4, .int w), (5, .int be), (6, .int le), (7, .int (0 : Int32)), (8, .int (((0 : Int32) + w1.1) + w2.1)), (9, .int (2 : Int32)), (10, .int (1 : Int32)), (11, .int w2.1)], [.int (2 : Int32), .int (0 : Int32)]) (HH w2.2.1 w2.2.2 R T) _
          refine Z_c1 rfl rfl rfl (io_02) ?_
          show Zs _ _ (am_P 220).2 (95, [(0, .ref 73), (1, .int a), (2, .int b), (3, .int c), (4, .int w), (5, .int be), (6, .int le), (7, .int (0 : Int32)), (8, .int (((0 : Int32) + w1.1) + w2.1)), (9, .int (2 : Int32)), (10, .int (1 : Int32)), (11, .int w2.1)], [.int (2 : Int32)]) (HH w2.2.1 w2.2.2 R T) _
          refine Z_jump 11 rfl ?_
          show Zs _ _ (am_P 220).2 (125, [(0, .ref 73), (1, .int a), (2, .int b), (3, .int c), (4, .int w), (5, .int be), (6, .int le), (7, .int (0 : Int32)), (8, .int (((0 : Int32) + w1.1) + w2.1)), (9, .int (2 : Int32)), (10, .int (2 : Int32)), (11, .int w2.1)], [.long (Int32.toInt64 c), .ref 79, .ref 73]) (HH w2.2.1 w2.2.2 R T) _
          refine Z_c1 rfl rfl rfl (hE3) ?_
          show Zs _ _ (am_P 220).2 (128, [(0, .ref 73), (1, .int a), (2, .int b), (3, .int c), (4, .int w), (5, .int be), (6, .int le), (7, .int (0 : Int32)), (8, .int (((0 : Int32) + w1.1) + w2.1)), (9, .int (2 : Int32)), (10, .int (2 : Int32)), (11, .int w2.1)], [.int w3.1]) (HH w3.2.1 w3.2.2 R T) _
          refine Z_jump 3 rfl ?_
          refine Z_bd (fun (c132c : (0 : Int32) ≤ w3.1) => ?_) (fun (c132c : ¬ ((0 : Int32) ≤ w3.1)) => ?_)
          · refine Z_jump 9 rfl ?_
            show Zs _ _ (am_P 220).2 (152, [(0, .ref 73), (1, .int a), (2, .int b), (3, .int c), (4, .int w), (5, .int be), (6, .int le), (7, .int (0 : Int32)), (8, .int ((((0 : Int32) + w1.1) + w2.1) + w3.1)), (9, .int (3 : Int32)), (10, .int (2 : Int32)), (11, .int w3.1)], []) (HH w3.2.1 w3.2.2 R T) _
            exact Zs_wk (X (((((0 : Int32) + w1.1) + w2.1) + w3.1), w3.2.1, w3.2.2) (by first | (rw [if_pos c132, if_neg c85, if_pos c132b, if_neg c85b, if_pos c132c]; done) | (rw [if_pos c132, if_neg c85, if_pos c132b, if_neg c85b, if_pos c132c, if_pos (show (-1 : Int32) < 0 by decide)]; done))) (lnD rfl) (lnD rfl) (by repeat (first | exact trivial | refine ⟨rfl, ?_⟩))
          · refine Z_jump 8 rfl ?_
            show Zs _ _ (am_P 220).2 (152, [(0, .ref 73), (1, .int a), (2, .int b), (3, .int c), (4, .int w), (5, .int be), (6, .int le), (7, .int (0 : Int32)), (8, .int (-1 : Int32)), (9, .int (3 : Int32)), (10, .int (2 : Int32)), (11, .int w3.1)], []) (HH w3.2.1 w3.2.2 R T) _
            exact Zs_wk (X ((-1 : Int32), w3.2.1, w3.2.2) (by first | (rw [if_pos c132, if_neg c85, if_pos c132b, if_neg c85b, if_neg c132c]; done) | (rw [if_pos c132, if_neg c85, if_pos c132b, if_neg c85b, if_neg c132c, if_pos (show (-1 : Int32) < 0 by decide)]; done))) (lnD rfl) (lnD rfl) (by repeat (first | exact trivial | refine ⟨rfl, ?_⟩))
      · refine Z_jump 10 rfl ?_
        show Zs _ _ (am_P 220).2 (152, [(0, .ref 73), (1, .int a), (2, .int b), (3, .int c), (4, .int w), (5, .int be), (6, .int le), (7, .int (0 : Int32)), (8, .int (-1 : Int32)), (9, .int (2 : Int32)), (10, .int (1 : Int32)), (11, .int w2.1)], []) (HH w2.2.1 w2.2.2 R T) _
        exact Zs_wk (X ((-1 : Int32), w2.2.1, w2.2.2) (by first | (rw [if_pos c132, if_neg c85, if_neg c132b]; done) | (rw [if_pos c132, if_neg c85, if_neg c132b, if_pos (show (-1 : Int32) < 0 by decide)]; done))) (lnD rfl) (lnD rfl) (by repeat (first | exact trivial | refine ⟨rfl, ?_⟩))
  · refine Z_jump 10 rfl ?_
    show Zs _ _ (am_P 220).2 (152, [(0, .ref 73), (1, .int a), (2, .int b), (3, .int c), (4, .int w), (5, .int be), (6, .int le), (7, .int (0 : Int32)), (8, .int (-1 : Int32)), (9, .int (1 : Int32)), (10, .int (0 : Int32)), (11, .int w1.1)], []) (HH w1.2.1 w1.2.2 R T) _
    exact Zs_wk (X ((-1 : Int32), w1.2.1, w1.2.2) (by first | (rw [if_neg c132]; done) | (rw [if_neg c132, if_pos (show (-1 : Int32) < 0 by decide)]; done))) (lnD rfl) (lnD rfl) (by repeat (first | exact trivial | refine ⟨rfl, ?_⟩))
end MLA

