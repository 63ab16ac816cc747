/-! The class: tour. -/
section TOU
variable {sc : Nat × (Nat → Int32)} {d : Nat} {J : hJ} {R : hR} {T : am_H} {Q : Option Value → am_H → Prop}
/-- Standing.copy, exactly -/
def cp1 (a b i : Nat) (I : hI) : hI := sf (sf I (a + 1) i (I (b + 1) i)) (a + 2) i (sf I (a + 1) i (I (b + 1) i) (b + 2) i)
def cpl (a b : Nat) : Nat → Nat → hI → hI
  | 0, _, I => I
  | k + 1, i, I => cpl a b k (i + 1) (cp1 a b i I)
def cpF (I : hI) (a b : Nat) : hI := sf (sf (cpl a b 6 0 I) a 2 (cpl a b 6 0 I b 2)) a 3 (sf (cpl a b 6 0 I) a 2 (cpl a b 6 0 I b 2) b 3)
theorem cpl_SB {a b : Nat} {I0 : hI} (ha : isSt a) (hb : isSt b) (hne : a ≠ b) : ∀ (k i : Nat) (I : hI), SB a b I0 i I → SB a b I0 (i + k) (cpl a b k i I)
  | 0, i, I, h => h
  | k + 1, i, I, h => by
    unfold cpl
    have := cpl_SB ha hb hne k (i + 1) _ (SB_s ha hb hne h)
    rw [show i + (k + 1) = i + 1 + k by omega]
    exact this
theorem cpF_CP {a b : Nat} {I : hI} (ha : isSt a) (hb : isSt b) (hne : a ≠ b) : CP a b I (cpF I a b) := by
  obtain ⟨⟨d1, d2⟩, ⟨d3, d4, d5⟩, d6, d7, d8⟩ := st_dis a ha b hb hne
  have hR := cpl_SB ha hb hne 6 0 I ⟨fun _ _ _ => rfl, fun k hk => absurd hk (by omega)⟩
  unfold cpF
  refine ⟨fun c h1 h2 h3 => ?_, fun k hk => ?_, ?_, ?_⟩
  · rw [sf_c h1, sf_c h1]; exact hR.1 c h2 h3
  · rw [sf_c (by omega), sf_c (by omega), sf_c (by omega), sf_c (by omega)]; exact hR.2 k (by omega)
  · rw [sf_k (by decide), sf_s, hR.1 b d1 d2]
  · rw [sf_s, sf_c (Ne.symm hne), hR.1 b d1 d2]
theorem c_cpl {a b : Nat} (ha : isSt a) (hb : isSt b) : ∀ (k i : Nat) (I : hI) (x : Int32), i + k = 6 → x = nI i → Zs sc (d + 1) (am_P 33).2 (51, [(0, .ref a), (1, .ref b)], []) (HH (cpl a b k i I) J R T) Q → Zs sc (d + 1) (am_P 33).2 (7, [(0, .ref a), (1, .ref b), (2, .int x)], []) (HH I J R T) Q
  | 0, i, I, x, hi, hx, H => by
    refine Z_jump 3 rfl ?_
    refine Z_bd (fun c10 => ?_) (fun c10 => absurd ((show (6 : Int32) ≤ x by rw [hx]; exact nI_le (a := 6) (by omega) (by omega))) c10)
    show Zs _ _ (am_P 33).2 (51, [(0, .ref a), (1, .ref b), (2, .int x)], []) (HH I J R T) _
    exact Zs_wk (H) (lnD rfl) (lnD rfl) (by repeat (first | exact trivial | refine ⟨rfl, ?_⟩))
  | k + 1, i, I, x, hi, hx, H => by
    refine Z_jump 3 rfl ?_
    refine Z_bd (fun c10 => absurd c10 ((show ¬ (6 : Int32) ≤ x by rw [hx]; exact nI_ge (b := 6) (by omega) (by omega)))) (fun c10 => ?_)
    refine Z_jump 1 rfl ?_
    show Zs _ _ (am_P 33).2 (14, [(0, .ref a), (1, .ref b), (2, .int x)], [.ref a]) (HH I J R T) _
    refine Z_gf rfl (st_0 ha) rfl rfl ?_
    refine Z_jump 2 rfl ?_
    show Zs _ _ (am_P 33).2 (19, [(0, .ref a), (1, .ref b), (2, .int x)], [.ref b, .int x, .ref (a + 1)]) (HH I J R T) _
    refine Z_gf rfl (st_0 hb) rfl rfl ?_
    refine Z_jump 1 rfl ?_
    show Zs _ _ (am_P 33).2 (23, [(0, .ref a), (1, .ref b), (2, .int x)], [.int x, .ref (b + 1), .int x, .ref (a + 1)]) (HH I J R T) _
    refine Z_c1 rfl rfl rfl (k_at1 hb hx (by omega)) ?_
    show Zs _ _ (am_P 33).2 (26, [(0, .ref a), (1, .ref b), (2, .int x)], [.int (I (b + 1) i), .int x, .ref (a + 1)]) (HH I J R T) _
    show Zs _ _ (am_P 33).2 (26, [(0, .ref a), (1, .ref b), (2, .int x)], [.int (I (b + 1) i), .int x, .ref (a + 1)]) (HH I J R T) _
    refine Z_c0 rfl rfl rfl (k_put1 ha hx (by omega)) ?_
    show Zs _ _ (am_P 33).2 (29, [(0, .ref a), (1, .ref b), (2, .int x)], []) (HH (sf I (a + 1) i (I (b + 1) i)) J R T) _
    refine Z_jump 1 rfl ?_
    show Zs _ _ (am_P 33).2 (30, [(0, .ref a), (1, .ref b), (2, .int x)], [.ref a]) (HH (sf I (a + 1) i (I (b + 1) i)) J R T) _
    refine Z_gf rfl (st_0 ha) rfl rfl ?_
    refine Z_jump 2 rfl ?_
    show Zs _ _ (am_P 33).2 (35, [(0, .ref a), (1, .ref b), (2, .int x)], [.ref b, .int x, .ref (a + 2)]) (HH (sf I (a + 1) i (I (b + 1) i)) J R T) _
    refine Z_gf rfl (st_0 hb) rfl rfl ?_
    refine Z_jump 1 rfl ?_
    show Zs _ _ (am_P 33).2 (39, [(0, .ref a), (1, .ref b), (2, .int x)], [.int x, .ref (b + 2), .int x, .ref (a + 2)]) (HH (sf I (a + 1) i (I (b + 1) i)) J R T) _
    refine Z_c1 rfl rfl rfl (k_at2 hb hx (by omega)) ?_
    show Zs _ _ (am_P 33).2 (42, [(0, .ref a), (1, .ref b), (2, .int x)], [.int ((sf I (a + 1) i (I (b + 1) i)) (b + 2) i), .int x, .ref (a + 2)]) (HH (sf I (a + 1) i (I (b + 1) i)) J R T) _
    show Zs _ _ (am_P 33).2 (42, [(0, .ref a), (1, .ref b), (2, .int x)], [.int ((sf I (a + 1) i (I (b + 1) i)) (b + 2) i), .int x, .ref (a + 2)]) (HH (sf I (a + 1) i (I (b + 1) i)) J R T) _
    refine Z_c0 rfl rfl rfl (k_put2 ha hx (by omega)) ?_
    show Zs _ _ (am_P 33).2 (45, [(0, .ref a), (1, .ref b), (2, .int x)], []) (HH (cp1 a b i I) J R T) _
    refine Z_jump 2 rfl ?_
    show Zs _ _ (am_P 33).2 (7, [(0, .ref a), (1, .ref b), (2, .int (x + 1))], []) (HH (cp1 a b i I) J R T) _
    exact c_cpl ha hb k (i + 1) _ _ (by omega) (by rw [hx]; exact nI_1 i) H
theorem c_copyE {a b : Nat} {I : hI} (ha : isSt a) (hb : isSt b) : am_E sc (d + 2) 33 [.ref a, .ref b] (HH I J R T) none (HH (cpF I a b) J R T) := by
  refine E_Z (Ze_of (Nat.le_of_ble_eq_true rfl) ?_)
  refine Z_jump 4 rfl ?_
  show Zs _ _ (am_P 33).2 (7, [(0, .ref a), (1, .ref b), (2, .int (0 : Int32))], []) (HH I J R T) _
  refine c_cpl ha hb 6 0 _ _ (by omega) rfl ?_
  refine Z_jump 2 rfl ?_
  show Zs _ _ (am_P 33).2 (53, [(0, .ref a), (1, .ref b)], [.ref b, .ref a]) (HH (cpl a b 6 0 I) J R T) _
  refine Z_gf rfl (st_0 hb) rfl rfl ?_
  show Zs _ _ (am_P 33).2 (56, [(0, .ref a), (1, .ref b)], [.int (cpl a b 6 0 I b 2), .ref a]) (HH (cpl a b 6 0 I) J R T) _
  refine Z_pfS2 ha rfl ?_
  show Zs _ _ (am_P 33).2 (59, [(0, .ref a), (1, .ref b)], []) (HH (sf (cpl a b 6 0 I) a 2 (cpl a b 6 0 I b 2)) J R T) _
  refine Z_jump 2 rfl ?_
  show Zs _ _ (am_P 33).2 (61, [(0, .ref a), (1, .ref b)], [.ref b, .ref a]) (HH (sf (cpl a b 6 0 I) a 2 (cpl a b 6 0 I b 2)) J R T) _
  refine Z_gf rfl (st_0 hb) rfl rfl ?_
  show Zs _ _ (am_P 33).2 (64, [(0, .ref a), (1, .ref b)], [.int (sf (cpl a b 6 0 I) a 2 (cpl a b 6 0 I b 2) b 3), .ref a]) (HH (sf (cpl a b 6 0 I) a 2 (cpl a b 6 0 I b 2)) J R T) _
  refine Z_pfS3 ha rfl ?_
  show Zs _ _ (am_P 33).2 (67, [(0, .ref a), (1, .ref b)], []) (HH (sf (sf (cpl a b 6 0 I) a 2 (cpl a b 6 0 I b 2)) a 3 (sf (cpl a b 6 0 I) a 2 (cpl a b 6 0 I b 2) b 3)) J R T) _
  show Zs _ _ (am_P 33).2 (67, [(0, .ref a), (1, .ref b)], []) (HH (sf (sf (cpl a b 6 0 I) a 2 (cpl a b 6 0 I b 2)) a 3 (sf (cpl a b 6 0 I) a 2 (cpl a b 6 0 I b 2) b 3)) J R T) _
  refine Z_ret rfl rfl rfl ?_
  exact ⟨rfl, rfl⟩
theorem c_pickA {a b c w : Int32} {I : hI} : am_E sc (d + 1) 137 [.int a, .int b, .int c, .int w] (HH I J R T) (some (.int (if w = 0 then a else if w = 1 then b else c))) (HH I J R T) := by
  refine E_Z (Ze_of (Nat.le_of_ble_eq_true rfl) ?_)
  refine Z_jump 2 rfl ?_
  refine Z_bn (fun (c1 : ¬ (w = (0 : Int32))) => ?_) (fun (c1 : w = (0 : Int32)) => ?_)
  · refine Z_jump 3 rfl ?_
    refine Z_bn (fun (c8 : ¬ (w = (1 : Int32))) => ?_) (fun (c8 : w = (1 : Int32)) => ?_)
    · refine Z_jump 1 rfl ?_
      show Zs _ _ (am_P 137).2 (16, [(0, .int a), (1, .int b), (2, .int c), (3, .int w)], [.int c]) (HH I J R T) _
      refine Z_rI rfl (by first | exact am_nw0 _ | exact am_nw01 | rfl | assumption) ?_
      exact ⟨am_ii (by rw [if_neg c1, if_neg c8]), rfl⟩
    · refine Z_jump 2 rfl ?_
      show Zs _ _ (am_P 137).2 (16, [(0, .int a), (1, .int b), (2, .int c), (3, .int w)], [.int b]) (HH I J R T) _
      refine Z_rI rfl (by first | exact am_nw0 _ | exact am_nw01 | rfl | assumption) ?_
      exact ⟨am_ii (by rw [if_neg c1, if_pos c8]), rfl⟩
  · refine Z_jump 1 rfl ?_
    show Zs _ _ (am_P 137).2 (5, [(0, .int a), (1, .int b), (2, .int c), (3, .int w)], [.int a]) (HH I J R T) _
    refine Z_rI rfl (by first | exact am_nw0 _ | exact am_nw01 | rfl | assumption) ?_
    exact ⟨am_ii (by rw [if_pos c1]), rfl⟩
def gS0 (I : hI) (D : FD) (v : Int32) : Int32 × hI := stF (sf (cpF I 29 22) 29 3 0) D 29 v.toInt64
def gS1 (I : hI) (D : FD) (v : Int32) : Int32 × hI := stF (cpF I 32 29) D 32 v.toInt64
def gS2 (I : hI) (D : FD) (v : Int32) : Int32 × hI := stF (cpF I 35 32) D 35 v.toInt64
/-- what stays as it is on the way -/
def gK (I I' : hI) : Prop := (∀ c, c < 4 ∨ (17 < c ∧ c < 29) ∨ 37 < c → I' c = I c)
theorem gS0_c {I : hI} {D : FD} {v : Int32} : gK I (gS0 I D v).2 := fun c hc => by
  unfold gS0
  rw [stF_c (by omega) (by omega) (by omega) (by omega), sf_c (by omega)]
  exact (cpF_CP (by decide) (by decide) (by decide)).1 c (by omega) (by omega) (by omega)
theorem gS1_c {I : hI} {D : FD} {v : Int32} : gK I (gS1 I D v).2 := fun c hc => by
  unfold gS1
  rw [stF_c (by omega) (by omega) (by omega) (by omega)]
  exact (cpF_CP (by decide) (by decide) (by decide)).1 c (by omega) (by omega) (by omega)
theorem gS2_c {I : hI} {D : FD} {v : Int32} : gK I (gS2 I D v).2 := fun c hc => by
  unfold gS2
  rw [stF_c (by omega) (by omega) (by omega) (by omega)]
  exact (cpF_CP (by decide) (by decide) (by decide)).1 c (by omega) (by omega) (by omega)
theorem gS0_BS {I : hI} {D : FD} {v : Int32} (ho : ∀ k, k < D.1 → okR (D.2.1 k)) (h : BS I) : BS (gS0 I D v).2 := stF_BS (by decide) ho (BS_of h (by rw [sf_c (by decide)]; exact (cpF_CP (by decide) (by decide) (by decide)).1 8 (by decide) (by decide) (by decide)))
theorem gS1_BS {I : hI} {D : FD} {v : Int32} (ho : ∀ k, k < D.1 → okR (D.2.1 k)) (h : BS I) : BS (gS1 I D v).2 := stF_BS (by decide) ho (BS_of h ((cpF_CP (by decide) (by decide) (by decide)).1 8 (by decide) (by decide) (by decide)))
theorem gS2_BS {I : hI} {D : FD} {v : Int32} (ho : ∀ k, k < D.1 → okR (D.2.1 k)) (h : BS I) : BS (gS2 I D v).2 := stF_BS (by decide) ho (BS_of h ((cpF_CP (by decide) (by decide) (by decide)).1 8 (by decide) (by decide) (by decide)))

theorem c_goOn0 {I : hI} {D : FD} {v : Int32} (hR : R 28 0 = some 29) (hD : DC 18 D I R T) (hB : BS I) : am_E sc (d + 13) 138 [.ref 0, .ref 22, .int 0, .int v] (HH I J R T) (some (.int (if (gS0 I D v).1 = -1 then 0 else 1))) (HH (gS0 I D v).2 J R T) := by
  refine E_Z (Ze_of (Nat.le_of_ble_eq_true rfl) ?_)
  have hC : CP 29 22 I (cpF I 29 22) := cpF_CP (by decide) (by decide) (by decide)
  have hD1 : DC 18 D (cpF I 29 22) R T := DC_of hD (hC.1 18 (by decide) (by decide) (by decide)) rfl
  have hB1 : BS (cpF I 29 22) := BS_of hB (hC.1 8 (by decide) (by decide) (by decide))
  refine Z_jump 3 rfl ?_
  show Zs _ _ (am_P 138).2 (5, [(0, .ref 0), (1, .ref 22), (2, .int (0 : Int32)), (3, .int v)], [.int (0 : Int32), .ref 28]) (HH I J R T) _
  refine Z_c1 rfl rfl rfl (c_stAt28 (K := 0) hR rfl (by omega)) ?_
  show Zs _ _ (am_P 138).2 (8, [(0, .ref 0), (1, .ref 22), (2, .int (0 : Int32)), (3, .int v)], [.ref 29]) (HH I J R T) _
  refine Z_jump 7 rfl ?_
  show Zs _ _ (am_P 138).2 (24, [(0, .ref 0), (1, .ref 22), (2, .int (0 : Int32)), (3, .int v), (4, .ref 29)], [.ref 22, .ref 29]) (HH I J R T) _
  refine Z_c0 rfl rfl rfl (c_copyE (by decide) (by decide)) ?_
  show Zs _ _ (am_P 138).2 (27, [(0, .ref 0), (1, .ref 22), (2, .int (0 : Int32)), (3, .int v), (4, .ref 29)], []) (HH (cpF I 29 22) J R T) _
  refine Z_jump 5 rfl ?_
  show Zs _ _ (am_P 138).2 (37, [(0, .ref 0), (1, .ref 22), (2, .int (0 : Int32)), (3, .int v), (4, .ref 29)], []) (HH (sf (cpF I 29 22) 29 3 (0 : Int32)) J R T) _
  refine Z_jump 4 rfl ?_
  show Zs _ _ (am_P 138).2 (42, [(0, .ref 0), (1, .ref 22), (2, .int (0 : Int32)), (3, .int v), (4, .ref 29)], [.long (Int32.toInt64 v), .ref 29, .ref 0]) (HH (sf (cpF I 29 22) 29 3 (0 : Int32)) J R T) _
  refine Z_c1 rfl rfl rfl (c_settle (D := D) (by decide) (DC_of hD1 (sf_c (by decide)) rfl) (BS_of hB1 (sf_c (by decide)))) ?_
  show Zs _ _ (am_P 138).2 (45, [(0, .ref 0), (1, .ref 22), (2, .int (0 : Int32)), (3, .int v), (4, .ref 29)], [.int (gS0 I D v).1]) (HH (gS0 I D v).2 J R T) _
  refine Z_jump 2 rfl ?_
  refine Z_bd (fun (c46 : (gS0 I D v).1 = (-1 : Int32)) => ?_) (fun (c46 : ¬ ((gS0 I D v).1 = (-1 : Int32))) => ?_)
  · refine Z_jump 1 rfl ?_
    show Zs _ _ (am_P 138).2 (54, [(0, .ref 0), (1, .ref 22), (2, .int (0 : Int32)), (3, .int v), (4, .ref 29)], [.int (0 : Int32)]) (HH (gS0 I D v).2 J R T) _
    refine Z_rI rfl (by first | exact am_nw0 _ | exact am_nw01 | rfl | assumption) ?_
    rw [if_pos c46]
    exact ⟨rfl, rfl⟩
  · refine Z_jump 2 rfl ?_
    show Zs _ _ (am_P 138).2 (54, [(0, .ref 0), (1, .ref 22), (2, .int (0 : Int32)), (3, .int v), (4, .ref 29)], [.int (1 : Int32)]) (HH (gS0 I D v).2 J R T) _
    refine Z_rI rfl (by first | exact am_nw0 _ | exact am_nw01 | rfl | assumption) ?_
    rw [if_neg c46]
    exact ⟨rfl, rfl⟩

theorem c_goOn1 {I : hI} {D : FD} {v : Int32} (hR : R 28 1 = some 32) (hD : DC 18 D I R T) (hB : BS I) : am_E sc (d + 13) 138 [.ref 0, .ref 29, .int 1, .int v] (HH I J R T) (some (.int (if (gS1 I D v).1 = -1 then 0 else 1))) (HH (gS1 I D v).2 J R T) := by
  refine E_Z (Ze_of (Nat.le_of_ble_eq_true rfl) ?_)
  have hC : CP 32 29 I (cpF I 32 29) := cpF_CP (by decide) (by decide) (by decide)
  have hD1 : DC 18 D (cpF I 32 29) R T := DC_of hD (hC.1 18 (by decide) (by decide) (by decide)) rfl
  have hB1 : BS (cpF I 32 29) := BS_of hB (hC.1 8 (by decide) (by decide) (by decide))
  refine Z_jump 3 rfl ?_
  show Zs _ _ (am_P 138).2 (5, [(0, .ref 0), (1, .ref 29), (2, .int (1 : Int32)), (3, .int v)], [.int (1 : Int32), .ref 28]) (HH I J R T) _
  refine Z_c1 rfl rfl rfl (c_stAt28 (K := 1) hR rfl (by omega)) ?_
  show Zs _ _ (am_P 138).2 (8, [(0, .ref 0), (1, .ref 29), (2, .int (1 : Int32)), (3, .int v)], [.ref 32]) (HH I J R T) _
  refine Z_jump 7 rfl ?_
  show Zs _ _ (am_P 138).2 (24, [(0, .ref 0), (1, .ref 29), (2, .int (1 : Int32)), (3, .int v), (4, .ref 32)], [.ref 29, .ref 32]) (HH I J R T) _
  refine Z_c0 rfl rfl rfl (c_copyE (by decide) (by decide)) ?_
  show Zs _ _ (am_P 138).2 (27, [(0, .ref 0), (1, .ref 29), (2, .int (1 : Int32)), (3, .int v), (4, .ref 32)], []) (HH (cpF I 32 29) J R T) _
  refine Z_jump 6 rfl ?_
  show Zs _ _ (am_P 138).2 (42, [(0, .ref 0), (1, .ref 29), (2, .int (1 : Int32)), (3, .int v), (4, .ref 32)], [.long (Int32.toInt64 v), .ref 32, .ref 0]) (HH (cpF I 32 29) J R T) _
  refine Z_c1 rfl rfl rfl (c_settle (D := D) (by decide) hD1 hB1) ?_
  show Zs _ _ (am_P 138).2 (45, [(0, .ref 0), (1, .ref 29), (2, .int (1 : Int32)), (3, .int v), (4, .ref 32)], [.int (gS1 I D v).1]) (HH (gS1 I D v).2 J R T) _
  refine Z_jump 2 rfl ?_
  refine Z_bd (fun (c46 : (gS1 I D v).1 = (-1 : Int32)) => ?_) (fun (c46 : ¬ ((gS1 I D v).1 = (-1 : Int32))) => ?_)
  · refine Z_jump 1 rfl ?_
    show Zs _ _ (am_P 138).2 (54, [(0, .ref 0), (1, .ref 29), (2, .int (1 : Int32)), (3, .int v), (4, .ref 32)], [.int (0 : Int32)]) (HH (gS1 I D v).2 J R T) _
    refine Z_rI rfl (by first | exact am_nw0 _ | exact am_nw01 | rfl | assumption) ?_
    rw [if_pos c46]
    exact ⟨rfl, rfl⟩
  · refine Z_jump 2 rfl ?_
    show Zs _ _ (am_P 138).2 (54, [(0, .ref 0), (1, .ref 29), (2, .int (1 : Int32)), (3, .int v), (4, .ref 32)], [.int (1 : Int32)]) (HH (gS1 I D v).2 J R T) _
    refine Z_rI rfl (by first | exact am_nw0 _ | exact am_nw01 | rfl | assumption) ?_
    rw [if_neg c46]
    exact ⟨rfl, rfl⟩

theorem c_goOn2 {I : hI} {D : FD} {v : Int32} (hR : R 28 2 = some 35) (hD : DC 18 D I R T) (hB : BS I) : am_E sc (d + 13) 138 [.ref 0, .ref 32, .int 2, .int v] (HH I J R T) (some (.int (if (gS2 I D v).1 = -1 then 0 else 1))) (HH (gS2 I D v).2 J R T) := by
  refine E_Z (Ze_of (Nat.le_of_ble_eq_true rfl) ?_)
  have hC : CP 35 32 I (cpF I 35 32) := cpF_CP (by decide) (by decide) (by decide)
  have hD1 : DC 18 D (cpF I 35 32) R T := DC_of hD (hC.1 18 (by decide) (by decide) (by decide)) rfl
  have hB1 : BS (cpF I 35 32) := BS_of hB (hC.1 8 (by decide) (by decide) (by decide))
  refine Z_jump 3 rfl ?_
  show Zs _ _ (am_P 138).2 (5, [(0, .ref 0), (1, .ref 32), (2, .int (2 : Int32)), (3, .int v)], [.int (2 : Int32), .ref 28]) (HH I J R T) _
  refine Z_c1 rfl rfl rfl (c_stAt28 (K := 2) hR rfl (by omega)) ?_
  show Zs _ _ (am_P 138).2 (8, [(0, .ref 0), (1, .ref 32), (2, .int (2 : Int32)), (3, .int v)], [.ref 35]) (HH I J R T) _
  refine Z_jump 7 rfl ?_
  show Zs _ _ (am_P 138).2 (24, [(0, .ref 0), (1, .ref 32), (2, .int (2 : Int32)), (3, .int v), (4, .ref 35)], [.ref 32, .ref 35]) (HH I J R T) _
  refine Z_c0 rfl rfl rfl (c_copyE (by decide) (by decide)) ?_
  show Zs _ _ (am_P 138).2 (27, [(0, .ref 0), (1, .ref 32), (2, .int (2 : Int32)), (3, .int v), (4, .ref 35)], []) (HH (cpF I 35 32) J R T) _
  refine Z_jump 6 rfl ?_
  show Zs _ _ (am_P 138).2 (42, [(0, .ref 0), (1, .ref 32), (2, .int (2 : Int32)), (3, .int v), (4, .ref 35)], [.long (Int32.toInt64 v), .ref 35, .ref 0]) (HH (cpF I 35 32) J R T) _
  refine Z_c1 rfl rfl rfl (c_settle (D := D) (by decide) hD1 hB1) ?_
  show Zs _ _ (am_P 138).2 (45, [(0, .ref 0), (1, .ref 32), (2, .int (2 : Int32)), (3, .int v), (4, .ref 35)], [.int (gS2 I D v).1]) (HH (gS2 I D v).2 J R T) _
  refine Z_jump 2 rfl ?_
  refine Z_bd (fun (c46 : (gS2 I D v).1 = (-1 : Int32)) => ?_) (fun (c46 : ¬ ((gS2 I D v).1 = (-1 : Int32))) => ?_)
  · refine Z_jump 1 rfl ?_
    show Zs _ _ (am_P 138).2 (54, [(0, .ref 0), (1, .ref 32), (2, .int (2 : Int32)), (3, .int v), (4, .ref 35)], [.int (0 : Int32)]) (HH (gS2 I D v).2 J R T) _
    refine Z_rI rfl (by first | exact am_nw0 _ | exact am_nw01 | rfl | assumption) ?_
    rw [if_pos c46]
    exact ⟨rfl, rfl⟩
  · refine Z_jump 2 rfl ?_
    show Zs _ _ (am_P 138).2 (54, [(0, .ref 0), (1, .ref 32), (2, .int (2 : Int32)), (3, .int v), (4, .ref 35)], [.int (1 : Int32)]) (HH (gS2 I D v).2 J R T) _
    refine Z_rI rfl (by first | exact am_nw0 _ | exact am_nw01 | rfl | assumption) ?_
    rw [if_neg c46]
    exact ⟨rfl, rfl⟩

theorem c_spentA {I : hI} (hR : R 28 2 = some 35) : am_E sc (d + 2) 139 [.ref 0] (HH I J R T) (some (.int (I 35 3))) (HH I J R T) := by
  refine E_Z (Ze_of (Nat.le_of_ble_eq_true rfl) ?_)
  refine Z_jump 5 rfl ?_
  show Zs _ _ (am_P 139).2 (9, [(0, .ref 0)], [.int (3 : Int32), .ref 28]) (HH I J R T) _
  refine Z_jump 2 rfl ?_
  show Zs _ _ (am_P 139).2 (11, [(0, .ref 0)], [.int (2 : Int32), .ref 28]) (HH I J R T) _
  refine Z_c1 rfl rfl rfl (c_stAt28 (K := 2) hR rfl (by omega)) ?_
  show Zs _ _ (am_P 139).2 (14, [(0, .ref 0)], [.ref 35]) (HH I J R T) _
  refine Z_jump 5 rfl ?_
  show Zs _ _ (am_P 139).2 (28, [(0, .ref 0), (1, .ref 35)], [.int (I 35 3)]) (HH I J R T) _
  refine Z_rI rfl (by first | exact am_nw0 _ | exact am_nw01 | rfl | assumption) ?_
  exact ⟨rfl, rfl⟩
/-- the orders that are left, each by its three numbers and its own -/
def toM (D : FD) (y z o : Int32) (K : hI → Int32 → Int32 → Option (Int32 × Int32) × hI) (I : hI) (lt lo : Int32) : Option (Int32 × Int32) × hI :=
  if (gS1 I D y).1 = -1 then (none, (gS1 I D y).2) else if (gS2 (gS1 I D y).2 D z).1 = -1 then (none, (gS2 (gS1 I D y).2 D z).2)
  else if lt ≤ (gS2 (gS1 I D y).2 D z).2 35 3 then K (gS2 (gS1 I D y).2 D z).2 lt lo else K (gS2 (gS1 I D y).2 D z).2 ((gS2 (gS1 I D y).2 D z).2 35 3) o
def toN (D : FD) (x y z o : Int32) (K : hI → Int32 → Int32 → Option (Int32 × Int32) × hI) (I : hI) (lt lo : Int32) : Option (Int32 × Int32) × hI :=
  if (gS0 I D x).1 = -1 then (none, (gS0 I D x).2) else toM D y z o K (gS0 I D x).2 lt lo
def to6 (_ : FD) (_ _ _ : Int32) : hI → Int32 → Int32 → Option (Int32 × Int32) × hI := fun I lt lo => (some (lt, lo), I)
def to5 (D : FD) (a b c : Int32) : hI → Int32 → Int32 → Option (Int32 × Int32) × hI := toM D b a 5 (to6 D a b c)
def to4 (D : FD) (a b c : Int32) : hI → Int32 → Int32 → Option (Int32 × Int32) × hI := toN D c a b 4 (to5 D a b c)
def to3 (D : FD) (a b c : Int32) : hI → Int32 → Int32 → Option (Int32 × Int32) × hI := toM D c a 3 (to4 D a b c)
def to2 (D : FD) (a b c : Int32) : hI → Int32 → Int32 → Option (Int32 × Int32) × hI := toN D b a c 2 (to3 D a b c)
def to1 (D : FD) (a b c : Int32) : hI → Int32 → Int32 → Option (Int32 × Int32) × hI := toM D c b 1 (to2 D a b c)
def to0 (D : FD) (a b c : Int32) : hI → Int32 → Int32 → Option (Int32 × Int32) × hI := toN D a b c 0 (to1 D a b c)
def toQ (w : Int32) (J : hJ) (R : hR) (T : am_H) (Q : Option Value → am_H → Prop) (x : Option (Int32 × Int32) × hI) : Prop := Q (some (.int (match x.1 with
  | none => -1
  | some p => if w = 0 then p.1 else p.2))) (HH x.2 J R T)
def P28 (R : hR) : Prop := R 28 0 = some 29 ∧ R 28 1 = some 32 ∧ R 28 2 = some 35
theorem c_to6 {D : FD} {a b c w : Int32} {I : hI} {lt lo : Int32} (H : toQ w J R T Q (to6 D a b c I lt lo)) : Zs sc (d + 13) (am_P 112).2 (45, [(0, .ref 0), (1, .int a), (2, .int b), (3, .int c), (4, .int w), (5, .int lt), (6, .int lo), (7, .int 6)], []) (HH I J R T) Q := by
  unfold to6 toQ at H
  dsimp only at H
  refine Z_jump 5 rfl ?_
  refine Z_bn (fun (c178 : ¬ (w = (0 : Int32))) => ?_) (fun (c178 : w = (0 : Int32)) => ?_)
  · refine Z_jump 1 rfl ?_
    show Zs _ _ (am_P 112).2 (188, [(0, .ref 0), (1, .int a), (2, .int b), (3, .int c), (4, .int w), (5, .int lt), (6, .int lo), (7, .int (6 : Int32))], [.int lo]) (HH I J R T) _
    refine Z_rI rfl (by first | exact am_nw0 _ | exact am_nw01 | rfl | assumption) ?_
    rw [if_neg c178] at H
    exact H
  · refine Z_jump 2 rfl ?_
    show Zs _ _ (am_P 112).2 (188, [(0, .ref 0), (1, .int a), (2, .int b), (3, .int c), (4, .int w), (5, .int lt), (6, .int lo), (7, .int (6 : Int32))], [.int lt]) (HH I J R T) _
    refine Z_rI rfl (by first | exact am_nw0 _ | exact am_nw01 | rfl | assumption) ?_
    rw [if_pos c178] at H
    exact H
theorem c_to5 {D : FD} {a b c w : Int32} {I : hI} {lt lo : Int32} (hR : P28 R) (hD : DC 18 D I R T) (hB : BS I) (H : toQ w J R T Q (to5 D a b c I lt lo)) : Zs sc (d + 13) (am_P 112).2 (45, [(0, .ref 0), (1, .int a), (2, .int b), (3, .int c), (4, .int w), (5, .int lt), (6, .int lo), (7, .int 5)], []) (HH I J R T) Q := by
  have ho := DC_ok hD
  have hD0 := hD
  have hB0 := hB
  have hD1 : DC 18 D (gS1 I D b).2 R T := DC_of hD0 (gS1_c 18 (by omega)) rfl
  have hB1 : BS (gS1 I D b).2 := gS1_BS ho hB0
  have hD2 : DC 18 D (gS2 (gS1 I D b).2 D a).2 R T := DC_of hD1 (gS2_c 18 (by omega)) rfl
  have hB2 : BS (gS2 (gS1 I D b).2 D a).2 := gS2_BS ho hB1
  unfold to5 toM at H
  refine Z_jump 8 rfl ?_
  show Zs _ _ (am_P 112).2 (60, [(0, .ref 0), (1, .int a), (2, .int b), (3, .int c), (4, .int w), (5, .int lt), (6, .int lo), (7, .int (5 : Int32)), (8, .int (2 : Int32))], [.int (5 : Int32)]) (HH I J R T) _
  refine Z_c1 rfl rfl rfl (E_run 30 rfl) ?_
  show Zs _ _ (am_P 112).2 (63, [(0, .ref 0), (1, .int a), (2, .int b), (3, .int c), (4, .int w), (5, .int lt), (6, .int lo), (7, .int (5 : Int32)), (8, .int (2 : Int32))], [.int (1 : Int32)]) (HH I J R T) _
  refine Z_jump 9 rfl ?_
  show Zs _ _ (am_P 112).2 (100, [(0, .ref 0), (1, .int a), (2, .int b), (3, .int c), (4, .int w), (5, .int lt), (6, .int lo), (7, .int (5 : Int32)), (8, .int (2 : Int32)), (9, .int (1 : Int32))], [.int (0 : Int32), .ref 28, .ref 0]) (HH I J R T) _
  refine Z_c1 rfl rfl rfl (c_stAt28 (K := 0) hR.1 rfl (by omega)) ?_
  show Zs _ _ (am_P 112).2 (103, [(0, .ref 0), (1, .int a), (2, .int b), (3, .int c), (4, .int w), (5, .int lt), (6, .int lo), (7, .int (5 : Int32)), (8, .int (2 : Int32)), (9, .int (1 : Int32))], [.ref 29, .ref 0]) (HH I J R T) _
  refine Z_jump 5 rfl ?_
  show Zs _ _ (am_P 112).2 (109, [(0, .ref 0), (1, .int a), (2, .int b), (3, .int c), (4, .int w), (5, .int lt), (6, .int lo), (7, .int (5 : Int32)), (8, .int (2 : Int32)), (9, .int (1 : Int32))], [.int (1 : Int32), .int c, .int b, .int a, .int (1 : Int32), .ref 29, .ref 0]) (HH I J R T) _
  refine Z_c1 rfl rfl rfl (c_pickA) ?_
  show Zs _ _ (am_P 112).2 (112, [(0, .ref 0), (1, .int a), (2, .int b), (3, .int c), (4, .int w), (5, .int lt), (6, .int lo), (7, .int (5 : Int32)), (8, .int (2 : Int32)), (9, .int (1 : Int32))], [.int b, .int (1 : Int32), .ref 29, .ref 0]) (HH I J R T) _
  show Zs _ _ (am_P 112).2 (112, [(0, .ref 0), (1, .int a), (2, .int b), (3, .int c), (4, .int w), (5, .int lt), (6, .int lo), (7, .int (5 : Int32)), (8, .int (2 : Int32)), (9, .int (1 : Int32))], [.int b, .int (1 : Int32), .ref 29, .ref 0]) (HH I J R T) _
  by_cases b112 : (gS1 I D b).1 = -1
  · refine Z_c1 rfl rfl rfl (E_pos (c_goOn1 hR.2.1 hD0 hB0) b112) ?_
    show Zs _ _ (am_P 112).2 (115, [(0, .ref 0), (1, .int a), (2, .int b), (3, .int c), (4, .int w), (5, .int lt), (6, .int lo), (7, .int (5 : Int32)), (8, .int (2 : Int32)), (9, .int (1 : Int32))], [.int (0 : Int32)]) (HH (gS1 I D b).2 J R T) _
    refine Z_jump 2 rfl ?_
    show Zs _ _ (am_P 112).2 (148, [(0, .ref 0), (1, .int a), (2, .int b), (3, .int c), (4, .int w), (5, .int lt), (6, .int lo), (7, .int (5 : Int32)), (8, .int (2 : Int32)), (9, .int (1 : Int32))], [.int (-1 : Int32)]) (HH (gS1 I D b).2 J R T) _
    refine Z_rI rfl (by first | exact am_nw0 _ | exact am_nw01 | rfl | assumption) ?_
    rw [if_pos b112] at H
    exact H
  · refine Z_c1 rfl rfl rfl (E_neg (c_goOn1 hR.2.1 hD0 hB0) b112) ?_
    show Zs _ _ (am_P 112).2 (115, [(0, .ref 0), (1, .int a), (2, .int b), (3, .int c), (4, .int w), (5, .int lt), (6, .int lo), (7, .int (5 : Int32)), (8, .int (2 : Int32)), (9, .int (1 : Int32))], [.int (1 : Int32)]) (HH (gS1 I D b).2 J R T) _
    refine Z_jump 5 rfl ?_
    show Zs _ _ (am_P 112).2 (124, [(0, .ref 0), (1, .int a), (2, .int b), (3, .int c), (4, .int w), (5, .int lt), (6, .int lo), (7, .int (5 : Int32)), (8, .int (2 : Int32)), (9, .int (1 : Int32))], [.int (1 : Int32), .ref 28, .ref 0]) (HH (gS1 I D b).2 J R T) _
    refine Z_c1 rfl rfl rfl (c_stAt28 (K := 1) hR.2.1 rfl (by omega)) ?_
    show Zs _ _ (am_P 112).2 (127, [(0, .ref 0), (1, .int a), (2, .int b), (3, .int c), (4, .int w), (5, .int lt), (6, .int lo), (7, .int (5 : Int32)), (8, .int (2 : Int32)), (9, .int (1 : Int32))], [.ref 32, .ref 0]) (HH (gS1 I D b).2 J R T) _
    refine Z_jump 9 rfl ?_
    show Zs _ _ (am_P 112).2 (138, [(0, .ref 0), (1, .int a), (2, .int b), (3, .int c), (4, .int w), (5, .int lt), (6, .int lo), (7, .int (5 : Int32)), (8, .int (2 : Int32)), (9, .int (1 : Int32))], [.int (0 : Int32), .int c, .int b, .int a, .int (2 : Int32), .ref 32, .ref 0]) (HH (gS1 I D b).2 J R T) _
    refine Z_c1 rfl rfl rfl (c_pickA) ?_
    show Zs _ _ (am_P 112).2 (141, [(0, .ref 0), (1, .int a), (2, .int b), (3, .int c), (4, .int w), (5, .int lt), (6, .int lo), (7, .int (5 : Int32)), (8, .int (2 : Int32)), (9, .int (1 : Int32))], [.int a, .int (2 : Int32), .ref 32, .ref 0]) (HH (gS1 I D b).2 J R T) _
    show Zs _ _ (am_P 112).2 (141, [(0, .ref 0), (1, .int a), (2, .int b), (3, .int c), (4, .int w), (5, .int lt), (6, .int lo), (7, .int (5 : Int32)), (8, .int (2 : Int32)), (9, .int (1 : Int32))], [.int a, .int (2 : Int32), .ref 32, .ref 0]) (HH (gS1 I D b).2 J R T) _
    by_cases b141 : (gS2 (gS1 I D b).2 D a).1 = -1
    · refine Z_c1 rfl rfl rfl (E_pos (c_goOn2 hR.2.2 hD1 hB1) b141) ?_
      show Zs _ _ (am_P 112).2 (144, [(0, .ref 0), (1, .int a), (2, .int b), (3, .int c), (4, .int w), (5, .int lt), (6, .int lo), (7, .int (5 : Int32)), (8, .int (2 : Int32)), (9, .int (1 : Int32))], [.int (0 : Int32)]) (HH (gS2 (gS1 I D b).2 D a).2 J R T) _
      refine Z_jump 2 rfl ?_
      show Zs _ _ (am_P 112).2 (148, [(0, .ref 0), (1, .int a), (2, .int b), (3, .int c), (4, .int w), (5, .int lt), (6, .int lo), (7, .int (5 : Int32)), (8, .int (2 : Int32)), (9, .int (1 : Int32))], [.int (-1 : Int32)]) (HH (gS2 (gS1 I D b).2 D a).2 J R T) _
      refine Z_rI rfl (by first | exact am_nw0 _ | exact am_nw01 | rfl | assumption) ?_
      rw [if_neg b112, if_pos b141] at H
      exact H
    · refine Z_c1 rfl rfl rfl (E_neg (c_goOn2 hR.2.2 hD1 hB1) b141) ?_
      show Zs _ _ (am_P 112).2 (144, [(0, .ref 0), (1, .int a), (2, .int b), (3, .int c), (4, .int w), (5, .int lt), (6, .int lo), (7, .int (5 : Int32)), (8, .int (2 : Int32)), (9, .int (1 : Int32))], [.int (1 : Int32)]) (HH (gS2 (gS1 I D b).2 D a).2 J R T) _
      refine Z_jump 2 rfl ?_
      show Zs _ _ (am_P 112).2 (150, [(0, .ref 0), (1, .int a), (2, .int b), (3, .int c), (4, .int w), (5, .int lt), (6, .int lo), (7, .int (5 : Int32)), (8, .int (2 : Int32)), (9, .int (1 : Int32))], [.ref 0]) (HH (gS2 (gS1 I D b).2 D a).2 J R T) _
      refine Z_c1 rfl rfl rfl (c_spentA hR.2.2) ?_
      show Zs _ _ (am_P 112).2 (153, [(0, .ref 0), (1, .int a), (2, .int b), (3, .int c), (4, .int w), (5, .int lt), (6, .int lo), (7, .int (5 : Int32)), (8, .int (2 : Int32)), (9, .int (1 : Int32))], [.int ((gS2 (gS1 I D b).2 D a).2 35 3)]) (HH (gS2 (gS1 I D b).2 D a).2 J R T) _
      refine Z_jump 4 rfl ?_
      refine Z_bd (fun (c159 : lt ≤ ((gS2 (gS1 I D b).2 D a).2 35 3)) => ?_) (fun (c159 : ¬ (lt ≤ ((gS2 (gS1 I D b).2 D a).2 35 3))) => ?_)
      · refine Z_jump 2 rfl ?_
        show Zs _ _ (am_P 112).2 (45, [(0, .ref 0), (1, .int a), (2, .int b), (3, .int c), (4, .int w), (5, .int lt), (6, .int lo), (7, .int (6 : Int32)), (8, .int (2 : Int32)), (9, .int (1 : Int32)), (10, .int ((gS2 (gS1 I D b).2 D a).2 35 3))], []) (HH (gS2 (gS1 I D b).2 D a).2 J R T) _
        rw [if_neg b112, if_neg b141, if_pos c159] at H
        exact Zs_wk (c_to6  H) (lnD rfl) (lnD rfl) (by repeat (first | exact trivial | refine ⟨rfl, ?_⟩))
      · refine Z_jump 6 rfl ?_
        show Zs _ _ (am_P 112).2 (45, [(0, .ref 0), (1, .int a), (2, .int b), (3, .int c), (4, .int w), (5, .int ((gS2 (gS1 I D b).2 D a).2 35 3)), (6, .int (5 : Int32)), (7, .int (6 : Int32)), (8, .int (2 : Int32)), (9, .int (1 : Int32)), (10, .int ((gS2 (gS1 I D b).2 D a).2 35 3))], []) (HH (gS2 (gS1 I D b).2 D a).2 J R T) _
        rw [if_neg b112, if_neg b141, if_neg c159] at H
        exact Zs_wk (c_to6  H) (lnD rfl) (lnD rfl) (by repeat (first | exact trivial | refine ⟨rfl, ?_⟩))
theorem c_to4 {D : FD} {a b c w : Int32} {I : hI} {lt lo : Int32} (hR : P28 R) (hD : DC 18 D I R T) (hB : BS I) (H : toQ w J R T Q (to4 D a b c I lt lo)) : Zs sc (d + 13) (am_P 112).2 (45, [(0, .ref 0), (1, .int a), (2, .int b), (3, .int c), (4, .int w), (5, .int lt), (6, .int lo), (7, .int 4)], []) (HH I J R T) Q := by
  have ho := DC_ok hD
  have hD0 : DC 18 D (gS0 I D c).2 R T := DC_of hD (gS0_c 18 (by omega)) rfl
  have hB0 : BS (gS0 I D c).2 := gS0_BS ho hB
  have hD1 : DC 18 D (gS1 (gS0 I D c).2 D a).2 R T := DC_of hD0 (gS1_c 18 (by omega)) rfl
  have hB1 : BS (gS1 (gS0 I D c).2 D a).2 := gS1_BS ho hB0
  have hD2 : DC 18 D (gS2 (gS1 (gS0 I D c).2 D a).2 D b).2 R T := DC_of hD1 (gS2_c 18 (by omega)) rfl
  have hB2 : BS (gS2 (gS1 (gS0 I D c).2 D a).2 D b).2 := gS2_BS ho hB1
  unfold to4 toN toM at H
  refine Z_jump 8 rfl ?_
  show Zs _ _ (am_P 112).2 (60, [(0, .ref 0), (1, .int a), (2, .int b), (3, .int c), (4, .int w), (5, .int lt), (6, .int lo), (7, .int (4 : Int32)), (8, .int (2 : Int32))], [.int (4 : Int32)]) (HH I J R T) _
  refine Z_c1 rfl rfl rfl (E_run 30 rfl) ?_
  show Zs _ _ (am_P 112).2 (63, [(0, .ref 0), (1, .int a), (2, .int b), (3, .int c), (4, .int w), (5, .int lt), (6, .int lo), (7, .int (4 : Int32)), (8, .int (2 : Int32))], [.int (0 : Int32)]) (HH I J R T) _
  refine Z_jump 13 rfl ?_
  show Zs _ _ (am_P 112).2 (83, [(0, .ref 0), (1, .int a), (2, .int b), (3, .int c), (4, .int w), (5, .int lt), (6, .int lo), (7, .int (4 : Int32)), (8, .int (2 : Int32)), (9, .int (0 : Int32))], [.int (2 : Int32), .int c, .int b, .int a, .int (0 : Int32), .ref 22, .ref 0]) (HH I J R T) _
  refine Z_c1 rfl rfl rfl (c_pickA) ?_
  show Zs _ _ (am_P 112).2 (86, [(0, .ref 0), (1, .int a), (2, .int b), (3, .int c), (4, .int w), (5, .int lt), (6, .int lo), (7, .int (4 : Int32)), (8, .int (2 : Int32)), (9, .int (0 : Int32))], [.int c, .int (0 : Int32), .ref 22, .ref 0]) (HH I J R T) _
  show Zs _ _ (am_P 112).2 (86, [(0, .ref 0), (1, .int a), (2, .int b), (3, .int c), (4, .int w), (5, .int lt), (6, .int lo), (7, .int (4 : Int32)), (8, .int (2 : Int32)), (9, .int (0 : Int32))], [.int c, .int (0 : Int32), .ref 22, .ref 0]) (HH I J R T) _
  by_cases b86 : (gS0 I D c).1 = -1
  · refine Z_c1 rfl rfl rfl (E_pos (c_goOn0 hR.1 hD hB) b86) ?_
    show Zs _ _ (am_P 112).2 (89, [(0, .ref 0), (1, .int a), (2, .int b), (3, .int c), (4, .int w), (5, .int lt), (6, .int lo), (7, .int (4 : Int32)), (8, .int (2 : Int32)), (9, .int (0 : Int32))], [.int (0 : Int32)]) (HH (gS0 I D c).2 J R T) _
    refine Z_jump 2 rfl ?_
    show Zs _ _ (am_P 112).2 (93, [(0, .ref 0), (1, .int a), (2, .int b), (3, .int c), (4, .int w), (5, .int lt), (6, .int lo), (7, .int (4 : Int32)), (8, .int (2 : Int32)), (9, .int (0 : Int32))], [.int (-1 : Int32)]) (HH (gS0 I D c).2 J R T) _
    refine Z_rI rfl (by first | exact am_nw0 _ | exact am_nw01 | rfl | assumption) ?_
    rw [if_pos b86] at H
    exact H
  · refine Z_c1 rfl rfl rfl (E_neg (c_goOn0 hR.1 hD hB) b86) ?_
    show Zs _ _ (am_P 112).2 (89, [(0, .ref 0), (1, .int a), (2, .int b), (3, .int c), (4, .int w), (5, .int lt), (6, .int lo), (7, .int (4 : Int32)), (8, .int (2 : Int32)), (9, .int (0 : Int32))], [.int (1 : Int32)]) (HH (gS0 I D c).2 J R T) _
    refine Z_jump 5 rfl ?_
    show Zs _ _ (am_P 112).2 (100, [(0, .ref 0), (1, .int a), (2, .int b), (3, .int c), (4, .int w), (5, .int lt), (6, .int lo), (7, .int (4 : Int32)), (8, .int (2 : Int32)), (9, .int (0 : Int32))], [.int (0 : Int32), .ref 28, .ref 0]) (HH (gS0 I D c).2 J R T) _
    refine Z_c1 rfl rfl rfl (c_stAt28 (K := 0) hR.1 rfl (by omega)) ?_
    show Zs _ _ (am_P 112).2 (103, [(0, .ref 0), (1, .int a), (2, .int b), (3, .int c), (4, .int w), (5, .int lt), (6, .int lo), (7, .int (4 : Int32)), (8, .int (2 : Int32)), (9, .int (0 : Int32))], [.ref 29, .ref 0]) (HH (gS0 I D c).2 J R T) _
    refine Z_jump 5 rfl ?_
    show Zs _ _ (am_P 112).2 (109, [(0, .ref 0), (1, .int a), (2, .int b), (3, .int c), (4, .int w), (5, .int lt), (6, .int lo), (7, .int (4 : Int32)), (8, .int (2 : Int32)), (9, .int (0 : Int32))], [.int (0 : Int32), .int c, .int b, .int a, .int (1 : Int32), .ref 29, .ref 0]) (HH (gS0 I D c).2 J R T) _
    refine Z_c1 rfl rfl rfl (c_pickA) ?_
    show Zs _ _ (am_P 112).2 (112, [(0, .ref 0), (1, .int a), (2, .int b), (3, .int c), (4, .int w), (5, .int lt), (6, .int lo), (7, .int (4 : Int32)), (8, .int (2 : Int32)), (9, .int (0 : Int32))], [.int a, .int (1 : Int32), .ref 29, .ref 0]) (HH (gS0 I D c).2 J R T) _
    show Zs _ _ (am_P 112).2 (112, [(0, .ref 0), (1, .int a), (2, .int b), (3, .int c), (4, .int w), (5, .int lt), (6, .int lo), (7, .int (4 : Int32)), (8, .int (2 : Int32)), (9, .int (0 : Int32))], [.int a, .int (1 : Int32), .ref 29, .ref 0]) (HH (gS0 I D c).2 J R T) _
    by_cases b112 : (gS1 (gS0 I D c).2 D a).1 = -1
    · refine Z_c1 rfl rfl rfl (E_pos (c_goOn1 hR.2.1 hD0 hB0) b112) ?_
      show Zs _ _ (am_P 112).2 (115, [(0, .ref 0), (1, .int a), (2, .int b), (3, .int c), (4, .int w), (5, .int lt), (6, .int lo), (7, .int (4 : Int32)), (8, .int (2 : Int32)), (9, .int (0 : Int32))], [.int (0 : Int32)]) (HH (gS1 (gS0 I D c).2 D a).2 J R T) _
      refine Z_jump 2 rfl ?_
      show Zs _ _ (am_P 112).2 (148, [(0, .ref 0), (1, .int a), (2, .int b), (3, .int c), (4, .int w), (5, .int lt), (6, .int lo), (7, .int (4 : Int32)), (8, .int (2 : Int32)), (9, .int (0 : Int32))], [.int (-1 : Int32)]) (HH (gS1 (gS0 I D c).2 D a).2 J R T) _
      refine Z_rI rfl (by first | exact am_nw0 _ | exact am_nw01 | rfl | assumption) ?_
      rw [if_neg b86, if_pos b112] at H
      exact H
    · refine Z_c1 rfl rfl rfl (E_neg (c_goOn1 hR.2.1 hD0 hB0) b112) ?_
      show Zs _ _ (am_P 112).2 (115, [(0, .ref 0), (1, .int a), (2, .int b), (3, .int c), (4, .int w), (5, .int lt), (6, .int lo), (7, .int (4 : Int32)), (8, .int (2 : Int32)), (9, .int (0 : Int32))], [.int (1 : Int32)]) (HH (gS1 (gS0 I D c).2 D a).2 J R T) _
      refine Z_jump 5 rfl ?_
      show Zs _ _ (am_P 112).2 (124, [(0, .ref 0), (1, .int a), (2, .int b), (3, .int c), (4, .int w), (5, .int lt), (6, .int lo), (7, .int (4 : Int32)), (8, .int (2 : Int32)), (9, .int (0 : Int32))], [.int (1 : Int32), .ref 28, .ref 0]) (HH (gS1 (gS0 I D c).2 D a).2 J R T) _
      refine Z_c1 rfl rfl rfl (c_stAt28 (K := 1) hR.2.1 rfl (by omega)) ?_
      show Zs _ _ (am_P 112).2 (127, [(0, .ref 0), (1, .int a), (2, .int b), (3, .int c), (4, .int w), (5, .int lt), (6, .int lo), (7, .int (4 : Int32)), (8, .int (2 : Int32)), (9, .int (0 : Int32))], [.ref 32, .ref 0]) (HH (gS1 (gS0 I D c).2 D a).2 J R T) _
      refine Z_jump 9 rfl ?_
      show Zs _ _ (am_P 112).2 (138, [(0, .ref 0), (1, .int a), (2, .int b), (3, .int c), (4, .int w), (5, .int lt), (6, .int lo), (7, .int (4 : Int32)), (8, .int (2 : Int32)), (9, .int (0 : Int32))], [.int (1 : Int32), .int c, .int b, .int a, .int (2 : Int32), .ref 32, .ref 0]) (HH (gS1 (gS0 I D c).2 D a).2 J R T) _
      refine Z_c1 rfl rfl rfl (c_pickA) ?_
      show Zs _ _ (am_P 112).2 (141, [(0, .ref 0), (1, .int a), (2, .int b), (3, .int c), (4, .int w), (5, .int lt), (6, .int lo), (7, .int (4 : Int32)), (8, .int (2 : Int32)), (9, .int (0 : Int32))], [.int b, .int (2 : Int32), .ref 32, .ref 0]) (HH (gS1 (gS0 I D c).2 D a).2 J R T) _
      show Zs _ _ (am_P 112).2 (141, [(0, .ref 0), (1, .int a), (2, .int b), (3, .int c), (4, .int w), (5, .int lt), (6, .int lo), (7, .int (4 : Int32)), (8, .int (2 : Int32)), (9, .int (0 : Int32))], [.int b, .int (2 : Int32), .ref 32, .ref 0]) (HH (gS1 (gS0 I D c).2 D a).2 J R T) _
      by_cases b141 : (gS2 (gS1 (gS0 I D c).2 D a).2 D b).1 = -1
      · refine Z_c1 rfl rfl rfl (E_pos (c_goOn2 hR.2.2 hD1 hB1) b141) ?_
        show Zs _ _ (am_P 112).2 (144, [(0, .ref 0), (1, .int a), (2, .int b), (3, .int c), (4, .int w), (5, .int lt), (6, .int lo), (7, .int (4 : Int32)), (8, .int (2 : Int32)), (9, .int (0 : Int32))], [.int (0 : Int32)]) (HH (gS2 (gS1 (gS0 I D c).2 D a).2 D b).2 J R T) _
        refine Z_jump 2 rfl ?_
        show Zs _ _ (am_P 112).2 (148, [(0, .ref 0), (1, .int a), (2, .int b), (3, .int c), (4, .int w), (5, .int lt), (6, .int lo), (7, .int (4 : Int32)), (8, .int (2 : Int32)), (9, .int (0 : Int32))], [.int (-1 : Int32)]) (HH (gS2 (gS1 (gS0 I D c).2 D a).2 D b).2 J R T) _
        refine Z_rI rfl (by first | exact am_nw0 _ | exact am_nw01 | rfl | assumption) ?_
        rw [if_neg b86, if_neg b112, if_pos b141] at H
        exact H
      · refine Z_c1 rfl rfl rfl (E_neg (c_goOn2 hR.2.2 hD1 hB1) b141) ?_
        show Zs _ _ (am_P 112).2 (144, [(0, .ref 0), (1, .int a), (2, .int b), (3, .int c), (4, .int w), (5, .int lt), (6, .int lo), (7, .int (4 : Int32)), (8, .int (2 : Int32)), (9, .int (0 : Int32))], [.int (1 : Int32)]) (HH (gS2 (gS1 (gS0 I D c).2 D a).2 D b).2 J R T) _
        refine Z_jump 2 rfl ?_
        show Zs _ _ (am_P 112).2 (150, [(0, .ref 0), (1, .int a), (2, .int b), (3, .int c), (4, .int w), (5, .int lt), (6, .int lo), (7, .int (4 : Int32)), (8, .int (2 : Int32)), (9, .int (0 : Int32))], [.ref 0]) (HH (gS2 (gS1 (gS0 I D c).2 D a).2 D b).2 J R T) _
        refine Z_c1 rfl rfl rfl (c_spentA hR.2.2) ?_
        show Zs _ _ (am_P 112).2 (153, [(0, .ref 0), (1, .int a), (2, .int b), (3, .int c), (4, .int w), (5, .int lt), (6, .int lo), (7, .int (4 : Int32)), (8, .int (2 : Int32)), (9, .int (0 : Int32))], [.int ((gS2 (gS1 (gS0 I D c).2 D a).2 D b).2 35 3)]) (HH (gS2 (gS1 (gS0 I D c).2 D a).2 D b).2 J R T) _
        refine Z_jump 4 rfl ?_
        refine Z_bd (fun (c159 : lt ≤ ((gS2 (gS1 (gS0 I D c).2 D a).2 D b).2 35 3)) => ?_) (fun (c159 : ¬ (lt ≤ ((gS2 (gS1 (gS0 I D c).2 D a).2 D b).2 35 3))) => ?_)
        · refine Z_jump 2 rfl ?_
          show Zs _ _ (am_P 112).2 (45, [(0, .ref 0), (1, .int a), (2, .int b), (3, .int c), (4, .int w), (5, .int lt), (6, .int lo), (7, .int (5 : Int32)), (8, .int (2 : Int32)), (9, .int (0 : Int32)), (10, .int ((gS2 (gS1 (gS0 I D c).2 D a).2 D b).2 35 3))], []) (HH (gS2 (gS1 (gS0 I D c).2 D a).2 D b).2 J R T) _
          rw [if_neg b86, if_neg b112, if_neg b141, if_pos c159] at H
          exact Zs_wk (c_to5 hR hD2 hB2 H) (lnD rfl) (lnD rfl) (by repeat (first | exact trivial | refine ⟨rfl, ?_⟩))
        · refine Z_jump 6 rfl ?_
          show Zs _ _ (am_P 112).2 (45, [(0, .ref 0), (1, .int a), (2, .int b), (3, .int c), (4, .int w), (5, .int ((gS2 (gS1 (gS0 I D c).2 D a).2 D b).2 35 3)), (6, .int (4 : Int32)), (7, .int (5 : Int32)), (8, .int (2 : Int32)), (9, .int (0 : Int32)), (10, .int ((gS2 (gS1 (gS0 I D c).2 D a).2 D b).2 35 3))], []) (HH (gS2 (gS1 (gS0 I D c).2 D a).2 D b).2 J R T) _
          rw [if_neg b86, if_neg b112, if_neg b141, if_neg c159] at H
          exact Zs_wk (c_to5 hR hD2 hB2 H) (lnD rfl) (lnD rfl) (by repeat (first | exact trivial | refine ⟨rfl, ?_⟩))
theorem c_to3 {D : FD} {a b c w : Int32} {I : hI} {lt lo : Int32} (hR : P28 R) (hD : DC 18 D I R T) (hB : BS I) (H : toQ w J R T Q (to3 D a b c I lt lo)) : Zs sc (d + 13) (am_P 112).2 (45, [(0, .ref 0), (1, .int a), (2, .int b), (3, .int c), (4, .int w), (5, .int lt), (6, .int lo), (7, .int 3)], []) (HH I J R T) Q := by
  have ho := DC_ok hD
  have hD0 := hD
  have hB0 := hB
  have hD1 : DC 18 D (gS1 I D c).2 R T := DC_of hD0 (gS1_c 18 (by omega)) rfl
  have hB1 : BS (gS1 I D c).2 := gS1_BS ho hB0
  have hD2 : DC 18 D (gS2 (gS1 I D c).2 D a).2 R T := DC_of hD1 (gS2_c 18 (by omega)) rfl
  have hB2 : BS (gS2 (gS1 I D c).2 D a).2 := gS2_BS ho hB1
  unfold to3 toM at H
  refine Z_jump 8 rfl ?_
  show Zs _ _ (am_P 112).2 (60, [(0, .ref 0), (1, .int a), (2, .int b), (3, .int c), (4, .int w), (5, .int lt), (6, .int lo), (7, .int (3 : Int32)), (8, .int (1 : Int32))], [.int (3 : Int32)]) (HH I J R T) _
  refine Z_c1 rfl rfl rfl (E_run 30 rfl) ?_
  show Zs _ _ (am_P 112).2 (63, [(0, .ref 0), (1, .int a), (2, .int b), (3, .int c), (4, .int w), (5, .int lt), (6, .int lo), (7, .int (3 : Int32)), (8, .int (1 : Int32))], [.int (2 : Int32)]) (HH I J R T) _
  refine Z_jump 9 rfl ?_
  show Zs _ _ (am_P 112).2 (100, [(0, .ref 0), (1, .int a), (2, .int b), (3, .int c), (4, .int w), (5, .int lt), (6, .int lo), (7, .int (3 : Int32)), (8, .int (1 : Int32)), (9, .int (2 : Int32))], [.int (0 : Int32), .ref 28, .ref 0]) (HH I J R T) _
  refine Z_c1 rfl rfl rfl (c_stAt28 (K := 0) hR.1 rfl (by omega)) ?_
  show Zs _ _ (am_P 112).2 (103, [(0, .ref 0), (1, .int a), (2, .int b), (3, .int c), (4, .int w), (5, .int lt), (6, .int lo), (7, .int (3 : Int32)), (8, .int (1 : Int32)), (9, .int (2 : Int32))], [.ref 29, .ref 0]) (HH I J R T) _
  refine Z_jump 5 rfl ?_
  show Zs _ _ (am_P 112).2 (109, [(0, .ref 0), (1, .int a), (2, .int b), (3, .int c), (4, .int w), (5, .int lt), (6, .int lo), (7, .int (3 : Int32)), (8, .int (1 : Int32)), (9, .int (2 : Int32))], [.int (2 : Int32), .int c, .int b, .int a, .int (1 : Int32), .ref 29, .ref 0]) (HH I J R T) _
  refine Z_c1 rfl rfl rfl (c_pickA) ?_
  show Zs _ _ (am_P 112).2 (112, [(0, .ref 0), (1, .int a), (2, .int b), (3, .int c), (4, .int w), (5, .int lt), (6, .int lo), (7, .int (3 : Int32)), (8, .int (1 : Int32)), (9, .int (2 : Int32))], [.int c, .int (1 : Int32), .ref 29, .ref 0]) (HH I J R T) _
  show Zs _ _ (am_P 112).2 (112, [(0, .ref 0), (1, .int a), (2, .int b), (3, .int c), (4, .int w), (5, .int lt), (6, .int lo), (7, .int (3 : Int32)), (8, .int (1 : Int32)), (9, .int (2 : Int32))], [.int c, .int (1 : Int32), .ref 29, .ref 0]) (HH I J R T) _
  by_cases b112 : (gS1 I D c).1 = -1
  · refine Z_c1 rfl rfl rfl (E_pos (c_goOn1 hR.2.1 hD0 hB0) b112) ?_
    show Zs _ _ (am_P 112).2 (115, [(0, .ref 0), (1, .int a), (2, .int b), (3, .int c), (4, .int w), (5, .int lt), (6, .int lo), (7, .int (3 : Int32)), (8, .int (1 : Int32)), (9, .int (2 : Int32))], [.int (0 : Int32)]) (HH (gS1 I D c).2 J R T) _
    refine Z_jump 2 rfl ?_
    show Zs _ _ (am_P 112).2 (148, [(0, .ref 0), (1, .int a), (2, .int b), (3, .int c), (4, .int w), (5, .int lt), (6, .int lo), (7, .int (3 : Int32)), (8, .int (1 : Int32)), (9, .int (2 : Int32))], [.int (-1 : Int32)]) (HH (gS1 I D c).2 J R T) _
    refine Z_rI rfl (by first | exact am_nw0 _ | exact am_nw01 | rfl | assumption) ?_
    rw [if_pos b112] at H
    exact H
  · refine Z_c1 rfl rfl rfl (E_neg (c_goOn1 hR.2.1 hD0 hB0) b112) ?_
    show Zs _ _ (am_P 112).2 (115, [(0, .ref 0), (1, .int a), (2, .int b), (3, .int c), (4, .int w), (5, .int lt), (6, .int lo), (7, .int (3 : Int32)), (8, .int (1 : Int32)), (9, .int (2 : Int32))], [.int (1 : Int32)]) (HH (gS1 I D c).2 J R T) _
    refine Z_jump 5 rfl ?_
    show Zs _ _ (am_P 112).2 (124, [(0, .ref 0), (1, .int a), (2, .int b), (3, .int c), (4, .int w), (5, .int lt), (6, .int lo), (7, .int (3 : Int32)), (8, .int (1 : Int32)), (9, .int (2 : Int32))], [.int (1 : Int32), .ref 28, .ref 0]) (HH (gS1 I D c).2 J R T) _
    refine Z_c1 rfl rfl rfl (c_stAt28 (K := 1) hR.2.1 rfl (by omega)) ?_
    show Zs _ _ (am_P 112).2 (127, [(0, .ref 0), (1, .int a), (2, .int b), (3, .int c), (4, .int w), (5, .int lt), (6, .int lo), (7, .int (3 : Int32)), (8, .int (1 : Int32)), (9, .int (2 : Int32))], [.ref 32, .ref 0]) (HH (gS1 I D c).2 J R T) _
    refine Z_jump 9 rfl ?_
    show Zs _ _ (am_P 112).2 (138, [(0, .ref 0), (1, .int a), (2, .int b), (3, .int c), (4, .int w), (5, .int lt), (6, .int lo), (7, .int (3 : Int32)), (8, .int (1 : Int32)), (9, .int (2 : Int32))], [.int (0 : Int32), .int c, .int b, .int a, .int (2 : Int32), .ref 32, .ref 0]) (HH (gS1 I D c).2 J R T) _
    refine Z_c1 rfl rfl rfl (c_pickA) ?_
    show Zs _ _ (am_P 112).2 (141, [(0, .ref 0), (1, .int a), (2, .int b), (3, .int c), (4, .int w), (5, .int lt), (6, .int lo), (7, .int (3 : Int32)), (8, .int (1 : Int32)), (9, .int (2 : Int32))], [.int a, .int (2 : Int32), .ref 32, .ref 0]) (HH (gS1 I D c).2 J R T) _
    show Zs _ _ (am_P 112).2 (141, [(0, .ref 0), (1, .int a), (2, .int b), (3, .int c), (4, .int w), (5, .int lt), (6, .int lo), (7, .int (3 : Int32)), (8, .int (1 : Int32)), (9, .int (2 : Int32))], [.int a, .int (2 : Int32), .ref 32, .ref 0]) (HH (gS1 I D c).2 J R T) _
    by_cases b141 : (gS2 (gS1 I D c).2 D a).1 = -1
    · refine Z_c1 rfl rfl rfl (E_pos (c_goOn2 hR.2.2 hD1 hB1) b141) ?_
      show Zs _ _ (am_P 112).2 (144, [(0, .ref 0), (1, .int a), (2, .int b), (3, .int c), (4, .int w), (5, .int lt), (6, .int lo), (7, .int (3 : Int32)), (8, .int (1 : Int32)), (9, .int (2 : Int32))], [.int (0 : Int32)]) (HH (gS2 (gS1 I D c).2 D a).2 J R T) _
      refine Z_jump 2 rfl ?_
      show Zs _ _ (am_P 112).2 (148, [(0, .ref 0), (1, .int a), (2, .int b), (3, .int c), (4, .int w), (5, .int lt), (6, .int lo), (7, .int (3 : Int32)), (8, .int (1 : Int32)), (9, .int (2 : Int32))], [.int (-1 : Int32)]) (HH (gS2 (gS1 I D c).2 D a).2 J R T) _
      refine Z_rI rfl (by first | exact am_nw0 _ | exact am_nw01 | rfl | assumption) ?_
      rw [if_neg b112, if_pos b141] at H
      exact H
    · refine Z_c1 rfl rfl rfl (E_neg (c_goOn2 hR.2.2 hD1 hB1) b141) ?_
      show Zs _ _ (am_P 112).2 (144, [(0, .ref 0), (1, .int a), (2, .int b), (3, .int c), (4, .int w), (5, .int lt), (6, .int lo), (7, .int (3 : Int32)), (8, .int (1 : Int32)), (9, .int (2 : Int32))], [.int (1 : Int32)]) (HH (gS2 (gS1 I D c).2 D a).2 J R T) _
      refine Z_jump 2 rfl ?_
      show Zs _ _ (am_P 112).2 (150, [(0, .ref 0), (1, .int a), (2, .int b), (3, .int c), (4, .int w), (5, .int lt), (6, .int lo), (7, .int (3 : Int32)), (8, .int (1 : Int32)), (9, .int (2 : Int32))], [.ref 0]) (HH (gS2 (gS1 I D c).2 D a).2 J R T) _
      refine Z_c1 rfl rfl rfl (c_spentA hR.2.2) ?_
      show Zs _ _ (am_P 112).2 (153, [(0, .ref 0), (1, .int a), (2, .int b), (3, .int c), (4, .int w), (5, .int lt), (6, .int lo), (7, .int (3 : Int32)), (8, .int (1 : Int32)), (9, .int (2 : Int32))], [.int ((gS2 (gS1 I D c).2 D a).2 35 3)]) (HH (gS2 (gS1 I D c).2 D a).2 J R T) _
      refine Z_jump 4 rfl ?_
      refine Z_bd (fun (c159 : lt ≤ ((gS2 (gS1 I D c).2 D a).2 35 3)) => ?_) (fun (c159 : ¬ (lt ≤ ((gS2 (gS1 I D c).2 D a).2 35 3))) => ?_)
      · refine Z_jump 2 rfl ?_
        show Zs _ _ (am_P 112).2 (45, [(0, .ref 0), (1, .int a), (2, .int b), (3, .int c), (4, .int w), (5, .int lt), (6, .int lo), (7, .int (4 : Int32)), (8, .int (1 : Int32)), (9, .int (2 : Int32)), (10, .int ((gS2 (gS1 I D c).2 D a).2 35 3))], []) (HH (gS2 (gS1 I D c).2 D a).2 J R T) _
        rw [if_neg b112, if_neg b141, if_pos c159] at H
        exact Zs_wk (c_to4 hR hD2 hB2 H) (lnD rfl) (lnD rfl) (by repeat (first | exact trivial | refine ⟨rfl, ?_⟩))
      · refine Z_jump 6 rfl ?_
        show Zs _ _ (am_P 112).2 (45, [(0, .ref 0), (1, .int a), (2, .int b), (3, .int c), (4, .int w), (5, .int ((gS2 (gS1 I D c).2 D a).2 35 3)), (6, .int (3 : Int32)), (7, .int (4 : Int32)), (8, .int (1 : Int32)), (9, .int (2 : Int32)), (10, .int ((gS2 (gS1 I D c).2 D a).2 35 3))], []) (HH (gS2 (gS1 I D c).2 D a).2 J R T) _
        rw [if_neg b112, if_neg b141, if_neg c159] at H
        exact Zs_wk (c_to4 hR hD2 hB2 H) (lnD rfl) (lnD rfl) (by repeat (first | exact trivial | refine ⟨rfl, ?_⟩))
theorem c_to2 {D : FD} {a b c w : Int32} {I : hI} {lt lo : Int32} (hR : P28 R) (hD : DC 18 D I R T) (hB : BS I) (H : toQ w J R T Q (to2 D a b c I lt lo)) : Zs sc (d + 13) (am_P 112).2 (45, [(0, .ref 0), (1, .int a), (2, .int b), (3, .int c), (4, .int w), (5, .int lt), (6, .int lo), (7, .int 2)], []) (HH I J R T) Q := by
  have ho := DC_ok hD
  have hD0 : DC 18 D (gS0 I D b).2 R T := DC_of hD (gS0_c 18 (by omega)) rfl
  have hB0 : BS (gS0 I D b).2 := gS0_BS ho hB
  have hD1 : DC 18 D (gS1 (gS0 I D b).2 D a).2 R T := DC_of hD0 (gS1_c 18 (by omega)) rfl
  have hB1 : BS (gS1 (gS0 I D b).2 D a).2 := gS1_BS ho hB0
  have hD2 : DC 18 D (gS2 (gS1 (gS0 I D b).2 D a).2 D c).2 R T := DC_of hD1 (gS2_c 18 (by omega)) rfl
  have hB2 : BS (gS2 (gS1 (gS0 I D b).2 D a).2 D c).2 := gS2_BS ho hB1
  unfold to2 toN toM at H
  refine Z_jump 8 rfl ?_
  show Zs _ _ (am_P 112).2 (60, [(0, .ref 0), (1, .int a), (2, .int b), (3, .int c), (4, .int w), (5, .int lt), (6, .int lo), (7, .int (2 : Int32)), (8, .int (1 : Int32))], [.int (2 : Int32)]) (HH I J R T) _
  refine Z_c1 rfl rfl rfl (E_run 30 rfl) ?_
  show Zs _ _ (am_P 112).2 (63, [(0, .ref 0), (1, .int a), (2, .int b), (3, .int c), (4, .int w), (5, .int lt), (6, .int lo), (7, .int (2 : Int32)), (8, .int (1 : Int32))], [.int (0 : Int32)]) (HH I J R T) _
  refine Z_jump 13 rfl ?_
  show Zs _ _ (am_P 112).2 (83, [(0, .ref 0), (1, .int a), (2, .int b), (3, .int c), (4, .int w), (5, .int lt), (6, .int lo), (7, .int (2 : Int32)), (8, .int (1 : Int32)), (9, .int (0 : Int32))], [.int (1 : Int32), .int c, .int b, .int a, .int (0 : Int32), .ref 22, .ref 0]) (HH I J R T) _
  refine Z_c1 rfl rfl rfl (c_pickA) ?_
  show Zs _ _ (am_P 112).2 (86, [(0, .ref 0), (1, .int a), (2, .int b), (3, .int c), (4, .int w), (5, .int lt), (6, .int lo), (7, .int (2 : Int32)), (8, .int (1 : Int32)), (9, .int (0 : Int32))], [.int b, .int (0 : Int32), .ref 22, .ref 0]) (HH I J R T) _
  show Zs _ _ (am_P 112).2 (86, [(0, .ref 0), (1, .int a), (2, .int b), (3, .int c), (4, .int w), (5, .int lt), (6, .int lo), (7, .int (2 : Int32)), (8, .int (1 : Int32)), (9, .int (0 : Int32))], [.int b, .int (0 : Int32), .ref 22, .ref 0]) (HH I J R T) _
  by_cases b86 : (gS0 I D b).1 = -1
  · refine Z_c1 rfl rfl rfl (E_pos (c_goOn0 hR.1 hD hB) b86) ?_
    show Zs _ _ (am_P 112).2 (89, [(0, .ref 0), (1, .int a), (2, .int b), (3, .int c), (4, .int w), (5, .int lt), (6, .int lo), (7, .int (2 : Int32)), (8, .int (1 : Int32)), (9, .int (0 : Int32))], [.int (0 : Int32)]) (HH (gS0 I D b).2 J R T) _
    refine Z_jump 2 rfl ?_
    show Zs _ _ (am_P 112).2 (93, [(0, .ref 0), (1, .int a), (2, .int b), (3, .int c), (4, .int w), (5, .int lt), (6, .int lo), (7, .int (2 : Int32)), (8, .int (1 : Int32)), (9, .int (0 : Int32))], [.int (-1 : Int32)]) (HH (gS0 I D b).2 J R T) _
    refine Z_rI rfl (by first | exact am_nw0 _ | exact am_nw01 | rfl | assumption) ?_
    rw [if_pos b86] at H
    exact H
  · refine Z_c1 rfl rfl rfl (E_neg (c_goOn0 hR.1 hD hB) b86) ?_
    show Zs _ _ (am_P 112).2 (89, [(0, .ref 0), (1, .int a), (2, .int b), (3, .int c), (4, .int w), (5, .int lt), (6, .int lo), (7, .int (2 : Int32)), (8, .int (1 : Int32)), (9, .int (0 : Int32))], [.int (1 : Int32)]) (HH (gS0 I D b).2 J R T) _
    refine Z_jump 5 rfl ?_
    show Zs _ _ (am_P 112).2 (100, [(0, .ref 0), (1, .int a), (2, .int b), (3, .int c), (4, .int w), (5, .int lt), (6, .int lo), (7, .int (2 : Int32)), (8, .int (1 : Int32)), (9, .int (0 : Int32))], [.int (0 : Int32), .ref 28, .ref 0]) (HH (gS0 I D b).2 J R T) _
    refine Z_c1 rfl rfl rfl (c_stAt28 (K := 0) hR.1 rfl (by omega)) ?_
    show Zs _ _ (am_P 112).2 (103, [(0, .ref 0), (1, .int a), (2, .int b), (3, .int c), (4, .int w), (5, .int lt), (6, .int lo), (7, .int (2 : Int32)), (8, .int (1 : Int32)), (9, .int (0 : Int32))], [.ref 29, .ref 0]) (HH (gS0 I D b).2 J R T) _
    refine Z_jump 5 rfl ?_
    show Zs _ _ (am_P 112).2 (109, [(0, .ref 0), (1, .int a), (2, .int b), (3, .int c), (4, .int w), (5, .int lt), (6, .int lo), (7, .int (2 : Int32)), (8, .int (1 : Int32)), (9, .int (0 : Int32))], [.int (0 : Int32), .int c, .int b, .int a, .int (1 : Int32), .ref 29, .ref 0]) (HH (gS0 I D b).2 J R T) _
    refine Z_c1 rfl rfl rfl (c_pickA) ?_
    show Zs _ _ (am_P 112).2 (112, [(0, .ref 0), (1, .int a), (2, .int b), (3, .int c), (4, .int w), (5, .int lt), (6, .int lo), (7, .int (2 : Int32)), (8, .int (1 : Int32)), (9, .int (0 : Int32))], [.int a, .int (1 : Int32), .ref 29, .ref 0]) (HH (gS0 I D b).2 J R T) _
    show Zs _ _ (am_P 112).2 (112, [(0, .ref 0), (1, .int a), (2, .int b), (3, .int c), (4, .int w), (5, .int lt), (6, .int lo), (7, .int (2 : Int32)), (8, .int (1 : Int32)), (9, .int (0 : Int32))], [.int a, .int (1 : Int32), .ref 29, .ref 0]) (HH (gS0 I D b).2 J R T) _
    by_cases b112 : (gS1 (gS0 I D b).2 D a).1 = -1
    · refine Z_c1 rfl rfl rfl (E_pos (c_goOn1 hR.2.1 hD0 hB0) b112) ?_
      show Zs _ _ (am_P 112).2 (115, [(0, .ref 0), (1, .int a), (2, .int b), (3, .int c), (4, .int w), (5, .int lt), (6, .int lo), (7, .int (2 : Int32)), (8, .int (1 : Int32)), (9, .int (0 : Int32))], [.int (0 : Int32)]) (HH (gS1 (gS0 I D b).2 D a).2 J R T) _
      refine Z_jump 2 rfl ?_
      show Zs _ _ (am_P 112).2 (148, [(0, .ref 0), (1, .int a), (2, .int b), (3, .int c), (4, .int w), (5, .int lt), (6, .int lo), (7, .int (2 : Int32)), (8, .int (1 : Int32)), (9, .int (0 : Int32))], [.int (-1 : Int32)]) (HH (gS1 (gS0 I D b).2 D a).2 J R T) _
      refine Z_rI rfl (by first | exact am_nw0 _ | exact am_nw01 | rfl | assumption) ?_
      rw [if_neg b86, if_pos b112] at H
      exact H
    · refine Z_c1 rfl rfl rfl (E_neg (c_goOn1 hR.2.1 hD0 hB0) b112) ?_
      show Zs _ _ (am_P 112).2 (115, [(0, .ref 0), (1, .int a), (2, .int b), (3, .int c), (4, .int w), (5, .int lt), (6, .int lo), (7, .int (2 : Int32)), (8, .int (1 : Int32)), (9, .int (0 : Int32))], [.int (1 : Int32)]) (HH (gS1 (gS0 I D b).2 D a).2 J R T) _
      refine Z_jump 5 rfl ?_
      show Zs _ _ (am_P 112).2 (124, [(0, .ref 0), (1, .int a), (2, .int b), (3, .int c), (4, .int w), (5, .int lt), (6, .int lo), (7, .int (2 : Int32)), (8, .int (1 : Int32)), (9, .int (0 : Int32))], [.int (1 : Int32), .ref 28, .ref 0]) (HH (gS1 (gS0 I D b).2 D a).2 J R T) _
      refine Z_c1 rfl rfl rfl (c_stAt28 (K := 1) hR.2.1 rfl (by omega)) ?_
      show Zs _ _ (am_P 112).2 (127, [(0, .ref 0), (1, .int a), (2, .int b), (3, .int c), (4, .int w), (5, .int lt), (6, .int lo), (7, .int (2 : Int32)), (8, .int (1 : Int32)), (9, .int (0 : Int32))], [.ref 32, .ref 0]) (HH (gS1 (gS0 I D b).2 D a).2 J R T) _
      refine Z_jump 9 rfl ?_
      show Zs _ _ (am_P 112).2 (138, [(0, .ref 0), (1, .int a), (2, .int b), (3, .int c), (4, .int w), (5, .int lt), (6, .int lo), (7, .int (2 : Int32)), (8, .int (1 : Int32)), (9, .int (0 : Int32))], [.int (2 : Int32), .int c, .int b, .int a, .int (2 : Int32), .ref 32, .ref 0]) (HH (gS1 (gS0 I D b).2 D a).2 J R T) _
      refine Z_c1 rfl rfl rfl (c_pickA) ?_
      show Zs _ _ (am_P 112).2 (141, [(0, .ref 0), (1, .int a), (2, .int b), (3, .int c), (4, .int w), (5, .int lt), (6, .int lo), (7, .int (2 : Int32)), (8, .int (1 : Int32)), (9, .int (0 : Int32))], [.int c, .int (2 : Int32), .ref 32, .ref 0]) (HH (gS1 (gS0 I D b).2 D a).2 J R T) _
      show Zs _ _ (am_P 112).2 (141, [(0, .ref 0), (1, .int a), (2, .int b), (3, .int c), (4, .int w), (5, .int lt), (6, .int lo), (7, .int (2 : Int32)), (8, .int (1 : Int32)), (9, .int (0 : Int32))], [.int c, .int (2 : Int32), .ref 32, .ref 0]) (HH (gS1 (gS0 I D b).2 D a).2 J R T) _
      by_cases b141 : (gS2 (gS1 (gS0 I D b).2 D a).2 D c).1 = -1
      · refine Z_c1 rfl rfl rfl (E_pos (c_goOn2 hR.2.2 hD1 hB1) b141) ?_
        show Zs _ _ (am_P 112).2 (144, [(0, .ref 0), (1, .int a), (2, .int b), (3, .int c), (4, .int w), (5, .int lt), (6, .int lo), (7, .int (2 : Int32)), (8, .int (1 : Int32)), (9, .int (0 : Int32))], [.int (0 : Int32)]) (HH (gS2 (gS1 (gS0 I D b).2 D a).2 D c).2 J R T) _
        refine Z_jump 2 rfl ?_
        show Zs _ _ (am_P 112).2 (148, [(0, .ref 0), (1, .int a), (2, .int b), (3, .int c), (4, .int w), (5, .int lt), (6, .int lo), (7, .int (2 : Int32)), (8, .int (1 : Int32)), (9, .int (0 : Int32))], [.int (-1 : Int32)]) (HH (gS2 (gS1 (gS0 I D b).2 D a).2 D c).2 J R T) _
        refine Z_rI rfl (by first | exact am_nw0 _ | exact am_nw01 | rfl | assumption) ?_
        rw [if_neg b86, if_neg b112, if_pos b141] at H
        exact H
      · refine Z_c1 rfl rfl rfl (E_neg (c_goOn2 hR.2.2 hD1 hB1) b141) ?_
        show Zs _ _ (am_P 112).2 (144, [(0, .ref 0), (1, .int a), (2, .int b), (3, .int c), (4, .int w), (5, .int lt), (6, .int lo), (7, .int (2 : Int32)), (8, .int (1 : Int32)), (9, .int (0 : Int32))], [.int (1 : Int32)]) (HH (gS2 (gS1 (gS0 I D b).2 D a).2 D c).2 J R T) _
        refine Z_jump 2 rfl ?_
        show Zs _ _ (am_P 112).2 (150, [(0, .ref 0), (1, .int a), (2, .int b), (3, .int c), (4, .int w), (5, .int lt), (6, .int lo), (7, .int (2 : Int32)), (8, .int (1 : Int32)), (9, .int (0 : Int32))], [.ref 0]) (HH (gS2 (gS1 (gS0 I D b).2 D a).2 D c).2 J R T) _
        refine Z_c1 rfl rfl rfl (c_spentA hR.2.2) ?_
        show Zs _ _ (am_P 112).2 (153, [(0, .ref 0), (1, .int a), (2, .int b), (3, .int c), (4, .int w), (5, .int lt), (6, .int lo), (7, .int (2 : Int32)), (8, .int (1 : Int32)), (9, .int (0 : Int32))], [.int ((gS2 (gS1 (gS0 I D b).2 D a).2 D c).2 35 3)]) (HH (gS2 (gS1 (gS0 I D b).2 D a).2 D c).2 J R T) _
        refine Z_jump 4 rfl ?_
        refine Z_bd (fun (c159 : lt ≤ ((gS2 (gS1 (gS0 I D b).2 D a).2 D c).2 35 3)) => ?_) (fun (c159 : ¬ (lt ≤ ((gS2 (gS1 (gS0 I D b).2 D a).2 D c).2 35 3))) => ?_)
        · refine Z_jump 2 rfl ?_
          show Zs _ _ (am_P 112).2 (45, [(0, .ref 0), (1, .int a), (2, .int b), (3, .int c), (4, .int w), (5, .int lt), (6, .int lo), (7, .int (3 : Int32)), (8, .int (1 : Int32)), (9, .int (0 : Int32)), (10, .int ((gS2 (gS1 (gS0 I D b).2 D a).2 D c).2 35 3))], []) (HH (gS2 (gS1 (gS0 I D b).2 D a).2 D c).2 J R T) _
          rw [if_neg b86, if_neg b112, if_neg b141, if_pos c159] at H
          exact Zs_wk (c_to3 hR hD2 hB2 H) (lnD rfl) (lnD rfl) (by repeat (first | exact trivial | refine ⟨rfl, ?_⟩))
        · refine Z_jump 6 rfl ?_
          show Zs _ _ (am_P 112).2 (45, [(0, .ref 0), (1, .int a), (2, .int b), (3, .int c), (4, .int w), (5, .int ((gS2 (gS1 (gS0 I D b).2 D a).2 D c).2 35 3)), (6, .int (2 : Int32)), (7, .int (3 : Int32)), (8, .int (1 : Int32)), (9, .int (0 : Int32)), (10, .int ((gS2 (gS1 (gS0 I D b).2 D a).2 D c).2 35 3))], []) (HH (gS2 (gS1 (gS0 I D b).2 D a).2 D c).2 J R T) _
          rw [if_neg b86, if_neg b112, if_neg b141, if_neg c159] at H
          exact Zs_wk (c_to3 hR hD2 hB2 H) (lnD rfl) (lnD rfl) (by repeat (first | exact trivial | refine ⟨rfl, ?_⟩))
theorem c_to1 {D : FD} {a b c w : Int32} {I : hI} {lt lo : Int32} (hR : P28 R) (hD : DC 18 D I R T) (hB : BS I) (H : toQ w J R T Q (to1 D a b c I lt lo)) : Zs sc (d + 13) (am_P 112).2 (45, [(0, .ref 0), (1, .int a), (2, .int b), (3, .int c), (4, .int w), (5, .int lt), (6, .int lo), (7, .int 1)], []) (HH I J R T) Q := by
  have ho := DC_ok hD
  have hD0 := hD
  have hB0 := hB
  have hD1 : DC 18 D (gS1 I D c).2 R T := DC_of hD0 (gS1_c 18 (by omega)) rfl
  have hB1 : BS (gS1 I D c).2 := gS1_BS ho hB0
  have hD2 : DC 18 D (gS2 (gS1 I D c).2 D b).2 R T := DC_of hD1 (gS2_c 18 (by omega)) rfl
  have hB2 : BS (gS2 (gS1 I D c).2 D b).2 := gS2_BS ho hB1
  unfold to1 toM at H
  refine Z_jump 8 rfl ?_
  show Zs _ _ (am_P 112).2 (60, [(0, .ref 0), (1, .int a), (2, .int b), (3, .int c), (4, .int w), (5, .int lt), (6, .int lo), (7, .int (1 : Int32)), (8, .int (0 : Int32))], [.int (1 : Int32)]) (HH I J R T) _
  refine Z_c1 rfl rfl rfl (E_run 30 rfl) ?_
  show Zs _ _ (am_P 112).2 (63, [(0, .ref 0), (1, .int a), (2, .int b), (3, .int c), (4, .int w), (5, .int lt), (6, .int lo), (7, .int (1 : Int32)), (8, .int (0 : Int32))], [.int (2 : Int32)]) (HH I J R T) _
  refine Z_jump 9 rfl ?_
  show Zs _ _ (am_P 112).2 (100, [(0, .ref 0), (1, .int a), (2, .int b), (3, .int c), (4, .int w), (5, .int lt), (6, .int lo), (7, .int (1 : Int32)), (8, .int (0 : Int32)), (9, .int (2 : Int32))], [.int (0 : Int32), .ref 28, .ref 0]) (HH I J R T) _
  refine Z_c1 rfl rfl rfl (c_stAt28 (K := 0) hR.1 rfl (by omega)) ?_
  show Zs _ _ (am_P 112).2 (103, [(0, .ref 0), (1, .int a), (2, .int b), (3, .int c), (4, .int w), (5, .int lt), (6, .int lo), (7, .int (1 : Int32)), (8, .int (0 : Int32)), (9, .int (2 : Int32))], [.ref 29, .ref 0]) (HH I J R T) _
  refine Z_jump 5 rfl ?_
  show Zs _ _ (am_P 112).2 (109, [(0, .ref 0), (1, .int a), (2, .int b), (3, .int c), (4, .int w), (5, .int lt), (6, .int lo), (7, .int (1 : Int32)), (8, .int (0 : Int32)), (9, .int (2 : Int32))], [.int (2 : Int32), .int c, .int b, .int a, .int (1 : Int32), .ref 29, .ref 0]) (HH I J R T) _
  refine Z_c1 rfl rfl rfl (c_pickA) ?_
  show Zs _ _ (am_P 112).2 (112, [(0, .ref 0), (1, .int a), (2, .int b), (3, .int c), (4, .int w), (5, .int lt), (6, .int lo), (7, .int (1 : Int32)), (8, .int (0 : Int32)), (9, .int (2 : Int32))], [.int c, .int (1 : Int32), .ref 29, .ref 0]) (HH I J R T) _
  show Zs _ _ (am_P 112).2 (112, [(0, .ref 0), (1, .int a), (2, .int b), (3, .int c), (4, .int w), (5, .int lt), (6, .int lo), (7, .int (1 : Int32)), (8, .int (0 : Int32)), (9, .int (2 : Int32))], [.int c, .int (1 : Int32), .ref 29, .ref 0]) (HH I J R T) _
  by_cases b112 : (gS1 I D c).1 = -1
  · refine Z_c1 rfl rfl rfl (E_pos (c_goOn1 hR.2.1 hD0 hB0) b112) ?_
    show Zs _ _ (am_P 112).2 (115, [(0, .ref 0), (1, .int a), (2, .int b), (3, .int c), (4, .int w), (5, .int lt), (6, .int lo), (7, .int (1 : Int32)), (8, .int (0 : Int32)), (9, .int (2 : Int32))], [.int (0 : Int32)]) (HH (gS1 I D c).2 J R T) _
    refine Z_jump 2 rfl ?_
    show Zs _ _ (am_P 112).2 (148, [(0, .ref 0), (1, .int a), (2, .int b), (3, .int c), (4, .int w), (5, .int lt), (6, .int lo), (7, .int (1 : Int32)), (8, .int (0 : Int32)), (9, .int (2 : Int32))], [.int (-1 : Int32)]) (HH (gS1 I D c).2 J R T) _
    refine Z_rI rfl (by first | exact am_nw0 _ | exact am_nw01 | rfl | assumption) ?_
    rw [if_pos b112] at H
    exact H
  · refine Z_c1 rfl rfl rfl (E_neg (c_goOn1 hR.2.1 hD0 hB0) b112) ?_
    show Zs _ _ (am_P 112).2 (115, [(0, .ref 0), (1, .int a), (2, .int b), (3, .int c), (4, .int w), (5, .int lt), (6, .int lo), (7, .int (1 : Int32)), (8, .int (0 : Int32)), (9, .int (2 : Int32))], [.int (1 : Int32)]) (HH (gS1 I D c).2 J R T) _
    refine Z_jump 5 rfl ?_
    show Zs _ _ (am_P 112).2 (124, [(0, .ref 0), (1, .int a), (2, .int b), (3, .int c), (4, .int w), (5, .int lt), (6, .int lo), (7, .int (1 : Int32)), (8, .int (0 : Int32)), (9, .int (2 : Int32))], [.int (1 : Int32), .ref 28, .ref 0]) (HH (gS1 I D c).2 J R T) _
    refine Z_c1 rfl rfl rfl (c_stAt28 (K := 1) hR.2.1 rfl (by omega)) ?_
    show Zs _ _ (am_P 112).2 (127, [(0, .ref 0), (1, .int a), (2, .int b), (3, .int c), (4, .int w), (5, .int lt), (6, .int lo), (7, .int (1 : Int32)), (8, .int (0 : Int32)), (9, .int (2 : Int32))], [.ref 32, .ref 0]) (HH (gS1 I D c).2 J R T) _
    refine Z_jump 9 rfl ?_
    show Zs _ _ (am_P 112).2 (138, [(0, .ref 0), (1, .int a), (2, .int b), (3, .int c), (4, .int w), (5, .int lt), (6, .int lo), (7, .int (1 : Int32)), (8, .int (0 : Int32)), (9, .int (2 : Int32))], [.int (1 : Int32), .int c, .int b, .int a, .int (2 : Int32), .ref 32, .ref 0]) (HH (gS1 I D c).2 J R T) _
    refine Z_c1 rfl rfl rfl (c_pickA) ?_
    show Zs _ _ (am_P 112).2 (141, [(0, .ref 0), (1, .int a), (2, .int b), (3, .int c), (4, .int w), (5, .int lt), (6, .int lo), (7, .int (1 : Int32)), (8, .int (0 : Int32)), (9, .int (2 : Int32))], [.int b, .int (2 : Int32), .ref 32, .ref 0]) (HH (gS1 I D c).2 J R T) _
    show Zs _ _ (am_P 112).2 (141, [(0, .ref 0), (1, .int a), (2, .int b), (3, .int c), (4, .int w), (5, .int lt), (6, .int lo), (7, .int (1 : Int32)), (8, .int (0 : Int32)), (9, .int (2 : Int32))], [.int b, .int (2 : Int32), .ref 32, .ref 0]) (HH (gS1 I D c).2 J R T) _
    by_cases b141 : (gS2 (gS1 I D c).2 D b).1 = -1
    · refine Z_c1 rfl rfl rfl (E_pos (c_goOn2 hR.2.2 hD1 hB1) b141) ?_
      show Zs _ _ (am_P 112).2 (144, [(0, .ref 0), (1, .int a), (2, .int b), (3, .int c), (4, .int w), (5, .int lt), (6, .int lo), (7, .int (1 : Int32)), (8, .int (0 : Int32)), (9, .int (2 : Int32))], [.int (0 : Int32)]) (HH (gS2 (gS1 I D c).2 D b).2 J R T) _
      refine Z_jump 2 rfl ?_
      show Zs _ _ (am_P 112).2 (148, [(0, .ref 0), (1, .int a), (2, .int b), (3, .int c), (4, .int w), (5, .int lt), (6, .int lo), (7, .int (1 : Int32)), (8, .int (0 : Int32)), (9, .int (2 : Int32))], [.int (-1 : Int32)]) (HH (gS2 (gS1 I D c).2 D b).2 J R T) _
      refine Z_rI rfl (by first | exact am_nw0 _ | exact am_nw01 | rfl | assumption) ?_
      rw [if_neg b112, if_pos b141] at H
      exact H
    · refine Z_c1 rfl rfl rfl (E_neg (c_goOn2 hR.2.2 hD1 hB1) b141) ?_
      show Zs _ _ (am_P 112).2 (144, [(0, .ref 0), (1, .int a), (2, .int b), (3, .int c), (4, .int w), (5, .int lt), (6, .int lo), (7, .int (1 : Int32)), (8, .int (0 : Int32)), (9, .int (2 : Int32))], [.int (1 : Int32)]) (HH (gS2 (gS1 I D c).2 D b).2 J R T) _
      refine Z_jump 2 rfl ?_
      show Zs _ _ (am_P 112).2 (150, [(0, .ref 0), (1, .int a), (2, .int b), (3, .int c), (4, .int w), (5, .int lt), (6, .int lo), (7, .int (1 : Int32)), (8, .int (0 : Int32)), (9, .int (2 : Int32))], [.ref 0]) (HH (gS2 (gS1 I D c).2 D b).2 J R T) _
      refine Z_c1 rfl rfl rfl (c_spentA hR.2.2) ?_
      show Zs _ _ (am_P 112).2 (153, [(0, .ref 0), (1, .int a), (2, .int b), (3, .int c), (4, .int w), (5, .int lt), (6, .int lo), (7, .int (1 : Int32)), (8, .int (0 : Int32)), (9, .int (2 : Int32))], [.int ((gS2 (gS1 I D c).2 D b).2 35 3)]) (HH (gS2 (gS1 I D c).2 D b).2 J R T) _
      refine Z_jump 4 rfl ?_
      refine Z_bd (fun (c159 : lt ≤ ((gS2 (gS1 I D c).2 D b).2 35 3)) => ?_) (fun (c159 : ¬ (lt ≤ ((gS2 (gS1 I D c).2 D b).2 35 3))) => ?_)
      · refine Z_jump 2 rfl ?_
        show Zs _ _ (am_P 112).2 (45, [(0, .ref 0), (1, .int a), (2, .int b), (3, .int c), (4, .int w), (5, .int lt), (6, .int lo), (7, .int (2 : Int32)), (8, .int (0 : Int32)), (9, .int (2 : Int32)), (10, .int ((gS2 (gS1 I D c).2 D b).2 35 3))], []) (HH (gS2 (gS1 I D c).2 D b).2 J R T) _
        rw [if_neg b112, if_neg b141, if_pos c159] at H
        exact Zs_wk (c_to2 hR hD2 hB2 H) (lnD rfl) (lnD rfl) (by repeat (first | exact trivial | refine ⟨rfl, ?_⟩))
      · refine Z_jump 6 rfl ?_
        show Zs _ _ (am_P 112).2 (45, [(0, .ref 0), (1, .int a), (2, .int b), (3, .int c), (4, .int w), (5, .int ((gS2 (gS1 I D c).2 D b).2 35 3)), (6, .int (1 : Int32)), (7, .int (2 : Int32)), (8, .int (0 : Int32)), (9, .int (2 : Int32)), (10, .int ((gS2 (gS1 I D c).2 D b).2 35 3))], []) (HH (gS2 (gS1 I D c).2 D b).2 J R T) _
        rw [if_neg b112, if_neg b141, if_neg c159] at H
        exact Zs_wk (c_to2 hR hD2 hB2 H) (lnD rfl) (lnD rfl) (by repeat (first | exact trivial | refine ⟨rfl, ?_⟩))
theorem c_to0 {D : FD} {a b c w : Int32} {I : hI} {lt lo : Int32} (hR : P28 R) (hD : DC 18 D I R T) (hB : BS I) (H : toQ w J R T Q (to0 D a b c I lt lo)) : Zs sc (d + 13) (am_P 112).2 (45, [(0, .ref 0), (1, .int a), (2, .int b), (3, .int c), (4, .int w), (5, .int lt), (6, .int lo), (7, .int 0)], []) (HH I J R T) Q := by
  have ho := DC_ok hD
  have hD0 : DC 18 D (gS0 I D a).2 R T := DC_of hD (gS0_c 18 (by omega)) rfl
  have hB0 : BS (gS0 I D a).2 := gS0_BS ho hB
  have hD1 : DC 18 D (gS1 (gS0 I D a).2 D b).2 R T := DC_of hD0 (gS1_c 18 (by omega)) rfl
  have hB1 : BS (gS1 (gS0 I D a).2 D b).2 := gS1_BS ho hB0
  have hD2 : DC 18 D (gS2 (gS1 (gS0 I D a).2 D b).2 D c).2 R T := DC_of hD1 (gS2_c 18 (by omega)) rfl
  have hB2 : BS (gS2 (gS1 (gS0 I D a).2 D b).2 D c).2 := gS2_BS ho hB1
  unfold to0 toN toM at H
  refine Z_jump 8 rfl ?_
  show Zs _ _ (am_P 112).2 (60, [(0, .ref 0), (1, .int a), (2, .int b), (3, .int c), (4, .int w), (5, .int lt), (6, .int lo), (7, .int (0 : Int32)), (8, .int (0 : Int32))], [.int (0 : Int32)]) (HH I J R T) _
  refine Z_c1 rfl rfl rfl (E_run 30 rfl) ?_
  show Zs _ _ (am_P 112).2 (63, [(0, .ref 0), (1, .int a), (2, .int b), (3, .int c), (4, .int w), (5, .int lt), (6, .int lo), (7, .int (0 : Int32)), (8, .int (0 : Int32))], [.int (1 : Int32)]) (HH I J R T) _
  refine Z_jump 13 rfl ?_
  show Zs _ _ (am_P 112).2 (83, [(0, .ref 0), (1, .int a), (2, .int b), (3, .int c), (4, .int w), (5, .int lt), (6, .int lo), (7, .int (0 : Int32)), (8, .int (0 : Int32)), (9, .int (1 : Int32))], [.int (0 : Int32), .int c, .int b, .int a, .int (0 : Int32), .ref 22, .ref 0]) (HH I J R T) _
  refine Z_c1 rfl rfl rfl (c_pickA) ?_
  show Zs _ _ (am_P 112).2 (86, [(0, .ref 0), (1, .int a), (2, .int b), (3, .int c), (4, .int w), (5, .int lt), (6, .int lo), (7, .int (0 : Int32)), (8, .int (0 : Int32)), (9, .int (1 : Int32))], [.int a, .int (0 : Int32), .ref 22, .ref 0]) (HH I J R T) _
  show Zs _ _ (am_P 112).2 (86, [(0, .ref 0), (1, .int a), (2, .int b), (3, .int c), (4, .int w), (5, .int lt), (6, .int lo), (7, .int (0 : Int32)), (8, .int (0 : Int32)), (9, .int (1 : Int32))], [.int a, .int (0 : Int32), .ref 22, .ref 0]) (HH I J R T) _
  by_cases b86 : (gS0 I D a).1 = -1
  · refine Z_c1 rfl rfl rfl (E_pos (c_goOn0 hR.1 hD hB) b86) ?_
    show Zs _ _ (am_P 112).2 (89, [(0, .ref 0), (1, .int a), (2, .int b), (3, .int c), (4, .int w), (5, .int lt), (6, .int lo), (7, .int (0 : Int32)), (8, .int (0 : Int32)), (9, .int (1 : Int32))], [.int (0 : Int32)]) (HH (gS0 I D a).2 J R T) _
    refine Z_jump 2 rfl ?_
    show Zs _ _ (am_P 112).2 (93, [(0, .ref 0), (1, .int a), (2, .int b), (3, .int c), (4, .int w), (5, .int lt), (6, .int lo), (7, .int (0 : Int32)), (8, .int (0 : Int32)), (9, .int (1 : Int32))], [.int (-1 : Int32)]) (HH (gS0 I D a).2 J R T) _
    refine Z_rI rfl (by first | exact am_nw0 _ | exact am_nw01 | rfl | assumption) ?_
    rw [if_pos b86] at H
    exact H
  · refine Z_c1 rfl rfl rfl (E_neg (c_goOn0 hR.1 hD hB) b86) ?_
    show Zs _ _ (am_P 112).2 (89, [(0, .ref 0), (1, .int a), (2, .int b), (3, .int c), (4, .int w), (5, .int lt), (6, .int lo), (7, .int (0 : Int32)), (8, .int (0 : Int32)), (9, .int (1 : Int32))], [.int (1 : Int32)]) (HH (gS0 I D a).2 J R T) _
    refine Z_jump 5 rfl ?_
    show Zs _ _ (am_P 112).2 (100, [(0, .ref 0), (1, .int a), (2, .int b), (3, .int c), (4, .int w), (5, .int lt), (6, .int lo), (7, .int (0 : Int32)), (8, .int (0 : Int32)), (9, .int (1 : Int32))], [.int (0 : Int32), .ref 28, .ref 0]) (HH (gS0 I D a).2 J R T) _
    refine Z_c1 rfl rfl rfl (c_stAt28 (K := 0) hR.1 rfl (by omega)) ?_
    show Zs _ _ (am_P 112).2 (103, [(0, .ref 0), (1, .int a), (2, .int b), (3, .int c), (4, .int w), (5, .int lt), (6, .int lo), (7, .int (0 : Int32)), (8, .int (0 : Int32)), (9, .int (1 : Int32))], [.ref 29, .ref 0]) (HH (gS0 I D a).2 J R T) _
    refine Z_jump 5 rfl ?_
    show Zs _ _ (am_P 112).2 (109, [(0, .ref 0), (1, .int a), (2, .int b), (3, .int c), (4, .int w), (5, .int lt), (6, .int lo), (7, .int (0 : Int32)), (8, .int (0 : Int32)), (9, .int (1 : Int32))], [.int (1 : Int32), .int c, .int b, .int a, .int (1 : Int32), .ref 29, .ref 0]) (HH (gS0 I D a).2 J R T) _
    refine Z_c1 rfl rfl rfl (c_pickA) ?_
    show Zs _ _ (am_P 112).2 (112, [(0, .ref 0), (1, .int a), (2, .int b), (3, .int c), (4, .int w), (5, .int lt), (6, .int lo), (7, .int (0 : Int32)), (8, .int (0 : Int32)), (9, .int (1 : Int32))], [.int b, .int (1 : Int32), .ref 29, .ref 0]) (HH (gS0 I D a).2 J R T) _
    show Zs _ _ (am_P 112).2 (112, [(0, .ref 0), (1, .int a), (2, .int b), (3, .int c), (4, .int w), (5, .int lt), (6, .int lo), (7, .int (0 : Int32)), (8, .int (0 : Int32)), (9, .int (1 : Int32))], [.int b, .int (1 : Int32), .ref 29, .ref 0]) (HH (gS0 I D a).2 J R T) _
    by_cases b112 : (gS1 (gS0 I D a).2 D b).1 = -1
    · refine Z_c1 rfl rfl rfl (E_pos (c_goOn1 hR.2.1 hD0 hB0) b112) ?_
      show Zs _ _ (am_P 112).2 (115, [(0, .ref 0), (1, .int a), (2, .int b), (3, .int c), (4, .int w), (5, .int lt), (6, .int lo), (7, .int (0 : Int32)), (8, .int (0 : Int32)), (9, .int (1 : Int32))], [.int (0 : Int32)]) (HH (gS1 (gS0 I D a).2 D b).2 J R T) _
      refine Z_jump 2 rfl ?_
      show Zs _ _ (am_P 112).2 (148, [(0, .ref 0), (1, .int a), (2, .int b), (3, .int c), (4, .int w), (5, .int lt), (6, .int lo), (7, .int (0 : Int32)), (8, .int (0 : Int32)), (9, .int (1 : Int32))], [.int (-1 : Int32)]) (HH (gS1 (gS0 I D a).2 D b).2 J R T) _
      refine Z_rI rfl (by first | exact am_nw0 _ | exact am_nw01 | rfl | assumption) ?_
      rw [if_neg b86, if_pos b112] at H
      exact H
    · refine Z_c1 rfl rfl rfl (E_neg (c_goOn1 hR.2.1 hD0 hB0) b112) ?_
      show Zs _ _ (am_P 112).2 (115, [(0, .ref 0), (1, .int a), (2, .int b), (3, .int c), (4, .int w), (5, .int lt), (6, .int lo), (7, .int (0 : Int32)), (8, .int (0 : Int32)), (9, .int (1 : Int32))], [.int (1 : Int32)]) (HH (gS1 (gS0 I D a).2 D b).2 J R T) _
      refine Z_jump 5 rfl ?_
      show Zs _ _ (am_P 112).2 (124, [(0, .ref 0), (1, .int a), (2, .int b), (3, .int c), (4, .int w), (5, .int lt), (6, .int lo), (7, .int (0 : Int32)), (8, .int (0 : Int32)), (9, .int (1 : Int32))], [.int (1 : Int32), .ref 28, .ref 0]) (HH (gS1 (gS0 I D a).2 D b).2 J R T) _
      refine Z_c1 rfl rfl rfl (c_stAt28 (K := 1) hR.2.1 rfl (by omega)) ?_
      show Zs _ _ (am_P 112).2 (127, [(0, .ref 0), (1, .int a), (2, .int b), (3, .int c), (4, .int w), (5, .int lt), (6, .int lo), (7, .int (0 : Int32)), (8, .int (0 : Int32)), (9, .int (1 : Int32))], [.ref 32, .ref 0]) (HH (gS1 (gS0 I D a).2 D b).2 J R T) _
      refine Z_jump 9 rfl ?_
      show Zs _ _ (am_P 112).2 (138, [(0, .ref 0), (1, .int a), (2, .int b), (3, .int c), (4, .int w), (5, .int lt), (6, .int lo), (7, .int (0 : Int32)), (8, .int (0 : Int32)), (9, .int (1 : Int32))], [.int (2 : Int32), .int c, .int b, .int a, .int (2 : Int32), .ref 32, .ref 0]) (HH (gS1 (gS0 I D a).2 D b).2 J R T) _
      refine Z_c1 rfl rfl rfl (c_pickA) ?_
      show Zs _ _ (am_P 112).2 (141, [(0, .ref 0), (1, .int a), (2, .int b), (3, .int c), (4, .int w), (5, .int lt), (6, .int lo), (7, .int (0 : Int32)), (8, .int (0 : Int32)), (9, .int (1 : Int32))], [.int c, .int (2 : Int32), .ref 32, .ref 0]) (HH (gS1 (gS0 I D a).2 D b).2 J R T) _
      show Zs _ _ (am_P 112).2 (141, [(0, .ref 0), (1, .int a), (2, .int b), (3, .int c), (4, .int w), (5, .int lt), (6, .int lo), (7, .int (0 : Int32)), (8, .int (0 : Int32)), (9, .int (1 : Int32))], [.int c, .int (2 : Int32), .ref 32, .ref 0]) (HH (gS1 (gS0 I D a).2 D b).2 J R T) _
      by_cases b141 : (gS2 (gS1 (gS0 I D a).2 D b).2 D c).1 = -1
      · refine Z_c1 rfl rfl rfl (E_pos (c_goOn2 hR.2.2 hD1 hB1) b141) ?_
        show Zs _ _ (am_P 112).2 (144, [(0, .ref 0), (1, .int a), (2, .int b), (3, .int c), (4, .int w), (5, .int lt), (6, .int lo), (7, .int (0 : Int32)), (8, .int (0 : Int32)), (9, .int (1 : Int32))], [.int (0 : Int32)]) (HH (gS2 (gS1 (gS0 I D a).2 D b).2 D c).2 J R T) _
        refine Z_jump 2 rfl ?_
        show Zs _ _ (am_P 112).2 (148, [(0, .ref 0), (1, .int a), (2, .int b), (3, .int c), (4, .int w), (5, .int lt), (6, .int lo), (7, .int (0 : Int32)), (8, .int (0 : Int32)), (9, .int (1 : Int32))], [.int (-1 : Int32)]) (HH (gS2 (gS1 (gS0 I D a).2 D b).2 D c).2 J R T) _
        refine Z_rI rfl (by first | exact am_nw0 _ | exact am_nw01 | rfl | assumption) ?_
        rw [if_neg b86, if_neg b112, if_pos b141] at H
        exact H
      · refine Z_c1 rfl rfl rfl (E_neg (c_goOn2 hR.2.2 hD1 hB1) b141) ?_
        show Zs _ _ (am_P 112).2 (144, [(0, .ref 0), (1, .int a), (2, .int b), (3, .int c), (4, .int w), (5, .int lt), (6, .int lo), (7, .int (0 : Int32)), (8, .int (0 : Int32)), (9, .int (1 : Int32))], [.int (1 : Int32)]) (HH (gS2 (gS1 (gS0 I D a).2 D b).2 D c).2 J R T) _
        refine Z_jump 2 rfl ?_
        show Zs _ _ (am_P 112).2 (150, [(0, .ref 0), (1, .int a), (2, .int b), (3, .int c), (4, .int w), (5, .int lt), (6, .int lo), (7, .int (0 : Int32)), (8, .int (0 : Int32)), (9, .int (1 : Int32))], [.ref 0]) (HH (gS2 (gS1 (gS0 I D a).2 D b).2 D c).2 J R T) _
        refine Z_c1 rfl rfl rfl (c_spentA hR.2.2) ?_
        show Zs _ _ (am_P 112).2 (153, [(0, .ref 0), (1, .int a), (2, .int b), (3, .int c), (4, .int w), (5, .int lt), (6, .int lo), (7, .int (0 : Int32)), (8, .int (0 : Int32)), (9, .int (1 : Int32))], [.int ((gS2 (gS1 (gS0 I D a).2 D b).2 D c).2 35 3)]) (HH (gS2 (gS1 (gS0 I D a).2 D b).2 D c).2 J R T) _
        refine Z_jump 4 rfl ?_
        refine Z_bd (fun (c159 : lt ≤ ((gS2 (gS1 (gS0 I D a).2 D b).2 D c).2 35 3)) => ?_) (fun (c159 : ¬ (lt ≤ ((gS2 (gS1 (gS0 I D a).2 D b).2 D c).2 35 3))) => ?_)
        · refine Z_jump 2 rfl ?_
          show Zs _ _ (am_P 112).2 (45, [(0, .ref 0), (1, .int a), (2, .int b), (3, .int c), (4, .int w), (5, .int lt), (6, .int lo), (7, .int (1 : Int32)), (8, .int (0 : Int32)), (9, .int (1 : Int32)), (10, .int ((gS2 (gS1 (gS0 I D a).2 D b).2 D c).2 35 3))], []) (HH (gS2 (gS1 (gS0 I D a).2 D b).2 D c).2 J R T) _
          rw [if_neg b86, if_neg b112, if_neg b141, if_pos c159] at H
          exact Zs_wk (c_to1 hR hD2 hB2 H) (lnD rfl) (lnD rfl) (by repeat (first | exact trivial | refine ⟨rfl, ?_⟩))
        · refine Z_jump 6 rfl ?_
          show Zs _ _ (am_P 112).2 (45, [(0, .ref 0), (1, .int a), (2, .int b), (3, .int c), (4, .int w), (5, .int ((gS2 (gS1 (gS0 I D a).2 D b).2 D c).2 35 3)), (6, .int (0 : Int32)), (7, .int (1 : Int32)), (8, .int (0 : Int32)), (9, .int (1 : Int32)), (10, .int ((gS2 (gS1 (gS0 I D a).2 D b).2 D c).2 35 3))], []) (HH (gS2 (gS1 (gS0 I D a).2 D b).2 D c).2 J R T) _
          rw [if_neg b86, if_neg b112, if_neg b141, if_neg c159] at H
          exact Zs_wk (c_to1 hR hD2 hB2 H) (lnD rfl) (lnD rfl) (by repeat (first | exact trivial | refine ⟨rfl, ?_⟩))
def tourF (I : hI) (D : FD) (a b c w : Int32) : Option (Option (Int32 × Int32)) × hI :=
  if M_mil a then (if M_mil b then (if M_mil c then (if w < 0 then (none, I) else if w ≤ 1 then (some (to0 D a b c I 1048576 (-1)).1, (to0 D a b c I 1048576 (-1)).2) else (none, I)) else (none, I)) else (none, I)) else (none, I)
theorem c_tour {I : hI} {D : FD} {a b c w : Int32} (hR : P28 R) (hD : DC 18 D I R T) (hB : BS I) : am_E sc (d + 14) 112 [.ref 0, .int a, .int b, .int c, .int w] (HH I J R T) (some (.int (match (tourF I D a b c w).1 with
    | none => -3
    | some none => -1
    | some (some p) => if w = 0 then p.1 else p.2))) (HH (tourF I D a b c w).2 J R T) := by
  refine E_Z (Ze_of (Nat.le_of_ble_eq_true rfl) ?_)
  unfold tourF
  refine Z_jump 1 rfl ?_
  show Zs _ _ (am_P 112).2 (1, [(0, .ref 0), (1, .int a), (2, .int b), (3, .int c), (4, .int w)], [.int a]) (HH I J R T) _
  by_cases b1 : M_mil a
  · refine Z_c1 rfl rfl rfl (E_pos (c_isOfTour) b1) ?_
    show Zs _ _ (am_P 112).2 (4, [(0, .ref 0), (1, .int a), (2, .int b), (3, .int c), (4, .int w)], [.int (1 : Int32)]) (HH I J R T) _
    refine Z_jump 2 rfl ?_
    show Zs _ _ (am_P 112).2 (8, [(0, .ref 0), (1, .int a), (2, .int b), (3, .int c), (4, .int w)], [.int b]) (HH I J R T) _
    by_cases b8 : M_mil b
    · refine Z_c1 rfl rfl rfl (E_pos (c_isOfTour) b8) ?_
      show Zs _ _ (am_P 112).2 (11, [(0, .ref 0), (1, .int a), (2, .int b), (3, .int c), (4, .int w)], [.int (1 : Int32)]) (HH I J R T) _
      refine Z_jump 2 rfl ?_
      show Zs _ _ (am_P 112).2 (15, [(0, .ref 0), (1, .int a), (2, .int b), (3, .int c), (4, .int w)], [.int c]) (HH I J R T) _
      by_cases b15 : M_mil c
      · refine Z_c1 rfl rfl rfl (E_pos (c_isOfTour) b15) ?_
        show Zs _ _ (am_P 112).2 (18, [(0, .ref 0), (1, .int a), (2, .int b), (3, .int c), (4, .int w)], [.int (1 : Int32)]) (HH I J R T) _
        refine Z_jump 3 rfl ?_
        refine Z_bd (fun (c23 : w < (0 : Int32)) => ?_) (fun (c23 : ¬ (w < (0 : Int32))) => ?_)
        · refine Z_jump 1 rfl ?_
          show Zs _ _ (am_P 112).2 (34, [(0, .ref 0), (1, .int a), (2, .int b), (3, .int c), (4, .int w)], [.int (-3 : Int32)]) (HH I J R T) _
          refine Z_rI rfl (by first | exact am_nw0 _ | exact am_nw01 | rfl | assumption) ?_
          rw [if_pos b1, if_pos b8, if_pos b15, if_pos c23]
          exact ⟨rfl, rfl⟩
        · refine Z_jump 3 rfl ?_
          refine Z_bd (fun (c29 : w ≤ (1 : Int32)) => ?_) (fun (c29 : ¬ (w ≤ (1 : Int32))) => ?_)
          · refine Z_jump 6 rfl ?_
            show Zs _ _ (am_P 112).2 (45, [(0, .ref 0), (1, .int a), (2, .int b), (3, .int c), (4, .int w), (5, .int (1048576 : Int32)), (6, .int (-1 : Int32)), (7, .int (0 : Int32))], []) (HH I J R T) _
            rw [if_pos b1, if_pos b8, if_pos b15, if_neg c23, if_pos c29]
            refine c_to0 hR hD hB ?_
            unfold toQ
            cases (to0 D a b c I 1048576 (-1)).1 with
            | none => exact ⟨rfl, rfl⟩
            | some p => exact ⟨rfl, rfl⟩
          · refine Z_jump 1 rfl ?_
            show Zs _ _ (am_P 112).2 (34, [(0, .ref 0), (1, .int a), (2, .int b), (3, .int c), (4, .int w)], [.int (-3 : Int32)]) (HH I J R T) _
            refine Z_rI rfl (by first | exact am_nw0 _ | exact am_nw01 | rfl | assumption) ?_
            rw [if_pos b1, if_pos b8, if_pos b15, if_neg c23, if_neg c29]
            exact ⟨rfl, rfl⟩
      · refine Z_c1 rfl rfl rfl (E_neg (c_isOfTour) b15) ?_
        show Zs _ _ (am_P 112).2 (18, [(0, .ref 0), (1, .int a), (2, .int b), (3, .int c), (4, .int w)], [.int (0 : Int32)]) (HH I J R T) _
        refine Z_jump 2 rfl ?_
        show Zs _ _ (am_P 112).2 (34, [(0, .ref 0), (1, .int a), (2, .int b), (3, .int c), (4, .int w)], [.int (-3 : Int32)]) (HH I J R T) _
        refine Z_rI rfl (by first | exact am_nw0 _ | exact am_nw01 | rfl | assumption) ?_
        rw [if_pos b1, if_pos b8, if_neg b15]
        exact ⟨rfl, rfl⟩
    · refine Z_c1 rfl rfl rfl (E_neg (c_isOfTour) b8) ?_
      show Zs _ _ (am_P 112).2 (11, [(0, .ref 0), (1, .int a), (2, .int b), (3, .int c), (4, .int w)], [.int (0 : Int32)]) (HH I J R T) _
      refine Z_jump 2 rfl ?_
      show Zs _ _ (am_P 112).2 (34, [(0, .ref 0), (1, .int a), (2, .int b), (3, .int c), (4, .int w)], [.int (-3 : Int32)]) (HH I J R T) _
      refine Z_rI rfl (by first | exact am_nw0 _ | exact am_nw01 | rfl | assumption) ?_
      rw [if_pos b1, if_neg b8]
      exact ⟨rfl, rfl⟩
  · refine Z_c1 rfl rfl rfl (E_neg (c_isOfTour) b1) ?_
    show Zs _ _ (am_P 112).2 (4, [(0, .ref 0), (1, .int a), (2, .int b), (3, .int c), (4, .int w)], [.int (0 : Int32)]) (HH I J R T) _
    refine Z_jump 2 rfl ?_
    show Zs _ _ (am_P 112).2 (34, [(0, .ref 0), (1, .int a), (2, .int b), (3, .int c), (4, .int w)], [.int (-3 : Int32)]) (HH I J R T) _
    refine Z_rI rfl (by first | exact am_nw0 _ | exact am_nw01 | rfl | assumption) ?_
    rw [if_neg b1]
    exact ⟨rfl, rfl⟩
end TOU

