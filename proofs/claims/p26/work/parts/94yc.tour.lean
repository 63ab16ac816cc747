/-! The class: tour. -/
section TOU
variable {sc : Nat × (Nat → Int32)} {d : Nat} {J : hJ} {R : hR} {T : am_H} {Q : Option Value → am_H → Prop}
/-- Standing.copy, exactly -/
def cp1 (a b i : Nat) (I : hI) : hI := sf (sf I (a + 1) i (I (b + 1) i)) (a + 2) i (sf I (a + 1) i (I (b + 1) i) (b + 2) i)
def cpl (a b : Nat) : Nat → Nat → hI → hI
  | 0, _, I => I
  | k + 1, i, I => cpl a b k (i + 1) (cp1 a b i I)
def cpF (I : hI) (a b : Nat) : hI := sf (sf (cpl a b 6 0 I) a 2 (cpl a b 6 0 I b 2)) a 3 (sf (cpl a b 6 0 I) a 2 (cpl a b 6 0 I b 2) b 3)
theorem cpl_SB {a b : Nat} {I0 : hI} (ha : isSt a) (hb : isSt b) (hne : a ≠ b) : ∀ (k i : Nat) (I : hI), SB a b I0 i I → SB a b I0 (i + k) (cpl a b k i I)
  | 0, i, I, h => h
  | k + 1, i, I, h => by
    unfold cpl
    have := cpl_SB ha hb hne k (i + 1) _ (SB_s ha hb hne h)
    rw [show i + (k + 1) = i + 1 + k by omega]
    exact this
theorem cpF_CP {a b : Nat} {I : hI} (ha : isSt a) (hb : isSt b) (hne : a ≠ b) : CP a b I (cpF I a b) := by
  obtain ⟨⟨d1, d2⟩, ⟨d3, d4, d5⟩, d6, d7, d8⟩ := st_dis a ha b hb hne
  have hR := cpl_SB ha hb hne 6 0 I ⟨fun _ _ _ => rfl, fun k hk => absurd hk (by omega)⟩
  unfold cpF
  refine ⟨fun c h1 h2 h3 => ?_, fun k hk => ?_, ?_, ?_⟩
  · rw [sf_c h1, sf_c h1]; exact hR.1 c h2 h3
  · rw [sf_c (by omega), sf_c (by omega), sf_c (by omega), sf_c (by omega)]; exact hR.2 k (by omega)
  · rw [sf_k (by decide), sf_s, hR.1 b d1 d2]
  · rw [sf_s, sf_c (Ne.symm hne), hR.1 b d1 d2]
theorem c_cpl {a b : Nat} (ha : isSt a) (hb : isSt b) : ∀ (k i : Nat) (I : hI) (x : Int32), i + k = 6 → x = nI i → Zs sc (d + 1) (am_P 33).2 (51, [(0, .ref a), (1, .ref b)], []) (HH (cpl a b k i I) J R T) Q → Zs sc (d + 1) (am_P 33).2 (7, [(0, .ref a), (1, .ref b), (2, .int x)], []) (HH I J R T) Q
  | 0, i, I, x, hi, hx, H => by
    refine Z_jump 3 rfl ?_
    refine Z_bd (fun c10 => ?_) (fun c10 => absurd ((show (6 : Int32) ≤ x by rw [hx]; exact nI_le (a := 6) (by omega) (by omega))) c10)
    show Zs _ _ (am_P 33).2 (51, [(0, .ref a), (1, .ref b), (2, .int x)], []) (HH I J R T) _
    exact Zs_wk (H) (lnD rfl) (lnD rfl) (by repeat (first | exact trivial | refine ⟨rfl, ?_⟩))
  | k + 1, i, I, x, hi, hx, H => by
    refine Z_jump 3 rfl ?_
    refine Z_bd (fun c10 => absurd c10 ((show ¬ (6 : Int32) ≤ x by rw [hx]; exact nI_ge (b := 6) (by omega) (by omega)))) (fun c10 => ?_)
    refine Z_jump 1 rfl ?_
    show Zs _ _ (am_P 33).2 (14, [(0, .ref a), (1, .ref b), (2, .int x)], [.ref a]) (HH I J R T) _
    refine Z_gf rfl (st_0 ha) rfl rfl ?_
    refine Z_jump 2 rfl ?_
    show Zs _ _ (am_P 33).2 (19, [(0, .ref a), (1, .ref b), (2, .int x)], [.ref b, .int x, .ref (a + 1)]) (HH I J R T) _
    refine Z_gf rfl (st_0 hb) rfl rfl ?_
    refine Z_jump 1 rfl ?_
    show Zs _ _ (am_P 33).2 (23, [(0, .ref a), (1, .ref b), (2, .int x)], [.int x, .ref (b + 1), .int x, .ref (a + 1)]) (HH I J R T) _
    refine Z_c1 rfl rfl rfl (k_at1 hb hx (by omega)) ?_
    show Zs _ _ (am_P 33).2 (26, [(0, .ref a), (1, .ref b), (2, .int x)], [.int (I (b + 1) i), .int x, .ref (a + 1)]) (HH I J R T) _
    show Zs _ _ (am_P 33).2 (26, [(0, .ref a), (1, .ref b), (2, .int x)], [.int (I (b + 1) i), .int x, .ref (a + 1)]) (HH I J R T) _
    refine Z_c0 rfl rfl rfl (k_put1 ha hx (by omega)) ?_
    show Zs _ _ (am_P 33).2 (29, [(0, .ref a), (1, .ref b), (2, .int x)], []) (HH (sf I (a + 1) i (I (b + 1) i)) J R T) _
    refine Z_jump 1 rfl ?_
    show Zs _ _ (am_P 33).2 (30, [(0, .ref a), (1, .ref b), (2, .int x)], [.ref a]) (HH (sf I (a + 1) i (I (b + 1) i)) J R T) _
    refine Z_gf rfl (st_0 ha) rfl rfl ?_
    refine Z_jump 2 rfl ?_
    show Zs _ _ (am_P 33).2 (35, [(0, .ref a), (1, .ref b), (2, .int x)], [.ref b, .int x, .ref (a + 2)]) (HH (sf I (a + 1) i (I (b + 1) i)) J R T) _
    refine Z_gf rfl (st_0 hb) rfl rfl ?_
    refine Z_jump 1 rfl ?_
    show Zs _ _ (am_P 33).2 (39, [(0, .ref a), (1, .ref b), (2, .int x)], [.int x, .ref (b + 2), .int x, .ref (a + 2)]) (HH (sf I (a + 1) i (I (b + 1) i)) J R T) _
    refine Z_c1 rfl rfl rfl (k_at2 hb hx (by omega)) ?_
    show Zs _ _ (am_P 33).2 (42, [(0, .ref a), (1, .ref b), (2, .int x)], [.int ((sf I (a + 1) i (I (b + 1) i)) (b + 2) i), .int x, .ref (a + 2)]) (HH (sf I (a + 1) i (I (b + 1) i)) J R T) _
    show Zs _ _ (am_P 33).2 (42, [(0, .ref a), (1, .ref b), (2, .int x)], [.int ((sf I (a + 1) i (I (b + 1) i)) (b + 2) i), .int x, .ref (a + 2)]) (HH (sf I (a + 1) i (I (b + 1) i)) J R T) _
    refine Z_c0 rfl rfl rfl (k_put2 ha hx (by omega)) ?_
    show Zs _ _ (am_P 33).2 (45, [(0, .ref a), (1, .ref b), (2, .int x)], []) (HH (cp1 a b i I) J R T) _
    refine Z_jump 2 rfl ?_
    show Zs _ _ (am_P 33).2 (7, [(0, .ref a), (1, .ref b), (2, .int (x + 1))], []) (HH (cp1 a b i I) J R T) _
    exact c_cpl ha hb k (i + 1) _ _ (by omega) (by rw [hx]; exact nI_1 i) H
theorem c_copyE {a b : Nat} {I : hI} (ha : isSt a) (hb : isSt b) : am_E sc (d + 2) 33 [.ref a, .ref b] (HH I J R T) none (HH (cpF I a b) J R T) := by
  refine E_Z (Ze_of (Nat.le_of_ble_eq_true rfl) ?_)
  refine Z_jump 4 rfl ?_
  show Zs _ _ (am_P 33).2 (7, [(0, .ref a), (1, .ref b), (2, .int (0 : Int32))], []) (HH I J R T) _
  refine c_cpl ha hb 6 0 _ _ (by omega) rfl ?_
  refine Z_jump 2 rfl ?_
  show Zs _ _ (am_P 33).2 (53, [(0, .ref a), (1, .ref b)], [.ref b, .ref a]) (HH (cpl a b 6 0 I) J R T) _
  refine Z_gf rfl (st_0 hb) rfl rfl ?_
  show Zs _ _ (am_P 33).2 (56, [(0, .ref a), (1, .ref b)], [.int (cpl a b 6 0 I b 2), .ref a]) (HH (cpl a b 6 0 I) J R T) _
  refine Z_pfS2 ha rfl ?_
  show Zs _ _ (am_P 33).2 (59, [(0, .ref a), (1, .ref b)], []) (HH (sf (cpl a b 6 0 I) a 2 (cpl a b 6 0 I b 2)) J R T) _
  refine Z_jump 2 rfl ?_
  show Zs _ _ (am_P 33).2 (61, [(0, .ref a), (1, .ref b)], [.ref b, .ref a]) (HH (sf (cpl a b 6 0 I) a 2 (cpl a b 6 0 I b 2)) J R T) _
  refine Z_gf rfl (st_0 hb) rfl rfl ?_
  show Zs _ _ (am_P 33).2 (64, [(0, .ref a), (1, .ref b)], [.int (sf (cpl a b 6 0 I) a 2 (cpl a b 6 0 I b 2) b 3), .ref a]) (HH (sf (cpl a b 6 0 I) a 2 (cpl a b 6 0 I b 2)) J R T) _
  refine Z_pfS3 ha rfl ?_
  show Zs _ _ (am_P 33).2 (67, [(0, .ref a), (1, .ref b)], []) (HH (sf (sf (cpl a b 6 0 I) a 2 (cpl a b 6 0 I b 2)) a 3 (sf (cpl a b 6 0 I) a 2 (cpl a b 6 0 I b 2) b 3)) J R T) _
  show Zs _ _ (am_P 33).2 (67, [(0, .ref a), (1, .ref b)], []) (HH (sf (sf (cpl a b 6 0 I) a 2 (cpl a b 6 0 I b 2)) a 3 (sf (cpl a b 6 0 I) a 2 (cpl a b 6 0 I b 2) b 3)) J R T) _
  refine Z_ret rfl rfl rfl ?_
  exact ⟨rfl, rfl⟩
theorem c_pickA {a b c w : Int32} {I : hI} : am_E sc (d + 1) 137 [.int a, .int b, .int c, .int w] (HH I J R T) (some (.int (if w = 0 then a else if w = 1 then b else c))) (HH I J R T) := by
  refine E_Z (Ze_of (Nat.le_of_ble_eq_true rfl) ?_)
  refine Z_jump 2 rfl ?_
  refine Z_bn (fun (c1 : ¬ (w = (0 : Int32))) => ?_) (fun (c1 : w = (0 : Int32)) => ?_)
  · refine Z_jump 3 rfl ?_
    refine Z_bn (fun (c8 : ¬ (w = (1 : Int32))) => ?_) (fun (c8 : w = (1 : Int32)) => ?_)
    · refine Z_jump 1 rfl ?_
      show Zs _ _ (am_P 137).2 (16, [(0, .int a), (1, .int b), (2, .int c), (3, .int w)], [.int c]) (HH I J R T) _
      refine Z_rI rfl (by first | exact am_nw0 _ | exact am_nw01 | rfl | assumption) ?_
      exact ⟨am_ii (by rw [if_neg c1, if_neg c8]), rfl⟩
    · refine Z_jump 2 rfl ?_
      show Zs _ _ (am_P 137).2 (16, [(0, .int a), (1, .int b), (2, .int c), (3, .int w)], [.int b]) (HH I J R T) _
      refine Z_rI rfl (by first | exact am_nw0 _ | exact am_nw01 | rfl | assumption) ?_
      exact ⟨am_ii (by rw [if_neg c1, if_pos c8]), rfl⟩
  · refine Z_jump 1 rfl ?_
    show Zs _ _ (am_P 137).2 (5, [(0, .int a), (1, .int b), (2, .int c), (3, .int w)], [.int a]) (HH I J R T) _
    refine Z_rI rfl (by first | exact am_nw0 _ | exact am_nw01 | rfl | assumption) ?_
    exact ⟨am_ii (by rw [if_pos c1]), rfl⟩
end TOU

