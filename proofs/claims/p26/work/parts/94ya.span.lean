/-! The class: sift, gap, nearestShown, span, nearest. -/
section WY9
variable {sc : Nat × (Nat → Int32)} {d : Nat} {J : hJ} {R : hR} {T : am_H} {Q : Option Value → am_H → Prop}
def lsF (I : hI) (i : Nat) : Int32 := if am_rd 7 (I 14) (nI i) - 39 < 0 then 0 else am_rd 7 (I 14) (nI i) - 39
def s1F (I : hI) (i : Nat) : hI := sf (sf I 14 (i + 1) (lsF I i / baseF I (nI i))) 15 (i + 1) (am_rd 7 (I 15) (nI i) / baseF I (nI i))
def sl1 : Nat → Nat → hI → hI
  | 0, _, I => I
  | k + 1, i, I => sl1 k (i + 1) (s1F I i)
def sl2 : Nat → hI → hI
  | 0, I => I
  | i + 1, I => sl2 i (sifF I i)
def sitF (I : hI) (n : Nat) (fr up : Int32) : hI := sl2 (n + 1) (sl1 n 0 (sf (sf I 14 0 (if fr < 0 then 0 else fr)) 15 0 up))
theorem s1F_c {I : hI} {i c : Nat} (h4 : c ≠ 14) (h5 : c ≠ 15) : s1F I i c = I c := by
  unfold s1F
  rw [sf_c h5, sf_c h4]
theorem sl1_c {c : Nat} (h4 : c ≠ 14) (h5 : c ≠ 15) : ∀ (k i : Nat) (I : hI), sl1 k i I c = I c
  | 0, i, I => rfl
  | k + 1, i, I => by unfold sl1; rw [sl1_c h4 h5 k, s1F_c h4 h5]
theorem sl2_c {c : Nat} (h6 : c ≠ 16) (h7 : c ≠ 17) : ∀ (k : Nat) (I : hI), sl2 k I c = I c
  | 0, I => rfl
  | k + 1, I => by unfold sl2; rw [sl2_c h6 h7 k, sifF_c h6 h7]
theorem sitF_c {I : hI} {n c : Nat} {fr up : Int32} (h4 : c ≠ 14) (h5 : c ≠ 15) (h6 : c ≠ 16) (h7 : c ≠ 17) : sitF I n fr up c = I c := by
  unfold sitF
  rw [sl2_c h6 h7, sl1_c h4 h5, sf_c h5, sf_c h4]
theorem SG_of {I I' : hI} (h : SG I) (e : I' 14 = I 14) : SG I' := fun j hj => by rw [e]; exact h j hj
theorem s1F_SG {I : hI} {i : Nat} (hi : i < 6) (hB : BS I) (h : SG I) : SG (s1F I i) := by
  intro j hj
  unfold s1F
  rw [sf_c (by decide)]
  by_cases e : j = i + 1
  · subst e
    rw [sf_s]
    have hb := baseF_b (x := nI i) hB
    have hg := h i (by omega)
    rw [ti_div hb.1]
    have hl : 0 ≤ (lsF I i).toInt ∧ (lsF I i).toInt ≤ 1500000000 := by
      have z39 : (39 : Int32).toInt = 39 := rfl
      have z0 : (0 : Int32).toInt = 0 := rfl
      have e1 : (am_rd 7 (I 14) (nI i) - 39).toInt = (I 14 i).toInt - 39 := by rw [rd_7 (by omega), ti_sub] <;> omega
      unfold lsF
      split
      · omega
      · rename_i hc
        rw [fi_lt] at hc
        omega
    have h1 := Int.tdiv_nonneg hl.1 (show 0 ≤ (baseF I (nI i)).toInt by omega)
    have h2 := Int.tdiv_le_self (baseF I (nI i)).toInt hl.1
    omega
  · rw [sf_k e]
    exact h j hj
theorem c_sl1 {n : Nat} {fr up : Int32} (hn6 : n ≤ 6) (H : ∀ I, True → Q none (HH I J R T) → True) : ∀ (k i : Nat) (I : hI) (x : Int32), i + k = n → x = nI i → I 4 13 = nI n → BS I → Zs sc (d + 4) (am_P 84).2 (97, [(0, .ref 4), (1, .int fr), (2, .int up)], []) (HH (sl1 k i I) J R T) Q → Zs sc (d + 4) (am_P 84).2 (24, [(0, .ref 4), (1, .int fr), (2, .int up), (3, .int x)], []) (HH I J R T) Q
  | 0, i, I, x, hi, hx, hn, hB, H => by
    refine Z_jump 4 rfl ?_
    refine Z_bd (fun c29 => ?_) (fun c29 => absurd ((show I 4 13 ≤ x by rw [hn, hx]; exact nI_le (by omega) (by omega))) c29)
    show Zs _ _ (am_P 84).2 (97, [(0, .ref 4), (1, .int fr), (2, .int up), (3, .int x)], []) (HH I J R T) _
    exact Zs_wk (H) (lnD rfl) (lnD rfl) (by repeat (first | exact trivial | refine ⟨rfl, ?_⟩))
  | k + 1, i, I, x, hi, hx, hn, hB, H => by
    have ex : x + 1 = nI (i + 1) := by rw [hx]; exact nI_1 i
    have e1 : nI i + 1 = nI (i + 1) := nI_1 i
    subst hx
    refine Z_jump 4 rfl ?_
    refine Z_bd (fun c29 => absurd c29 ((show ¬ I 4 13 ≤ nI i by rw [hn]; exact nI_ge (by omega) (by omega)))) (fun c29 => ?_)
    refine Z_jump 3 rfl ?_
    show Zs _ _ (am_P 84).2 (37, [(0, .ref 4), (1, .int fr), (2, .int up), (3, .int (nI i))], [.int (nI i), .ref 14]) (HH I J R T) _
    refine Z_c1 rfl rfl rfl (k_at (a := 14) (L := 7) (f := I 14) rfl (by decide)) ?_
    show Zs _ _ (am_P 84).2 (40, [(0, .ref 4), (1, .int fr), (2, .int up), (3, .int (nI i))], [.int (am_rd 7 (I 14) (nI i))]) (HH I J R T) _
    refine Z_jump 4 rfl ?_
    show Zs _ _ (am_P 84).2 (47, [(0, .ref 4), (1, .int fr), (2, .int up), (3, .int (nI i))], [.int (if ((am_rd 7 (I 14) (nI i)) - (39 : Int32)) < (0 : Int32) then (0 : Int32) else ((am_rd 7 (I 14) (nI i)) - (39 : Int32)))]) (HH I J R T) _
    refine Z_eqI (y := (lsF I i)) (rfl) ?_
    show Zs _ _ (am_P 84).2 (47, [(0, .ref 4), (1, .int fr), (2, .int up), (3, .int (nI i))], [.int (lsF I i)]) (HH I J R T) _
    refine Z_jump 6 rfl ?_
    show Zs _ _ (am_P 84).2 (56, [(0, .ref 4), (1, .int fr), (2, .int up), (3, .int (nI i)), (4, .int (lsF I i))], [.int ((nI i) + (1 : Int32)), .ref 14]) (HH I J R T) _
    refine Z_eqI (y := (nI (i + 1))) (e1) ?_
    show Zs _ _ (am_P 84).2 (56, [(0, .ref 4), (1, .int fr), (2, .int up), (3, .int (nI i)), (4, .int (lsF I i))], [.int (nI (i + 1)), .ref 14]) (HH I J R T) _
    refine Z_jump 3 rfl ?_
    show Zs _ _ (am_P 84).2 (60, [(0, .ref 4), (1, .int fr), (2, .int up), (3, .int (nI i)), (4, .int (lsF I i))], [.int (nI i), .ref 4, .int (lsF I i), .int (nI (i + 1)), .ref 14]) (HH I J R T) _
    refine Z_c1 rfl rfl rfl (c_baseOf) ?_
    show Zs _ _ (am_P 84).2 (63, [(0, .ref 4), (1, .int fr), (2, .int up), (3, .int (nI i)), (4, .int (lsF I i))], [.int (baseF I (nI i)), .int (lsF I i), .int (nI (i + 1)), .ref 14]) (HH I J R T) _
    show Zs _ _ (am_P 84).2 (63, [(0, .ref 4), (1, .int fr), (2, .int up), (3, .int (nI i)), (4, .int (lsF I i))], [.int (baseF I (nI i)), .int (lsF I i), .int (nI (i + 1)), .ref 14]) (HH I J R T) _
    refine Z_idiv rfl (by exact baseF_0) ?_
    show Zs _ _ (am_P 84).2 (64, [(0, .ref 4), (1, .int fr), (2, .int up), (3, .int (nI i)), (4, .int (lsF I i))], [.int ((lsF I i) / (baseF I (nI i))), .int (nI (i + 1)), .ref 14]) (HH I J R T) _
    refine Z_c0 rfl rfl rfl (k_putK (a := 14) (L := 7) (f := I 14) (i := i + 1) rfl rfl (by omega) (by decide)) ?_
    show Zs _ _ (am_P 84).2 (67, [(0, .ref 4), (1, .int fr), (2, .int up), (3, .int (nI i)), (4, .int (lsF I i))], []) (HH (sf I 14 (i + 1) (lsF I i / baseF I (nI i))) J R T) _
    refine Z_jump 5 rfl ?_
    show Zs _ _ (am_P 84).2 (74, [(0, .ref 4), (1, .int fr), (2, .int up), (3, .int (nI i)), (4, .int (lsF I i))], [.int ((nI i) + (1 : Int32)), .ref 15]) (HH (sf I 14 (i + 1) (lsF I i / baseF I (nI i))) J R T) _
    refine Z_eqI (y := (nI (i + 1))) (e1) ?_
    show Zs _ _ (am_P 84).2 (74, [(0, .ref 4), (1, .int fr), (2, .int up), (3, .int (nI i)), (4, .int (lsF I i))], [.int (nI (i + 1)), .ref 15]) (HH (sf I 14 (i + 1) (lsF I i / baseF I (nI i))) J R T) _
    refine Z_jump 3 rfl ?_
    show Zs _ _ (am_P 84).2 (79, [(0, .ref 4), (1, .int fr), (2, .int up), (3, .int (nI i)), (4, .int (lsF I i))], [.int (nI i), .ref 15, .int (nI (i + 1)), .ref 15]) (HH (sf I 14 (i + 1) (lsF I i / baseF I (nI i))) J R T) _
    refine Z_c1 rfl rfl rfl (k_at (a := 15) (L := 7) (f := I 15) rfl (by decide)) ?_
    show Zs _ _ (am_P 84).2 (82, [(0, .ref 4), (1, .int fr), (2, .int up), (3, .int (nI i)), (4, .int (lsF I i))], [.int (am_rd 7 (I 15) (nI i)), .int (nI (i + 1)), .ref 15]) (HH (sf I 14 (i + 1) (lsF I i / baseF I (nI i))) J R T) _
    refine Z_jump 2 rfl ?_
    show Zs _ _ (am_P 84).2 (84, [(0, .ref 4), (1, .int fr), (2, .int up), (3, .int (nI i)), (4, .int (lsF I i))], [.int (nI i), .ref 4, .int (am_rd 7 (I 15) (nI i)), .int (nI (i + 1)), .ref 15]) (HH (sf I 14 (i + 1) (lsF I i / baseF I (nI i))) J R T) _
    refine Z_c1 rfl rfl rfl (c_baseOf) ?_
    show Zs _ _ (am_P 84).2 (87, [(0, .ref 4), (1, .int fr), (2, .int up), (3, .int (nI i)), (4, .int (lsF I i))], [.int (baseF I (nI i)), .int (am_rd 7 (I 15) (nI i)), .int (nI (i + 1)), .ref 15]) (HH (sf I 14 (i + 1) (lsF I i / baseF I (nI i))) J R T) _
    show Zs _ _ (am_P 84).2 (87, [(0, .ref 4), (1, .int fr), (2, .int up), (3, .int (nI i)), (4, .int (lsF I i))], [.int (baseF I (nI i)), .int (am_rd 7 (I 15) (nI i)), .int (nI (i + 1)), .ref 15]) (HH (sf I 14 (i + 1) (lsF I i / baseF I (nI i))) J R T) _
    refine Z_idiv rfl (by exact baseF_0) ?_
    show Zs _ _ (am_P 84).2 (88, [(0, .ref 4), (1, .int fr), (2, .int up), (3, .int (nI i)), (4, .int (lsF I i))], [.int ((am_rd 7 (I 15) (nI i)) / (baseF I (nI i))), .int (nI (i + 1)), .ref 15]) (HH (sf I 14 (i + 1) (lsF I i / baseF I (nI i))) J R T) _
    refine Z_c0 rfl rfl rfl (k_putK (a := 15) (L := 7) (f := I 15) (i := i + 1) rfl rfl (by omega) (by decide)) ?_
    show Zs _ _ (am_P 84).2 (91, [(0, .ref 4), (1, .int fr), (2, .int up), (3, .int (nI i)), (4, .int (lsF I i))], []) (HH (s1F I i) J R T) _
    refine Z_jump 2 rfl ?_
    show Zs _ _ (am_P 84).2 (24, [(0, .ref 4), (1, .int fr), (2, .int up), (3, .int ((nI i) + 1)), (4, .int (lsF I i))], []) (HH (s1F I i) J R T) _
    exact Zs_wk (c_sl1 hn6 (fun _ _ _ => trivial) k (i + 1) _ _ (by omega) ex ((congrFun (s1F_c (by decide) (by decide)) _).trans hn) (BS_of hB (s1F_c (by decide) (by decide))) H) (lnD rfl) (lnD rfl) (by repeat (first | exact trivial | refine ⟨rfl, ?_⟩))
theorem c_sl2 {n : Nat} {fr up : Int32} (hn6 : n ≤ 6) : ∀ (i : Nat) (I : hI) (x : Int32), i ≤ n + 1 → x = nI i - 1 → I 4 13 = nI n → BS I → SG I → Q none (HH (sl2 i I) J R T) → Zs sc (d + 4) (am_P 84).2 (102, [(0, .ref 4), (1, .int fr), (2, .int up), (3, .int x)], []) (HH I J R T) Q
  | 0, I, x, hi, hx, hn, hB, hS, H => by
    subst hx
    refine Z_jump 2 rfl ?_
    refine Z_bd (fun c103 => ?_) (fun c103 => absurd ((by decide)) c103)
    show Zs _ _ (am_P 84).2 (117, [(0, .ref 4), (1, .int fr), (2, .int up), (3, .int (nI 0 - 1))], []) (HH I J R T) _
    refine Z_ret rfl rfl rfl ?_
    exact H
  | i + 1, I, x, hi, hx, hn, hB, hS, H => by
    have e : x = nI i := by rw [hx]; exact nI_pred i
    subst e
    refine Z_jump 2 rfl ?_
    refine Z_bd (fun c103 => absurd c103 ((nI_pos (by omega)))) (fun c103 => ?_)
    refine Z_jump 2 rfl ?_
    show Zs _ _ (am_P 84).2 (108, [(0, .ref 4), (1, .int fr), (2, .int up), (3, .int (nI i))], [.int (nI i), .ref 4]) (HH I J R T) _
    refine Z_c0 rfl rfl rfl (c_siftFrom (by omega) hn6 hn hB hS) ?_
    show Zs _ _ (am_P 84).2 (111, [(0, .ref 4), (1, .int fr), (2, .int up), (3, .int (nI i))], []) (HH (sifF I i) J R T) _
    refine Z_jump 2 rfl ?_
    show Zs _ _ (am_P 84).2 (102, [(0, .ref 4), (1, .int fr), (2, .int up), (3, .int ((nI i) + Int32.ofInt (-1)))], []) (HH (sifF I i) J R T) _
    exact c_sl2 hn6 i _ _ (by omega) (xm1 _) ((congrFun (sifF_c (by decide) (by decide)) _).trans hn) (BS_of hB (sifF_c (by decide) (by decide))) (SG_of hS (sifF_c (by decide) (by decide))) H
theorem sl1_SG : ∀ (k i : Nat) (I : hI), i + k ≤ 6 → BS I → SG I → SG (sl1 k i I)
  | 0, i, I, hi, hB, hS => hS
  | k + 1, i, I, hi, hB, hS => by
    unfold sl1
    exact sl1_SG k (i + 1) _ (by omega) (BS_of hB (s1F_c (by decide) (by decide))) (s1F_SG (by omega) hB hS)
theorem sit_SG0 {I : hI} {fr up : Int32} (hS : SG I) (hf : fr.toInt ≤ 1500000000) : SG (sf (sf I 14 0 (if fr < 0 then 0 else fr)) 15 0 up) := by
  intro j hj
  rw [sf_c (by decide)]
  by_cases e : j = 0
  · subst e
    rw [sf_s]
    have z0 : (0 : Int32).toInt = 0 := rfl
    split
    · omega
    · rename_i hc
      rw [fi_lt] at hc
      omega
  · rw [sf_k e]; exact hS j hj
theorem sitF_SG {I : hI} {n : Nat} {fr up : Int32} (hn6 : n ≤ 6) (hB : BS I) (hS : SG I) (hf : fr.toInt ≤ 1500000000) : SG (sitF I n fr up) := by
  unfold sitF
  exact SG_of (sl1_SG n 0 _ (by omega) (BS_of hB (by rw [sf_c (by decide), sf_c (by decide)])) (sit_SG0 hS hf)) (sl2_c (by decide) (by decide) _ _)
theorem c_sift {I : hI} {n : Nat} {fr up : Int32} (hn6 : n ≤ 6) (hn : I 4 13 = nI n) (hB : BS I) (hS : SG I) (hf : fr.toInt ≤ 1500000000) : am_E sc (d + 5) 84 [.ref 4, .int fr, .int up] (HH I J R T) none (HH (sitF I n fr up) J R T) := by
  refine E_Z (Ze_of (Nat.le_of_ble_eq_true rfl) ?_)
  have hB1 : BS (sf (sf I 14 0 (if fr < 0 then 0 else fr)) 15 0 up) := BS_of hB (by rw [sf_c (by decide), sf_c (by decide)])
  refine Z_jump 6 rfl ?_
  show Zs _ _ (am_P 84).2 (10, [(0, .ref 4), (1, .int fr), (2, .int up)], [.int (if fr < (0 : Int32) then (0 : Int32) else fr), .int (0 : Int32), .ref 14]) (HH I J R T) _
  refine Z_c0 rfl rfl rfl (k_putK (a := 14) (L := 7) (f := I 14) (i := 0) rfl rfl (by omega) (by decide)) ?_
  show Zs _ _ (am_P 84).2 (13, [(0, .ref 4), (1, .int fr), (2, .int up)], []) (HH (sf I 14 0 (if fr < 0 then 0 else fr)) J R T) _
  refine Z_jump 4 rfl ?_
  show Zs _ _ (am_P 84).2 (19, [(0, .ref 4), (1, .int fr), (2, .int up)], [.int up, .int (0 : Int32), .ref 15]) (HH (sf I 14 0 (if fr < 0 then 0 else fr)) J R T) _
  refine Z_c0 rfl rfl rfl (k_putK (a := 15) (L := 7) (f := I 15) (i := 0) rfl rfl (by omega) (by decide)) ?_
  show Zs _ _ (am_P 84).2 (22, [(0, .ref 4), (1, .int fr), (2, .int up)], []) (HH (sf (sf I 14 0 (if fr < 0 then 0 else fr)) 15 0 up) J R T) _
  refine Z_jump 2 rfl ?_
  show Zs _ _ (am_P 84).2 (24, [(0, .ref 4), (1, .int fr), (2, .int up), (3, .int (0 : Int32))], []) (HH (sf (sf I 14 0 (if fr < 0 then 0 else fr)) 15 0 up) J R T) _
  refine c_sl1 hn6 (fun _ _ _ => trivial) n 0 _ _ (by omega) rfl hn hB1 ?_
  have hn1 : sl1 n 0 (sf (sf I 14 0 (if fr < 0 then 0 else fr)) 15 0 up) 4 13 = nI n := (congrFun (sl1_c (by decide) (by decide) _ _ _) _).trans hn
  refine Z_jump 2 rfl ?_
  show Zs _ _ (am_P 84).2 (101, [(0, .ref 4), (1, .int fr), (2, .int up)], [.int ((sl1 n 0 (sf (sf I 14 0 (if fr < 0 then 0 else fr)) 15 0 up)) 4 13)]) (HH (sl1 n 0 (sf (sf I 14 0 (if fr < 0 then 0 else fr)) 15 0 up)) J R T) _
  refine Z_eqI (y := (nI n)) (hn1) ?_
  show Zs _ _ (am_P 84).2 (101, [(0, .ref 4), (1, .int fr), (2, .int up)], [.int (nI n)]) (HH (sl1 n 0 (sf (sf I 14 0 (if fr < 0 then 0 else fr)) 15 0 up)) J R T) _
  refine Z_jump 1 rfl ?_
  show Zs _ _ (am_P 84).2 (102, [(0, .ref 4), (1, .int fr), (2, .int up), (3, .int (nI n))], []) (HH (sl1 n 0 (sf (sf I 14 0 (if fr < 0 then 0 else fr)) 15 0 up)) J R T) _
  exact c_sl2 hn6 (n + 1) _ _ (by omega) (nI_pred n).symm hn1 (BS_of hB1 (sl1_c (by decide) (by decide) _ _ _)) (sl1_SG n 0 _ (by omega) hB1 (sit_SG0 hS hf)) ⟨rfl, rfl⟩
/-- gap -/
def gpl (I : hI) : Nat → Int32 → Int32
  | 0, _ => -1
  | k + 1, n => if isfP I 0 n then gpl I k (n + 1) else n
def gpF (I : hI) (n : Nat) (f : Int32) : Int32 × hI := (gpl (sitF I n (f + 1) (f + 500)) 500 (f + 1), sitF I n (f + 1) (f + 500))
theorem c_gpl {I : hI} {f : Int32} (hf0 : 0 ≤ f.toInt) (hf : f.toInt ≤ 1000000000) : ∀ (k : Nat) (n : Int32), n.toInt + k = f.toInt + 501 → f.toInt < n.toInt → Q (some (.int (gpl I k n))) (HH I J R T) → Zs sc (d + 3) (am_P 134).2 (19, [(0, .ref 0), (1, .int f), (2, .int n)], []) (HH I J R T) Q
  | 0, n, hk, hl, H => by
    have z : (500 : Int32).toInt = 500 := rfl
    refine Z_jump 5 rfl ?_
    refine Z_bd (fun c25 => ?_) (fun c25 => absurd ((show f + 500 < n by rw [fi_lt, ti_add (by omega) (by omega)]; omega)) c25)
    refine Z_jump 1 rfl ?_
    show Zs _ _ (am_P 134).2 (48, [(0, .ref 0), (1, .int f), (2, .int n)], [.int (-1 : Int32)]) (HH I J R T) _
    refine Z_rI rfl (by first | exact am_nw0 _ | exact am_nw01 | rfl | assumption) ?_
    exact H
  | k + 1, n, hk, hl, H => by
    have z : (500 : Int32).toInt = 500 := rfl
    have z1 : (1 : Int32).toInt = 1 := rfl
    unfold gpl at H
    refine Z_jump 5 rfl ?_
    refine Z_bd (fun c25 => absurd c25 ((show ¬ f + 500 < n by rw [fi_lt, ti_add (by omega) (by omega)]; omega))) (fun c25 => ?_)
    refine Z_jump 3 rfl ?_
    show Zs _ _ (am_P 134).2 (33, [(0, .ref 0), (1, .int f), (2, .int n)], [.int n, .ref 4]) (HH I J R T) _
    by_cases b33 : isfP I 0 n
    · refine Z_c1 rfl rfl rfl (E_pos (c_isSifted) b33) ?_
      show Zs _ _ (am_P 134).2 (36, [(0, .ref 0), (1, .int f), (2, .int n)], [.int (1 : Int32)]) (HH I J R T) _
      refine Z_jump 3 rfl ?_
      show Zs _ _ (am_P 134).2 (19, [(0, .ref 0), (1, .int f), (2, .int (n + 1))], []) (HH I J R T) _
      rw [if_pos b33] at H
      exact c_gpl hf0 hf k _ (by rw [ti_add (by omega) (by omega)]; omega) (by rw [ti_add (by omega) (by omega)]; omega) H
    · refine Z_c1 rfl rfl rfl (E_neg (c_isSifted) b33) ?_
      show Zs _ _ (am_P 134).2 (36, [(0, .ref 0), (1, .int f), (2, .int n)], [.int (0 : Int32)]) (HH I J R T) _
      refine Z_jump 2 rfl ?_
      show Zs _ _ (am_P 134).2 (40, [(0, .ref 0), (1, .int f), (2, .int n)], [.int n]) (HH I J R T) _
      refine Z_rI rfl (by first | exact am_nw0 _ | exact am_nw01 | rfl | assumption) ?_
      rw [if_neg b33] at H
      exact H
theorem c_gap {I : hI} {n : Nat} {f : Int32} (hn6 : n ≤ 6) (hn : I 4 13 = nI n) (hB : BS I) (hS : SG I) (hf0 : 0 ≤ f.toInt) (hf : f.toInt ≤ 1000000000) : am_E sc (d + 6) 134 [.ref 0, .int f] (HH I J R T) (some (.int (gpF I n f).1)) (HH (gpF I n f).2 J R T) := by
  refine E_Z (Ze_of (Nat.le_of_ble_eq_true rfl) ?_)
  have z1 : (1 : Int32).toInt = 1 := rfl
  refine Z_jump 8 rfl ?_
  show Zs _ _ (am_P 134).2 (12, [(0, .ref 0), (1, .int f)], [.int (f + (500 : Int32)), .int (f + (1 : Int32)), .ref 4]) (HH I J R T) _
  refine Z_c0 rfl rfl rfl (c_sift hn6 hn hB hS (by rw [ti_add (by omega) (by omega)]; omega)) ?_
  show Zs _ _ (am_P 134).2 (15, [(0, .ref 0), (1, .int f)], []) (HH (sitF I n (f + 1) (f + 500)) J R T) _
  refine Z_jump 4 rfl ?_
  show Zs _ _ (am_P 134).2 (19, [(0, .ref 0), (1, .int f), (2, .int (f + (1 : Int32)))], []) (HH (sitF I n (f + 1) (f + 500)) J R T) _
  exact c_gpl hf0 hf 500 _ (by rw [ti_add (by omega) (by omega)]; omega) (by rw [ti_add (by omega) (by omega)]; omega) ⟨rfl, rfl⟩
end WY9

