/-! The class: remember, undo, keep, back, push, stick. -/
abbrev isPast (a : Nat) : Prop := a ∈ [39, 42, 45, 48, 51, 54, 57, 60]
theorem past_c {a : Nat} (h : isPast a) : a = 39 ∨ a = 42 ∨ a = 45 ∨ a = 48 ∨ a = 51 ∨ a = 54 ∨ a = 57 ∨ a = 60 := by simpa [isPast] using h
theorem past_st {a : Nat} (h : isPast a) : isSt a ∧ a ≠ 22 ∧ 39 ≤ a ∧ a + 2 < 63 := by
  rcases past_c h with rfl | rfl | rfl | rfl | rfl | rfl | rfl | rfl <;> decide
/-- the row of what can be undone: eight standings, each its own -/
def PR (R : hR) : Prop := (∀ k, k < 8 → ∃ a, R 38 k = some a ∧ isPast a) ∧ ∀ j k, j < 8 → k < 8 → R 38 j = R 38 k → j = k
theorem past_x {a : Nat} {h : am_H} {I : hI} {J : hJ} {R : hR} {T : am_H} (ha : isPast a) : (HH I J R T)[a]? = some (.inr (5, [.ref (a + 1), .ref (a + 2), .int (I a 2), .int (I a 3)])) := st_0 (past_st ha).1
/-- shifted by one: the oldest last -/
def sh8 (R : hR) (k : Nat) : Option Nat := if k < 7 then R 38 (k + 1) else R 38 0
def SH (R0 : hR) (i : Nat) (R : hR) : Prop := (∀ a, a ≠ 38 → R a = R0 a) ∧ (∀ k, k + 1 < i → R 38 k = R0 38 (k + 1)) ∧ (∀ k, i ≤ k + 1 → R 38 k = R0 38 k)
section CL2
variable {sc : Nat × (Nat → Int32)} {d : Nat} {I : hI} {J : hJ} {R : hR} {T : am_H} {Q : Option Value → am_H → Prop}
theorem c_rem_s {R0 : hR} {o : Nat} (hP : PR R0) (H : ∀ R, SH R0 8 R → Zs sc d (am_P 127).2 (62, [(0, .ref 0), (1, .ref o), (2, .int (nI 8))], []) (HH I J R T) Q) : ∀ (k i : Nat) (R : hR) (x : Int32), i + k = 8 → 1 ≤ i → x = nI i → SH R0 i R → Zs sc d (am_P 127).2 (33, [(0, .ref 0), (1, .ref o), (2, .int x)], []) (HH I J R T) Q
  | 0, i, R, x, hi, h1, hx, hS => by
    have e : i = 8 := by omega
    subst e
    subst hx
    refine Z_jump 4 rfl ?_
    show Zs _ _ (am_P 127).2 (39, [(0, .ref 0), (1, .ref o), (2, .int (nI 8))], [.int (8 : Int32), .int (nI 8)]) (HH I J R T) _
    refine Z_jump 1 rfl ?_
    refine Z_bd (fun c39 => ?_) (fun c39 => absurd ((show (8 : Int32) ≤ nI 8 by decide)) c39)
    show Zs _ _ (am_P 127).2 (62, [(0, .ref 0), (1, .ref o), (2, .int (nI 8))], []) (HH I J R T) _
    exact H R hS
  | k + 1, i, R, x, hi, h1, hx, hS => by
    obtain ⟨j, rfl⟩ : ∃ j, i = j + 1 := ⟨i - 1, by omega⟩
    obtain ⟨a, hR, ha⟩ := hP.1 (j + 1) (by omega)
    have hR' : R 38 (j + 1) = some a := by rw [hS.2.2 (j + 1) (by omega)]; exact hR
    have hxp : x - 1 = nI j := by rw [hx]; exact nI_pred j
    refine Z_jump 4 rfl ?_
    show Zs _ _ (am_P 127).2 (39, [(0, .ref 0), (1, .ref o), (2, .int x)], [.int (8 : Int32), .int x]) (HH I J R T) _
    refine Z_jump 1 rfl ?_
    refine Z_bd (fun c39 => absurd c39 ((show ¬ (8 : Int32) ≤ x by rw [hx]; exact nI_ge (b := 8) (by omega) (by omega)))) (fun c39 => ?_)
    refine Z_jump 8 rfl ?_
    show Zs _ _ (am_P 127).2 (54, [(0, .ref 0), (1, .ref o), (2, .int x)], [.int x, .ref 38, .int (x - (1 : Int32)), .ref 38]) (HH I J R T) _
    refine Z_aalK (j + 1) rfl rfl (by decide) (hx) (by omega) (by decide) ?_
    rw [hR']
    show Zs _ _ (am_P 127).2 (55, [(0, .ref 0), (1, .ref o), (2, .int x)], [.ref a, .int (x - (1 : Int32)), .ref 38]) (HH I J R T) _
    show Zs _ _ (am_P 127).2 (55, [(0, .ref 0), (1, .ref o), (2, .int x)], [.ref a, .int (x - (1 : Int32)), .ref 38]) (HH I J R T) _
    refine Z_aasR (j) rfl rfl (past_x (h := []) ha) (rfl) (hxp) (by omega) (by decide) ?_
    show Zs _ _ (am_P 127).2 (56, [(0, .ref 0), (1, .ref o), (2, .int x)], []) (HH I J (sr R 38 j (some a)) T) _
    refine Z_jump 2 rfl ?_
    show Zs _ _ (am_P 127).2 (33, [(0, .ref 0), (1, .ref o), (2, .int (x + 1))], []) (HH I J (sr R 38 j (some a)) T) _
    refine c_rem_s hP H k (j + 1 + 1) _ _ (by omega) (by omega) (by rw [hx]; exact nI_1 (j + 1)) ⟨fun b hb => by unfold sr; rw [up_ne hb]; exact hS.1 b hb, fun m hm => ?_, fun m hm => ?_⟩
    · unfold sr
      rw [up_same]
      by_cases e : m = j
      · rw [e, up_same]; exact hR.symm
      · rw [up_ne e]; exact hS.2.1 m (by omega)
    · unfold sr
      rw [up_same, up_ne (by omega)]; exact hS.2.2 m (by omega)
/-- remember(): what is now becomes the latest; the ninth latest is lost -/
def CPr (a : Nat) (I I' : hI) : Prop := (∀ b, b ≠ 0 → b ≠ a → b ≠ a + 1 → b ≠ a + 2 → I' b = I b) ∧ (∀ k, k ≠ 9 → I' 0 k = I 0 k) ∧ (∀ k, k < 6 → I' (a + 1) k = I 23 k ∧ I' (a + 2) k = I 24 k) ∧ I' a 2 = I 22 2 ∧ I' a 3 = I 22 3
def RMq (m : Nat) (I : hI) (J : hJ) (R : hR) (T : am_H) (r : Option Value) (h : am_H) : Prop := r = none ∧ ∃ I' R' a, h = HH I' J R' T ∧ I' 0 9 = nI (if m < 8 then m + 1 else 8) ∧ PR R' ∧ (∀ b, b ≠ 38 → R' b = R b) ∧ (∀ k, k < 8 → R' 38 k = if m < 8 then R 38 k else sh8 R k) ∧ R' 38 (if m < 8 then m else 7) = some a ∧ isPast a ∧ CPr a I I'
theorem PR_sh {R R' : hR} (hP : PR R) (h : ∀ k, k < 8 → R' 38 k = sh8 R k) : PR R' := by
  refine ⟨fun k hk => ?_, fun j k hj hk he => ?_⟩
  · rw [h k hk]
    unfold sh8
    split
    · exact hP.1 _ (by omega)
    · exact hP.1 _ (by omega)
  · rw [h j hj, h k hk] at he
    unfold sh8 at he
    split at he
    · split at he
      · have := hP.2 _ _ (by omega) (by omega) he; omega
      · have := hP.2 _ _ (by omega) (by omega) he; omega
    · split at he
      · have := hP.2 _ _ (by omega) (by omega) he; omega
      · omega
theorem c_remember {m : Nat} (hp : I 0 9 = nI m) (hm : m ≤ 8) (hP : PR R) : Ze sc (d + 3) 127 [.ref 0] (HH I J R T) (RMq m I J R T) := by
  by_cases h8 : m < 8
  · obtain ⟨a, hR, ha⟩ := hP.1 m h8
    refine Ze_mono (c_remember_l hp h8 hR (past_st ha).1 (past_st ha).2.1) (fun r h' q => ?_)
    obtain ⟨rfl, I1, rfl, hC⟩ := q
    have hb := past_st ha
    refine ⟨rfl, _, R, a, rfl, by rw [if_pos h8]; exact sf_s _ _ _ _, hP, fun _ _ => rfl, fun k hk => by rw [if_pos h8], by rw [if_pos h8]; exact hR, ha, fun b h0 h1 h2 h3 => by rw [sf_c h0]; exact hC.1 b h1 h2 h3, fun k hk => by rw [sf_k hk, hC.1 0 (by omega) (by omega) (by omega)], fun k hk => ?_, ?_, ?_⟩
    · rw [sf_c (by omega), sf_c (by omega)]; exact hC.2.1 k hk
    · rw [sf_c (by omega)]; exact hC.2.2.1
    · rw [sf_c (by omega)]; exact hC.2.2.2
  · have e8 : m = 8 := by omega
    subst e8
    obtain ⟨o, hR0, ho⟩ := hP.1 0 (by omega)
    refine Ze_of (Nat.le_of_ble_eq_true rfl) ?_
    refine Z_jump 5 rfl ?_
    show Zs _ _ (am_P 127).2 (9, [(0, .ref 0)], [.int (8 : Int32), .int (I 0 9)]) (HH I J R T) _
    refine Z_jump 1 rfl ?_
    refine Z_bd (fun c9 => absurd c9 ((show ¬ I 0 9 < (8 : Int32) by rw [hp]; decide))) (fun c9 => ?_)
    refine Z_jump 3 rfl ?_
    show Zs _ _ (am_P 127).2 (17, [(0, .ref 0)], [.int (8 : Int32)]) (HH I J R T) _
    refine Z_jump 4 rfl ?_
    show Zs _ _ (am_P 127).2 (25, [(0, .ref 0)], [.int (0 : Int32), .ref 38]) (HH I J R T) _
    refine Z_aalK (0) rfl rfl (by decide) (rfl) (by omega) (by decide) ?_
    rw [hR0]
    show Zs _ _ (am_P 127).2 (26, [(0, .ref 0)], [.ref o]) (HH I J R T) _
    refine Z_jump 4 rfl ?_
    show Zs _ _ (am_P 127).2 (33, [(0, .ref 0), (1, .ref o), (2, .int (1 : Int32))], []) (HH I J R T) _
    refine c_rem_s hP (fun R1 hS => ?_) 7 1 _ _ (by omega) (by omega) rfl ⟨fun _ _ => rfl, fun k hk => absurd hk (by omega), fun _ _ => rfl⟩
    have hR7 : sr R1 38 7 (some o) 38 7 = some o := by unfold sr; rw [up_same, up_same]
    have hsh : ∀ k, k < 8 → sr R1 38 7 (some o) 38 k = sh8 R k := fun k hk => by
      unfold sr sh8
      rw [up_same]
      by_cases e : k = 7
      · rw [e, up_same, if_neg (by omega)]; exact hR0.symm
      · rw [up_ne e, if_pos (by omega)]; exact hS.2.1 k (by omega)
    refine Z_jump 4 rfl ?_
    show Zs _ _ (am_P 127).2 (68, [(0, .ref 0), (1, .ref o), (2, .int (nI 8))], [.int (8 : Int32), .ref 0]) (HH I J R1 T) _
    refine Z_jump 3 rfl ?_
    show Zs _ _ (am_P 127).2 (73, [(0, .ref 0), (1, .ref o), (2, .int (nI 8))], []) (HH (sf I 0 9 (7 : Int32)) J R1 T) _
    refine Z_jump 7 rfl ?_
    show Zs _ _ (am_P 127).2 (86, [(0, .ref 0), (1, .ref o), (2, .int (nI 8))], [.int (8 : Int32), .ref 38]) (HH (sf I 0 9 (7 : Int32)) J R1 T) _
    refine Z_jump 3 rfl ?_
    show Zs _ _ (am_P 127).2 (89, [(0, .ref 0), (1, .ref o), (2, .int (nI 8))], [.ref o, .int (7 : Int32), .ref 38]) (HH (sf I 0 9 (7 : Int32)) J R1 T) _
    refine Z_aasR (7) rfl rfl (past_x (h := []) ho) (rfl) (rfl) (by omega) (by decide) ?_
    show Zs _ _ (am_P 127).2 (90, [(0, .ref 0), (1, .ref o), (2, .int (nI 8))], []) (HH (sf I 0 9 (7 : Int32)) J (sr R1 38 7 (some o)) T) _
    refine Z_jump 4 rfl ?_
    show Zs _ _ (am_P 127).2 (98, [(0, .ref 0), (1, .ref o), (2, .int (nI 8))], [.int (7 : Int32), .ref 38]) (HH (sf I 0 9 (7 : Int32)) J (sr R1 38 7 (some o)) T) _
    refine Z_c1 rfl rfl rfl (c_stAt38 (K := 7) hR7 rfl (by omega)) ?_
    show Zs _ _ (am_P 127).2 (101, [(0, .ref 0), (1, .ref o), (2, .int (nI 8))], [.ref o]) (HH (sf I 0 9 (7 : Int32)) J (sr R1 38 7 (some o)) T) _
    refine Z_jump 6 rfl ?_
    show Zs _ _ (am_P 127).2 (111, [(0, .ref 0), (1, .ref o), (2, .int (nI 8))], [.ref 22, .ref o]) (HH (sf I 0 9 (7 : Int32)) J (sr R1 38 7 (some o)) T) _
    refine Z_cQ rfl (am_do_inv (past_x (h := []) ho) rfl (rfl) (Nat.le_of_ble_eq_true rfl)) rfl (Ze_deep (d := 2) (by omega) (c_copy (d := 0) (past_st ho).1 (show isSt 22 by decide) (past_st ho).2.1)) (fun v h1 hq => ?_)
    obtain ⟨rfl, I1, rfl, hC⟩ := hq
    show Zs _ _ (am_P 127).2 (114, [(0, .ref 0), (1, .ref o), (2, .int (nI 8))], []) (HH I1 J (sr R1 38 7 (some o)) T) _
    refine Z_jump 6 rfl ?_
    show Zs _ _ (am_P 127).2 (124, [(0, .ref 0), (1, .ref o), (2, .int (nI 8))], []) (HH (sf I1 0 9 ((I1 0 9) + (1 : Int32))) J (sr R1 38 7 (some o)) T) _
    show Zs _ _ (am_P 127).2 (124, [(0, .ref 0), (1, .ref o), (2, .int (nI 8))], []) (HH (sf I1 0 9 ((I1 0 9) + (1 : Int32))) J (sr R1 38 7 (some o)) T) _
    refine Z_ret rfl rfl rfl ?_
    have hb := past_st ho
    have e0 : I1 0 9 + 1 = nI 8 := by rw [hC.1 0 (by omega) (by omega) (by omega)]; rfl
    refine ⟨rfl, _, _, o, rfl, by rw [if_neg (by omega), sf_s]; exact e0, PR_sh hP hsh, fun b hb => by unfold sr; rw [up_ne hb]; exact hS.1 b hb, fun k hk => by rw [if_neg (by omega)]; exact hsh k hk, by rw [if_neg (by omega)]; exact hR7, ho, fun b h0 h1 h2 h3 => by rw [sf_c h0, hC.1 b h1 h2 h3, sf_c h0], fun k hk => by rw [sf_k hk, hC.1 0 (by omega) (by omega) (by omega), sf_k hk], fun k hk => ?_, ?_, ?_⟩
    · rw [sf_c (by omega), sf_c (by omega)]; exact hC.2.1 k hk
    · rw [sf_c (by omega)]; exact hC.2.2.1
    · rw [sf_c (by omega)]; exact hC.2.2.2
end CL2

