/-! Sums: the reference checks a whole text; both sides find the same fault. -/
def UC (I : hI) (J : hJ) (I' : hI) (J' : hJ) : Prop := (∀ a, a ≠ 73 → a ≠ 91 → a ≠ 92 → I' a = I a) ∧ (∀ k, k ≠ 14 → k ≠ 15 → k ≠ 16 → k ≠ 17 → k ≠ 19 → k ≠ 22 → k ≠ 27 → k ≠ 28 → k ≠ 29 → I' 73 k = I 73 k) ∧ (∀ a, a ≠ 73 → a ≠ 89 → a ≠ 90 → J' a = J a)
theorem UC_0 (I : hI) (J : hJ) : UC I J I J := ⟨fun _ _ _ _ => rfl, fun _ _ _ _ _ _ _ _ _ _ => rfl, fun _ _ _ _ => rfl⟩
theorem UC_t {I I1 I2 : hI} {J J1 J2 : hJ} (h : UC I J I1 J1) (g : UC I1 J1 I2 J2) : UC I J I2 J2 := ⟨fun a a1 a2 a3 => (g.1 a a1 a2 a3).trans (h.1 a a1 a2 a3), fun k a1 a2 a3 a4 a5 a6 a7 a8 a9 => (g.2.1 k a1 a2 a3 a4 a5 a6 a7 a8 a9).trans (h.2.1 k a1 a2 a3 a4 a5 a6 a7 a8 a9), fun a a1 a2 a3 => (g.2.2 a a1 a2 a3).trans (h.2.2 a a1 a2 a3)⟩
theorem UC_E {I I' : hI} {J J' : hJ} (h : UE I J I' J') : UC I J I' J' := ⟨h.1, fun k a1 a2 a3 a4 a5 _ _ a8 a9 => h.2.1 k a1 a2 a3 a4 a5 a8 a9, h.2.2⟩
theorem UC_f {I : hI} {J : hJ} {k : Nat} {v : Int32} (hk : k = 14 ∨ k = 22 ∨ k = 27 ∨ k = 28) : UC I J (sf I 73 k v) J := ⟨fun a a1 _ _ => sf_c a1, fun j a1 _ _ _ _ a6 a7 a8 _ => sf_k (by omega), fun _ _ _ _ => rfl⟩
theorem MT_C {tx : Nat → Nat} {c : Nat} {I I' : hI} {J J' : hJ} (hM : MT tx c I) (h : UC I J I' J') : MT tx c I' := MT_of hM (h.2.1 12 (by decide) (by decide) (by decide) (by decide) (by decide) (by decide) (by decide) (by decide) (by decide)) (h.1 84 (by decide) (by decide) (by decide))
def MSq (c : Nat) (res : Nat ⊕ Nat) (I0 : hI) (J0 : hJ) (R : hR) (T : am_H) (r : Option Value) (h : am_H) : Prop := ∃ I J, h = HH I J R T ∧ UC I0 J0 I J ∧ TB I ∧ (match res with
  | .inl p => p ≤ c ∧ r = some (.int 0) ∧ I 73 15 = nI p
  | .inr j => r = some (.int 1) ∧ I 73 22 = nI j ∧ j ≤ 12)
section MS4
variable {sc : Nat × (Nat → Int32)} {d : Nat} {I : hI} {J : hJ} {R : hR} {T : am_H} {Q : Option Value → am_H → Prop} {tx : Nat → Nat} {c : Nat}
theorem m_rq_l {n : Nat} (hn6 : n ≤ 6) : ∀ (k j i : Nat) (I : hI) (J : hJ), j + (k + 1) = 12 → i ≤ c → MT tx c I → I 73 0 = nI n → I 73 27 = 0 → TB I → I 73 14 = nI i → I 73 22 = nI j → Zs sc (d + 6) (am_P 196).2 (22, [(0, .ref 73), (1, .ref 78), (2, .int 0), (3, .int 1)], []) (HH I J R T) (MSq c (sQ tx c n (k + 1) j (tS tx c i)) I J R T)
  | k, j, i, I, J, hj, hi, hM, hn, hd, hB, h14, h22 => by
    have hs := tS_c (tx := tx) hi
    have h255 := hM.2.2.2
    refine Z_jump 3 rfl ?_
    show Zs _ _ (am_P 196).2 (27, [(0, .ref 73), (1, .ref 78), (2, .int (0 : Int32)), (3, .int (1 : Int32))], [.ref 73]) (HH I J R T) _
    refine Z_cQ rfl rfl rfl (m_reads (d := d + 2) hM h14 hi) (fun v h1 hq => ?_)
    obtain ⟨rfl, I1, J1, rfl, u1, g15, g14, gK⟩ := hq
    show Zs _ _ (am_P 196).2 (30, [(0, .ref 73), (1, .ref 78), (2, .int (0 : Int32)), (3, .int (1 : Int32))], []) (HH I1 J1 R T) _
    refine Z_jump 2 rfl ?_
    show Zs _ _ (am_P 196).2 (32, [(0, .ref 73), (1, .ref 78), (2, .int (0 : Int32)), (3, .int (1 : Int32))], [.ref 78, .ref 73]) (HH I1 J1 R T) _
    have hd1 : I1 73 27 = 0 := (u1.2.1 27 (by decide) (by decide) (by decide) (by decide) (by decide)).trans hd
    have hn1 : I1 73 0 = nI n := (u1.2.1 0 (by decide) (by decide) (by decide) (by decide) (by decide)).trans hn
    refine Z_cQ rfl rfl rfl (m_rsC (d := d) (MT_R hM u1) hn1 hn6 hd1 (TB_R hB u1) ⟨hs, g15, g14, gK⟩) (fun v h1 hq => ?_)
    obtain ⟨I2, J2, rfl, u2, t2, hq⟩ := hq
    have U2 : UC I J I2 J2 := UC_E (UE_t (UE_R u1) u2)
    have hd2 : I2 73 27 = 0 := (u2.2.1 27 (by decide) (by decide) (by decide) (by decide) (by decide) (by decide) (by decide)).trans hd1
    have n22 : I2 73 22 + 1 = nI (j + 1) := by rw [u2.2.1 22 (by decide) (by decide) (by decide) (by decide) (by decide) (by decide) (by decide), u1.2.1 22 (by decide) (by decide) (by decide) (by decide) (by decide), h22]; exact nI_1 j
    rcases hf : sP tx c n (tS tx c i) with p | q
    · rw [hf] at hq
      rw [sQ_l hf]
      obtain ⟨q1, rfl, q3⟩ := hq
      refine Z_jump 2 rfl ?_
      exact Z_rI rfl rfl ⟨I2, J2, rfl, U2, t2, q1, rfl, q3⟩
    rw [hf] at hq
    rw [sQ_r hf]
    obtain ⟨rfl, hT⟩ := hq
    obtain ⟨q1, q15, q14, qK⟩ := id hT
    have k59 := RD_c (t := 59) h255 qK (by omega) (by omega) (by omega)
    have kend := RD_e h255 qK
    refine Z_jump 4 rfl ?_
    refine Z_bd (fun c44 => ?_) (fun c44 => absurd ((t2.2 hd2)) c44)
    refine Z_jump 6 rfl ?_
    show Zs _ _ (am_P 196).2 (59, [(0, .ref 73), (1, .ref 78), (2, .int (0 : Int32)), (3, .int (1 : Int32))], []) (HH (sf I2 73 22 ((I2 73 22) + (1 : Int32))) J2 R T) _
    refine Z_jump 4 rfl ?_
    refine Z_bn (fun (c65 : ¬ ((I2 73 16) = (59 : Int32))) => ?_) (fun (c65 : (I2 73 16) = (59 : Int32)) => ?_)
    · refine Z_jump 6 rfl ?_
      show Zs _ _ (am_P 196).2 (87, [(0, .ref 73), (1, .ref 78), (2, .int (0 : Int32)), (3, .int (0 : Int32))], [.ref 73]) (HH (sf I2 73 22 ((I2 73 22) + (1 : Int32))) J2 R T) _
      have hno : q = c ∨ ¬ (tx q = 59 ∧ j + 1 < 12) := by first | (have c2 : (12 : Int32) ≤ I2 73 22 + 1 := c74; rw [n22] at c2; have := (nI_leI (a := 12) (by omega) (by omega)).mp c2; exact Or.inr (fun z => by omega)) | (by_cases z : q = c; exact Or.inl z; exact Or.inr (fun y => c65 (k59.mpr ⟨by omega, y.1⟩)))
      refine Z_jump 3 rfl ?_
      refine Z_bn (fun (c91 : ¬ ((I2 73 16) = (-1 : Int32))) => ?_) (fun (c91 : (I2 73 16) = (-1 : Int32)) => ?_)
      · refine Z_jump 1 rfl ?_
        show Zs _ _ (am_P 196).2 (99, [(0, .ref 73), (1, .ref 78), (2, .int (0 : Int32)), (3, .int (0 : Int32))], [.int (0 : Int32)]) (HH (sf I2 73 22 ((I2 73 22) + (1 : Int32))) J2 R T) _
        refine Z_rI rfl (by first | exact am_nw0 _ | exact am_nw01 | rfl | assumption) ?_
        first
          | (rw [if_pos (show q = c by have := kend.mp c91; omega)]; exact ⟨_, J2, rfl, UC_t U2 (UC_f (by omega)), t2, rfl, n22, by omega⟩)
          | (have hlt : q < c := Classical.byContradiction (fun z => c91 (kend.mpr z)); rw [if_neg (by omega), if_neg (hno.elim (fun z => absurd z (by omega)) id)]; exact ⟨_, J2, rfl, UC_t U2 (UC_f (by omega)), t2, q1, rfl, q15⟩)
      · refine Z_jump 2 rfl ?_
        show Zs _ _ (am_P 196).2 (99, [(0, .ref 73), (1, .ref 78), (2, .int (0 : Int32)), (3, .int (0 : Int32))], [.int (1 : Int32)]) (HH (sf I2 73 22 ((I2 73 22) + (1 : Int32))) J2 R T) _
        refine Z_rI rfl (by first | exact am_nw0 _ | exact am_nw01 | rfl | assumption) ?_
        first
          | (rw [if_pos (show q = c by have := kend.mp c91; omega)]; exact ⟨_, J2, rfl, UC_t U2 (UC_f (by omega)), t2, rfl, n22, by omega⟩)
          | (have hlt : q < c := Classical.byContradiction (fun z => c91 (kend.mpr z)); rw [if_neg (by omega), if_neg (hno.elim (fun z => absurd z (by omega)) id)]; exact ⟨_, J2, rfl, UC_t U2 (UC_f (by omega)), t2, q1, rfl, q15⟩)
    · refine Z_jump 4 rfl ?_
      refine Z_bd (fun (c74 : (12 : Int32) ≤ ((I2 73 22) + (1 : Int32))) => ?_) (fun (c74 : ¬ ((12 : Int32) ≤ ((I2 73 22) + (1 : Int32)))) => ?_)
      · refine Z_jump 6 rfl ?_
        show Zs _ _ (am_P 196).2 (87, [(0, .ref 73), (1, .ref 78), (2, .int (0 : Int32)), (3, .int (0 : Int32))], [.ref 73]) (HH (sf I2 73 22 ((I2 73 22) + (1 : Int32))) J2 R T) _
        have hno : q = c ∨ ¬ (tx q = 59 ∧ j + 1 < 12) := by first | (have c2 : (12 : Int32) ≤ I2 73 22 + 1 := c74; rw [n22] at c2; have := (nI_leI (a := 12) (by omega) (by omega)).mp c2; exact Or.inr (fun z => by omega)) | (by_cases z : q = c; exact Or.inl z; exact Or.inr (fun y => c65 (k59.mpr ⟨by omega, y.1⟩)))
        refine Z_jump 3 rfl ?_
        refine Z_bn (fun (c91 : ¬ ((I2 73 16) = (-1 : Int32))) => ?_) (fun (c91 : (I2 73 16) = (-1 : Int32)) => ?_)
        · refine Z_jump 1 rfl ?_
          show Zs _ _ (am_P 196).2 (99, [(0, .ref 73), (1, .ref 78), (2, .int (0 : Int32)), (3, .int (0 : Int32))], [.int (0 : Int32)]) (HH (sf I2 73 22 ((I2 73 22) + (1 : Int32))) J2 R T) _
          refine Z_rI rfl (by first | exact am_nw0 _ | exact am_nw01 | rfl | assumption) ?_
          first
            | (rw [if_pos (show q = c by have := kend.mp c91; omega)]; exact ⟨_, J2, rfl, UC_t U2 (UC_f (by omega)), t2, rfl, n22, by omega⟩)
            | (have hlt : q < c := Classical.byContradiction (fun z => c91 (kend.mpr z)); rw [if_neg (by omega), if_neg (hno.elim (fun z => absurd z (by omega)) id)]; exact ⟨_, J2, rfl, UC_t U2 (UC_f (by omega)), t2, q1, rfl, q15⟩)
        · refine Z_jump 2 rfl ?_
          show Zs _ _ (am_P 196).2 (99, [(0, .ref 73), (1, .ref 78), (2, .int (0 : Int32)), (3, .int (0 : Int32))], [.int (1 : Int32)]) (HH (sf I2 73 22 ((I2 73 22) + (1 : Int32))) J2 R T) _
          refine Z_rI rfl (by first | exact am_nw0 _ | exact am_nw01 | rfl | assumption) ?_
          first
            | (rw [if_pos (show q = c by have := kend.mp c91; omega)]; exact ⟨_, J2, rfl, UC_t U2 (UC_f (by omega)), t2, rfl, n22, by omega⟩)
            | (have hlt : q < c := Classical.byContradiction (fun z => c91 (kend.mpr z)); rw [if_neg (by omega), if_neg (hno.elim (fun z => absurd z (by omega)) id)]; exact ⟨_, J2, rfl, UC_t U2 (UC_f (by omega)), t2, q1, rfl, q15⟩)
      · refine Z_jump 4 rfl ?_
        show Zs _ _ (am_P 196).2 (22, [(0, .ref 73), (1, .ref 78), (2, .int (0 : Int32)), (3, .int (1 : Int32))], []) (HH (sf I2 73 22 ((I2 73 22) + (1 : Int32))) J2 R T) _
        have h12 : j + 1 < 12 := by have c2 : ¬ (12 : Int32) ≤ I2 73 22 + 1 := c74; rw [n22] at c2; have := mt (nI_leI (a := 12) (by omega) (by omega)).mpr c2; omega
        have h9 := k59.mp c65
        rw [if_neg (by omega), if_pos ⟨h9.2, h12⟩]
        obtain ⟨k', rfl⟩ : ∃ k', k = k' + 1 := ⟨k - 1, by omega⟩
        have U3 : UC I J (sf I2 73 22 (I2 73 22 + 1)) J2 := UC_t U2 (UC_f (by omega))
        refine Zs_mono (m_rq_l hn6 k' (j + 1) (tE tx c q) (sf I2 73 22 (I2 73 22 + 1)) J2 (by omega) (tE_c q1).2 (MT_C hM U3) ((U3.2.1 0 (by decide) (by decide) (by decide) (by decide) (by decide) (by decide) (by decide) (by decide) (by decide)).trans hn) hd2 t2 q14 n22) (fun r h' qq => ?_)
        obtain ⟨I4, J4, rfl, u4, t4, hq⟩ := qq
        exact ⟨I4, J4, rfl, UC_t U3 u4, t4, hq⟩
theorem m_readsSumsC {n : Nat} (hM : MT tx c I) (hn : I 73 0 = nI n) (hn6 : n ≤ 6) : Ze sc (d + 7) 196 [.ref 73, .ref 78, .int 0] (HH I J R T) (MSq c (sQ tx c n 12 0 (tS tx c 0)) I J R T) := by
  refine Ze_of (Nat.le_of_ble_eq_true rfl) ?_
  refine Z_jump 3 rfl ?_
  show Zs _ _ (am_P 196).2 (5, [(0, .ref 73), (1, .ref 78), (2, .int (0 : Int32))], []) (HH (sf I 73 27 (0 : Int32)) J R T) _
  refine Z_jump 3 rfl ?_
  show Zs _ _ (am_P 196).2 (10, [(0, .ref 73), (1, .ref 78), (2, .int (0 : Int32))], []) (HH (sf (sf I 73 27 (0 : Int32)) 73 28 (0 : Int32)) J R T) _
  refine Z_jump 3 rfl ?_
  show Zs _ _ (am_P 196).2 (15, [(0, .ref 73), (1, .ref 78), (2, .int (0 : Int32))], []) (HH (sf (sf (sf I 73 27 (0 : Int32)) 73 28 (0 : Int32)) 73 14 (0 : Int32)) J R T) _
  refine Z_jump 3 rfl ?_
  show Zs _ _ (am_P 196).2 (20, [(0, .ref 73), (1, .ref 78), (2, .int (0 : Int32))], []) (HH (sf (sf (sf (sf I 73 27 (0 : Int32)) 73 28 (0 : Int32)) 73 14 (0 : Int32)) 73 22 (0 : Int32)) J R T) _
  refine Z_jump 2 rfl ?_
  show Zs _ _ (am_P 196).2 (22, [(0, .ref 73), (1, .ref 78), (2, .int (0 : Int32)), (3, .int (1 : Int32))], []) (HH (sf (sf (sf (sf I 73 27 (0 : Int32)) 73 28 (0 : Int32)) 73 14 (0 : Int32)) 73 22 (0 : Int32)) J R T) _
  have U0 : UC I J (sf (sf (sf (sf I 73 27 0) 73 28 0) 73 14 0) 73 22 0) J := UC_t (UC_t (UC_f (by omega)) (UC_f (by omega))) (UC_t (UC_f (by omega)) (UC_f (by omega)))
  refine Zs_mono (m_rq_l hn6 11 0 0 _ J (by omega) (Nat.zero_le _) (MT_C hM U0) hn rfl ⟨Or.inl rfl, fun _ => rfl⟩ rfl rfl) (fun r h' qq => ?_)
  obtain ⟨I4, J4, rfl, u4, t4, hq⟩ := qq
  exact ⟨I4, J4, rfl, UC_t U0 u4, t4, hq⟩
theorem m_faultS {n : Nat} (hM : MT tx c I) (hn : I 73 0 = nI n) (hn6 : n ≤ 6) : Ze sc (d + 8) 197 [.ref 73, .int 1] (HH I J R T) (fun r h => ∃ I' J', h = HH I' J' R T ∧ UC I J I' J' ∧ r = some (.int (match sQ tx c n 12 0 (tS tx c 0) with
  | .inl p => nI p
  | .inr _ => -1))) := by
  refine Ze_of (Nat.le_of_ble_eq_true rfl) ?_
  refine Z_jump 4 rfl ?_
  show Zs _ _ (am_P 197).2 (4, [(0, .ref 73), (1, .int (1 : Int32))], [.long (1 : Int64), .long (0 : Int64), .long (1 : Int64)]) (HH I J R T) _
  refine Z_c1 rfl rfl rfl (m_inI (v := 1) (a := 0) (b := 1) rfl rfl) ?_
  show Zs _ _ (am_P 197).2 (7, [(0, .ref 73), (1, .int (1 : Int32))], [.int (1 : Int32)]) (HH I J R T) _
  refine Z_jump 7 rfl ?_
  show Zs _ _ (am_P 197).2 (30, [(0, .ref 73), (1, .int (1 : Int32))], [.int (0 : Int32), .ref 78, .ref 73]) (HH I J R T) _
  refine Z_cQ rfl rfl rfl (m_readsSumsC (tx := tx) hM hn hn6) (fun v h1 hq => ?_)
  obtain ⟨I1, J1, rfl, u1, t1, hq⟩ := hq
  rcases hf : sQ tx c n 12 0 (tS tx c 0) with p | j
  · rw [hf] at hq
    obtain ⟨q1, rfl, q3⟩ := hq
    refine Z_jump 5 rfl ?_
    exact Z_rI rfl (am_nw0 _) ⟨I1, J1, rfl, u1, am_ii q3⟩
  rw [hf] at hq
  obtain ⟨rfl, q3, q4⟩ := hq
  refine Z_jump 5 rfl ?_
  exact Z_rI rfl (am_nw0 _) ⟨I1, J1, rfl, u1, rfl⟩
end MS4
/-- an expression's values don't move its end -/
def pj (r : SR) : Nat ⊕ Nat := match r with
  | .inl p => .inl p
  | .inr q => .inr q.1
theorem sx_ss {tx : Nat → Nat} {c : Nat} {num : Int64} : ∀ (k m s dd : Nat) (a : Int64 × Int32 × Int64) (fl : Int32), pj (sx tx c num k m s dd a fl) = ss tx c k m s dd
  | 0, m, s, dd, a, fl => rfl
  | k + 1, 0, s, dd, a, fl => by
    have ih := sx_ss (tx := tx) (c := c) (num := num) k 1 (nx tx c s) (dd + 1) (0, 0, 0) fl
    simp only [sx, ss]
    split
    · rfl
    · split
      · split
        · rfl
        · rw [← ih]
          cases sx tx c num k 1 (nx tx c s) (dd + 1) (0, 0, 0) fl with
          | inl p => rfl
          | inr q =>
            obtain ⟨s2, v, f2⟩ := q
            show pj (if s2 < c ∧ tx s2 = 41 then Sum.inr (nx tx c s2, v, f2) else Sum.inl s2) = if s2 < c ∧ tx s2 = 41 then Sum.inr (nx tx c s2) else Sum.inl s2
            split <;> rfl
      · split <;> rfl
  | k + 1, 1, s, dd, a, fl => by
    have ih := sx_ss (tx := tx) (c := c) (num := num) k 0 s dd (0, 0, 0) fl
    simp only [sx, ss]
    rw [← ih]
    cases sx tx c num k 0 s dd (0, 0, 0) fl with
    | inl p => rfl
    | inr q =>
      obtain ⟨s2, v, f2⟩ := q
      exact sx_ss k 2 s2 dd (0, 0, v) f2
  | k + 1, m + 2, s, dd, a, fl => by
    have key : ∀ (f1 : Int32) (g : Nat → Int64 → Int32 → (Int64 × Int32 × Int64) × Int32), pj (match sx tx c num k 0 (nx tx c s) dd (0, 0, 0) f1 with
      | .inl p => .inl p
      | .inr (s2, v, f2) => sx tx c num k 2 s2 dd (g s2 v f2).1 (g s2 v f2).2) = (match ss tx c k 0 (nx tx c s) dd with
      | .inl p => .inl p
      | .inr s2 => ss tx c k 2 s2 dd) := by
      intro f1 g
      have ih := sx_ss (tx := tx) (c := c) (num := num) k 0 (nx tx c s) dd (0, 0, 0) f1
      rw [← ih]
      cases sx tx c num k 0 (nx tx c s) dd (0, 0, 0) f1 with
      | inl p => rfl
      | inr q =>
        obtain ⟨s2, v, f2⟩ := q
        exact sx_ss k 2 s2 dd (g s2 v f2).1 (g s2 v f2).2
    simp only [sx, ss]
    by_cases h1 : s < c ∧ tx s = 42
    · rw [if_pos h1, if_pos (show opr tx c s from ⟨h1.1, Or.inl h1.2⟩)]
      exact key fl (fun _ v f2 => ((a.1, a.2.1, (mu a.2.2 v f2).1), (mu a.2.2 v f2).2))
    · rw [if_neg h1]
      by_cases h2 : s < c ∧ tx s = 47
      · rw [if_pos h2, if_pos (show opr tx c s from ⟨h2.1, Or.inr (Or.inl h2.2)⟩)]
        exact key fl (fun _ v f2 => ((a.1, a.2.1, (dv a.2.2 v f2).1), (dv a.2.2 v f2).2))
      · rw [if_neg h2]
        by_cases h3 : s < c ∧ (tx s = 43 ∨ tx s = 45)
        · rw [if_pos h3, if_pos (show opr tx c s from ⟨h3.1, Or.inr (Or.inr h3.2)⟩)]
          exact key _ (fun _ v f2 => (((bd (sm a.2.1 a.1 a.2.2) fl).1, (if tx s = 45 then 1 else 0), v), f2))
        · rw [if_neg h3, if_neg (fun z => by
            rcases z.2 with y | y | y | y
            · exact h1 ⟨z.1, y⟩
            · exact h2 ⟨z.1, y⟩
            · exact h3 ⟨z.1, Or.inl y⟩
            · exact h3 ⟨z.1, Or.inr y⟩)]
          rfl
def pj4 (r : Nat ⊕ (Nat × Nat × Int64 × Int32)) : Nat ⊕ Nat := match r with
  | .inl p => .inl p
  | .inr q => .inr q.1
theorem sStmt_sP {tx : Nat → Nat} {c n : Nat} {num : Int64} {s : Nat} : pj4 (sStmt tx c n num s) = sP tx c n s := by
  have ex : ∀ v, pj4 (sE tx c num s v) = ss tx c 500 1 (nx tx c s) 0 := fun v => by
    rw [← sx_ss (num := num) 500 1 (nx tx c s) 0 (0, 0, 0) 1]
    unfold sE
    cases sx tx c num 500 1 (nx tx c s) 0 (0, 0, 0) 1 with
    | inl p => rfl
    | inr q => rfl
  unfold sStmt sP
  split
  · exact ex 0
  · split
    · exact ex 1
    · split
      · exact ex 2
      · split
        · rfl
        · split
          · split <;> rfl
          · rfl
theorem sRead_sQ {tx : Nat → Nat} {c n : Nat} : ∀ (k j s : Nat), sRead tx c n k j s = sQ tx c n k j s
  | 0, j, s => rfl
  | k + 1, j, s => by
    have h := sStmt_sP (tx := tx) (c := c) (n := n) (num := 0) (s := s)
    rcases hf : sStmt tx c n 0 s with p | q
    · rw [hf] at h
      rw [sRead_l hf, sQ_l h.symm]
    · rw [hf] at h
      rw [sRead_r hf, sQ_r h.symm, sRead_sQ k (j + 1) (nx tx c q.1)]

