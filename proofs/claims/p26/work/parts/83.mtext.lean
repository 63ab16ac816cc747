/-! The reference's text: tokens, words, numbers. -/
def MT (tx : Nat → Nat) (c : Nat) (I : hI) : Prop := I 73 12 = nI c ∧ c ≤ 160 ∧ (∀ k, k < c → I 84 k = nI (tx k)) ∧ (∀ k, k < c → tx k ≤ 255)
theorem MT_of {tx : Nat → Nat} {c : Nat} {I I' : hI} (h : MT tx c I) (h1 : I' 73 12 = I 73 12) (h2 : I' 84 = I 84) : MT tx c I' := ⟨h1.trans h.1, h.2.1, fun k hk => by rw [h2]; exact h.2.2.1 k hk, h.2.2.2⟩
def wvl (tx : Nat → Nat) (s : Nat) : Nat → Nat
  | 0 => 0
  | k + 1 => wvl tx s k * 256 + tx (s + k)
theorem nvl_s (tx : Nat → Nat) : ∀ (k s a : Nat), nvl tx s a (k + 1) = nvl tx s a k * 10 + (tx (s + k) - 48)
  | 0, s, a => rfl
  | k + 1, s, a => by
    show nvl tx (s + 1) (a * 10 + (tx s - 48)) (k + 1) = nvl tx (s + 1) (a * 10 + (tx s - 48)) k * 10 + (tx (s + (k + 1)) - 48)
    rw [nvl_s tx k (s + 1), show s + 1 + k = s + (k + 1) by omega]
theorem lN_subI {a b : Nat} (h : b ≤ a) : lN a - lN b = lN (a - b) := by
  have e : lN a = lN (a - b) + lN b := by rw [lN_add, Nat.sub_add_cancel h]
  rw [e, Int64.sub_eq_add_neg, Int64.add_assoc, Int64.add_right_neg, Int64.add_zero]
theorem lN_eqW {a b : Nat} (ha : a < 2 ^ 62) (hb : b < 2 ^ 62) : lN a = lN b ↔ a = b := by
  refine ⟨fun h => ?_, fun h => by rw [h]⟩
  have h2 := congrArg Int64.toInt h
  rw [show (lN a).toInt = (a : Int) from Int64.toInt_ofNat_of_lt (by omega), show (lN b).toInt = (b : Int) from Int64.toInt_ofNat_of_lt (by omega)] at h2
  omega
theorem wvl_b {tx : Nat → Nat} {s : Nat} : ∀ (k : Nat), (∀ j, j < k → tx (s + j) ≤ 255) → wvl tx s k < 256 ^ k
  | 0, h => by show 0 < 1; omega
  | k + 1, h => by
    have w := wvl_b (tx := tx) (s := s) k (fun j hj => h j (by omega))
    have h0 := h k (by omega)
    show wvl tx s k * 256 + tx (s + k) < _
    rw [Nat.pow_succ]
    have : (wvl tx s k + 1) * 256 ≤ 256 ^ k * 256 := Nat.mul_le_mul_right _ w
    omega
def wvR : List Nat → Nat
  | [] => 0
  | x :: r => wvR r * 256 + x
def wvM (tx : Nat → Nat) (s : Nat) : List Nat → Prop
  | [] => True
  | x :: r => wvM tx s r ∧ tx (s + r.length) = x
theorem wvl_R {tx : Nat → Nat} {s : Nat} : ∀ (r : List Nat) (k : Nat), (∀ x, x ∈ r → 1 ≤ x ∧ x ≤ 255) → (∀ j, j < k → 1 ≤ tx (s + j) ∧ tx (s + j) ≤ 255) → (wvl tx s k = wvR r ↔ k = r.length ∧ wvM tx s r)
  | [], 0, _, _ => ⟨fun _ => ⟨rfl, trivial⟩, fun _ => rfl⟩
  | [], k + 1, _, h => ⟨fun e => by
      have h2 := h k (by omega)
      have e2 : wvl tx s k * 256 + tx (s + k) = 0 := e
      omega, fun e => absurd (show k + 1 = 0 from e.1) (Nat.succ_ne_zero _)⟩
  | x :: r, 0, hr, _ => ⟨fun e => by
      have h2 := hr x List.mem_cons_self
      have e2 : 0 = wvR r * 256 + x := e
      omega, fun e => absurd (show r.length + 1 = 0 from e.1.symm) (Nat.succ_ne_zero _)⟩
  | x :: r, k + 1, hr, h => by
    have i := wvl_R (tx := tx) (s := s) r k (fun y hy => hr y (List.mem_cons_of_mem _ hy)) (fun j hj => h j (by omega))
    have h1 := hr x List.mem_cons_self
    have h2 := h k (by omega)
    show (wvl tx s k * 256 + tx (s + k) = wvR r * 256 + x) ↔ (k + 1 = r.length + 1 ∧ wvM tx s r ∧ tx (s + r.length) = x)
    constructor
    · intro e
      have a : wvl tx s k = wvR r := by omega
      have b : tx (s + k) = x := by omega
      obtain ⟨c1, c2⟩ := i.mp a
      rw [c1] at b
      exact ⟨by omega, c2, b⟩
    · intro ⟨e1, e2, e3⟩
      have e4 : k = r.length := by omega
      have a := i.mpr ⟨e4, e2⟩
      rw [← e4] at e3
      rw [a, e3]
theorem v_wv {tx : Nat → Nat} {s e V : Nat} {N : Int64} (r : List Nat) (hV : wvR r = V) (hN : N = lN V) (hv : V < 2 ^ 62) (hc : ∀ x, x ∈ r → 1 ≤ x ∧ x ≤ 255) (hl : e - s ≤ 5) (hp : ∀ j, s ≤ j → j < e → pL (tx j)) : lN (wvl tx s (e - s)) = N ↔ (e - s = r.length ∧ wvM tx s r) := by
  have hb := wvl_b (tx := tx) (s := s) (e - s) (fun j hj => by have := hp (s + j) (by omega) (by omega); omega)
  have hb2 : 256 ^ (e - s) ≤ 256 ^ 5 := Nat.pow_le_pow_right (by omega) hl
  rw [hN, lN_eqW (by omega) hv, ← hV]
  exact wvl_R r (e - s) hc (fun j hj => by have := hp (s + j) (by omega) (by omega); omega)
theorem v_wF {tx : Nat → Nat} {s e : Nat} (hl : e - s ≤ 5) (hse : s ≤ e) (hp : ∀ j, s ≤ j → j < e → pL (tx j)) : lN (wvl tx s (e - s)) = 440005651813 ↔ wF tx s e := by
  refine (v_wv (V := 440005651813) [101, 109, 97, 114, 102] (by decide +kernel) rfl (by decide +kernel) (by decide +kernel) hl hp).trans ⟨fun h => ?_, fun h => ?_⟩
  · have h1 : e - s = 5 := h.1
    have h2 : (((((True ∧ tx (s + 0) = 102) ∧ tx (s + 1) = 114) ∧ tx (s + 2) = 97) ∧ tx (s + 3) = 109) ∧ tx (s + 4) = 101) := h.2
    exact ⟨by omega, h2.1.1.1.1.2, h2.1.1.1.2, h2.1.1.2, h2.1.2, h2.2⟩
  · obtain ⟨h1, a0, a1, a2, a3, a4⟩ := h
    exact ⟨(show e - s = 5 by omega), ⟨⟨⟨⟨⟨trivial, (show tx (s + 0) = 102 from a0)⟩, (show tx (s + 1) = 114 from a1)⟩, (show tx (s + 2) = 97 from a2)⟩, (show tx (s + 3) = 109 from a3)⟩, (show tx (s + 4) = 101 from a4)⟩⟩
theorem v_wP {tx : Nat → Nat} {s e : Nat} (hl : e - s ≤ 5) (hse : s ≤ e) (hp : ∀ j, s ≤ j → j < e → pL (tx j)) : lN (wvl tx s (e - s)) = 482854660462 ↔ wP tx s e := by
  refine (v_wv (V := 482854660462) [110, 105, 97, 108, 112] (by decide +kernel) rfl (by decide +kernel) (by decide +kernel) hl hp).trans ⟨fun h => ?_, fun h => ?_⟩
  · have h1 : e - s = 5 := h.1
    have h2 : (((((True ∧ tx (s + 0) = 112) ∧ tx (s + 1) = 108) ∧ tx (s + 2) = 97) ∧ tx (s + 3) = 105) ∧ tx (s + 4) = 110) := h.2
    exact ⟨by omega, h2.1.1.1.1.2, h2.1.1.1.2, h2.1.1.2, h2.1.2, h2.2⟩
  · obtain ⟨h1, a0, a1, a2, a3, a4⟩ := h
    exact ⟨(show e - s = 5 by omega), ⟨⟨⟨⟨⟨trivial, (show tx (s + 0) = 112 from a0)⟩, (show tx (s + 1) = 108 from a1)⟩, (show tx (s + 2) = 97 from a2)⟩, (show tx (s + 3) = 105 from a3)⟩, (show tx (s + 4) = 110 from a4)⟩⟩
theorem v_wV {tx : Nat → Nat} {s e : Nat} (hl : e - s ≤ 5) (hse : s ≤ e) (hp : ∀ j, s ≤ j → j < e → pL (tx j)) : lN (wvl tx s (e - s)) = 1718187621 ↔ wV tx s e := by
  refine (v_wv (V := 1718187621) [101, 118, 105, 102] (by decide +kernel) rfl (by decide +kernel) (by decide +kernel) hl hp).trans ⟨fun h => ?_, fun h => ?_⟩
  · have h1 : e - s = 4 := h.1
    have h2 : ((((True ∧ tx (s + 0) = 102) ∧ tx (s + 1) = 105) ∧ tx (s + 2) = 118) ∧ tx (s + 3) = 101) := h.2
    exact ⟨by omega, h2.1.1.1.2, h2.1.1.2, h2.1.2, h2.2⟩
  · obtain ⟨h1, a0, a1, a2, a3⟩ := h
    exact ⟨(show e - s = 4 by omega), ⟨⟨⟨⟨trivial, (show tx (s + 0) = 102 from a0)⟩, (show tx (s + 1) = 105 from a1)⟩, (show tx (s + 2) = 118 from a2)⟩, (show tx (s + 3) = 101 from a3)⟩⟩
theorem v_wW {tx : Nat → Nat} {s e : Nat} (hl : e - s ≤ 5) (hse : s ≤ e) (hp : ∀ j, s ≤ j → j < e → pL (tx j)) : lN (wvl tx s (e - s)) = 1936486263 ↔ wW tx s e := by
  refine (v_wv (V := 1936486263) [119, 111, 108, 115] (by decide +kernel) rfl (by decide +kernel) (by decide +kernel) hl hp).trans ⟨fun h => ?_, fun h => ?_⟩
  · have h1 : e - s = 4 := h.1
    have h2 : ((((True ∧ tx (s + 0) = 115) ∧ tx (s + 1) = 108) ∧ tx (s + 2) = 111) ∧ tx (s + 3) = 119) := h.2
    exact ⟨by omega, h2.1.1.1.2, h2.1.1.2, h2.1.2, h2.2⟩
  · obtain ⟨h1, a0, a1, a2, a3⟩ := h
    exact ⟨(show e - s = 4 by omega), ⟨⟨⟨⟨trivial, (show tx (s + 0) = 115 from a0)⟩, (show tx (s + 1) = 108 from a1)⟩, (show tx (s + 2) = 111 from a2)⟩, (show tx (s + 3) = 119 from a3)⟩⟩
theorem v_wH {tx : Nat → Nat} {s e : Nat} (hl : e - s ≤ 5) (hse : s ≤ e) (hp : ∀ j, s ≤ j → j < e → pL (tx j)) : lN (wvl tx s (e - s)) = 1751476594 ↔ wH tx s e := by
  refine (v_wv (V := 1751476594) [114, 105, 101, 104] (by decide +kernel) rfl (by decide +kernel) (by decide +kernel) hl hp).trans ⟨fun h => ?_, fun h => ?_⟩
  · have h1 : e - s = 4 := h.1
    have h2 : ((((True ∧ tx (s + 0) = 104) ∧ tx (s + 1) = 101) ∧ tx (s + 2) = 105) ∧ tx (s + 3) = 114) := h.2
    exact ⟨by omega, h2.1.1.1.2, h2.1.1.2, h2.1.2, h2.2⟩
  · obtain ⟨h1, a0, a1, a2, a3⟩ := h
    exact ⟨(show e - s = 4 by omega), ⟨⟨⟨⟨trivial, (show tx (s + 0) = 104 from a0)⟩, (show tx (s + 1) = 101 from a1)⟩, (show tx (s + 2) = 105 from a2)⟩, (show tx (s + 3) = 114 from a3)⟩⟩
theorem v_wK {tx : Nat → Nat} {s e : Nat} (hl : e - s ≤ 5) (hse : s ≤ e) (hp : ∀ j, s ≤ j → j < e → pL (tx j)) : lN (wvl tx s (e - s)) = 495875089259 ↔ wK tx s e := by
  refine (v_wv (V := 495875089259) [107, 99, 117, 116, 115] (by decide +kernel) rfl (by decide +kernel) (by decide +kernel) hl hp).trans ⟨fun h => ?_, fun h => ?_⟩
  · have h1 : e - s = 5 := h.1
    have h2 : (((((True ∧ tx (s + 0) = 115) ∧ tx (s + 1) = 116) ∧ tx (s + 2) = 117) ∧ tx (s + 3) = 99) ∧ tx (s + 4) = 107) := h.2
    exact ⟨by omega, h2.1.1.1.1.2, h2.1.1.1.2, h2.1.1.2, h2.1.2, h2.2⟩
  · obtain ⟨h1, a0, a1, a2, a3, a4⟩ := h
    exact ⟨(show e - s = 5 by omega), ⟨⟨⟨⟨⟨trivial, (show tx (s + 0) = 115 from a0)⟩, (show tx (s + 1) = 116 from a1)⟩, (show tx (s + 2) = 117 from a2)⟩, (show tx (s + 3) = 99 from a3)⟩, (show tx (s + 4) = 107 from a4)⟩⟩
theorem v_wS {tx : Nat → Nat} {s e : Nat} (hl : e - s ≤ 5) (hse : s ≤ e) (hp : ∀ j, s ≤ j → j < e → pL (tx j)) : lN (wvl tx s (e - s)) = 7562612 ↔ wS tx s e := by
  refine (v_wv (V := 7562612) [116, 101, 115] (by decide +kernel) rfl (by decide +kernel) (by decide +kernel) hl hp).trans ⟨fun h => ?_, fun h => ?_⟩
  · have h1 : e - s = 3 := h.1
    have h2 : (((True ∧ tx (s + 0) = 115) ∧ tx (s + 1) = 101) ∧ tx (s + 2) = 116) := h.2
    exact ⟨by omega, h2.1.1.2, h2.1.2, h2.2⟩
  · obtain ⟨h1, a0, a1, a2⟩ := h
    exact ⟨(show e - s = 3 by omega), ⟨⟨⟨trivial, (show tx (s + 0) = 115 from a0)⟩, (show tx (s + 1) = 101 from a1)⟩, (show tx (s + 2) = 116 from a2)⟩⟩
theorem v_wA {tx : Nat → Nat} {s e : Nat} (hl : e - s ≤ 5) (hse : s ≤ e) (hp : ∀ j, s ≤ j → j < e → pL (tx j)) : lN (wvl tx s (e - s)) = 6382692 ↔ wA tx s e := by
  refine (v_wv (V := 6382692) [100, 100, 97] (by decide +kernel) rfl (by decide +kernel) (by decide +kernel) hl hp).trans ⟨fun h => ?_, fun h => ?_⟩
  · have h1 : e - s = 3 := h.1
    have h2 : (((True ∧ tx (s + 0) = 97) ∧ tx (s + 1) = 100) ∧ tx (s + 2) = 100) := h.2
    exact ⟨by omega, h2.1.1.2, h2.1.2, h2.2⟩
  · obtain ⟨h1, a0, a1, a2⟩ := h
    exact ⟨(show e - s = 3 by omega), ⟨⟨⟨trivial, (show tx (s + 0) = 97 from a0)⟩, (show tx (s + 1) = 100 from a1)⟩, (show tx (s + 2) = 100 from a2)⟩⟩
theorem v_wB {tx : Nat → Nat} {s e : Nat} (hl : e - s ≤ 5) (hse : s ≤ e) (hp : ∀ j, s ≤ j → j < e → pL (tx j)) : lN (wvl tx s (e - s)) = 7566690 ↔ wB tx s e := by
  refine (v_wv (V := 7566690) [98, 117, 115] (by decide +kernel) rfl (by decide +kernel) (by decide +kernel) hl hp).trans ⟨fun h => ?_, fun h => ?_⟩
  · have h1 : e - s = 3 := h.1
    have h2 : (((True ∧ tx (s + 0) = 115) ∧ tx (s + 1) = 117) ∧ tx (s + 2) = 98) := h.2
    exact ⟨by omega, h2.1.1.2, h2.1.2, h2.2⟩
  · obtain ⟨h1, a0, a1, a2⟩ := h
    exact ⟨(show e - s = 3 by omega), ⟨⟨⟨trivial, (show tx (s + 0) = 115 from a0)⟩, (show tx (s + 1) = 117 from a1)⟩, (show tx (s + 2) = 98 from a2)⟩⟩
theorem v_wC {tx : Nat → Nat} {s e : Nat} (hl : e - s ≤ 5) (hse : s ≤ e) (hp : ∀ j, s ≤ j → j < e → pL (tx j)) : lN (wvl tx s (e - s)) = 427020345714 ↔ wC tx s e := by
  refine (v_wv (V := 427020345714) [114, 97, 101, 108, 99] (by decide +kernel) rfl (by decide +kernel) (by decide +kernel) hl hp).trans ⟨fun h => ?_, fun h => ?_⟩
  · have h1 : e - s = 5 := h.1
    have h2 : (((((True ∧ tx (s + 0) = 99) ∧ tx (s + 1) = 108) ∧ tx (s + 2) = 101) ∧ tx (s + 3) = 97) ∧ tx (s + 4) = 114) := h.2
    exact ⟨by omega, h2.1.1.1.1.2, h2.1.1.1.2, h2.1.1.2, h2.1.2, h2.2⟩
  · obtain ⟨h1, a0, a1, a2, a3, a4⟩ := h
    exact ⟨(show e - s = 5 by omega), ⟨⟨⟨⟨⟨trivial, (show tx (s + 0) = 99 from a0)⟩, (show tx (s + 1) = 108 from a1)⟩, (show tx (s + 2) = 101 from a2)⟩, (show tx (s + 3) = 97 from a3)⟩, (show tx (s + 4) = 114 from a4)⟩⟩
theorem v_wY {tx : Nat → Nat} {s e : Nat} (hl : e - s ≤ 5) (hse : s ≤ e) (hp : ∀ j, s ≤ j → j < e → pL (tx j)) : lN (wvl tx s (e - s)) = 426836652665 ↔ wY tx s e := by
  refine (v_wv (V := 426836652665) [121, 114, 114, 97, 99] (by decide +kernel) rfl (by decide +kernel) (by decide +kernel) hl hp).trans ⟨fun h => ?_, fun h => ?_⟩
  · have h1 : e - s = 5 := h.1
    have h2 : (((((True ∧ tx (s + 0) = 99) ∧ tx (s + 1) = 97) ∧ tx (s + 2) = 114) ∧ tx (s + 3) = 114) ∧ tx (s + 4) = 121) := h.2
    exact ⟨by omega, h2.1.1.1.1.2, h2.1.1.1.2, h2.1.1.2, h2.1.2, h2.2⟩
  · obtain ⟨h1, a0, a1, a2, a3, a4⟩ := h
    exact ⟨(show e - s = 5 by omega), ⟨⟨⟨⟨⟨trivial, (show tx (s + 0) = 99 from a0)⟩, (show tx (s + 1) = 97 from a1)⟩, (show tx (s + 2) = 114 from a2)⟩, (show tx (s + 3) = 114 from a3)⟩, (show tx (s + 4) = 121 from a4)⟩⟩
section MTX
variable {sc : Nat × (Nat → Int32)} {d : Nat} {I : hI} {J : hJ} {R : hR} {T : am_H} {Q : Option Value → am_H → Prop} {tx : Nat → Nat} {c : Nat}
theorem m_let_in {x : Int32} {i : Nat} (hM : MT tx c I) (hx : x = nI i) (hi : i < c) : am_E sc (d + 1) 176 [.ref 73, .int x] (HH I J R T) (some (.int (nI (tx i)))) (HH I J R T) := by
  have hc := hM.2.1
  have w := m_letterAt (sc := sc) (d := d) (I := I) (J := J) (R := R) (T := T) hM.1 hM.2.1 hx (by omega)
  rw [if_pos hi, hM.2.2.1 i hi] at w
  exact w
theorem m_let_out {x : Int32} {i : Nat} (hM : MT tx c I) (hx : x = nI i) (hi : ¬ i < c) (h2 : i ≤ 200) : am_E sc (d + 1) 176 [.ref 73, .int x] (HH I J R T) (some (.int (-1))) (HH I J R T) := by
  have w := m_letterAt (sc := sc) (d := d) (I := I) (J := J) (R := R) (T := T) hM.1 hM.2.1 hx (by omega)
  rw [if_neg hi] at w
  exact w
theorem m_isSmallN {t : Nat} (ht : t ≤ 255) : am_E sc (d + 2) 177 [.int (nI t)] (HH I J R T) (some (.int (if pL t then 1 else 0))) (HH I J R T) := by
  have w := m_isSmall (sc := sc) (d := d) (h := HH I J R T) (c := nI t)
  have e : (97 ≤ (nI t).toInt ∧ (nI t).toInt ≤ 122) ↔ pL t := by rw [nI_toInt (by omega)]; omega
  simp only [e] at w
  exact w
theorem m_isFigureN {t : Nat} (ht : t ≤ 255) : am_E sc (d + 2) 178 [.int (nI t)] (HH I J R T) (some (.int (if pD t then 1 else 0))) (HH I J R T) := by
  have w := m_isFigure (sc := sc) (d := d) (h := HH I J R T) (c := nI t)
  have e : (48 ≤ (nI t).toInt ∧ (nI t).toInt ≤ 57) ↔ pD t := by rw [nI_toInt (by omega)]; omega
  simp only [e] at w
  exact w
theorem m_isSmallX : am_E sc (d + 2) 177 [.int (-1)] (HH I J R T) (some (.int 0)) (HH I J R T) := m_isSmall (c := -1)
theorem m_isFigureX : am_E sc (d + 2) 178 [.int (-1)] (HH I J R T) (some (.int 0)) (HH I J R T) := m_isFigure (c := -1)
/-- only readAt moves -/
def U14 (I I' : hI) : Prop := (∀ a, a ≠ 73 → I' a = I a) ∧ (∀ k, k ≠ 14 → I' 73 k = I 73 k)
theorem U14_0 (I : hI) : U14 I I := ⟨fun _ _ => rfl, fun _ _ => rfl⟩
theorem U14_s {v : Int32} {I' : hI} (h : U14 (sf I 73 14 v) I') : U14 I I' := ⟨fun a ha => by rw [h.1 a ha, sf_c ha], fun k hk => by rw [h.2 k hk, sf_k hk]⟩
theorem MT_14 {I' : hI} (hM : MT tx c I) (h : U14 I I') : MT tx c I' := MT_of hM (h.2 12 (by decide)) (h.1 84 (by decide))
theorem MT_sf {v : Int32} (hM : MT tx c I) : MT tx c (sf I 73 14 v) := MT_of hM rfl rfl
theorem m_rd_a : ∀ (k i : Nat) (I : hI), c - i = k → i ≤ c → MT tx c I → I 73 14 = nI i → (∀ I', U14 I I' → I' 73 14 = nI (tS tx c i) → Zs sc (d + 1) (am_P 179).2 (26, [(0, .ref 73)], []) (HH I' J R T) Q) → Zs sc (d + 1) (am_P 179).2 (0, [(0, .ref 73)], []) (HH I J R T) Q
  | 0, i, I, hk, hi, hM, h14, K => by
    have e : tS tx c i = i := ru_out (by omega)
    have hc := hM.2.1
    refine Z_jump 3 rfl ?_
    show Zs _ _ (am_P 179).2 (5, [(0, .ref 73)], [.int (I 73 14), .ref 73]) (HH I J R T) _
    refine Z_c1 rfl rfl rfl (m_let_out hM h14 (by omega) (by omega)) ?_
    show Zs _ _ (am_P 179).2 (8, [(0, .ref 73)], [.int (-1 : Int32)]) (HH I J R T) _
    refine Z_jump 2 rfl ?_
    show Zs _ _ (am_P 179).2 (26, [(0, .ref 73)], []) (HH I J R T) _
    exact K I (U14_0 I) (by rw [e]; exact h14)
  | k + 1, i, I, hk, hi, hM, h14, K => by
    have hic : i < c := by omega
    have hc := hM.2.1
    have h255 := hM.2.2.2 i hic
    have e32 : nI (tx i) = 32 ↔ tx i = 32 := nI_eq (b := 32) (by omega) (by omega)
    refine Z_jump 3 rfl ?_
    show Zs _ _ (am_P 179).2 (5, [(0, .ref 73)], [.int (I 73 14), .ref 73]) (HH I J R T) _
    refine Z_c1 rfl rfl rfl (m_let_in hM h14 hic) ?_
    show Zs _ _ (am_P 179).2 (8, [(0, .ref 73)], [.int (nI (tx i))]) (HH I J R T) _
    refine Z_jump 2 rfl ?_
    refine Z_bn (fun (c10 : ¬ ((nI (tx i)) = (32 : Int32))) => ?_) (fun (c10 : (nI (tx i)) = (32 : Int32)) => ?_)
    · show Zs _ _ (am_P 179).2 (26, [(0, .ref 73)], []) (HH I J R T) _
      have e1 : tS tx c i = i := ru_out (fun z => c10 (e32.mpr (of_decide_eq_true z.2)))
      exact K I (U14_0 I) (by rw [e1]; exact h14)
    · refine Z_jump 6 rfl ?_
      show Zs _ _ (am_P 179).2 (23, [(0, .ref 73)], []) (HH (sf I 73 14 ((I 73 14) + (1 : Int32))) J R T) _
      refine Z_jump 1 rfl ?_
      show Zs _ _ (am_P 179).2 (0, [(0, .ref 73)], []) (HH (sf I 73 14 ((I 73 14) + (1 : Int32))) J R T) _
      have e1 : tS tx c i = tS tx c (i + 1) := ru_in hic (decide_eq_true (e32.mp c10))
      exact m_rd_a k (i + 1) _ (by omega) (by omega) (MT_sf hM) (by rw [sf_s, h14]; exact nI_1 i) (fun I' h1 h2 => K I' (U14_s h1) (by rw [e1]; exact h2))
theorem m_rd_w {v : Int32} : ∀ (k i : Nat) (I : hI), c - i = k → i ≤ c → MT tx c I → I 73 14 = nI i → (∀ I', U14 I I' → I' 73 14 = nI (ru pLb tx c i) → Zs sc (d + 2) (am_P 179).2 (89, [(0, .ref 73), (1, .int v)], []) (HH I' J R T) Q) → Zs sc (d + 2) (am_P 179).2 (62, [(0, .ref 73), (1, .int v)], []) (HH I J R T) Q
  | 0, i, I, hk, hi, hM, h14, K => by
    have e : ru pLb tx c i = i := ru_out (by omega)
    have hc := hM.2.1
    refine Z_jump 3 rfl ?_
    show Zs _ _ (am_P 179).2 (67, [(0, .ref 73), (1, .int v)], [.int (I 73 14), .ref 73]) (HH I J R T) _
    refine Z_c1 rfl rfl rfl (m_let_out hM h14 (by omega) (by omega)) ?_
    show Zs _ _ (am_P 179).2 (70, [(0, .ref 73), (1, .int v)], [.int (-1 : Int32)]) (HH I J R T) _
    show Zs _ _ (am_P 179).2 (70, [(0, .ref 73), (1, .int v)], [.int (-1 : Int32)]) (HH I J R T) _
    refine Z_c1 rfl rfl rfl (m_isSmallX) ?_
    show Zs _ _ (am_P 179).2 (73, [(0, .ref 73), (1, .int v)], [.int (0 : Int32)]) (HH I J R T) _
    refine Z_jump 1 rfl ?_
    show Zs _ _ (am_P 179).2 (89, [(0, .ref 73), (1, .int v)], []) (HH I J R T) _
    exact K I (U14_0 I) (by rw [e]; exact h14)
  | k + 1, i, I, hk, hi, hM, h14, K => by
    have hic : i < c := by omega
    have hc := hM.2.1
    have h255 := hM.2.2.2 i hic
    refine Z_jump 3 rfl ?_
    show Zs _ _ (am_P 179).2 (67, [(0, .ref 73), (1, .int v)], [.int (I 73 14), .ref 73]) (HH I J R T) _
    refine Z_c1 rfl rfl rfl (m_let_in hM h14 hic) ?_
    show Zs _ _ (am_P 179).2 (70, [(0, .ref 73), (1, .int v)], [.int (nI (tx i))]) (HH I J R T) _
    show Zs _ _ (am_P 179).2 (70, [(0, .ref 73), (1, .int v)], [.int (nI (tx i))]) (HH I J R T) _
    refine Z_c1 rfl rfl rfl (m_isSmallN h255) ?_
    show Zs _ _ (am_P 179).2 (73, [(0, .ref 73), (1, .int v)], [.int (if pL (tx i) then 1 else 0)]) (HH I J R T) _
    refine Z_jump 1 rfl ?_
    refine Z_bd (fun (c73 : (if pL (tx i) then 1 else 0) = (0 : Int32)) => ?_) (fun (c73 : ¬ ((if pL (tx i) then 1 else 0) = (0 : Int32))) => ?_)
    · show Zs _ _ (am_P 179).2 (89, [(0, .ref 73), (1, .int v)], []) (HH I J R T) _
      have e1 : ru pLb tx c i = i := ru_out (fun z => if10.mp c73 (of_decide_eq_true z.2))
      exact K I (U14_0 I) (by rw [e1]; exact h14)
    · refine Z_jump 6 rfl ?_
      show Zs _ _ (am_P 179).2 (86, [(0, .ref 73), (1, .int v)], []) (HH (sf I 73 14 ((I 73 14) + (1 : Int32))) J R T) _
      refine Z_jump 1 rfl ?_
      show Zs _ _ (am_P 179).2 (62, [(0, .ref 73), (1, .int v)], []) (HH (sf I 73 14 ((I 73 14) + (1 : Int32))) J R T) _
      have e1 : ru pLb tx c i = ru pLb tx c (i + 1) := ru_in hic (decide_eq_true (if10n c73))
      exact m_rd_w k (i + 1) _ (by omega) (by omega) (MT_sf hM) (by rw [sf_s, h14]; exact nI_1 i) (fun I' h1 h2 => K I' (U14_s h1) (by rw [e1]; exact h2))
/-- wordOf -/
theorem m_wordOf_l {s e : Nat} {x1 x2 : Int32} (hM : MT tx c I) (he : e ≤ c) (hs : x1 = nI s) (hz : x2 = nI (e - s)) (hse : s ≤ e) : ∀ (k j : Nat) (x : Int32), j + k = e - s → x = nI j → Zs sc d (am_P 182).2 (41, [(0, .ref 73), (1, .int x1), (2, .int x2), (3, .long (lN (wvl tx s (e - s)))), (5, .int (nI (e - s)))], []) (HH I J R T) Q → Zs sc d (am_P 182).2 (12, [(0, .ref 73), (1, .int x1), (2, .int x2), (3, .long (lN (wvl tx s j))), (5, .int x)], []) (HH I J R T) Q
  | 0, j, x, hj, hx, K => by
    have hc := hM.2.1
    have e1 : j = e - s := by omega
    subst e1
    rw [← hx] at K
    refine Z_jump 3 rfl ?_
    refine Z_bd (fun c15 => ?_) (fun c15 => absurd ((show x2 ≤ x by rw [hx, hz]; exact nI_le (Nat.le_refl _) (by omega))) c15)
    show Zs _ _ (am_P 182).2 (41, [(0, .ref 73), (1, .int x1), (2, .int x2), (3, .long (lN (wvl tx s (e - s)))), (5, .int x)], []) (HH I J R T) _
    exact K
  | k + 1, j, x, hj, hx, K => by
    have hc := hM.2.1
    have e2 : lN (wvl tx s j) * 256 + Int32.toInt64 (I 84 (s + j)) = lN (wvl tx s (j + 1)) := by
      have h255 := hM.2.2.2 (s + j) (by omega)
      rw [hM.2.2.1 (s + j) (by omega), nI_l (by omega), show (256 : Int64) = lN 256 from rfl, lN_mul, lN_add]
      rfl
    refine Z_jump 3 rfl ?_
    refine Z_bd (fun c15 => absurd c15 ((show ¬ x2 ≤ x by rw [hx, hz]; exact nI_ge (by omega) (by omega)))) (fun c15 => ?_)
    refine Z_jump 8 rfl ?_
    show Zs _ _ (am_P 182).2 (31, [(0, .ref 73), (1, .int x1), (2, .int x2), (3, .long (lN (wvl tx s j))), (5, .int x)], [.int (x1 + x), .ref 84, .long ((lN (wvl tx s j)) * (256 : Int64))]) (HH I J R T) _
    refine Z_ialK (s + j) rfl rfl (show x1 + x = nI (s + j) by rw [hs, hx]; exact nI_add s j) (by omega) (by decide) ?_
    show Zs _ _ (am_P 182).2 (32, [(0, .ref 73), (1, .int x1), (2, .int x2), (3, .long (lN (wvl tx s j))), (5, .int x)], [.int (I 84 (s + j)), .long ((lN (wvl tx s j)) * (256 : Int64))]) (HH I J R T) _
    refine Z_jump 2 rfl ?_
    show Zs _ _ (am_P 182).2 (34, [(0, .ref 73), (1, .int x1), (2, .int x2), (3, .long (lN (wvl tx s j))), (5, .int x)], [.long (((lN (wvl tx s j)) * (256 : Int64)) + (Int32.toInt64 (I 84 (s + j))))]) (HH I J R T) _
    refine Z_eqL (y := (lN (wvl tx s (j + 1)))) (e2) ?_
    show Zs _ _ (am_P 182).2 (34, [(0, .ref 73), (1, .int x1), (2, .int x2), (3, .long (lN (wvl tx s j))), (5, .int x)], [.long (lN (wvl tx s (j + 1)))]) (HH I J R T) _
    refine Z_jump 3 rfl ?_
    show Zs _ _ (am_P 182).2 (12, [(0, .ref 73), (1, .int x1), (2, .int x2), (3, .long (lN (wvl tx s (j + 1)))), (5, .int (x + 1))], []) (HH I J R T) _
    exact m_wordOf_l hM he hs hz hse k (j + 1) _ (by omega) (by rw [hx]; exact nI_1 j) K
theorem m_code {a b e f g : Int32} {v : Int64} (h : (((a.toInt64 * 256 + b.toInt64) * 256 + e.toInt64) * 256 + f.toInt64) * 256 + g.toInt64 = v) : am_E sc (d + 1) 181 [.int a, .int b, .int e, .int f, .int g] (HH I J R T) (some (.long v)) (HH I J R T) := by
  refine E_Z (Ze_of (Nat.le_of_ble_eq_true rfl) ?_)
  refine Z_jump 22 rfl ?_
  show Zs _ _ (am_P 181).2 (31, [(0, .int a), (1, .int b), (2, .int e), (3, .int f), (4, .int g)], [.long (((((((((Int32.toInt64 a) * (256 : Int64)) + (Int32.toInt64 b)) * (256 : Int64)) + (Int32.toInt64 e)) * (256 : Int64)) + (Int32.toInt64 f)) * (256 : Int64)) + (Int32.toInt64 g))]) (HH I J R T) _
  refine Z_ret rfl rfl rfl ?_
  exact ⟨by rw [h], rfl⟩
theorem m_wordOf {s e : Nat} {x1 x2 : Int32} (hM : MT tx c I) (he : e ≤ c) (hs : x1 = nI s) (hz : x2 = nI (e - s)) (hse : s ≤ e) (hp : ∀ j, s ≤ j → j < e → pL (tx j)) : am_E sc (d + 2) 182 [.ref 73, .int x1, .int x2] (HH I J R T) (some (.int (nI (wcode tx s e)))) (HH I J R T) := by
  refine E_Z (Ze_of (Nat.le_of_ble_eq_true rfl) ?_)
  have hc := hM.2.1
  have e2 : x2 ≤ 5 ↔ e - s ≤ 5 := by rw [hz]; exact nI_leI (b := 5) (by omega) (by omega)
  by_cases hl : e - s ≤ 5
  · refine Z_jump 3 rfl ?_
    refine Z_bd (fun c2 => ?_) (fun c2 => absurd ((e2.mpr hl)) c2)
    refine Z_jump 4 rfl ?_
    show Zs _ _ (am_P 182).2 (12, [(0, .ref 73), (1, .int x1), (2, .int x2), (3, .long (0 : Int64)), (5, .int (0 : Int32))], []) (HH I J R T) _
    refine m_wordOf_l hM he hs hz hse (e - s) 0 _ (by omega) rfl ?_
    have ywF := v_wF (tx := tx) hl hse hp
    have ywP := v_wP (tx := tx) hl hse hp
    have ywV := v_wV (tx := tx) hl hse hp
    have ywW := v_wW (tx := tx) hl hse hp
    have ywH := v_wH (tx := tx) hl hse hp
    have ywK := v_wK (tx := tx) hl hse hp
    have ywS := v_wS (tx := tx) hl hse hp
    have ywA := v_wA (tx := tx) hl hse hp
    have ywB := v_wB (tx := tx) hl hse hp
    have ywC := v_wC (tx := tx) hl hse hp
    have ywY := v_wY (tx := tx) hl hse hp
    refine Z_jump 6 rfl ?_
    show Zs _ _ (am_P 182).2 (52, [(0, .ref 73), (1, .int x1), (2, .int x2), (3, .long (lN (wvl tx s (e - s)))), (5, .int (nI (e - s)))], [.int (101 : Int32), .int (109 : Int32), .int (97 : Int32), .int (114 : Int32), .int (102 : Int32), .long (lN (wvl tx s (e - s)))]) (HH I J R T) _
    refine Z_c1 rfl rfl rfl (m_code rfl) ?_
    show Zs _ _ (am_P 182).2 (55, [(0, .ref 73), (1, .int x1), (2, .int x2), (3, .long (lN (wvl tx s (e - s)))), (5, .int (nI (e - s)))], [.long (440005651813 : Int64), .long (lN (wvl tx s (e - s)))]) (HH I J R T) _
    refine Z_jump 2 rfl ?_
    refine Z_bn (fun (c56 : ¬ ((lg_cmp (lN (wvl tx s (e - s))) (440005651813 : Int64)) = (0 : Int32))) => ?_) (fun (c56 : (lg_cmp (lN (wvl tx s (e - s))) (440005651813 : Int64)) = (0 : Int32)) => ?_)
    · rw [lc_eq] at c56
      refine Z_jump 6 rfl ?_
      show Zs _ _ (am_P 182).2 (74, [(0, .ref 73), (1, .int x1), (2, .int x2), (3, .long (lN (wvl tx s (e - s)))), (5, .int (nI (e - s)))], [.int (110 : Int32), .int (105 : Int32), .int (97 : Int32), .int (108 : Int32), .int (112 : Int32), .long (lN (wvl tx s (e - s)))]) (HH I J R T) _
      refine Z_c1 rfl rfl rfl (m_code rfl) ?_
      show Zs _ _ (am_P 182).2 (77, [(0, .ref 73), (1, .int x1), (2, .int x2), (3, .long (lN (wvl tx s (e - s)))), (5, .int (nI (e - s)))], [.long (482854660462 : Int64), .long (lN (wvl tx s (e - s)))]) (HH I J R T) _
      refine Z_jump 2 rfl ?_
      refine Z_bn (fun (c78 : ¬ ((lg_cmp (lN (wvl tx s (e - s))) (482854660462 : Int64)) = (0 : Int32))) => ?_) (fun (c78 : (lg_cmp (lN (wvl tx s (e - s))) (482854660462 : Int64)) = (0 : Int32)) => ?_)
      · rw [lc_eq] at c78
        refine Z_jump 6 rfl ?_
        show Zs _ _ (am_P 182).2 (95, [(0, .ref 73), (1, .int x1), (2, .int x2), (3, .long (lN (wvl tx s (e - s)))), (5, .int (nI (e - s)))], [.int (101 : Int32), .int (118 : Int32), .int (105 : Int32), .int (102 : Int32), .int (0 : Int32), .long (lN (wvl tx s (e - s)))]) (HH I J R T) _
        refine Z_c1 rfl rfl rfl (m_code rfl) ?_
        show Zs _ _ (am_P 182).2 (98, [(0, .ref 73), (1, .int x1), (2, .int x2), (3, .long (lN (wvl tx s (e - s)))), (5, .int (nI (e - s)))], [.long (1718187621 : Int64), .long (lN (wvl tx s (e - s)))]) (HH I J R T) _
        refine Z_jump 2 rfl ?_
        refine Z_bn (fun (c99 : ¬ ((lg_cmp (lN (wvl tx s (e - s))) (1718187621 : Int64)) = (0 : Int32))) => ?_) (fun (c99 : (lg_cmp (lN (wvl tx s (e - s))) (1718187621 : Int64)) = (0 : Int32)) => ?_)
        · rw [lc_eq] at c99
          refine Z_jump 6 rfl ?_
          show Zs _ _ (am_P 182).2 (116, [(0, .ref 73), (1, .int x1), (2, .int x2), (3, .long (lN (wvl tx s (e - s)))), (5, .int (nI (e - s)))], [.int (119 : Int32), .int (111 : Int32), .int (108 : Int32), .int (115 : Int32), .int (0 : Int32), .long (lN (wvl tx s (e - s)))]) (HH I J R T) _
          refine Z_c1 rfl rfl rfl (m_code rfl) ?_
          show Zs _ _ (am_P 182).2 (119, [(0, .ref 73), (1, .int x1), (2, .int x2), (3, .long (lN (wvl tx s (e - s)))), (5, .int (nI (e - s)))], [.long (1936486263 : Int64), .long (lN (wvl tx s (e - s)))]) (HH I J R T) _
          refine Z_jump 2 rfl ?_
          refine Z_bn (fun (c120 : ¬ ((lg_cmp (lN (wvl tx s (e - s))) (1936486263 : Int64)) = (0 : Int32))) => ?_) (fun (c120 : (lg_cmp (lN (wvl tx s (e - s))) (1936486263 : Int64)) = (0 : Int32)) => ?_)
          · rw [lc_eq] at c120
            refine Z_jump 6 rfl ?_
            show Zs _ _ (am_P 182).2 (137, [(0, .ref 73), (1, .int x1), (2, .int x2), (3, .long (lN (wvl tx s (e - s)))), (5, .int (nI (e - s)))], [.int (114 : Int32), .int (105 : Int32), .int (101 : Int32), .int (104 : Int32), .int (0 : Int32), .long (lN (wvl tx s (e - s)))]) (HH I J R T) _
            refine Z_c1 rfl rfl rfl (m_code rfl) ?_
            show Zs _ _ (am_P 182).2 (140, [(0, .ref 73), (1, .int x1), (2, .int x2), (3, .long (lN (wvl tx s (e - s)))), (5, .int (nI (e - s)))], [.long (1751476594 : Int64), .long (lN (wvl tx s (e - s)))]) (HH I J R T) _
            refine Z_jump 2 rfl ?_
            refine Z_bn (fun (c141 : ¬ ((lg_cmp (lN (wvl tx s (e - s))) (1751476594 : Int64)) = (0 : Int32))) => ?_) (fun (c141 : (lg_cmp (lN (wvl tx s (e - s))) (1751476594 : Int64)) = (0 : Int32)) => ?_)
            · rw [lc_eq] at c141
              refine Z_jump 6 rfl ?_
              show Zs _ _ (am_P 182).2 (159, [(0, .ref 73), (1, .int x1), (2, .int x2), (3, .long (lN (wvl tx s (e - s)))), (5, .int (nI (e - s)))], [.int (107 : Int32), .int (99 : Int32), .int (117 : Int32), .int (116 : Int32), .int (115 : Int32), .long (lN (wvl tx s (e - s)))]) (HH I J R T) _
              refine Z_c1 rfl rfl rfl (m_code rfl) ?_
              show Zs _ _ (am_P 182).2 (162, [(0, .ref 73), (1, .int x1), (2, .int x2), (3, .long (lN (wvl tx s (e - s)))), (5, .int (nI (e - s)))], [.long (495875089259 : Int64), .long (lN (wvl tx s (e - s)))]) (HH I J R T) _
              refine Z_jump 2 rfl ?_
              refine Z_bn (fun (c163 : ¬ ((lg_cmp (lN (wvl tx s (e - s))) (495875089259 : Int64)) = (0 : Int32))) => ?_) (fun (c163 : (lg_cmp (lN (wvl tx s (e - s))) (495875089259 : Int64)) = (0 : Int32)) => ?_)
              · rw [lc_eq] at c163
                refine Z_jump 6 rfl ?_
                show Zs _ _ (am_P 182).2 (180, [(0, .ref 73), (1, .int x1), (2, .int x2), (3, .long (lN (wvl tx s (e - s)))), (5, .int (nI (e - s)))], [.int (116 : Int32), .int (101 : Int32), .int (115 : Int32), .int (0 : Int32), .int (0 : Int32), .long (lN (wvl tx s (e - s)))]) (HH I J R T) _
                refine Z_c1 rfl rfl rfl (m_code rfl) ?_
                show Zs _ _ (am_P 182).2 (183, [(0, .ref 73), (1, .int x1), (2, .int x2), (3, .long (lN (wvl tx s (e - s)))), (5, .int (nI (e - s)))], [.long (7562612 : Int64), .long (lN (wvl tx s (e - s)))]) (HH I J R T) _
                refine Z_jump 2 rfl ?_
                refine Z_bn (fun (c184 : ¬ ((lg_cmp (lN (wvl tx s (e - s))) (7562612 : Int64)) = (0 : Int32))) => ?_) (fun (c184 : (lg_cmp (lN (wvl tx s (e - s))) (7562612 : Int64)) = (0 : Int32)) => ?_)
                · rw [lc_eq] at c184
                  refine Z_jump 6 rfl ?_
                  show Zs _ _ (am_P 182).2 (201, [(0, .ref 73), (1, .int x1), (2, .int x2), (3, .long (lN (wvl tx s (e - s)))), (5, .int (nI (e - s)))], [.int (100 : Int32), .int (100 : Int32), .int (97 : Int32), .int (0 : Int32), .int (0 : Int32), .long (lN (wvl tx s (e - s)))]) (HH I J R T) _
                  refine Z_c1 rfl rfl rfl (m_code rfl) ?_
                  show Zs _ _ (am_P 182).2 (204, [(0, .ref 73), (1, .int x1), (2, .int x2), (3, .long (lN (wvl tx s (e - s)))), (5, .int (nI (e - s)))], [.long (6382692 : Int64), .long (lN (wvl tx s (e - s)))]) (HH I J R T) _
                  refine Z_jump 2 rfl ?_
                  refine Z_bn (fun (c205 : ¬ ((lg_cmp (lN (wvl tx s (e - s))) (6382692 : Int64)) = (0 : Int32))) => ?_) (fun (c205 : (lg_cmp (lN (wvl tx s (e - s))) (6382692 : Int64)) = (0 : Int32)) => ?_)
                  · rw [lc_eq] at c205
                    refine Z_jump 6 rfl ?_
                    show Zs _ _ (am_P 182).2 (222, [(0, .ref 73), (1, .int x1), (2, .int x2), (3, .long (lN (wvl tx s (e - s)))), (5, .int (nI (e - s)))], [.int (98 : Int32), .int (117 : Int32), .int (115 : Int32), .int (0 : Int32), .int (0 : Int32), .long (lN (wvl tx s (e - s)))]) (HH I J R T) _
                    refine Z_c1 rfl rfl rfl (m_code rfl) ?_
                    show Zs _ _ (am_P 182).2 (225, [(0, .ref 73), (1, .int x1), (2, .int x2), (3, .long (lN (wvl tx s (e - s)))), (5, .int (nI (e - s)))], [.long (7566690 : Int64), .long (lN (wvl tx s (e - s)))]) (HH I J R T) _
                    refine Z_jump 2 rfl ?_
                    refine Z_bn (fun (c226 : ¬ ((lg_cmp (lN (wvl tx s (e - s))) (7566690 : Int64)) = (0 : Int32))) => ?_) (fun (c226 : (lg_cmp (lN (wvl tx s (e - s))) (7566690 : Int64)) = (0 : Int32)) => ?_)
                    · rw [lc_eq] at c226
                      refine Z_jump 6 rfl ?_
                      show Zs _ _ (am_P 182).2 (245, [(0, .ref 73), (1, .int x1), (2, .int x2), (3, .long (lN (wvl tx s (e - s)))), (5, .int (nI (e - s)))], [.int (114 : Int32), .int (97 : Int32), .int (101 : Int32), .int (108 : Int32), .int (99 : Int32), .long (lN (wvl tx s (e - s)))]) (HH I J R T) _
                      refine Z_c1 rfl rfl rfl (m_code rfl) ?_
                      show Zs _ _ (am_P 182).2 (248, [(0, .ref 73), (1, .int x1), (2, .int x2), (3, .long (lN (wvl tx s (e - s)))), (5, .int (nI (e - s)))], [.long (427020345714 : Int64), .long (lN (wvl tx s (e - s)))]) (HH I J R T) _
                      refine Z_jump 2 rfl ?_
                      refine Z_bn (fun (c249 : ¬ ((lg_cmp (lN (wvl tx s (e - s))) (427020345714 : Int64)) = (0 : Int32))) => ?_) (fun (c249 : (lg_cmp (lN (wvl tx s (e - s))) (427020345714 : Int64)) = (0 : Int32)) => ?_)
                      · rw [lc_eq] at c249
                        refine Z_jump 6 rfl ?_
                        show Zs _ _ (am_P 182).2 (268, [(0, .ref 73), (1, .int x1), (2, .int x2), (3, .long (lN (wvl tx s (e - s)))), (5, .int (nI (e - s)))], [.int (121 : Int32), .int (114 : Int32), .int (114 : Int32), .int (97 : Int32), .int (99 : Int32), .long (lN (wvl tx s (e - s)))]) (HH I J R T) _
                        refine Z_c1 rfl rfl rfl (m_code rfl) ?_
                        show Zs _ _ (am_P 182).2 (271, [(0, .ref 73), (1, .int x1), (2, .int x2), (3, .long (lN (wvl tx s (e - s)))), (5, .int (nI (e - s)))], [.long (426836652665 : Int64), .long (lN (wvl tx s (e - s)))]) (HH I J R T) _
                        refine Z_jump 2 rfl ?_
                        refine Z_bn (fun (c272 : ¬ ((lg_cmp (lN (wvl tx s (e - s))) (426836652665 : Int64)) = (0 : Int32))) => ?_) (fun (c272 : (lg_cmp (lN (wvl tx s (e - s))) (426836652665 : Int64)) = (0 : Int32)) => ?_)
                        · rw [lc_eq] at c272
                          refine Z_jump 1 rfl ?_
                          show Zs _ _ (am_P 182).2 (281, [(0, .ref 73), (1, .int x1), (2, .int x2), (3, .long (lN (wvl tx s (e - s)))), (5, .int (nI (e - s)))], [.int (0 : Int32)]) (HH I J R T) _
                          refine Z_rI rfl (by first | exact am_nw0 _ | exact am_nw01 | rfl | assumption) ?_
                          exact ⟨am_ii (by unfold wcode; rw [if_neg (fun z => c56 (ywF.mpr z)), if_neg (fun z => c78 (ywP.mpr z)), if_neg (fun z => c99 (ywV.mpr z)), if_neg (fun z => c120 (ywW.mpr z)), if_neg (fun z => c141 (ywH.mpr z)), if_neg (fun z => c163 (ywK.mpr z)), if_neg (fun z => c184 (ywS.mpr z)), if_neg (fun z => c205 (ywA.mpr z)), if_neg (fun z => c226 (ywB.mpr z)), if_neg (fun z => c249 (ywC.mpr z)), if_neg (fun z => c272 (ywY.mpr z))]; rfl), rfl⟩
                        · rw [lc_eq] at c272
                          refine Z_jump 2 rfl ?_
                          show Zs _ _ (am_P 182).2 (281, [(0, .ref 73), (1, .int x1), (2, .int x2), (3, .long (lN (wvl tx s (e - s)))), (5, .int (nI (e - s)))], [.int (11 : Int32)]) (HH I J R T) _
                          refine Z_rI rfl (by first | exact am_nw0 _ | exact am_nw01 | rfl | assumption) ?_
                          exact ⟨am_ii (by unfold wcode; rw [if_neg (fun z => c56 (ywF.mpr z)), if_neg (fun z => c78 (ywP.mpr z)), if_neg (fun z => c99 (ywV.mpr z)), if_neg (fun z => c120 (ywW.mpr z)), if_neg (fun z => c141 (ywH.mpr z)), if_neg (fun z => c163 (ywK.mpr z)), if_neg (fun z => c184 (ywS.mpr z)), if_neg (fun z => c205 (ywA.mpr z)), if_neg (fun z => c226 (ywB.mpr z)), if_neg (fun z => c249 (ywC.mpr z)), if_pos (ywY.mp c272)]; rfl), rfl⟩
                      · rw [lc_eq] at c249
                        refine Z_jump 2 rfl ?_
                        show Zs _ _ (am_P 182).2 (281, [(0, .ref 73), (1, .int x1), (2, .int x2), (3, .long (lN (wvl tx s (e - s)))), (5, .int (nI (e - s)))], [.int (10 : Int32)]) (HH I J R T) _
                        refine Z_rI rfl (by first | exact am_nw0 _ | exact am_nw01 | rfl | assumption) ?_
                        exact ⟨am_ii (by unfold wcode; rw [if_neg (fun z => c56 (ywF.mpr z)), if_neg (fun z => c78 (ywP.mpr z)), if_neg (fun z => c99 (ywV.mpr z)), if_neg (fun z => c120 (ywW.mpr z)), if_neg (fun z => c141 (ywH.mpr z)), if_neg (fun z => c163 (ywK.mpr z)), if_neg (fun z => c184 (ywS.mpr z)), if_neg (fun z => c205 (ywA.mpr z)), if_neg (fun z => c226 (ywB.mpr z)), if_pos (ywC.mp c249)]; rfl), rfl⟩
                    · rw [lc_eq] at c226
                      refine Z_jump 2 rfl ?_
                      show Zs _ _ (am_P 182).2 (281, [(0, .ref 73), (1, .int x1), (2, .int x2), (3, .long (lN (wvl tx s (e - s)))), (5, .int (nI (e - s)))], [.int (9 : Int32)]) (HH I J R T) _
                      refine Z_rI rfl (by first | exact am_nw0 _ | exact am_nw01 | rfl | assumption) ?_
                      exact ⟨am_ii (by unfold wcode; rw [if_neg (fun z => c56 (ywF.mpr z)), if_neg (fun z => c78 (ywP.mpr z)), if_neg (fun z => c99 (ywV.mpr z)), if_neg (fun z => c120 (ywW.mpr z)), if_neg (fun z => c141 (ywH.mpr z)), if_neg (fun z => c163 (ywK.mpr z)), if_neg (fun z => c184 (ywS.mpr z)), if_neg (fun z => c205 (ywA.mpr z)), if_pos (ywB.mp c226)]; rfl), rfl⟩
                  · rw [lc_eq] at c205
                    refine Z_jump 2 rfl ?_
                    show Zs _ _ (am_P 182).2 (281, [(0, .ref 73), (1, .int x1), (2, .int x2), (3, .long (lN (wvl tx s (e - s)))), (5, .int (nI (e - s)))], [.int (8 : Int32)]) (HH I J R T) _
                    refine Z_rI rfl (by first | exact am_nw0 _ | exact am_nw01 | rfl | assumption) ?_
                    exact ⟨am_ii (by unfold wcode; rw [if_neg (fun z => c56 (ywF.mpr z)), if_neg (fun z => c78 (ywP.mpr z)), if_neg (fun z => c99 (ywV.mpr z)), if_neg (fun z => c120 (ywW.mpr z)), if_neg (fun z => c141 (ywH.mpr z)), if_neg (fun z => c163 (ywK.mpr z)), if_neg (fun z => c184 (ywS.mpr z)), if_pos (ywA.mp c205)]; rfl), rfl⟩
                · rw [lc_eq] at c184
                  refine Z_jump 2 rfl ?_
                  show Zs _ _ (am_P 182).2 (281, [(0, .ref 73), (1, .int x1), (2, .int x2), (3, .long (lN (wvl tx s (e - s)))), (5, .int (nI (e - s)))], [.int (7 : Int32)]) (HH I J R T) _
                  refine Z_rI rfl (by first | exact am_nw0 _ | exact am_nw01 | rfl | assumption) ?_
                  exact ⟨am_ii (by unfold wcode; rw [if_neg (fun z => c56 (ywF.mpr z)), if_neg (fun z => c78 (ywP.mpr z)), if_neg (fun z => c99 (ywV.mpr z)), if_neg (fun z => c120 (ywW.mpr z)), if_neg (fun z => c141 (ywH.mpr z)), if_neg (fun z => c163 (ywK.mpr z)), if_pos (ywS.mp c184)]; rfl), rfl⟩
              · rw [lc_eq] at c163
                refine Z_jump 2 rfl ?_
                show Zs _ _ (am_P 182).2 (281, [(0, .ref 73), (1, .int x1), (2, .int x2), (3, .long (lN (wvl tx s (e - s)))), (5, .int (nI (e - s)))], [.int (6 : Int32)]) (HH I J R T) _
                refine Z_rI rfl (by first | exact am_nw0 _ | exact am_nw01 | rfl | assumption) ?_
                exact ⟨am_ii (by unfold wcode; rw [if_neg (fun z => c56 (ywF.mpr z)), if_neg (fun z => c78 (ywP.mpr z)), if_neg (fun z => c99 (ywV.mpr z)), if_neg (fun z => c120 (ywW.mpr z)), if_neg (fun z => c141 (ywH.mpr z)), if_pos (ywK.mp c163)]; rfl), rfl⟩
            · rw [lc_eq] at c141
              refine Z_jump 2 rfl ?_
              show Zs _ _ (am_P 182).2 (281, [(0, .ref 73), (1, .int x1), (2, .int x2), (3, .long (lN (wvl tx s (e - s)))), (5, .int (nI (e - s)))], [.int (5 : Int32)]) (HH I J R T) _
              refine Z_rI rfl (by first | exact am_nw0 _ | exact am_nw01 | rfl | assumption) ?_
              exact ⟨am_ii (by unfold wcode; rw [if_neg (fun z => c56 (ywF.mpr z)), if_neg (fun z => c78 (ywP.mpr z)), if_neg (fun z => c99 (ywV.mpr z)), if_neg (fun z => c120 (ywW.mpr z)), if_pos (ywH.mp c141)]; rfl), rfl⟩
          · rw [lc_eq] at c120
            refine Z_jump 2 rfl ?_
            show Zs _ _ (am_P 182).2 (281, [(0, .ref 73), (1, .int x1), (2, .int x2), (3, .long (lN (wvl tx s (e - s)))), (5, .int (nI (e - s)))], [.int (4 : Int32)]) (HH I J R T) _
            refine Z_rI rfl (by first | exact am_nw0 _ | exact am_nw01 | rfl | assumption) ?_
            exact ⟨am_ii (by unfold wcode; rw [if_neg (fun z => c56 (ywF.mpr z)), if_neg (fun z => c78 (ywP.mpr z)), if_neg (fun z => c99 (ywV.mpr z)), if_pos (ywW.mp c120)]; rfl), rfl⟩
        · rw [lc_eq] at c99
          refine Z_jump 2 rfl ?_
          show Zs _ _ (am_P 182).2 (281, [(0, .ref 73), (1, .int x1), (2, .int x2), (3, .long (lN (wvl tx s (e - s)))), (5, .int (nI (e - s)))], [.int (3 : Int32)]) (HH I J R T) _
          refine Z_rI rfl (by first | exact am_nw0 _ | exact am_nw01 | rfl | assumption) ?_
          exact ⟨am_ii (by unfold wcode; rw [if_neg (fun z => c56 (ywF.mpr z)), if_neg (fun z => c78 (ywP.mpr z)), if_pos (ywV.mp c99)]; rfl), rfl⟩
      · rw [lc_eq] at c78
        refine Z_jump 2 rfl ?_
        show Zs _ _ (am_P 182).2 (281, [(0, .ref 73), (1, .int x1), (2, .int x2), (3, .long (lN (wvl tx s (e - s)))), (5, .int (nI (e - s)))], [.int (2 : Int32)]) (HH I J R T) _
        refine Z_rI rfl (by first | exact am_nw0 _ | exact am_nw01 | rfl | assumption) ?_
        exact ⟨am_ii (by unfold wcode; rw [if_neg (fun z => c56 (ywF.mpr z)), if_pos (ywP.mp c78)]; rfl), rfl⟩
    · rw [lc_eq] at c56
      refine Z_jump 2 rfl ?_
      show Zs _ _ (am_P 182).2 (281, [(0, .ref 73), (1, .int x1), (2, .int x2), (3, .long (lN (wvl tx s (e - s)))), (5, .int (nI (e - s)))], [.int (1 : Int32)]) (HH I J R T) _
      refine Z_rI rfl (by first | exact am_nw0 _ | exact am_nw01 | rfl | assumption) ?_
      exact ⟨am_ii (by unfold wcode; rw [if_pos (ywF.mp c56)]; rfl), rfl⟩
  · have e0 : wcode tx s e = 0 := by
      unfold wcode
      rw [if_neg (by omega), if_neg (by omega), if_neg (by omega), if_neg (by omega), if_neg (by omega), if_neg (by omega), if_neg (by omega), if_neg (by omega), if_neg (by omega), if_neg (by omega), if_neg (by omega)]
    refine Z_jump 3 rfl ?_
    refine Z_bd (fun c2 => absurd c2 ((fun z => hl (e2.mp z)))) (fun c2 => ?_)
    refine Z_jump 1 rfl ?_
    show Zs _ _ (am_P 182).2 (6, [(0, .ref 73), (1, .int x1), (2, .int x2)], [.int (0 : Int32)]) (HH I J R T) _
    refine Z_rI rfl (by first | exact am_nw0 _ | exact am_nw01 | rfl | assumption) ?_
    exact ⟨am_ii (by rw [e0]; rfl), rfl⟩
end MTX

