/-! The reference's text: tokens, words, numbers. -/
def MT (tx : Nat → Nat) (c : Nat) (I : hI) : Prop := I 73 12 = nI c ∧ c ≤ 160 ∧ (∀ k, k < c → I 84 k = nI (tx k)) ∧ (∀ k, k < c → tx k ≤ 255)
theorem MT_of {tx : Nat → Nat} {c : Nat} {I I' : hI} (h : MT tx c I) (h1 : I' 73 12 = I 73 12) (h2 : I' 84 = I 84) : MT tx c I' := ⟨h1.trans h.1, h.2.1, fun k hk => by rw [h2]; exact h.2.2.1 k hk, h.2.2.2⟩
def wvl (tx : Nat → Nat) (s : Nat) : Nat → Nat
  | 0 => 0
  | k + 1 => wvl tx s k * 256 + tx (s + k)
theorem nvl_s (tx : Nat → Nat) : ∀ (k s a : Nat), nvl tx s a (k + 1) = nvl tx s a k * 10 + (tx (s + k) - 48)
  | 0, s, a => rfl
  | k + 1, s, a => by
    show nvl tx (s + 1) (a * 10 + (tx s - 48)) (k + 1) = nvl tx (s + 1) (a * 10 + (tx s - 48)) k * 10 + (tx (s + (k + 1)) - 48)
    rw [nvl_s tx k (s + 1), show s + 1 + k = s + (k + 1) by omega]
theorem lN_subI {a b : Nat} (h : b ≤ a) : lN a - lN b = lN (a - b) := by
  have e : lN a = lN (a - b) + lN b := by rw [lN_add, Nat.sub_add_cancel h]
  rw [e, Int64.sub_eq_add_neg, Int64.add_assoc, Int64.add_right_neg, Int64.add_zero]
theorem lN_eqW {a b : Nat} (ha : a < 2 ^ 62) (hb : b < 2 ^ 62) : lN a = lN b ↔ a = b := by
  refine ⟨fun h => ?_, fun h => by rw [h]⟩
  have h2 := congrArg Int64.toInt h
  rw [show (lN a).toInt = (a : Int) from Int64.toInt_ofNat_of_lt (by omega), show (lN b).toInt = (b : Int) from Int64.toInt_ofNat_of_lt (by omega)] at h2
  omega
theorem wvl_b {tx : Nat → Nat} {s : Nat} : ∀ (k : Nat), (∀ j, j < k → tx (s + j) ≤ 255) → wvl tx s k < 256 ^ k
  | 0, h => by show 0 < 1; omega
  | k + 1, h => by
    have w := wvl_b (tx := tx) (s := s) k (fun j hj => h j (by omega))
    have h0 := h k (by omega)
    show wvl tx s k * 256 + tx (s + k) < _
    rw [Nat.pow_succ]
    have : (wvl tx s k + 1) * 256 ≤ 256 ^ k * 256 := Nat.mul_le_mul_right _ w
    omega
theorem v_wF {tx : Nat → Nat} {s e : Nat} (hl : e - s ≤ 5) (hse : s ≤ e) (hp : ∀ j, s ≤ j → j < e → pL (tx j)) : lN (wvl tx s (e - s)) = 440005651813 ↔ wF tx s e := by
  have hb := wvl_b (tx := tx) (s := s) (e - s) (fun j hj => by have := hp (s + j) (by omega) (by omega); omega)
  have hb2 : 256 ^ (e - s) ≤ 256 ^ 5 := Nat.pow_le_pow_right (by omega) hl
  rw [show (440005651813 : Int64) = lN 440005651813 from rfl, lN_eqW (by omega) (by omega)]
  have h0 : s < e → pL (tx s) := fun h => hp s (by omega) h
  have h1 : s + 1 < e → pL (tx (s + 1)) := fun h => hp _ (by omega) h
  have h2 : s + 2 < e → pL (tx (s + 2)) := fun h => hp _ (by omega) h
  have h3 : s + 3 < e → pL (tx (s + 3)) := fun h => hp _ (by omega) h
  have h4 : s + 4 < e → pL (tx (s + 4)) := fun h => hp _ (by omega) h
  clear hb hb2 hp
  rcases (show e - s = 0 ∨ e - s = 1 ∨ e - s = 2 ∨ e - s = 3 ∨ e - s = 4 ∨ e - s = 5 by omega) with q | q | q | q | q | q <;> rw [q] <;> simp only [wvl, Nat.add_zero] <;> constructor <;> intro z <;> omega
theorem v_wP {tx : Nat → Nat} {s e : Nat} (hl : e - s ≤ 5) (hse : s ≤ e) (hp : ∀ j, s ≤ j → j < e → pL (tx j)) : lN (wvl tx s (e - s)) = 482854660462 ↔ wP tx s e := by
  have hb := wvl_b (tx := tx) (s := s) (e - s) (fun j hj => by have := hp (s + j) (by omega) (by omega); omega)
  have hb2 : 256 ^ (e - s) ≤ 256 ^ 5 := Nat.pow_le_pow_right (by omega) hl
  rw [show (482854660462 : Int64) = lN 482854660462 from rfl, lN_eqW (by omega) (by omega)]
  have h0 : s < e → pL (tx s) := fun h => hp s (by omega) h
  have h1 : s + 1 < e → pL (tx (s + 1)) := fun h => hp _ (by omega) h
  have h2 : s + 2 < e → pL (tx (s + 2)) := fun h => hp _ (by omega) h
  have h3 : s + 3 < e → pL (tx (s + 3)) := fun h => hp _ (by omega) h
  have h4 : s + 4 < e → pL (tx (s + 4)) := fun h => hp _ (by omega) h
  clear hb hb2 hp
  rcases (show e - s = 0 ∨ e - s = 1 ∨ e - s = 2 ∨ e - s = 3 ∨ e - s = 4 ∨ e - s = 5 by omega) with q | q | q | q | q | q <;> rw [q] <;> simp only [wvl, Nat.add_zero] <;> constructor <;> intro z <;> omega
theorem v_wV {tx : Nat → Nat} {s e : Nat} (hl : e - s ≤ 5) (hse : s ≤ e) (hp : ∀ j, s ≤ j → j < e → pL (tx j)) : lN (wvl tx s (e - s)) = 1718187621 ↔ wV tx s e := by
  have hb := wvl_b (tx := tx) (s := s) (e - s) (fun j hj => by have := hp (s + j) (by omega) (by omega); omega)
  have hb2 : 256 ^ (e - s) ≤ 256 ^ 5 := Nat.pow_le_pow_right (by omega) hl
  rw [show (1718187621 : Int64) = lN 1718187621 from rfl, lN_eqW (by omega) (by omega)]
  have h0 : s < e → pL (tx s) := fun h => hp s (by omega) h
  have h1 : s + 1 < e → pL (tx (s + 1)) := fun h => hp _ (by omega) h
  have h2 : s + 2 < e → pL (tx (s + 2)) := fun h => hp _ (by omega) h
  have h3 : s + 3 < e → pL (tx (s + 3)) := fun h => hp _ (by omega) h
  have h4 : s + 4 < e → pL (tx (s + 4)) := fun h => hp _ (by omega) h
  clear hb hb2 hp
  rcases (show e - s = 0 ∨ e - s = 1 ∨ e - s = 2 ∨ e - s = 3 ∨ e - s = 4 ∨ e - s = 5 by omega) with q | q | q | q | q | q <;> rw [q] <;> simp only [wvl, Nat.add_zero] <;> constructor <;> intro z <;> omega
theorem v_wW {tx : Nat → Nat} {s e : Nat} (hl : e - s ≤ 5) (hse : s ≤ e) (hp : ∀ j, s ≤ j → j < e → pL (tx j)) : lN (wvl tx s (e - s)) = 1936486263 ↔ wW tx s e := by
  have hb := wvl_b (tx := tx) (s := s) (e - s) (fun j hj => by have := hp (s + j) (by omega) (by omega); omega)
  have hb2 : 256 ^ (e - s) ≤ 256 ^ 5 := Nat.pow_le_pow_right (by omega) hl
  rw [show (1936486263 : Int64) = lN 1936486263 from rfl, lN_eqW (by omega) (by omega)]
  have h0 : s < e → pL (tx s) := fun h => hp s (by omega) h
  have h1 : s + 1 < e → pL (tx (s + 1)) := fun h => hp _ (by omega) h
  have h2 : s + 2 < e → pL (tx (s + 2)) := fun h => hp _ (by omega) h
  have h3 : s + 3 < e → pL (tx (s + 3)) := fun h => hp _ (by omega) h
  have h4 : s + 4 < e → pL (tx (s + 4)) := fun h => hp _ (by omega) h
  clear hb hb2 hp
  rcases (show e - s = 0 ∨ e - s = 1 ∨ e - s = 2 ∨ e - s = 3 ∨ e - s = 4 ∨ e - s = 5 by omega) with q | q | q | q | q | q <;> rw [q] <;> simp only [wvl, Nat.add_zero] <;> constructor <;> intro z <;> omega
theorem v_wH {tx : Nat → Nat} {s e : Nat} (hl : e - s ≤ 5) (hse : s ≤ e) (hp : ∀ j, s ≤ j → j < e → pL (tx j)) : lN (wvl tx s (e - s)) = 1751476594 ↔ wH tx s e := by
  have hb := wvl_b (tx := tx) (s := s) (e - s) (fun j hj => by have := hp (s + j) (by omega) (by omega); omega)
  have hb2 : 256 ^ (e - s) ≤ 256 ^ 5 := Nat.pow_le_pow_right (by omega) hl
  rw [show (1751476594 : Int64) = lN 1751476594 from rfl, lN_eqW (by omega) (by omega)]
  have h0 : s < e → pL (tx s) := fun h => hp s (by omega) h
  have h1 : s + 1 < e → pL (tx (s + 1)) := fun h => hp _ (by omega) h
  have h2 : s + 2 < e → pL (tx (s + 2)) := fun h => hp _ (by omega) h
  have h3 : s + 3 < e → pL (tx (s + 3)) := fun h => hp _ (by omega) h
  have h4 : s + 4 < e → pL (tx (s + 4)) := fun h => hp _ (by omega) h
  clear hb hb2 hp
  rcases (show e - s = 0 ∨ e - s = 1 ∨ e - s = 2 ∨ e - s = 3 ∨ e - s = 4 ∨ e - s = 5 by omega) with q | q | q | q | q | q <;> rw [q] <;> simp only [wvl, Nat.add_zero] <;> constructor <;> intro z <;> omega
theorem v_wK {tx : Nat → Nat} {s e : Nat} (hl : e - s ≤ 5) (hse : s ≤ e) (hp : ∀ j, s ≤ j → j < e → pL (tx j)) : lN (wvl tx s (e - s)) = 495875089259 ↔ wK tx s e := by
  have hb := wvl_b (tx := tx) (s := s) (e - s) (fun j hj => by have := hp (s + j) (by omega) (by omega); omega)
  have hb2 : 256 ^ (e - s) ≤ 256 ^ 5 := Nat.pow_le_pow_right (by omega) hl
  rw [show (495875089259 : Int64) = lN 495875089259 from rfl, lN_eqW (by omega) (by omega)]
  have h0 : s < e → pL (tx s) := fun h => hp s (by omega) h
  have h1 : s + 1 < e → pL (tx (s + 1)) := fun h => hp _ (by omega) h
  have h2 : s + 2 < e → pL (tx (s + 2)) := fun h => hp _ (by omega) h
  have h3 : s + 3 < e → pL (tx (s + 3)) := fun h => hp _ (by omega) h
  have h4 : s + 4 < e → pL (tx (s + 4)) := fun h => hp _ (by omega) h
  clear hb hb2 hp
  rcases (show e - s = 0 ∨ e - s = 1 ∨ e - s = 2 ∨ e - s = 3 ∨ e - s = 4 ∨ e - s = 5 by omega) with q | q | q | q | q | q <;> rw [q] <;> simp only [wvl, Nat.add_zero] <;> constructor <;> intro z <;> omega
theorem v_wS {tx : Nat → Nat} {s e : Nat} (hl : e - s ≤ 5) (hse : s ≤ e) (hp : ∀ j, s ≤ j → j < e → pL (tx j)) : lN (wvl tx s (e - s)) = 7562612 ↔ wS tx s e := by
  have hb := wvl_b (tx := tx) (s := s) (e - s) (fun j hj => by have := hp (s + j) (by omega) (by omega); omega)
  have hb2 : 256 ^ (e - s) ≤ 256 ^ 5 := Nat.pow_le_pow_right (by omega) hl
  rw [show (7562612 : Int64) = lN 7562612 from rfl, lN_eqW (by omega) (by omega)]
  have h0 : s < e → pL (tx s) := fun h => hp s (by omega) h
  have h1 : s + 1 < e → pL (tx (s + 1)) := fun h => hp _ (by omega) h
  have h2 : s + 2 < e → pL (tx (s + 2)) := fun h => hp _ (by omega) h
  have h3 : s + 3 < e → pL (tx (s + 3)) := fun h => hp _ (by omega) h
  have h4 : s + 4 < e → pL (tx (s + 4)) := fun h => hp _ (by omega) h
  clear hb hb2 hp
  rcases (show e - s = 0 ∨ e - s = 1 ∨ e - s = 2 ∨ e - s = 3 ∨ e - s = 4 ∨ e - s = 5 by omega) with q | q | q | q | q | q <;> rw [q] <;> simp only [wvl, Nat.add_zero] <;> constructor <;> intro z <;> omega
theorem v_wA {tx : Nat → Nat} {s e : Nat} (hl : e - s ≤ 5) (hse : s ≤ e) (hp : ∀ j, s ≤ j → j < e → pL (tx j)) : lN (wvl tx s (e - s)) = 6382692 ↔ wA tx s e := by
  have hb := wvl_b (tx := tx) (s := s) (e - s) (fun j hj => by have := hp (s + j) (by omega) (by omega); omega)
  have hb2 : 256 ^ (e - s) ≤ 256 ^ 5 := Nat.pow_le_pow_right (by omega) hl
  rw [show (6382692 : Int64) = lN 6382692 from rfl, lN_eqW (by omega) (by omega)]
  have h0 : s < e → pL (tx s) := fun h => hp s (by omega) h
  have h1 : s + 1 < e → pL (tx (s + 1)) := fun h => hp _ (by omega) h
  have h2 : s + 2 < e → pL (tx (s + 2)) := fun h => hp _ (by omega) h
  have h3 : s + 3 < e → pL (tx (s + 3)) := fun h => hp _ (by omega) h
  have h4 : s + 4 < e → pL (tx (s + 4)) := fun h => hp _ (by omega) h
  clear hb hb2 hp
  rcases (show e - s = 0 ∨ e - s = 1 ∨ e - s = 2 ∨ e - s = 3 ∨ e - s = 4 ∨ e - s = 5 by omega) with q | q | q | q | q | q <;> rw [q] <;> simp only [wvl, Nat.add_zero] <;> constructor <;> intro z <;> omega
theorem v_wB {tx : Nat → Nat} {s e : Nat} (hl : e - s ≤ 5) (hse : s ≤ e) (hp : ∀ j, s ≤ j → j < e → pL (tx j)) : lN (wvl tx s (e - s)) = 7566690 ↔ wB tx s e := by
  have hb := wvl_b (tx := tx) (s := s) (e - s) (fun j hj => by have := hp (s + j) (by omega) (by omega); omega)
  have hb2 : 256 ^ (e - s) ≤ 256 ^ 5 := Nat.pow_le_pow_right (by omega) hl
  rw [show (7566690 : Int64) = lN 7566690 from rfl, lN_eqW (by omega) (by omega)]
  have h0 : s < e → pL (tx s) := fun h => hp s (by omega) h
  have h1 : s + 1 < e → pL (tx (s + 1)) := fun h => hp _ (by omega) h
  have h2 : s + 2 < e → pL (tx (s + 2)) := fun h => hp _ (by omega) h
  have h3 : s + 3 < e → pL (tx (s + 3)) := fun h => hp _ (by omega) h
  have h4 : s + 4 < e → pL (tx (s + 4)) := fun h => hp _ (by omega) h
  clear hb hb2 hp
  rcases (show e - s = 0 ∨ e - s = 1 ∨ e - s = 2 ∨ e - s = 3 ∨ e - s = 4 ∨ e - s = 5 by omega) with q | q | q | q | q | q <;> rw [q] <;> simp only [wvl, Nat.add_zero] <;> constructor <;> intro z <;> omega
theorem v_wC {tx : Nat → Nat} {s e : Nat} (hl : e - s ≤ 5) (hse : s ≤ e) (hp : ∀ j, s ≤ j → j < e → pL (tx j)) : lN (wvl tx s (e - s)) = 427020345714 ↔ wC tx s e := by
  have hb := wvl_b (tx := tx) (s := s) (e - s) (fun j hj => by have := hp (s + j) (by omega) (by omega); omega)
  have hb2 : 256 ^ (e - s) ≤ 256 ^ 5 := Nat.pow_le_pow_right (by omega) hl
  rw [show (427020345714 : Int64) = lN 427020345714 from rfl, lN_eqW (by omega) (by omega)]
  have h0 : s < e → pL (tx s) := fun h => hp s (by omega) h
  have h1 : s + 1 < e → pL (tx (s + 1)) := fun h => hp _ (by omega) h
  have h2 : s + 2 < e → pL (tx (s + 2)) := fun h => hp _ (by omega) h
  have h3 : s + 3 < e → pL (tx (s + 3)) := fun h => hp _ (by omega) h
  have h4 : s + 4 < e → pL (tx (s + 4)) := fun h => hp _ (by omega) h
  clear hb hb2 hp
  rcases (show e - s = 0 ∨ e - s = 1 ∨ e - s = 2 ∨ e - s = 3 ∨ e - s = 4 ∨ e - s = 5 by omega) with q | q | q | q | q | q <;> rw [q] <;> simp only [wvl, Nat.add_zero] <;> constructor <;> intro z <;> omega
theorem v_wY {tx : Nat → Nat} {s e : Nat} (hl : e - s ≤ 5) (hse : s ≤ e) (hp : ∀ j, s ≤ j → j < e → pL (tx j)) : lN (wvl tx s (e - s)) = 426836652665 ↔ wY tx s e := by
  have hb := wvl_b (tx := tx) (s := s) (e - s) (fun j hj => by have := hp (s + j) (by omega) (by omega); omega)
  have hb2 : 256 ^ (e - s) ≤ 256 ^ 5 := Nat.pow_le_pow_right (by omega) hl
  rw [show (426836652665 : Int64) = lN 426836652665 from rfl, lN_eqW (by omega) (by omega)]
  have h0 : s < e → pL (tx s) := fun h => hp s (by omega) h
  have h1 : s + 1 < e → pL (tx (s + 1)) := fun h => hp _ (by omega) h
  have h2 : s + 2 < e → pL (tx (s + 2)) := fun h => hp _ (by omega) h
  have h3 : s + 3 < e → pL (tx (s + 3)) := fun h => hp _ (by omega) h
  have h4 : s + 4 < e → pL (tx (s + 4)) := fun h => hp _ (by omega) h
  clear hb hb2 hp
  rcases (show e - s = 0 ∨ e - s = 1 ∨ e - s = 2 ∨ e - s = 3 ∨ e - s = 4 ∨ e - s = 5 by omega) with q | q | q | q | q | q <;> rw [q] <;> simp only [wvl, Nat.add_zero] <;> constructor <;> intro z <;> omega
section MTX
variable {sc : Nat × (Nat → Int32)} {d : Nat} {I : hI} {J : hJ} {R : hR} {T : am_H} {Q : Option Value → am_H → Prop} {tx : Nat → Nat} {c : Nat}
theorem m_let_in {x : Int32} {i : Nat} (hM : MT tx c I) (hx : x = nI i) (hi : i < c) : am_E sc (d + 1) 176 [.ref 73, .int x] (HH I J R T) (some (.int (nI (tx i)))) (HH I J R T) := by
  have hc := hM.2.1
  have w := m_letterAt (sc := sc) (d := d) (I := I) (J := J) (R := R) (T := T) hM.1 hM.2.1 hx (by omega)
  rw [if_pos hi, hM.2.2.1 i hi] at w
  exact w
theorem m_let_out {x : Int32} {i : Nat} (hM : MT tx c I) (hx : x = nI i) (hi : ¬ i < c) (h2 : i ≤ 200) : am_E sc (d + 1) 176 [.ref 73, .int x] (HH I J R T) (some (.int (-1))) (HH I J R T) := by
  have w := m_letterAt (sc := sc) (d := d) (I := I) (J := J) (R := R) (T := T) hM.1 hM.2.1 hx (by omega)
  rw [if_neg hi] at w
  exact w
theorem m_isSmallN {t : Nat} (ht : t ≤ 255) : am_E sc (d + 2) 177 [.int (nI t)] (HH I J R T) (some (.int (if pL t then 1 else 0))) (HH I J R T) := by
  have w := m_isSmall (sc := sc) (d := d) (h := HH I J R T) (c := nI t)
  have e : (97 ≤ (nI t).toInt ∧ (nI t).toInt ≤ 122) ↔ pL t := by rw [nI_toInt (by omega)]; omega
  simp only [e] at w
  exact w
theorem m_isFigureN {t : Nat} (ht : t ≤ 255) : am_E sc (d + 2) 178 [.int (nI t)] (HH I J R T) (some (.int (if pD t then 1 else 0))) (HH I J R T) := by
  have w := m_isFigure (sc := sc) (d := d) (h := HH I J R T) (c := nI t)
  have e : (48 ≤ (nI t).toInt ∧ (nI t).toInt ≤ 57) ↔ pD t := by rw [nI_toInt (by omega)]; omega
  simp only [e] at w
  exact w
theorem m_isSmallX : am_E sc (d + 2) 177 [.int (-1)] (HH I J R T) (some (.int 0)) (HH I J R T) := m_isSmall (c := -1)
theorem m_isFigureX : am_E sc (d + 2) 178 [.int (-1)] (HH I J R T) (some (.int 0)) (HH I J R T) := m_isFigure (c := -1)
/-- only readAt moves -/
def U14 (I I' : hI) : Prop := (∀ a, a ≠ 73 → I' a = I a) ∧ (∀ k, k ≠ 14 → I' 73 k = I 73 k)
theorem U14_0 (I : hI) : U14 I I := ⟨fun _ _ => rfl, fun _ _ => rfl⟩
theorem U14_s {v : Int32} {I' : hI} (h : U14 (sf I 73 14 v) I') : U14 I I' := ⟨fun a ha => by rw [h.1 a ha, sf_c ha], fun k hk => by rw [h.2 k hk, sf_k hk]⟩
theorem MT_14 {I' : hI} (hM : MT tx c I) (h : U14 I I') : MT tx c I' := MT_of hM (h.2 12 (by decide)) (h.1 84 (by decide))
theorem MT_sf {v : Int32} (hM : MT tx c I) : MT tx c (sf I 73 14 v) := MT_of hM rfl rfl
theorem m_rd_a : ∀ (k i : Nat) (I : hI), c - i = k → i ≤ c → MT tx c I → I 73 14 = nI i → (∀ I', U14 I I' → I' 73 14 = nI (tS tx c i) → Zs sc (d + 1) (am_P 179).2 (26, [(0, .ref 73)], []) (HH I' J R T) Q) → Zs sc (d + 1) (am_P 179).2 (0, [(0, .ref 73)], []) (HH I J R T) Q
  | 0, i, I, hk, hi, hM, h14, K => by
    have e : tS tx c i = i := ru_out (by omega)
    have hc := hM.2.1
    refine Z_jump 3 rfl ?_
    show Zs _ _ (am_P 179).2 (5, [(0, .ref 73)], [.int (I 73 14), .ref 73]) (HH I J R T) _
    refine Z_c1 rfl rfl rfl (m_let_out hM h14 (by omega) (by omega)) ?_
    show Zs _ _ (am_P 179).2 (8, [(0, .ref 73)], [.int (-1 : Int32)]) (HH I J R T) _
    refine Z_jump 2 rfl ?_
    show Zs _ _ (am_P 179).2 (26, [(0, .ref 73)], []) (HH I J R T) _
    exact K I (U14_0 I) (by rw [e]; exact h14)
  | k + 1, i, I, hk, hi, hM, h14, K => by
    have hic : i < c := by omega
    have hc := hM.2.1
    have h255 := hM.2.2.2 i hic
    have e32 : nI (tx i) = 32 ↔ tx i = 32 := nI_eq (b := 32) (by omega) (by omega)
    refine Z_jump 3 rfl ?_
    show Zs _ _ (am_P 179).2 (5, [(0, .ref 73)], [.int (I 73 14), .ref 73]) (HH I J R T) _
    refine Z_c1 rfl rfl rfl (m_let_in hM h14 hic) ?_
    show Zs _ _ (am_P 179).2 (8, [(0, .ref 73)], [.int (nI (tx i))]) (HH I J R T) _
    refine Z_jump 2 rfl ?_
    refine Z_bn (fun (c10 : ¬ ((nI (tx i)) = (32 : Int32))) => ?_) (fun (c10 : (nI (tx i)) = (32 : Int32)) => ?_)
    · show Zs _ _ (am_P 179).2 (26, [(0, .ref 73)], []) (HH I J R T) _
      have e1 : tS tx c i = i := ru_out (fun z => c10 (e32.mpr (of_decide_eq_true z.2)))
      exact K I (U14_0 I) (by rw [e1]; exact h14)
    · refine Z_jump 6 rfl ?_
      show Zs _ _ (am_P 179).2 (23, [(0, .ref 73)], []) (HH (sf I 73 14 ((I 73 14) + (1 : Int32))) J R T) _
      refine Z_jump 1 rfl ?_
      show Zs _ _ (am_P 179).2 (0, [(0, .ref 73)], []) (HH (sf I 73 14 ((I 73 14) + (1 : Int32))) J R T) _
      have e1 : tS tx c i = tS tx c (i + 1) := ru_in hic (decide_eq_true (e32.mp c10))
      exact m_rd_a k (i + 1) _ (by omega) (by omega) (MT_sf hM) (by rw [sf_s, h14]; exact nI_1 i) (fun I' h1 h2 => K I' (U14_s h1) (by rw [e1]; exact h2))
theorem m_rd_w {v : Int32} : ∀ (k i : Nat) (I : hI), c - i = k → i ≤ c → MT tx c I → I 73 14 = nI i → (∀ I', U14 I I' → I' 73 14 = nI (ru pLb tx c i) → Zs sc (d + 2) (am_P 179).2 (89, [(0, .ref 73), (1, .int v)], []) (HH I' J R T) Q) → Zs sc (d + 2) (am_P 179).2 (62, [(0, .ref 73), (1, .int v)], []) (HH I J R T) Q
  | 0, i, I, hk, hi, hM, h14, K => by
    have e : ru pLb tx c i = i := ru_out (by omega)
    have hc := hM.2.1
    refine Z_jump 3 rfl ?_
    show Zs _ _ (am_P 179).2 (67, [(0, .ref 73), (1, .int v)], [.int (I 73 14), .ref 73]) (HH I J R T) _
    refine Z_c1 rfl rfl rfl (m_let_out hM h14 (by omega) (by omega)) ?_
    show Zs _ _ (am_P 179).2 (70, [(0, .ref 73), (1, .int v)], [.int (-1 : Int32)]) (HH I J R T) _
    show Zs _ _ (am_P 179).2 (70, [(0, .ref 73), (1, .int v)], [.int (-1 : Int32)]) (HH I J R T) _
    refine Z_c1 rfl rfl rfl (m_isSmallX) ?_
    show Zs _ _ (am_P 179).2 (73, [(0, .ref 73), (1, .int v)], [.int (0 : Int32)]) (HH I J R T) _
    refine Z_jump 1 rfl ?_
    show Zs _ _ (am_P 179).2 (89, [(0, .ref 73), (1, .int v)], []) (HH I J R T) _
    exact K I (U14_0 I) (by rw [e]; exact h14)
  | k + 1, i, I, hk, hi, hM, h14, K => by
    have hic : i < c := by omega
    have hc := hM.2.1
    have h255 := hM.2.2.2 i hic
    refine Z_jump 3 rfl ?_
    show Zs _ _ (am_P 179).2 (67, [(0, .ref 73), (1, .int v)], [.int (I 73 14), .ref 73]) (HH I J R T) _
    refine Z_c1 rfl rfl rfl (m_let_in hM h14 hic) ?_
    show Zs _ _ (am_P 179).2 (70, [(0, .ref 73), (1, .int v)], [.int (nI (tx i))]) (HH I J R T) _
    show Zs _ _ (am_P 179).2 (70, [(0, .ref 73), (1, .int v)], [.int (nI (tx i))]) (HH I J R T) _
    refine Z_c1 rfl rfl rfl (m_isSmallN h255) ?_
    show Zs _ _ (am_P 179).2 (73, [(0, .ref 73), (1, .int v)], [.int (if pL (tx i) then 1 else 0)]) (HH I J R T) _
    refine Z_jump 1 rfl ?_
    refine Z_bd (fun (c73 : (if pL (tx i) then 1 else 0) = (0 : Int32)) => ?_) (fun (c73 : ¬ ((if pL (tx i) then 1 else 0) = (0 : Int32))) => ?_)
    · show Zs _ _ (am_P 179).2 (89, [(0, .ref 73), (1, .int v)], []) (HH I J R T) _
      have e1 : ru pLb tx c i = i := ru_out (fun z => if10.mp c73 (of_decide_eq_true z.2))
      exact K I (U14_0 I) (by rw [e1]; exact h14)
    · refine Z_jump 6 rfl ?_
      show Zs _ _ (am_P 179).2 (86, [(0, .ref 73), (1, .int v)], []) (HH (sf I 73 14 ((I 73 14) + (1 : Int32))) J R T) _
      refine Z_jump 1 rfl ?_
      show Zs _ _ (am_P 179).2 (62, [(0, .ref 73), (1, .int v)], []) (HH (sf I 73 14 ((I 73 14) + (1 : Int32))) J R T) _
      have e1 : ru pLb tx c i = ru pLb tx c (i + 1) := ru_in hic (decide_eq_true (if10n c73))
      exact m_rd_w k (i + 1) _ (by omega) (by omega) (MT_sf hM) (by rw [sf_s, h14]; exact nI_1 i) (fun I' h1 h2 => K I' (U14_s h1) (by rw [e1]; exact h2))
/-- wordOf -/
theorem m_wordOf_l {s e : Nat} {x1 x2 : Int32} (hM : MT tx c I) (he : e ≤ c) (hs : x1 = nI s) (hz : x2 = nI (e - s)) (hse : s ≤ e) : ∀ (k j : Nat) (x : Int32), j + k = e - s → x = nI j → Zs sc d (am_P 182).2 (41, [(0, .ref 73), (1, .int x1), (2, .int x2), (3, .long (lN (wvl tx s (e - s)))), (5, .int (nI (e - s)))], []) (HH I J R T) Q → Zs sc d (am_P 182).2 (12, [(0, .ref 73), (1, .int x1), (2, .int x2), (3, .long (lN (wvl tx s j))), (5, .int x)], []) (HH I J R T) Q
  | 0, j, x, hj, hx, K => by
    have hc := hM.2.1
    have e1 : j = e - s := by omega
    subst e1
    rw [← hx] at K
    refine Z_jump 3 rfl ?_
    refine Z_bd (fun c15 => ?_) (fun c15 => absurd ((show x2 ≤ x by rw [hx, hz]; exact nI_le (Nat.le_refl _) (by omega))) c15)
    show Zs _ _ (am_P 182).2 (41, [(0, .ref 73), (1, .int x1), (2, .int x2), (3, .long (lN (wvl tx s (e - s)))), (5, .int x)], []) (HH I J R T) _
    exact K
  | k + 1, j, x, hj, hx, K => by
    have hc := hM.2.1
    have e2 : lN (wvl tx s j) * 256 + Int32.toInt64 (I 84 (s + j)) = lN (wvl tx s (j + 1)) := by
      have h255 := hM.2.2.2 (s + j) (by omega)
      rw [hM.2.2.1 (s + j) (by omega), nI_l (by omega), show (256 : Int64) = lN 256 from rfl, lN_mul, lN_add]
      rfl
    refine Z_jump 3 rfl ?_
    refine Z_bd (fun c15 => absurd c15 ((show ¬ x2 ≤ x by rw [hx, hz]; exact nI_ge (by omega) (by omega)))) (fun c15 => ?_)
    refine Z_jump 8 rfl ?_
    show Zs _ _ (am_P 182).2 (31, [(0, .ref 73), (1, .int x1), (2, .int x2), (3, .long (lN (wvl tx s j))), (5, .int x)], [.int (x1 + x), .ref 84, .long ((lN (wvl tx s j)) * (256 : Int64))]) (HH I J R T) _
    refine Z_ialK (s + j) rfl rfl (show x1 + x = nI (s + j) by rw [hs, hx]; exact nI_add s j) (by omega) (by decide) ?_
    show Zs _ _ (am_P 182).2 (32, [(0, .ref 73), (1, .int x1), (2, .int x2), (3, .long (lN (wvl tx s j))), (5, .int x)], [.int (I 84 (s + j)), .long ((lN (wvl tx s j)) * (256 : Int64))]) (HH I J R T) _
    refine Z_jump 2 rfl ?_
    show Zs _ _ (am_P 182).2 (34, [(0, .ref 73), (1, .int x1), (2, .int x2), (3, .long (lN (wvl tx s j))), (5, .int x)], [.long (((lN (wvl tx s j)) * (256 : Int64)) + (Int32.toInt64 (I 84 (s + j))))]) (HH I J R T) _
    refine Z_eqL (e2) ?_
    show Zs _ _ (am_P 182).2 (34, [(0, .ref 73), (1, .int x1), (2, .int x2), (3, .long (lN (wvl tx s j))), (5, .int x)], [.long (lN (wvl tx s (j + 1)))]) (HH I J R T) _
    refine Z_jump 3 rfl ?_
    show Zs _ _ (am_P 182).2 (12, [(0, .ref 73), (1, .int x1), (2, .int x2), (3, .long (lN (wvl tx s (j + 1)))), (5, .int (x + 1))], []) (HH I J R T) _
    exact m_wordOf_l hM he hs hz hse k (j + 1) _ (by omega) (by rw [hx]; exact nI_1 j) K
theorem m_code {a b e f g : Int32} {v : Int64} (h : (((a.toInt64 * 256 + b.toInt64) * 256 + e.toInt64) * 256 + f.toInt64) * 256 + g.toInt64 = v) : am_E sc (d + 1) 181 [.int a, .int b, .int e, .int f, .int g] (HH I J R T) (some (.long v)) (HH I J R T) := by
  refine E_Z (Ze_of (Nat.le_of_ble_eq_true rfl) ?_)
  refine Z_jump 22 rfl ?_
  show Zs _ _ (am_P 181).2 (31, [(0, .int a), (1, .int b), (2, .int e), (3, .int f), (4, .int g)], [.long (((((((((Int32.toInt64 a) * (256 : Int64)) + (Int32.toInt64 b)) * (256 : Int64)) + (Int32.toInt64 e)) * (256 : Int64)) + (Int32.toInt64 f)) * (256 : Int64)) + (Int32.toInt64 g))]) (HH I J R T) _
  refine Z_ret rfl rfl rfl ?_
  exact ⟨by rw [h], rfl⟩
theorem m_wordOf {s e : Nat} {x1 x2 : Int32} (hM : MT tx c I) (he : e ≤ c) (hs : x1 = nI s) (hz : x2 = nI (e - s)) (hse : s ≤ e) (hp : ∀ j, s ≤ j → j < e → pL (tx j)) : am_E sc (d + 2) 182 [.ref 73, .int x1, .int x2] (HH I J R T) (some (.int (nI (wcode tx s e)))) (HH I J R T) := by
  refine E_Z (Ze_of (Nat.le_of_ble_eq_true rfl) ?_)
  have hc := hM.2.1
  have e2 : x2 ≤ 5 ↔ e - s ≤ 5 := by rw [hz]; exact nI_leI (b := 5) (by omega) (by omega)
  by_cases hl : e - s ≤ 5
  · refine Z_jump 3 rfl ?_
    refine Z_bd (fun c2 => ?_) (fun c2 => absurd ((e2.mpr hl)) c2)
    refine Z_jump 4 rfl ?_
    show Zs _ _ (am_P 182).2 (12, [(0, .ref 73), (1, .int x1), (2, .int x2), (3, .long (0 : Int64)), (5, .int (0 : Int32))], []) (HH I J R T) _
    refine m_wordOf_l hM he hs hz hse (e - s) 0 _ (by omega) rfl ?_
    have ywF := v_wF (tx := tx) hl hse hp
    have ywP := v_wP (tx := tx) hl hse hp
    have ywV := v_wV (tx := tx) hl hse hp
    have ywW := v_wW (tx := tx) hl hse hp
    have ywH := v_wH (tx := tx) hl hse hp
    have ywK := v_wK (tx := tx) hl hse hp
    have ywS := v_wS (tx := tx) hl hse hp
    have ywA := v_wA (tx := tx) hl hse hp
    have ywB := v_wB (tx := tx) hl hse hp
    have ywC := v_wC (tx := tx) hl hse hp
    have ywY := v_wY (tx := tx) hl hse hp
    refine Z_jump 6 rfl ?_
    show Zs _ _ (am_P 182).2 (52, [(0, .ref 73), (1, .int x1), (2, .int x2), (3, .long (lN (wvl tx s (e - s)))), (5, .int (nI (e - s)))], [.int (101 : Int32), .int (109 : Int32), .int (97 : Int32), .int (114 : Int32), .int (102 : Int32), .long (lN (wvl tx s (e - s)))]) (HH I J R T) _
    refine Z_c1 rfl rfl rfl (m_code rfl) ?_
    show Zs _ _ (am_P 182).2 (55, [(0, .ref 73), (1, .int x1), (2, .int x2), (3, .long (lN (wvl tx s (e - s)))), (5, .int (nI (e - s)))], [.long (440005651813 : Int64), .long (lN (wvl tx s (e - s)))]) (HH I J R T) _
    refine Z_jump 2 rfl ?_
    refine Z_bn (fun (c56 : ¬ ((lg_cmp (lN (wvl tx s (e - s))) (440005651813 : Int64)) = (0 : Int32))) => ?_) (fun (c56 : (lg_cmp (lN (wvl tx s (e - s))) (440005651813 : Int64)) = (0 : Int32)) => ?_)
    · rw [lc_eq] at c56
      refine Z_jump 6 rfl ?_
      show Zs _ _ (am_P 182).2 (74, [(0, .ref 73), (1, .int x1), (2, .int x2), (3, .long (lN (wvl tx s (e - s)))), (5, .int (nI (e - s)))], [.int (110 : Int32), .int (105 : Int32), .int (97 : Int32), .int (108 : Int32), .int (112 : Int32), .long (lN (wvl tx s (e - s)))]) (HH I J R T) _
      refine Z_c1 rfl rfl rfl (m_code rfl) ?_
      show Zs _ _ (am_P 182).2 (77, [(0, .ref 73), (1, .int x1), (2, .int x2), (3, .long (lN (wvl tx s (e - s)))), (5, .int (nI (e - s)))], [.long (482854660462 : Int64), .long (lN (wvl tx s (e - s)))]) (HH I J R T) _
      refine Z_jump 2 rfl ?_
      refine Z_bn (fun (c78 : ¬ ((lg_cmp (lN (wvl tx s (e - s))) (482854660462 : Int64)) = (0 : Int32))) => ?_) (fun (c78 : (lg_cmp (lN (wvl tx s (e - s))) (482854660462 : Int64)) = (0 : Int32)) => ?_)
      · rw [lc_eq] at c78
        refine Z_jump 6 rfl ?_
        show Zs _ _ (am_P 182).2 (95, [(0, .ref 73), (1, .int x1), (2, .int x2), (3, .long (lN (wvl tx s (e - s)))), (5, .int (nI (e - s)))], [.int (101 : Int32), .int (118 : Int32), .int (105 : Int32), .int (102 : Int32), .int (0 : Int32), .long (lN (wvl tx s (e - s)))]) (HH I J R T) _
        refine Z_c1 rfl rfl rfl (m_code rfl) ?_
        show Zs _ _ (am_P 182).2 (98, [(0, .ref 73), (1, .int x1), (2, .int x2), (3, .long (lN (wvl tx s (e - s)))), (5, .int (nI (e - s)))], [.long (1718187621 : Int64), .long (lN (wvl tx s (e - s)))]) (HH I J R T) _
        refine Z_jump 2 rfl ?_
        refine Z_bn (fun (c99 : ¬ ((lg_cmp (lN (wvl tx s (e - s))) (1718187621 : Int64)) = (0 : Int32))) => ?_) (fun (c99 : (lg_cmp (lN (wvl tx s (e - s))) (1718187621 : Int64)) = (0 : Int32)) => ?_)
        · rw [lc_eq] at c99
          refine Z_jump 6 rfl ?_
          show Zs _ _ (am_P 182).2 (116, [(0, .ref 73), (1, .int x1), (2, .int x2), (3, .long (lN (wvl tx s (e - s)))), (5, .int (nI (e - s)))], [.int (119 : Int32), .int (111 : Int32), .int (108 : Int32), .int (115 : Int32), .int (0 : Int32), .long (lN (wvl tx s (e - s)))]) (HH I J R T) _
          refine Z_c1 rfl rfl rfl (m_code rfl) ?_
          show Zs _ _ (am_P 182).2 (119, [(0, .ref 73), (1, .int x1), (2, .int x2), (3, .long (lN (wvl tx s (e - s)))), (5, .int (nI (e - s)))], [.long (1936486263 : Int64), .long (lN (wvl tx s (e - s)))]) (HH I J R T) _
          refine Z_jump 2 rfl ?_
          refine Z_bn (fun (c120 : ¬ ((lg_cmp (lN (wvl tx s (e - s))) (1936486263 : Int64)) = (0 : Int32))) => ?_) (fun (c120 : (lg_cmp (lN (wvl tx s (e - s))) (1936486263 : Int64)) = (0 : Int32)) => ?_)
          · rw [lc_eq] at c120
            refine Z_jump 6 rfl ?_
            show Zs _ _ (am_P 182).2 (137, [(0, .ref 73), (1, .int x1), (2, .int x2), (3, .long (lN (wvl tx s (e - s)))), (5, .int (nI (e - s)))], [.int (114 : Int32), .int (105 : Int32), .int (101 : Int32), .int (104 : Int32), .int (0 : Int32), .long (lN (wvl tx s (e - s)))]) (HH I J R T) _
            refine Z_c1 rfl rfl rfl (m_code rfl) ?_
            show Zs _ _ (am_P 182).2 (140, [(0, .ref 73), (1, .int x1), (2, .int x2), (3, .long (lN (wvl tx s (e - s)))), (5, .int (nI (e - s)))], [.long (1751476594 : Int64), .long (lN (wvl tx s (e - s)))]) (HH I J R T) _
            refine Z_jump 2 rfl ?_
            refine Z_bn (fun (c141 : ¬ ((lg_cmp (lN (wvl tx s (e - s))) (1751476594 : Int64)) = (0 : Int32))) => ?_) (fun (c141 : (lg_cmp (lN (wvl tx s (e - s))) (1751476594 : Int64)) = (0 : Int32)) => ?_)
            · rw [lc_eq] at c141
              refine Z_jump 6 rfl ?_
              show Zs _ _ (am_P 182).2 (159, [(0, .ref 73), (1, .int x1), (2, .int x2), (3, .long (lN (wvl tx s (e - s)))), (5, .int (nI (e - s)))], [.int (107 : Int32), .int (99 : Int32), .int (117 : Int32), .int (116 : Int32), .int (115 : Int32), .long (lN (wvl tx s (e - s)))]) (HH I J R T) _
              refine Z_c1 rfl rfl rfl (m_code rfl) ?_
              show Zs _ _ (am_P 182).2 (162, [(0, .ref 73), (1, .int x1), (2, .int x2), (3, .long (lN (wvl tx s (e - s)))), (5, .int (nI (e - s)))], [.long (495875089259 : Int64), .long (lN (wvl tx s (e - s)))]) (HH I J R T) _
              refine Z_jump 2 rfl ?_
              refine Z_bn (fun (c163 : ¬ ((lg_cmp (lN (wvl tx s (e - s))) (495875089259 : Int64)) = (0 : Int32))) => ?_) (fun (c163 : (lg_cmp (lN (wvl tx s (e - s))) (495875089259 : Int64)) = (0 : Int32)) => ?_)
              · rw [lc_eq] at c163
                refine Z_jump 6 rfl ?_
                show Zs _ _ (am_P 182).2 (180, [(0, .ref 73), (1, .int x1), (2, .int x2), (3, .long (lN (wvl tx s (e - s)))), (5, .int (nI (e - s)))], [.int (116 : Int32), .int (101 : Int32), .int (115 : Int32), .int (0 : Int32), .int (0 : Int32), .long (lN (wvl tx s (e - s)))]) (HH I J R T) _
                refine Z_c1 rfl rfl rfl (m_code rfl) ?_
                show Zs _ _ (am_P 182).2 (183, [(0, .ref 73), (1, .int x1), (2, .int x2), (3, .long (lN (wvl tx s (e - s)))), (5, .int (nI (e - s)))], [.long (7562612 : Int64), .long (lN (wvl tx s (e - s)))]) (HH I J R T) _
                refine Z_jump 2 rfl ?_
                refine Z_bn (fun (c184 : ¬ ((lg_cmp (lN (wvl tx s (e - s))) (7562612 : Int64)) = (0 : Int32))) => ?_) (fun (c184 : (lg_cmp (lN (wvl tx s (e - s))) (7562612 : Int64)) = (0 : Int32)) => ?_)
                · rw [lc_eq] at c184
                  refine Z_jump 6 rfl ?_
                  show Zs _ _ (am_P 182).2 (201, [(0, .ref 73), (1, .int x1), (2, .int x2), (3, .long (lN (wvl tx s (e - s)))), (5, .int (nI (e - s)))], [.int (100 : Int32), .int (100 : Int32), .int (97 : Int32), .int (0 : Int32), .int (0 : Int32), .long (lN (wvl tx s (e - s)))]) (HH I J R T) _
                  refine Z_c1 rfl rfl rfl (m_code rfl) ?_
                  show Zs _ _ (am_P 182).2 (204, [(0, .ref 73), (1, .int x1), (2, .int x2), (3, .long (lN (wvl tx s (e - s)))), (5, .int (nI (e - s)))], [.long (6382692 : Int64), .long (lN (wvl tx s (e - s)))]) (HH I J R T) _
                  refine Z_jump 2 rfl ?_
                  refine Z_bn (fun (c205 : ¬ ((lg_cmp (lN (wvl tx s (e - s))) (6382692 : Int64)) = (0 : Int32))) => ?_) (fun (c205 : (lg_cmp (lN (wvl tx s (e - s))) (6382692 : Int64)) = (0 : Int32)) => ?_)
                  · rw [lc_eq] at c205
                    refine Z_jump 6 rfl ?_
                    show Zs _ _ (am_P 182).2 (222, [(0, .ref 73), (1, .int x1), (2, .int x2), (3, .long (lN (wvl tx s (e - s)))), (5, .int (nI (e - s)))], [.int (98 : Int32), .int (117 : Int32), .int (115 : Int32), .int (0 : Int32), .int (0 : Int32), .long (lN (wvl tx s (e - s)))]) (HH I J R T) _
                    refine Z_c1 rfl rfl rfl (m_code rfl) ?_
                    show Zs _ _ (am_P 182).2 (225, [(0, .ref 73), (1, .int x1), (2, .int x2), (3, .long (lN (wvl tx s (e - s)))), (5, .int (nI (e - s)))], [.long (7566690 : Int64), .long (lN (wvl tx s (e - s)))]) (HH I J R T) _
                    refine Z_jump 2 rfl ?_
                    refine Z_bn (fun (c226 : ¬ ((lg_cmp (lN (wvl tx s (e - s))) (7566690 : Int64)) = (0 : Int32))) => ?_) (fun (c226 : (lg_cmp (lN (wvl tx s (e - s))) (7566690 : Int64)) = (0 : Int32)) => ?_)
                    · rw [lc_eq] at c226
                      refine Z_jump 6 rfl ?_
                      show Zs _ _ (am_P 182).2 (245, [(0, .ref 73), (1, .int x1), (2, .int x2), (3, .long (lN (wvl tx s (e - s)))), (5, .int (nI (e - s)))], [.int (114 : Int32), .int (97 : Int32), .int (101 : Int32), .int (108 : Int32), .int (99 : Int32), .long (lN (wvl tx s (e - s)))]) (HH I J R T) _
                      refine Z_c1 rfl rfl rfl (m_code rfl) ?_
                      show Zs _ _ (am_P 182).2 (248, [(0, .ref 73), (1, .int x1), (2, .int x2), (3, .long (lN (wvl tx s (e - s)))), (5, .int (nI (e - s)))], [.long (427020345714 : Int64), .long (lN (wvl tx s (e - s)))]) (HH I J R T) _
                      refine Z_jump 2 rfl ?_
                      refine Z_bn (fun (c249 : ¬ ((lg_cmp (lN (wvl tx s (e - s))) (427020345714 : Int64)) = (0 : Int32))) => ?_) (fun (c249 : (lg_cmp (lN (wvl tx s (e - s))) (427020345714 : Int64)) = (0 : Int32)) => ?_)
                      · rw [lc_eq] at c249
                        refine Z_jump 6 rfl ?_
                        show Zs _ _ (am_P 182).2 (268, [(0, .ref 73), (1, .int x1), (2, .int x2), (3, .long (lN (wvl tx s (e - s)))), (5, .int (nI (e - s)))], [.int (121 : Int32), .int (114 : Int32), .int (114 : Int32), .int (97 : Int32), .int (99 : Int32), .long (lN (wvl tx s (e - s)))]) (HH I J R T) _
                        refine Z_c1 rfl rfl rfl (m_code rfl) ?_
                        show Zs _ _ (am_P 182).2 (271, [(0, .ref 73), (1, .int x1), (2, .int x2), (3, .long (lN (wvl tx s (e - s)))), (5, .int (nI (e - s)))], [.long (426836652665 : Int64), .long (lN (wvl tx s (e - s)))]) (HH I J R T) _
                        refine Z_jump 2 rfl ?_
                        refine Z_bn (fun (c272 : ¬ ((lg_cmp (lN (wvl tx s (e - s))) (426836652665 : Int64)) = (0 : Int32))) => ?_) (fun (c272 : (lg_cmp (lN (wvl tx s (e - s))) (426836652665 : Int64)) = (0 : Int32)) => ?_)
                        · rw [lc_eq] at c272
                          refine Z_jump 1 rfl ?_
                          show Zs _ _ (am_P 182).2 (281, [(0, .ref 73), (1, .int x1), (2, .int x2), (3, .long (lN (wvl tx s (e - s)))), (5, .int (nI (e - s)))], [.int (0 : Int32)]) (HH I J R T) _
                          refine Z_rI rfl (by first | exact am_nw0 _ | exact am_nw01 | rfl | assumption) ?_
                          exact ⟨am_ii (by unfold wcode; rw [if_neg (fun z => c56 (ywF.mpr z)), if_neg (fun z => c78 (ywP.mpr z)), if_neg (fun z => c99 (ywV.mpr z)), if_neg (fun z => c120 (ywW.mpr z)), if_neg (fun z => c141 (ywH.mpr z)), if_neg (fun z => c163 (ywK.mpr z)), if_neg (fun z => c184 (ywS.mpr z)), if_neg (fun z => c205 (ywA.mpr z)), if_neg (fun z => c226 (ywB.mpr z)), if_neg (fun z => c249 (ywC.mpr z)), if_neg (fun z => c272 (ywY.mpr z))]; rfl), rfl⟩
                        · rw [lc_eq] at c272
                          refine Z_jump 2 rfl ?_
                          show Zs _ _ (am_P 182).2 (281, [(0, .ref 73), (1, .int x1), (2, .int x2), (3, .long (lN (wvl tx s (e - s)))), (5, .int (nI (e - s)))], [.int (11 : Int32)]) (HH I J R T) _
                          refine Z_rI rfl (by first | exact am_nw0 _ | exact am_nw01 | rfl | assumption) ?_
                          exact ⟨am_ii (by unfold wcode; rw [if_neg (fun z => c56 (ywF.mpr z)), if_neg (fun z => c78 (ywP.mpr z)), if_neg (fun z => c99 (ywV.mpr z)), if_neg (fun z => c120 (ywW.mpr z)), if_neg (fun z => c141 (ywH.mpr z)), if_neg (fun z => c163 (ywK.mpr z)), if_neg (fun z => c184 (ywS.mpr z)), if_neg (fun z => c205 (ywA.mpr z)), if_neg (fun z => c226 (ywB.mpr z)), if_neg (fun z => c249 (ywC.mpr z)), if_pos (ywY.mp c272)]; rfl), rfl⟩
                      · rw [lc_eq] at c249
                        refine Z_jump 2 rfl ?_
                        show Zs _ _ (am_P 182).2 (281, [(0, .ref 73), (1, .int x1), (2, .int x2), (3, .long (lN (wvl tx s (e - s)))), (5, .int (nI (e - s)))], [.int (10 : Int32)]) (HH I J R T) _
                        refine Z_rI rfl (by first | exact am_nw0 _ | exact am_nw01 | rfl | assumption) ?_
                        exact ⟨am_ii (by unfold wcode; rw [if_neg (fun z => c56 (ywF.mpr z)), if_neg (fun z => c78 (ywP.mpr z)), if_neg (fun z => c99 (ywV.mpr z)), if_neg (fun z => c120 (ywW.mpr z)), if_neg (fun z => c141 (ywH.mpr z)), if_neg (fun z => c163 (ywK.mpr z)), if_neg (fun z => c184 (ywS.mpr z)), if_neg (fun z => c205 (ywA.mpr z)), if_neg (fun z => c226 (ywB.mpr z)), if_pos (ywC.mp c249)]; rfl), rfl⟩
                    · rw [lc_eq] at c226
                      refine Z_jump 2 rfl ?_
                      show Zs _ _ (am_P 182).2 (281, [(0, .ref 73), (1, .int x1), (2, .int x2), (3, .long (lN (wvl tx s (e - s)))), (5, .int (nI (e - s)))], [.int (9 : Int32)]) (HH I J R T) _
                      refine Z_rI rfl (by first | exact am_nw0 _ | exact am_nw01 | rfl | assumption) ?_
                      exact ⟨am_ii (by unfold wcode; rw [if_neg (fun z => c56 (ywF.mpr z)), if_neg (fun z => c78 (ywP.mpr z)), if_neg (fun z => c99 (ywV.mpr z)), if_neg (fun z => c120 (ywW.mpr z)), if_neg (fun z => c141 (ywH.mpr z)), if_neg (fun z => c163 (ywK.mpr z)), if_neg (fun z => c184 (ywS.mpr z)), if_neg (fun z => c205 (ywA.mpr z)), if_pos (ywB.mp c226)]; rfl), rfl⟩
                  · rw [lc_eq] at c205
                    refine Z_jump 2 rfl ?_
                    show Zs _ _ (am_P 182).2 (281, [(0, .ref 73), (1, .int x1), (2, .int x2), (3, .long (lN (wvl tx s (e - s)))), (5, .int (nI (e - s)))], [.int (8 : Int32)]) (HH I J R T) _
                    refine Z_rI rfl (by first | exact am_nw0 _ | exact am_nw01 | rfl | assumption) ?_
                    exact ⟨am_ii (by unfold wcode; rw [if_neg (fun z => c56 (ywF.mpr z)), if_neg (fun z => c78 (ywP.mpr z)), if_neg (fun z => c99 (ywV.mpr z)), if_neg (fun z => c120 (ywW.mpr z)), if_neg (fun z => c141 (ywH.mpr z)), if_neg (fun z => c163 (ywK.mpr z)), if_neg (fun z => c184 (ywS.mpr z)), if_pos (ywA.mp c205)]; rfl), rfl⟩
                · rw [lc_eq] at c184
                  refine Z_jump 2 rfl ?_
                  show Zs _ _ (am_P 182).2 (281, [(0, .ref 73), (1, .int x1), (2, .int x2), (3, .long (lN (wvl tx s (e - s)))), (5, .int (nI (e - s)))], [.int (7 : Int32)]) (HH I J R T) _
                  refine Z_rI rfl (by first | exact am_nw0 _ | exact am_nw01 | rfl | assumption) ?_
                  exact ⟨am_ii (by unfold wcode; rw [if_neg (fun z => c56 (ywF.mpr z)), if_neg (fun z => c78 (ywP.mpr z)), if_neg (fun z => c99 (ywV.mpr z)), if_neg (fun z => c120 (ywW.mpr z)), if_neg (fun z => c141 (ywH.mpr z)), if_neg (fun z => c163 (ywK.mpr z)), if_pos (ywS.mp c184)]; rfl), rfl⟩
              · rw [lc_eq] at c163
                refine Z_jump 2 rfl ?_
                show Zs _ _ (am_P 182).2 (281, [(0, .ref 73), (1, .int x1), (2, .int x2), (3, .long (lN (wvl tx s (e - s)))), (5, .int (nI (e - s)))], [.int (6 : Int32)]) (HH I J R T) _
                refine Z_rI rfl (by first | exact am_nw0 _ | exact am_nw01 | rfl | assumption) ?_
                exact ⟨am_ii (by unfold wcode; rw [if_neg (fun z => c56 (ywF.mpr z)), if_neg (fun z => c78 (ywP.mpr z)), if_neg (fun z => c99 (ywV.mpr z)), if_neg (fun z => c120 (ywW.mpr z)), if_neg (fun z => c141 (ywH.mpr z)), if_pos (ywK.mp c163)]; rfl), rfl⟩
            · rw [lc_eq] at c141
              refine Z_jump 2 rfl ?_
              show Zs _ _ (am_P 182).2 (281, [(0, .ref 73), (1, .int x1), (2, .int x2), (3, .long (lN (wvl tx s (e - s)))), (5, .int (nI (e - s)))], [.int (5 : Int32)]) (HH I J R T) _
              refine Z_rI rfl (by first | exact am_nw0 _ | exact am_nw01 | rfl | assumption) ?_
              exact ⟨am_ii (by unfold wcode; rw [if_neg (fun z => c56 (ywF.mpr z)), if_neg (fun z => c78 (ywP.mpr z)), if_neg (fun z => c99 (ywV.mpr z)), if_neg (fun z => c120 (ywW.mpr z)), if_pos (ywH.mp c141)]; rfl), rfl⟩
          · rw [lc_eq] at c120
            refine Z_jump 2 rfl ?_
            show Zs _ _ (am_P 182).2 (281, [(0, .ref 73), (1, .int x1), (2, .int x2), (3, .long (lN (wvl tx s (e - s)))), (5, .int (nI (e - s)))], [.int (4 : Int32)]) (HH I J R T) _
            refine Z_rI rfl (by first | exact am_nw0 _ | exact am_nw01 | rfl | assumption) ?_
            exact ⟨am_ii (by unfold wcode; rw [if_neg (fun z => c56 (ywF.mpr z)), if_neg (fun z => c78 (ywP.mpr z)), if_neg (fun z => c99 (ywV.mpr z)), if_pos (ywW.mp c120)]; rfl), rfl⟩
        · rw [lc_eq] at c99
          refine Z_jump 2 rfl ?_
          show Zs _ _ (am_P 182).2 (281, [(0, .ref 73), (1, .int x1), (2, .int x2), (3, .long (lN (wvl tx s (e - s)))), (5, .int (nI (e - s)))], [.int (3 : Int32)]) (HH I J R T) _
          refine Z_rI rfl (by first | exact am_nw0 _ | exact am_nw01 | rfl | assumption) ?_
          exact ⟨am_ii (by unfold wcode; rw [if_neg (fun z => c56 (ywF.mpr z)), if_neg (fun z => c78 (ywP.mpr z)), if_pos (ywV.mp c99)]; rfl), rfl⟩
      · rw [lc_eq] at c78
        refine Z_jump 2 rfl ?_
        show Zs _ _ (am_P 182).2 (281, [(0, .ref 73), (1, .int x1), (2, .int x2), (3, .long (lN (wvl tx s (e - s)))), (5, .int (nI (e - s)))], [.int (2 : Int32)]) (HH I J R T) _
        refine Z_rI rfl (by first | exact am_nw0 _ | exact am_nw01 | rfl | assumption) ?_
        exact ⟨am_ii (by unfold wcode; rw [if_neg (fun z => c56 (ywF.mpr z)), if_pos (ywP.mp c78)]; rfl), rfl⟩
    · rw [lc_eq] at c56
      refine Z_jump 2 rfl ?_
      show Zs _ _ (am_P 182).2 (281, [(0, .ref 73), (1, .int x1), (2, .int x2), (3, .long (lN (wvl tx s (e - s)))), (5, .int (nI (e - s)))], [.int (1 : Int32)]) (HH I J R T) _
      refine Z_rI rfl (by first | exact am_nw0 _ | exact am_nw01 | rfl | assumption) ?_
      exact ⟨am_ii (by unfold wcode; rw [if_pos (ywF.mp c56)]; rfl), rfl⟩
  · have e0 : wcode tx s e = 0 := by
      unfold wcode
      rw [if_neg (by omega), if_neg (by omega), if_neg (by omega), if_neg (by omega), if_neg (by omega), if_neg (by omega), if_neg (by omega), if_neg (by omega), if_neg (by omega), if_neg (by omega), if_neg (by omega)]
    refine Z_jump 3 rfl ?_
    refine Z_bd (fun c2 => absurd c2 ((fun z => hl (e2.mp z)))) (fun c2 => ?_)
    refine Z_jump 1 rfl ?_
    show Zs _ _ (am_P 182).2 (6, [(0, .ref 73), (1, .int x1), (2, .int x2)], [.int (0 : Int32)]) (HH I J R T) _
    refine Z_rI rfl (by first | exact am_nw0 _ | exact am_nw01 | rfl | assumption) ?_
    exact ⟨am_ii (by rw [e0]; rfl), rfl⟩
end MTX

