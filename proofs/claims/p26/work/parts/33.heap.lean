/-! The heap behind the law's constructors: cells 0 .. of the class, 73 .. of the reference; I: ints by cell and place, J: longs, R: references in arrays, T: cells made later. -/
abbrev hI : Type := Nat → Nat → Int32
abbrev hJ : Type := Nat → Nat → Int64
abbrev hR : Type := Nat → Nat → Option Nat
def HH (I : hI) (J : hJ) (R : hR) (T : am_H) : am_H := .inr (9, [.ref 1, .ref 3, .ref 4, .ref 18, .ref 20, .ref 22, .ref 25, .ref 28, .ref 38, .int (I 0 9), .ref 63, .int (I 0 11), .ref 70, .ref 71, .ref 72, .int (I 0 15)]) :: .inr (7, [.ref 2, .int (I 1 1), .int (I 1 2), .int (I 1 3), .int (I 1 4), .int (I 1 5)]) :: .inl (0, 160, .inl (I 2)) :: .inr (6, [.int (I 3 0), .long (J 3 1), .int (I 3 2), .long (J 3 3)]) :: .inr (8, [.ref 5, .ref 6, .ref 7, .ref 8, .ref 9, .ref 10, .ref 11, .ref 12, .ref 13, .ref 14, .ref 15, .ref 16, .ref 17, .int (I 4 13)]) :: .inl (0, 240, .inl (I 5)) :: .inl (0, 240, .inl (I 6)) :: .inl (0, 240, .inl (I 7)) :: .inl (0, 6, .inl (I 8)) :: .inl (0, 6, .inl (I 9)) :: .inl (0, 7, .inl (I 10)) :: .inl (0, 7, .inl (I 11)) :: .inl (0, 240, .inl (I 12)) :: .inl (0, 6, .inl (I 13)) :: .inl (0, 7, .inl (I 14)) :: .inl (0, 7, .inl (I 15)) :: .inl (0, 1024, .inl (I 16)) :: .inl (0, 1024, .inl (I 17)) :: .inr (1, [.ref 19, .int (I 18 1), .int (I 18 2)]) :: .inl (3, 6, .inr (.inr (.inr (.inr (R 19))))) :: .inr (1, [.ref 21, .int (I 20 1), .int (I 20 2)]) :: .inl (3, 6, .inr (.inr (.inr (.inr (R 21))))) :: .inr (5, [.ref 23, .ref 24, .int (I 22 2), .int (I 22 3)]) :: .inl (0, 6, .inl (I 23)) :: .inl (0, 6, .inl (I 24)) :: .inr (5, [.ref 26, .ref 27, .int (I 25 2), .int (I 25 3)]) :: .inl (0, 6, .inl (I 26)) :: .inl (0, 6, .inl (I 27)) :: .inl (4, 3, .inr (.inr (.inr (.inr (R 28))))) :: .inr (5, [.ref 30, .ref 31, .int (I 29 2), .int (I 29 3)]) :: .inl (0, 6, .inl (I 30)) :: .inl (0, 6, .inl (I 31)) :: .inr (5, [.ref 33, .ref 34, .int (I 32 2), .int (I 32 3)]) :: .inl (0, 6, .inl (I 33)) :: .inl (0, 6, .inl (I 34)) :: .inr (5, [.ref 36, .ref 37, .int (I 35 2), .int (I 35 3)]) :: .inl (0, 6, .inl (I 36)) :: .inl (0, 6, .inl (I 37)) :: .inl (4, 8, .inr (.inr (.inr (.inr (R 38))))) :: .inr (5, [.ref 40, .ref 41, .int (I 39 2), .int (I 39 3)]) :: .inl (0, 6, .inl (I 40)) :: .inl (0, 6, .inl (I 41)) :: .inr (5, [.ref 43, .ref 44, .int (I 42 2), .int (I 42 3)]) :: .inl (0, 6, .inl (I 43)) :: .inl (0, 6, .inl (I 44)) :: .inr (5, [.ref 46, .ref 47, .int (I 45 2), .int (I 45 3)]) :: .inl (0, 6, .inl (I 46)) :: .inl (0, 6, .inl (I 47)) :: .inr (5, [.ref 49, .ref 50, .int (I 48 2), .int (I 48 3)]) :: .inl (0, 6, .inl (I 49)) :: .inl (0, 6, .inl (I 50)) :: .inr (5, [.ref 52, .ref 53, .int (I 51 2), .int (I 51 3)]) :: .inl (0, 6, .inl (I 52)) :: .inl (0, 6, .inl (I 53)) :: .inr (5, [.ref 55, .ref 56, .int (I 54 2), .int (I 54 3)]) :: .inl (0, 6, .inl (I 55)) :: .inl (0, 6, .inl (I 56)) :: .inr (5, [.ref 58, .ref 59, .int (I 57 2), .int (I 57 3)]) :: .inl (0, 6, .inl (I 58)) :: .inl (0, 6, .inl (I 59)) :: .inr (5, [.ref 61, .ref 62, .int (I 60 2), .int (I 60 3)]) :: .inl (0, 6, .inl (I 61)) :: .inl (0, 6, .inl (I 62)) :: .inl (4, 2, .inr (.inr (.inr (.inr (R 63))))) :: .inr (5, [.ref 65, .ref 66, .int (I 64 2), .int (I 64 3)]) :: .inl (0, 6, .inl (I 65)) :: .inl (0, 6, .inl (I 66)) :: .inr (5, [.ref 68, .ref 69, .int (I 67 2), .int (I 67 3)]) :: .inl (0, 6, .inl (I 68)) :: .inl (0, 6, .inl (I 69)) :: .inl (0, 6, .inl (I 70)) :: .inl (0, 6, .inl (I 71)) :: .inl (0, 6, .inl (I 72)) :: .inr (10, [.int (I 73 0), .ref 74, .ref 75, .ref 76, .ref 77, .ref 78, .ref 79, .int (I 73 7), .ref 80, .ref 81, .ref 82, .ref 83, .int (I 73 12), .ref 84, .int (I 73 14), .int (I 73 15), .int (I 73 16), .int (I 73 17), .long (J 73 18), .int (I 73 19), .int (I 73 20), .int (I 73 21), .int (I 73 22), .ref 85, .ref 86, .ref 87, .ref 88, .int (I 73 27), .int (I 73 28), .int (I 73 29), .ref 89, .ref 90, .ref 91, .ref 92, .long (J 73 34), .int (I 73 35), .int (I 73 36), .ref 93, .ref 94, .ref 95, .int (I 73 40), .ref 96, .ref 97, .ref 98]) :: .inl (0, 6, .inl (I 74)) :: .inl (0, 6, .inl (I 75)) :: .inl (0, 6, .inl (I 76)) :: .inl (0, 6, .inl (I 77)) :: .inl (0, 14, .inl (I 78)) :: .inl (0, 14, .inl (I 79)) :: .inl (1, 7, .inr (.inl (J 80))) :: .inl (1, 448, .inr (.inl (J 81))) :: .inl (0, 448, .inl (I 82)) :: .inl (0, 12, .inl (I 83)) :: .inl (0, 160, .inl (I 84)) :: .inl (0, 6, .inl (I 85)) :: .inl (0, 6, .inl (I 86)) :: .inl (0, 6, .inl (I 87)) :: .inl (0, 6, .inl (I 88)) :: .inl (1, 8, .inr (.inl (J 89))) :: .inl (1, 8, .inr (.inl (J 90))) :: .inl (0, 8, .inl (I 91)) :: .inl (0, 8, .inl (I 92)) :: .inl (0, 112, .inl (I 93)) :: .inl (2, 2, .inl (I 94)) :: .inl (0, 28, .inl (I 95)) :: .inl (0, 6, .inl (I 96)) :: .inl (0, 6, .inl (I 97)) :: .inl (0, 6, .inl (I 98)) :: T
def I_0 : hI := fun c k => if c = 1 ∧ k = 2 then (-1) else if c = 3 ∧ k = 0 then (3) else if c = 3 ∧ k = 2 then (1) else 0
def J_0 : hJ := fun _ _ => 0
def R_0 : hR := fun c k => if c = 28 then [29, 32, 35][k]? else if c = 38 then [39, 42, 45, 48, 51, 54, 57, 60][k]? else if c = 63 then [64, 67][k]? else none
theorem up_same {α : Type} (f : Nat → α) (k : Nat) (x : α) : va_up f k x k = x := if_pos rfl
theorem up_ne {α : Type} {f : Nat → α} {k j : Nat} {x : α} (h : j ≠ k) : va_up f k x j = f j := if_neg h
theorem up_up {α : Type} (f : Nat → α) (k : Nat) (x y : α) : va_up (va_up f k x) k y = va_up f k y := by
  funext j
  by_cases h : j = k
  · rw [h, up_same, up_same]
  · rw [up_ne h, up_ne h, up_ne h]
theorem up_id {α : Type} (f : Nat → α) (k : Nat) : va_up f k (f k) = f := by
  funext j
  by_cases h : j = k
  · rw [h, up_same]
  · rw [up_ne h]
theorem HH_a2 (I : hI) (J : hJ) (R : hR) (T : am_H) (f : Nat → Int32) : (HH I J R T).set 2 (.inl (0, 160, .inl f)) = HH (va_up I 2 f) J R T := rfl
theorem HH_a5 (I : hI) (J : hJ) (R : hR) (T : am_H) (f : Nat → Int32) : (HH I J R T).set 5 (.inl (0, 240, .inl f)) = HH (va_up I 5 f) J R T := rfl
theorem HH_a6 (I : hI) (J : hJ) (R : hR) (T : am_H) (f : Nat → Int32) : (HH I J R T).set 6 (.inl (0, 240, .inl f)) = HH (va_up I 6 f) J R T := rfl
theorem HH_a7 (I : hI) (J : hJ) (R : hR) (T : am_H) (f : Nat → Int32) : (HH I J R T).set 7 (.inl (0, 240, .inl f)) = HH (va_up I 7 f) J R T := rfl
theorem HH_a8 (I : hI) (J : hJ) (R : hR) (T : am_H) (f : Nat → Int32) : (HH I J R T).set 8 (.inl (0, 6, .inl f)) = HH (va_up I 8 f) J R T := rfl
theorem HH_a9 (I : hI) (J : hJ) (R : hR) (T : am_H) (f : Nat → Int32) : (HH I J R T).set 9 (.inl (0, 6, .inl f)) = HH (va_up I 9 f) J R T := rfl
theorem HH_a10 (I : hI) (J : hJ) (R : hR) (T : am_H) (f : Nat → Int32) : (HH I J R T).set 10 (.inl (0, 7, .inl f)) = HH (va_up I 10 f) J R T := rfl
theorem HH_a11 (I : hI) (J : hJ) (R : hR) (T : am_H) (f : Nat → Int32) : (HH I J R T).set 11 (.inl (0, 7, .inl f)) = HH (va_up I 11 f) J R T := rfl
theorem HH_a12 (I : hI) (J : hJ) (R : hR) (T : am_H) (f : Nat → Int32) : (HH I J R T).set 12 (.inl (0, 240, .inl f)) = HH (va_up I 12 f) J R T := rfl
theorem HH_a13 (I : hI) (J : hJ) (R : hR) (T : am_H) (f : Nat → Int32) : (HH I J R T).set 13 (.inl (0, 6, .inl f)) = HH (va_up I 13 f) J R T := rfl
theorem HH_a14 (I : hI) (J : hJ) (R : hR) (T : am_H) (f : Nat → Int32) : (HH I J R T).set 14 (.inl (0, 7, .inl f)) = HH (va_up I 14 f) J R T := rfl
theorem HH_a15 (I : hI) (J : hJ) (R : hR) (T : am_H) (f : Nat → Int32) : (HH I J R T).set 15 (.inl (0, 7, .inl f)) = HH (va_up I 15 f) J R T := rfl
theorem HH_a16 (I : hI) (J : hJ) (R : hR) (T : am_H) (f : Nat → Int32) : (HH I J R T).set 16 (.inl (0, 1024, .inl f)) = HH (va_up I 16 f) J R T := rfl
theorem HH_a17 (I : hI) (J : hJ) (R : hR) (T : am_H) (f : Nat → Int32) : (HH I J R T).set 17 (.inl (0, 1024, .inl f)) = HH (va_up I 17 f) J R T := rfl
theorem HH_a19 (I : hI) (J : hJ) (R : hR) (T : am_H) (f : Nat → Option Nat) : (HH I J R T).set 19 (.inl (3, 6, .inr (.inr (.inr (.inr f))))) = HH I J (va_up R 19 f) T := rfl
theorem HH_a21 (I : hI) (J : hJ) (R : hR) (T : am_H) (f : Nat → Option Nat) : (HH I J R T).set 21 (.inl (3, 6, .inr (.inr (.inr (.inr f))))) = HH I J (va_up R 21 f) T := rfl
theorem HH_a23 (I : hI) (J : hJ) (R : hR) (T : am_H) (f : Nat → Int32) : (HH I J R T).set 23 (.inl (0, 6, .inl f)) = HH (va_up I 23 f) J R T := rfl
theorem HH_a24 (I : hI) (J : hJ) (R : hR) (T : am_H) (f : Nat → Int32) : (HH I J R T).set 24 (.inl (0, 6, .inl f)) = HH (va_up I 24 f) J R T := rfl
theorem HH_a26 (I : hI) (J : hJ) (R : hR) (T : am_H) (f : Nat → Int32) : (HH I J R T).set 26 (.inl (0, 6, .inl f)) = HH (va_up I 26 f) J R T := rfl
theorem HH_a27 (I : hI) (J : hJ) (R : hR) (T : am_H) (f : Nat → Int32) : (HH I J R T).set 27 (.inl (0, 6, .inl f)) = HH (va_up I 27 f) J R T := rfl
theorem HH_a28 (I : hI) (J : hJ) (R : hR) (T : am_H) (f : Nat → Option Nat) : (HH I J R T).set 28 (.inl (4, 3, .inr (.inr (.inr (.inr f))))) = HH I J (va_up R 28 f) T := rfl
theorem HH_a30 (I : hI) (J : hJ) (R : hR) (T : am_H) (f : Nat → Int32) : (HH I J R T).set 30 (.inl (0, 6, .inl f)) = HH (va_up I 30 f) J R T := rfl
theorem HH_a31 (I : hI) (J : hJ) (R : hR) (T : am_H) (f : Nat → Int32) : (HH I J R T).set 31 (.inl (0, 6, .inl f)) = HH (va_up I 31 f) J R T := rfl
theorem HH_a33 (I : hI) (J : hJ) (R : hR) (T : am_H) (f : Nat → Int32) : (HH I J R T).set 33 (.inl (0, 6, .inl f)) = HH (va_up I 33 f) J R T := rfl
theorem HH_a34 (I : hI) (J : hJ) (R : hR) (T : am_H) (f : Nat → Int32) : (HH I J R T).set 34 (.inl (0, 6, .inl f)) = HH (va_up I 34 f) J R T := rfl
theorem HH_a36 (I : hI) (J : hJ) (R : hR) (T : am_H) (f : Nat → Int32) : (HH I J R T).set 36 (.inl (0, 6, .inl f)) = HH (va_up I 36 f) J R T := rfl
theorem HH_a37 (I : hI) (J : hJ) (R : hR) (T : am_H) (f : Nat → Int32) : (HH I J R T).set 37 (.inl (0, 6, .inl f)) = HH (va_up I 37 f) J R T := rfl
theorem HH_a38 (I : hI) (J : hJ) (R : hR) (T : am_H) (f : Nat → Option Nat) : (HH I J R T).set 38 (.inl (4, 8, .inr (.inr (.inr (.inr f))))) = HH I J (va_up R 38 f) T := rfl
theorem HH_a40 (I : hI) (J : hJ) (R : hR) (T : am_H) (f : Nat → Int32) : (HH I J R T).set 40 (.inl (0, 6, .inl f)) = HH (va_up I 40 f) J R T := rfl
theorem HH_a41 (I : hI) (J : hJ) (R : hR) (T : am_H) (f : Nat → Int32) : (HH I J R T).set 41 (.inl (0, 6, .inl f)) = HH (va_up I 41 f) J R T := rfl
theorem HH_a43 (I : hI) (J : hJ) (R : hR) (T : am_H) (f : Nat → Int32) : (HH I J R T).set 43 (.inl (0, 6, .inl f)) = HH (va_up I 43 f) J R T := rfl
theorem HH_a44 (I : hI) (J : hJ) (R : hR) (T : am_H) (f : Nat → Int32) : (HH I J R T).set 44 (.inl (0, 6, .inl f)) = HH (va_up I 44 f) J R T := rfl
theorem HH_a46 (I : hI) (J : hJ) (R : hR) (T : am_H) (f : Nat → Int32) : (HH I J R T).set 46 (.inl (0, 6, .inl f)) = HH (va_up I 46 f) J R T := rfl
theorem HH_a47 (I : hI) (J : hJ) (R : hR) (T : am_H) (f : Nat → Int32) : (HH I J R T).set 47 (.inl (0, 6, .inl f)) = HH (va_up I 47 f) J R T := rfl
theorem HH_a49 (I : hI) (J : hJ) (R : hR) (T : am_H) (f : Nat → Int32) : (HH I J R T).set 49 (.inl (0, 6, .inl f)) = HH (va_up I 49 f) J R T := rfl
theorem HH_a50 (I : hI) (J : hJ) (R : hR) (T : am_H) (f : Nat → Int32) : (HH I J R T).set 50 (.inl (0, 6, .inl f)) = HH (va_up I 50 f) J R T := rfl
theorem HH_a52 (I : hI) (J : hJ) (R : hR) (T : am_H) (f : Nat → Int32) : (HH I J R T).set 52 (.inl (0, 6, .inl f)) = HH (va_up I 52 f) J R T := rfl
theorem HH_a53 (I : hI) (J : hJ) (R : hR) (T : am_H) (f : Nat → Int32) : (HH I J R T).set 53 (.inl (0, 6, .inl f)) = HH (va_up I 53 f) J R T := rfl
theorem HH_a55 (I : hI) (J : hJ) (R : hR) (T : am_H) (f : Nat → Int32) : (HH I J R T).set 55 (.inl (0, 6, .inl f)) = HH (va_up I 55 f) J R T := rfl
theorem HH_a56 (I : hI) (J : hJ) (R : hR) (T : am_H) (f : Nat → Int32) : (HH I J R T).set 56 (.inl (0, 6, .inl f)) = HH (va_up I 56 f) J R T := rfl
theorem HH_a58 (I : hI) (J : hJ) (R : hR) (T : am_H) (f : Nat → Int32) : (HH I J R T).set 58 (.inl (0, 6, .inl f)) = HH (va_up I 58 f) J R T := rfl
theorem HH_a59 (I : hI) (J : hJ) (R : hR) (T : am_H) (f : Nat → Int32) : (HH I J R T).set 59 (.inl (0, 6, .inl f)) = HH (va_up I 59 f) J R T := rfl
theorem HH_a61 (I : hI) (J : hJ) (R : hR) (T : am_H) (f : Nat → Int32) : (HH I J R T).set 61 (.inl (0, 6, .inl f)) = HH (va_up I 61 f) J R T := rfl
theorem HH_a62 (I : hI) (J : hJ) (R : hR) (T : am_H) (f : Nat → Int32) : (HH I J R T).set 62 (.inl (0, 6, .inl f)) = HH (va_up I 62 f) J R T := rfl
theorem HH_a63 (I : hI) (J : hJ) (R : hR) (T : am_H) (f : Nat → Option Nat) : (HH I J R T).set 63 (.inl (4, 2, .inr (.inr (.inr (.inr f))))) = HH I J (va_up R 63 f) T := rfl
theorem HH_a65 (I : hI) (J : hJ) (R : hR) (T : am_H) (f : Nat → Int32) : (HH I J R T).set 65 (.inl (0, 6, .inl f)) = HH (va_up I 65 f) J R T := rfl
theorem HH_a66 (I : hI) (J : hJ) (R : hR) (T : am_H) (f : Nat → Int32) : (HH I J R T).set 66 (.inl (0, 6, .inl f)) = HH (va_up I 66 f) J R T := rfl
theorem HH_a68 (I : hI) (J : hJ) (R : hR) (T : am_H) (f : Nat → Int32) : (HH I J R T).set 68 (.inl (0, 6, .inl f)) = HH (va_up I 68 f) J R T := rfl
theorem HH_a69 (I : hI) (J : hJ) (R : hR) (T : am_H) (f : Nat → Int32) : (HH I J R T).set 69 (.inl (0, 6, .inl f)) = HH (va_up I 69 f) J R T := rfl
theorem HH_a70 (I : hI) (J : hJ) (R : hR) (T : am_H) (f : Nat → Int32) : (HH I J R T).set 70 (.inl (0, 6, .inl f)) = HH (va_up I 70 f) J R T := rfl
theorem HH_a71 (I : hI) (J : hJ) (R : hR) (T : am_H) (f : Nat → Int32) : (HH I J R T).set 71 (.inl (0, 6, .inl f)) = HH (va_up I 71 f) J R T := rfl
theorem HH_a72 (I : hI) (J : hJ) (R : hR) (T : am_H) (f : Nat → Int32) : (HH I J R T).set 72 (.inl (0, 6, .inl f)) = HH (va_up I 72 f) J R T := rfl
theorem HH_a74 (I : hI) (J : hJ) (R : hR) (T : am_H) (f : Nat → Int32) : (HH I J R T).set 74 (.inl (0, 6, .inl f)) = HH (va_up I 74 f) J R T := rfl
theorem HH_a75 (I : hI) (J : hJ) (R : hR) (T : am_H) (f : Nat → Int32) : (HH I J R T).set 75 (.inl (0, 6, .inl f)) = HH (va_up I 75 f) J R T := rfl
theorem HH_a76 (I : hI) (J : hJ) (R : hR) (T : am_H) (f : Nat → Int32) : (HH I J R T).set 76 (.inl (0, 6, .inl f)) = HH (va_up I 76 f) J R T := rfl
theorem HH_a77 (I : hI) (J : hJ) (R : hR) (T : am_H) (f : Nat → Int32) : (HH I J R T).set 77 (.inl (0, 6, .inl f)) = HH (va_up I 77 f) J R T := rfl
theorem HH_a78 (I : hI) (J : hJ) (R : hR) (T : am_H) (f : Nat → Int32) : (HH I J R T).set 78 (.inl (0, 14, .inl f)) = HH (va_up I 78 f) J R T := rfl
theorem HH_a79 (I : hI) (J : hJ) (R : hR) (T : am_H) (f : Nat → Int32) : (HH I J R T).set 79 (.inl (0, 14, .inl f)) = HH (va_up I 79 f) J R T := rfl
theorem HH_a80 (I : hI) (J : hJ) (R : hR) (T : am_H) (f : Nat → Int64) : (HH I J R T).set 80 (.inl (1, 7, .inr (.inl f))) = HH I (va_up J 80 f) R T := rfl
theorem HH_a81 (I : hI) (J : hJ) (R : hR) (T : am_H) (f : Nat → Int64) : (HH I J R T).set 81 (.inl (1, 448, .inr (.inl f))) = HH I (va_up J 81 f) R T := rfl
theorem HH_a82 (I : hI) (J : hJ) (R : hR) (T : am_H) (f : Nat → Int32) : (HH I J R T).set 82 (.inl (0, 448, .inl f)) = HH (va_up I 82 f) J R T := rfl
theorem HH_a83 (I : hI) (J : hJ) (R : hR) (T : am_H) (f : Nat → Int32) : (HH I J R T).set 83 (.inl (0, 12, .inl f)) = HH (va_up I 83 f) J R T := rfl
theorem HH_a84 (I : hI) (J : hJ) (R : hR) (T : am_H) (f : Nat → Int32) : (HH I J R T).set 84 (.inl (0, 160, .inl f)) = HH (va_up I 84 f) J R T := rfl
theorem HH_a85 (I : hI) (J : hJ) (R : hR) (T : am_H) (f : Nat → Int32) : (HH I J R T).set 85 (.inl (0, 6, .inl f)) = HH (va_up I 85 f) J R T := rfl
theorem HH_a86 (I : hI) (J : hJ) (R : hR) (T : am_H) (f : Nat → Int32) : (HH I J R T).set 86 (.inl (0, 6, .inl f)) = HH (va_up I 86 f) J R T := rfl
theorem HH_a87 (I : hI) (J : hJ) (R : hR) (T : am_H) (f : Nat → Int32) : (HH I J R T).set 87 (.inl (0, 6, .inl f)) = HH (va_up I 87 f) J R T := rfl
theorem HH_a88 (I : hI) (J : hJ) (R : hR) (T : am_H) (f : Nat → Int32) : (HH I J R T).set 88 (.inl (0, 6, .inl f)) = HH (va_up I 88 f) J R T := rfl
theorem HH_a89 (I : hI) (J : hJ) (R : hR) (T : am_H) (f : Nat → Int64) : (HH I J R T).set 89 (.inl (1, 8, .inr (.inl f))) = HH I (va_up J 89 f) R T := rfl
theorem HH_a90 (I : hI) (J : hJ) (R : hR) (T : am_H) (f : Nat → Int64) : (HH I J R T).set 90 (.inl (1, 8, .inr (.inl f))) = HH I (va_up J 90 f) R T := rfl
theorem HH_a91 (I : hI) (J : hJ) (R : hR) (T : am_H) (f : Nat → Int32) : (HH I J R T).set 91 (.inl (0, 8, .inl f)) = HH (va_up I 91 f) J R T := rfl
theorem HH_a92 (I : hI) (J : hJ) (R : hR) (T : am_H) (f : Nat → Int32) : (HH I J R T).set 92 (.inl (0, 8, .inl f)) = HH (va_up I 92 f) J R T := rfl
theorem HH_a93 (I : hI) (J : hJ) (R : hR) (T : am_H) (f : Nat → Int32) : (HH I J R T).set 93 (.inl (0, 112, .inl f)) = HH (va_up I 93 f) J R T := rfl
theorem HH_a94 (I : hI) (J : hJ) (R : hR) (T : am_H) (f : Nat → Int32) : (HH I J R T).set 94 (.inl (2, 2, .inl f)) = HH (va_up I 94 f) J R T := rfl
theorem HH_a95 (I : hI) (J : hJ) (R : hR) (T : am_H) (f : Nat → Int32) : (HH I J R T).set 95 (.inl (0, 28, .inl f)) = HH (va_up I 95 f) J R T := rfl
theorem HH_a96 (I : hI) (J : hJ) (R : hR) (T : am_H) (f : Nat → Int32) : (HH I J R T).set 96 (.inl (0, 6, .inl f)) = HH (va_up I 96 f) J R T := rfl
theorem HH_a97 (I : hI) (J : hJ) (R : hR) (T : am_H) (f : Nat → Int32) : (HH I J R T).set 97 (.inl (0, 6, .inl f)) = HH (va_up I 97 f) J R T := rfl
theorem HH_a98 (I : hI) (J : hJ) (R : hR) (T : am_H) (f : Nat → Int32) : (HH I J R T).set 98 (.inl (0, 6, .inl f)) = HH (va_up I 98 f) J R T := rfl
