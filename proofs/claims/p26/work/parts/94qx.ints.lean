/-! Numbers: when nothing wraps around. -/
theorem ti_lo (x : Int32) : -2147483648 ≤ x.toInt := Int32.le_toInt x
theorem ti_hi (x : Int32) : x.toInt < 2147483648 := Int32.toInt_lt x
theorem bm32 {z : Int} (h1 : -2147483648 ≤ z) (h2 : z < 2147483648) : z.bmod (2 ^ 32) = z := by
  have e : ((2 ^ 32 : Nat) : Int) = 4294967296 := rfl
  exact Int.bmod_eq_of_le_mul_two (by omega) (by omega)
theorem ti_add {x y : Int32} (h1 : -2147483648 ≤ x.toInt + y.toInt) (h2 : x.toInt + y.toInt < 2147483648) : (x + y).toInt = x.toInt + y.toInt := by
  rw [Int32.toInt_add, bm32 h1 h2]
theorem ti_sub {x y : Int32} (h1 : -2147483648 ≤ x.toInt - y.toInt) (h2 : x.toInt - y.toInt < 2147483648) : (x - y).toInt = x.toInt - y.toInt := by
  rw [Int32.toInt_sub, bm32 h1 h2]
theorem ti_mul {x y : Int32} (h1 : -2147483648 ≤ x.toInt * y.toInt) (h2 : x.toInt * y.toInt < 2147483648) : (x * y).toInt = x.toInt * y.toInt := by
  rw [Int32.toInt_mul, bm32 h1 h2]
theorem ti_div {x y : Int32} (h : 2 ≤ y.toInt) : (x / y).toInt = x.toInt.tdiv y.toInt := by
  refine Int32.toInt_div_of_ne_right x y (fun z => ?_)
  rw [z] at h
  exact absurd h (by decide)
theorem td_le {a b : Int} (h : 2 ≤ b) : a.tdiv b * b + a.tmod b = a := by
  have := Int.tmod_add_tdiv_mul a b
  omega
theorem tm_lt {a b : Int} (h : 2 ≤ b) : a.tmod b < b ∧ -b < a.tmod b := by
  have h1 := Int.tmod_lt_of_pos a (show 0 < b by omega)
  have h2 := Int.lt_tmod_of_pos a (show 0 < b by omega)
  omega
theorem ti_rem {x y : Int32} (h : 2 ≤ y.toInt) : (x - x / y * y).toInt = x.toInt.tmod y.toInt := by
  have h1 := td_le (a := x.toInt) h
  have h2 := tm_lt (a := x.toInt) h
  have hx1 := ti_lo x
  have hx2 := ti_hi x
  have hm : x.toInt.tdiv y.toInt * y.toInt = x.toInt - x.toInt.tmod y.toInt := by omega
  have hs : (0 ≤ x.toInt → 0 ≤ x.toInt.tmod y.toInt) ∧ (x.toInt ≤ 0 → x.toInt.tmod y.toInt ≤ 0) := by
    refine ⟨fun z => Int.tmod_nonneg _ z, fun z => ?_⟩
    have := Int.tmod_nonneg y.toInt (show 0 ≤ -x.toInt by omega)
    rw [Int.neg_tmod] at this
    omega
  have hy := ti_hi y
  have hd : (0 ≤ x.toInt → 0 ≤ x.toInt.tdiv y.toInt * y.toInt) ∧ (x.toInt ≤ 0 → x.toInt.tdiv y.toInt * y.toInt ≤ 0) := by
    refine ⟨fun z => Int.mul_nonneg (Int.tdiv_nonneg z (by omega)) (by omega), fun z => ?_⟩
    have h3 : 0 ≤ (-x.toInt).tdiv y.toInt * y.toInt := Int.mul_nonneg (Int.tdiv_nonneg (by omega) (by omega)) (by omega)
    rw [Int.neg_tdiv, Int.neg_mul] at h3
    omega
  have e : (x / y * y).toInt = x.toInt - x.toInt.tmod y.toInt := by
    rw [ti_mul, ti_div h, hm]
    · rw [ti_div h, hm]; rcases Int.le_total 0 x.toInt with z | z
      · have := hs.1 z; have := hd.1 z; omega
      · have := hs.2 z; have := hd.2 z; omega
    · rw [ti_div h, hm]; rcases Int.le_total 0 x.toInt with z | z
      · have := hs.1 z; have := hd.1 z; omega
      · have := hs.2 z; have := hd.2 z; omega
  rw [ti_sub, e]
  · omega
  · rw [e]; omega
  · rw [e]; omega

