section LOO
/-! bits of the ints -/
theorem zb_n {n b : Nat} (hb : b < 32) : zb (nI n) b = n.testBit b := by
  unfold zb
  show (BitVec.ofNat 32 n).getLsbD b = _
  rw [BitVec.getLsbD_ofNat]
  simp [hb]
theorem tb_d {n j : Nat} (hj : j < 6) : (n.testBit (2 * j) = true ↔ dgn n j % 2 = 1) ∧ (n.testBit (2 * j + 1) = true ↔ dgn n j / 2 = 1) := by
  have e : 2 ^ (2 * j) = 4 ^ j := by rw [Nat.pow_mul]
  have e1 : 2 ^ (2 * j + 1) = 4 ^ j * 2 := by rw [Nat.pow_succ, e]
  unfold dgn
  rw [Nat.testBit_eq_decide_div_mod_eq, Nat.testBit_eq_decide_div_mod_eq, e, e1, ← Nat.div_div_eq_div_mul, decide_eq_true_iff, decide_eq_true_iff]
  generalize n / 4 ^ j = q
  omega
theorem B12_n {x : Int32} (h : B12 x) : ∃ n, n < 4096 ∧ x = nI n := by
  refine ⟨x.toBitVec.toNat % 4096, Nat.mod_lt _ (by decide), zb_ext (fun i hi => ?_)⟩
  rw [zb_n hi, show (4096 : Nat) = 2 ^ 12 from rfl, Nat.testBit_mod_two_pow]
  have e : zb x i = x.toBitVec.toNat.testBit i := rfl
  by_cases z : i < 12
  · rw [decide_eq_true z, Bool.true_and]; exact e
  · rw [decide_eq_false z, Bool.false_and]; exact h i (by omega) hi
theorem mb_z {x : Int32} {i q : Nat} (hi : i < 6) (hq : q < 2) : M_bit x (nI i) (nI q) ↔ zb x (2 * i + q) = true := by
  show (x >>> ((2 * nI i + nI q) &&& 31)) &&& 1 = 1 ↔ _
  rw [two_n, zb_and1, zb_sshr (2 * i + q) (by omega) x (by decide), if_pos (by omega), Nat.add_zero]
theorem zb_m1 : ∀ i, i < 32 → zb (-1) i = true := by decide +kernel
theorem sb_z {n S : Nat} (hn : n < 4096) (hS : S < 4096) : nI n &&& (nI S ^^^ -1) = 0 ↔ ∀ j, j < 6 → sub4 (dgn n j) (dgn S j) := by
  have bits : nI n &&& (nI S ^^^ -1) = 0 ↔ ∀ b, b < 32 → n.testBit b = true → S.testBit b = true := by
    constructor
    · intro h b hb t
      have := congrArg (fun y => zb y b) h
      have w : zb (nI n &&& (nI S ^^^ -1)) b = false := this.trans (zb_0 b)
      rw [zb_and, zb_xor, zb_m1 b hb, zb_n hb, zb_n hb, t] at w
      cases hc : S.testBit b
      · rw [hc] at w; exact absurd w (by decide)
      · rfl
    · intro h
      refine zb_ext (fun b hb => ?_)
      rw [zb_and, zb_xor, zb_m1 b hb, zb_n hb, zb_n hb, zb_0]
      cases hc : n.testBit b
      · rfl
      · rw [h b hb hc]; rfl
  rw [bits]
  constructor
  · intro h j hj
    obtain ⟨a1, a2⟩ := tb_d (n := n) hj
    obtain ⟨b1, b2⟩ := tb_d (n := S) hj
    have n4 := dgn_4 n j
    refine ⟨?_, ?_⟩
    · by_cases z : dgn n j % 2 = 1
      · have := b1.mp (h (2 * j) (by omega) (a1.mpr z)); omega
      · omega
    · by_cases z : dgn n j / 2 = 1
      · have := b2.mp (h (2 * j + 1) (by omega) (a2.mpr z)); omega
      · omega
  · intro h b hb t
    by_cases z : b < 12
    · obtain ⟨a1, a2⟩ := tb_d (n := n) (j := b / 2) (by omega)
      obtain ⟨b1, b2⟩ := tb_d (n := S) (j := b / 2) (by omega)
      have s := h (b / 2) (by omega)
      have S4 := dgn_4 S (b / 2)
      rcases Nat.mod_two_eq_zero_or_one b with y | y
      · have e : b = 2 * (b / 2) := by omega
        rw [e] at t ⊢
        have := a1.mp t
        have := s.1
        exact b1.mpr (by omega)
      · have e : b = 2 * (b / 2) + 1 := by omega
        rw [e] at t ⊢
        have := a2.mp t
        have := s.2
        exact b2.mpr (by omega)
    · have : n.testBit b = false := Nat.testBit_lt_two_pow (Nat.lt_of_lt_of_le hn (Nat.pow_le_pow_right (n := 2) (by decide) (show 12 ≤ b by omega)))
      rw [this] at t
      exact absurd t (by decide)
/-- the standing with n loosened -/
theorem RV_m {D : FD} {v : StV} {I : hI} {S n : Nat} (h6 : D.1 ≤ 6) (hst : I 78 12 = nI S) (hR : RV D v 78 (I 78 12) I) : RV D (vm v (dgn n)) 78 (I 78 12 &&& (nI n ^^^ -1)) I := fun i hi => by
  obtain ⟨e, b, k0, k1⟩ := hR i hi
  obtain ⟨m0, m1⟩ := vm_0 (v := v) (e := dgn n) (i := i)
  obtain ⟨t0, t1⟩ := tb_d (n := n) (j := i) (by omega)
  have z0 : M_bit (I 78 12 &&& (nI n ^^^ -1)) (nI i) 0 ↔ M_bit (I 78 12) (nI i) 0 ∧ ¬ dgn n i % 2 = 1 := by
    have a := mb_z (x := I 78 12 &&& (nI n ^^^ -1)) (i := i) (q := 0) (by omega) (by decide)
    have c := mb_z (x := I 78 12) (i := i) (q := 0) (by omega) (by decide)
    refine Iff.trans a (Iff.trans ?_ (and_congr c.symm Iff.rfl))
    rw [zb_and, zb_xor, zb_m1 _ (by omega), zb_n (show 2 * i + 0 < 32 by omega), Nat.add_zero, ← t0]
    cases zb (I 78 12) (2 * i) <;> cases n.testBit (2 * i) <;> simp
  have z1 : M_bit (I 78 12 &&& (nI n ^^^ -1)) (nI i) 1 ↔ M_bit (I 78 12) (nI i) 1 ∧ ¬ dgn n i / 2 = 1 := by
    have a := mb_z (x := I 78 12 &&& (nI n ^^^ -1)) (i := i) (q := 1) (by omega) (by decide)
    have c := mb_z (x := I 78 12) (i := i) (q := 1) (by omega) (by decide)
    refine Iff.trans a (Iff.trans ?_ (and_congr c.symm Iff.rfl))
    rw [zb_and, zb_xor, zb_m1 _ (by omega), zb_n (show 2 * i + 1 < 32 by omega), ← t1]
    cases zb (I 78 12) (2 * i + 1) <;> cases n.testBit (2 * i + 1) <;> simp
  exact ⟨e, b, z0.trans ((and_congr k0 Iff.rfl).trans m0.symm), z1.trans ((and_congr k1 Iff.rfl).trans m1.symm)⟩
end LOO

