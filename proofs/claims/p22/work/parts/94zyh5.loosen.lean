section LOO
/-- how many bits -/
def pc2 : Nat → Nat → Nat
  | 0, _ => 0
  | k + 1, s => s % 2 + pc2 k (s / 2)
theorem pc2_d : ∀ (k s : Nat), s < 2 ^ k → 0 < s → pc2 k (s &&& (s - 1)) + 1 = pc2 k s
  | 0, s, h, p => by
    have h1 : s < 1 := h
    omega
  | k + 1, s, h, p => by
    have hk : s / 2 < 2 ^ k := by rw [Nat.pow_succ] at h; omega
    have d := Nat.and_div_two (a := s) (b := s - 1)
    have m : (s &&& (s - 1)) % 2 = 0 := by
      rcases Nat.mod_two_eq_zero_or_one (s &&& (s - 1)) with y | y
      · exact y
      · have z := (Nat.and_mod_two_eq_one (a := s) (b := s - 1)).mp y
        omega
    show (s &&& (s - 1)) % 2 + pc2 k ((s &&& (s - 1)) / 2) + 1 = s % 2 + pc2 k (s / 2)
    rw [m, d]
    by_cases o : s % 2 = 1
    · rw [show (s - 1) / 2 = s / 2 by omega, Nat.and_self]
      omega
    · rw [show (s - 1) / 2 = s / 2 - 1 by omega]
      have ih := pc2_d k (s / 2) hk (by omega)
      omega
theorem pc2_2 (k n : Nat) : pc2 (k + 2) n = n % 2 + n / 2 % 2 + pc2 k (n / 4) := by
  show n % 2 + (n / 2 % 2 + pc2 k (n / 2 / 2)) = _
  rw [show n / 2 / 2 = n / 4 by omega, Nat.add_assoc]
theorem c4_b (a : Nat) : c4 (a % 4) = a % 2 + a / 2 % 2 := by unfold c4; omega
theorem cn6_p (n : Nat) : cn6 n = pc2 12 n := by
  have a1 : pc2 12 n = n % 2 + n / 2 % 2 + pc2 10 (n / 4) := pc2_2 10 n
  have a2 : pc2 10 (n / 4) = n / 4 % 2 + n / 4 / 2 % 2 + pc2 8 (n / 4 / 4) := pc2_2 8 _
  rw [show n / 4 / 4 = n / 16 by omega] at a2
  have a3 : pc2 8 (n / 16) = n / 16 % 2 + n / 16 / 2 % 2 + pc2 6 (n / 16 / 4) := pc2_2 6 _
  rw [show n / 16 / 4 = n / 64 by omega] at a3
  have a4 : pc2 6 (n / 64) = n / 64 % 2 + n / 64 / 2 % 2 + pc2 4 (n / 64 / 4) := pc2_2 4 _
  rw [show n / 64 / 4 = n / 256 by omega] at a4
  have a5 : pc2 4 (n / 256) = n / 256 % 2 + n / 256 / 2 % 2 + pc2 2 (n / 256 / 4) := pc2_2 2 _
  rw [show n / 256 / 4 = n / 1024 by omega] at a5
  have a6 : pc2 2 (n / 1024) = n / 1024 % 2 + n / 1024 / 2 % 2 + 0 := pc2_2 0 _
  unfold cn6
  rw [c4_b, c4_b, c4_b, c4_b, c4_b, c4_b, a1, a2, a3, a4, a5, a6]
  simp only [Nat.add_assoc, Nat.add_zero]
theorem btl_n : ∀ (k s m : Nat), s ≤ k → s < 4096 → btl k (nI s) (nI m) = nI (m + cn6 s)
  | 0, s, m, h, _ => by
    have e : s = 0 := by omega
    subst e
    show nI m = nI (m + cn6 0)
    rw [show cn6 0 = 0 by decide, Nat.add_zero]
  | k + 1, s, m, h, hs => by
    unfold btl
    by_cases z : s = 0
    · rw [z, if_pos (show nI 0 = (0 : Int32) from rfl), show cn6 0 = 0 by decide, Nat.add_zero]
    · rw [if_neg (show ¬ nI s = (0 : Int32) from fun y => z ((nI_eq (b := 0) (by omega) (by omega)).mp y))]
      have e1 : nI s - 1 = nI (s - 1) := by
        obtain ⟨i, rfl⟩ : ∃ i, s = i + 1 := ⟨s - 1, by omega⟩
        exact nI_pred i
      have e2 : nI s &&& nI (s - 1) = nI (s &&& (s - 1)) := by
        apply Int32.toBitVec_inj.mp
        show BitVec.ofNat 32 s &&& BitVec.ofNat 32 (s - 1) = BitVec.ofNat 32 (s &&& (s - 1))
        rw [BitVec.ofNat_and]
      have l : s &&& (s - 1) ≤ s - 1 := Nat.and_le_right
      have c : cn6 (s &&& (s - 1)) + 1 = cn6 s := by
        rw [cn6_p, cn6_p s]
        exact pc2_d 12 s hs (by omega)
      rw [e1, e2, nI_1, btl_n k (s &&& (s - 1)) (m + 1) (by omega) (by omega), ← c]
      congr 1
      omega
theorem bts_n (n : Nat) (h : n < 4096) : bts (nI n) = nI (cn6 n) := by
  have e : (nI n).toInt = n := nI_toInt (by omega)
  have w := btl_n n n 0 (Nat.le_refl n) h
  rw [Nat.zero_add] at w
  unfold bts
  rw [e, Int.toNat_natCast]
  exact w
theorem c4_le (a : Nat) : c4 (a % 4) ≤ 2 := by unfold c4; omega
theorem cn6_b {n : Nat} (_ : n < 4096) : cn6 n ≤ 12 := Nat.add_le_add (Nat.add_le_add (Nat.add_le_add (Nat.add_le_add (Nat.add_le_add (c4_le n) (c4_le _)) (c4_le _)) (c4_le _)) (c4_le _)) (c4_le _)
end LOO

