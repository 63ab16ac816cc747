section LOO
/-- sets as numbers -/
def dgn (n j : Nat) : Nat := n / 4 ^ j % 4
def num6 (d : Nat → Nat) : Nat := d 0 + 4 * d 1 + 16 * d 2 + 64 * d 3 + 256 * d 4 + 1024 * d 5
def cn6 (n : Nat) : Nat := c4 (n % 4) + c4 (n / 4 % 4) + c4 (n / 16 % 4) + c4 (n / 64 % 4) + c4 (n / 256 % 4) + c4 (n / 1024 % 4)
def Kn (n : Nat) : Nat := csd (dgn n) 6 0
theorem dg6 {n : Nat} (h : n < 4096) : n = n % 4 + 4 * (n / 4 % 4) + 16 * (n / 16 % 4) + 64 * (n / 64 % 4) + 256 * (n / 256 % 4) + 1024 * (n / 1024 % 4) := by
  have d0 := Nat.div_add_mod n 4
  have d1 := Nat.div_add_mod (n / 4) 4
  have d2 := Nat.div_add_mod (n / 16) 4
  have d3 := Nat.div_add_mod (n / 64) 4
  have d4 := Nat.div_add_mod (n / 256) 4
  have e1 : n / 4 / 4 = n / 16 := Nat.div_div_eq_div_mul n 4 4
  have e2 : n / 16 / 4 = n / 64 := Nat.div_div_eq_div_mul n 16 4
  have e3 : n / 64 / 4 = n / 256 := Nat.div_div_eq_div_mul n 64 4
  have e4 : n / 256 / 4 = n / 1024 := Nat.div_div_eq_div_mul n 256 4
  have e5 : n / 1024 % 4 = n / 1024 := Nat.mod_eq_of_lt (by omega)
  rw [e1] at d1
  rw [e2] at d2
  rw [e3] at d3
  rw [e4] at d4
  rw [e5]
  clear e1 e2 e3 e4 e5 h
  generalize n % 4 = a0 at *
  generalize n / 4 % 4 = a1 at *
  generalize n / 16 % 4 = a2 at *
  generalize n / 64 % 4 = a3 at *
  generalize n / 256 % 4 = a4 at *
  generalize n / 4 = q1 at *
  generalize n / 16 = q2 at *
  generalize n / 64 = q3 at *
  generalize n / 256 = q4 at *
  generalize n / 1024 = q5 at *
  omega
theorem Kn_e {n : Nat} (h : n < 4096) : Kn n = 4096 * cn6 n + n := by
  have e := dg6 h
  have k : Kn n = 4096 * c4 (n % 4) + n % 4 * 1 + (4096 * c4 (n / 4 % 4) + n / 4 % 4 * 4 + (4096 * c4 (n / 16 % 4) + n / 16 % 4 * 16 + (4096 * c4 (n / 64 % 4) + n / 64 % 4 * 64 + (4096 * c4 (n / 256 % 4) + n / 256 % 4 * 256 + (4096 * c4 (n / 1024 % 4) + n / 1024 % 4 * 1024 + 0))))) := by
    have z : dgn n 0 = n % 4 := by unfold dgn; rw [Nat.pow_zero, Nat.div_one]
    unfold Kn csd csd csd csd csd csd csd kd4
    rw [z]
    rfl
  rw [k]
  unfold cn6
  clear k h
  generalize c4 (n % 4) = x0
  generalize c4 (n / 4 % 4) = x1
  generalize c4 (n / 16 % 4) = x2
  generalize c4 (n / 64 % 4) = x3
  generalize c4 (n / 256 % 4) = x4
  generalize c4 (n / 1024 % 4) = x5
  generalize n % 4 = a0 at *
  generalize n / 4 % 4 = a1 at *
  generalize n / 16 % 4 = a2 at *
  generalize n / 64 % 4 = a3 at *
  generalize n / 256 % 4 = a4 at *
  generalize n / 1024 % 4 = a5 at *
  omega
theorem Kn_u {n m : Nat} (hn : n < 4096) (hm : m < 4096) (h : Kn n = Kn m) : n = m := by
  rw [Kn_e hn, Kn_e hm] at h
  omega
theorem dgn_n {d : Nat → Nat} (h : ∀ j, j < 6 → d j < 4) : num6 d < 4096 ∧ ∀ j, j < 6 → dgn (num6 d) j = d j := by
  have h0 := h 0 (by decide)
  have h1 := h 1 (by decide)
  have h2 := h 2 (by decide)
  have h3 := h 3 (by decide)
  have h4 := h 4 (by decide)
  have h5 := h 5 (by decide)
  refine ⟨by unfold num6; omega, fun j hj => ?_⟩
  rcases (show j = 0 ∨ j = 1 ∨ j = 2 ∨ j = 3 ∨ j = 4 ∨ j = 5 by omega) with rfl | rfl | rfl | rfl | rfl | rfl
  · show num6 d / 1 % 4 = d 0
    unfold num6; omega
  · show num6 d / 4 % 4 = d 1
    unfold num6; omega
  · show num6 d / 16 % 4 = d 2
    unfold num6; omega
  · show num6 d / 64 % 4 = d 3
    unfold num6; omega
  · show num6 d / 256 % 4 = d 4
    unfold num6; omega
  · show num6 d / 1024 % 4 = d 5
    unfold num6; omega
theorem dgn_4 (n j : Nat) : dgn n j < 4 := Nat.mod_lt _ (by decide)
theorem sub4_le {d e : Nat} (h : sub4 d e) : d ≤ e := by
  have h1 := h.1
  have h2 := h.2
  omega
theorem sub_le {n m : Nat} (hn : n < 4096) (hm : m < 4096) (h : ∀ j, j < 6 → sub4 (dgn n j) (dgn m j)) : n ≤ m := by
  have z : ∀ n, dgn n 0 = n % 4 := fun n => by unfold dgn; rw [Nat.pow_zero, Nat.div_one]
  have a0 : n % 4 ≤ m % 4 := by
    have w := sub4_le (h 0 (by decide))
    rw [z, z] at w
    exact w
  have a1 : n / 4 % 4 ≤ m / 4 % 4 := sub4_le (h 1 (by decide))
  have a2 : n / 16 % 4 ≤ m / 16 % 4 := sub4_le (h 2 (by decide))
  have a3 : n / 64 % 4 ≤ m / 64 % 4 := sub4_le (h 3 (by decide))
  have a4 : n / 256 % 4 ≤ m / 256 % 4 := sub4_le (h 4 (by decide))
  have a5 : n / 1024 % 4 ≤ m / 1024 % 4 := sub4_le (h 5 (by decide))
  rw [dg6 hn, dg6 hm]
  exact Nat.add_le_add (Nat.add_le_add (Nat.add_le_add (Nat.add_le_add (Nat.add_le_add a0 (Nat.mul_le_mul_left 4 a1)) (Nat.mul_le_mul_left 16 a2)) (Nat.mul_le_mul_left 64 a3)) (Nat.mul_le_mul_left 256 a4)) (Nat.mul_le_mul_left 1024 a5)
/-- a set that may be loosened so that x can be shown -/
def Vd (D : FD) (v : StV) (x S n : Nat) : Prop := n < 4096 ∧ (∀ j, j < 6 → sub4 (dgn n j) (dgn S j)) ∧ ∃ t, WY D (vm v (dgn n)) D.1 0 x t
theorem lo_min {D : FD} {v : StV} {x S m : Nat} (h6 : D.1 ≤ 6) (hS : S < 4096) (hst : ∀ i, i < D.1 → (v.2.2 i 0 = true → dgn S i % 2 = 1) ∧ (v.2.2 i 1 = true → dgn S i / 2 = 1)) (h : isMin 1048576 (fun t => WYL D v D.1 0 x t) m) : (m = 1048576 ∧ ∀ n, ¬ Vd D v x S n) ∨ ∃ n, Vd D v x S n ∧ m = Kn n ∧ ∀ n', Vd D v x S n' → Kn n ≤ Kn n' := by
  have up : ∀ n', Vd D v x S n' → ∃ t, WYL D v D.1 0 x t ∧ t ≤ Kn n' := fun n' ⟨a, b, c⟩ => by
    obtain ⟨d, w, s⟩ := (WY_e D.1 0 x (fun j _ _ => dgn_4 n' j)).mp c
    refine ⟨csd d D.1 0, (WYL_d D.1 0 x _ (by omega)).mpr ⟨d, w, rfl⟩, ?_⟩
    have l := csd_m D.1 0 s
    have e : Kn n' = csd (dgn n') D.1 0 + csd (dgn n') (6 - D.1) (0 + D.1) := by
      unfold Kn
      rw [← csd_a, show D.1 + (6 - D.1) = 6 by omega]
    omega
  rcases h.2 with w | ⟨e, n⟩
  · obtain ⟨d, wd, et⟩ := (WYL_d D.1 0 x m (by omega)).mp w
    have g := WD_g D.1 0 x wd
    have d4 : ∀ j, j < 6 → (fun j => if j < D.1 then d j else 0) j < 4 := fun j hj => by
      dsimp only
      by_cases z : j < D.1
      · rw [if_pos z]
        obtain ⟨l, g', e⟩ := g j (Nat.zero_le j) (by omega)
        rw [e]
        exact (dgt_m v j l g').1
      · rw [if_neg z]; decide
    obtain ⟨q1, q2⟩ := dgn_n d4
    have ed : ∀ j, 0 ≤ j → j < 0 + D.1 → d j = dgn (num6 (fun j => if j < D.1 then d j else 0)) j := fun j _ hj => by
      rw [q2 j (by omega), if_pos (by omega)]
    have eK : Kn (num6 (fun j => if j < D.1 then d j else 0)) = m := by
      rw [et]
      unfold Kn
      rw [csd_c 6 0 (fun j _ hj => q2 j (by omega)), show 6 = D.1 + (6 - D.1) by omega, csd_a, csd_z (6 - D.1) (0 + D.1) (fun j hj => if_neg (by omega)), Nat.add_zero]
      exact csd_c D.1 0 (fun j _ hj => if_pos (by omega))
    refine Or.inr ⟨_, ⟨q1, fun j hj => ?_, ?_⟩, eK.symm, fun n' hv => ?_⟩
    · rw [q2 j hj]
      by_cases z : j < D.1
      · rw [if_pos z]
        obtain ⟨l, g', e⟩ := g j (Nat.zero_le j) (by omega)
        obtain ⟨c1, c2, c3⟩ := dgt_m v j l g'
        have st := hst j z
        rw [e]
        refine ⟨?_, ?_⟩
        · by_cases y : dgt v j l g' % 2 = 1
          · have := st.1 (c2.mp y).1; omega
          · omega
        · by_cases y : dgt v j l g' / 2 = 1
          · have := st.2 (c3.mp y).1; omega
          · omega
      · rw [if_neg z]
        exact ⟨Nat.zero_le _, Nat.zero_le _⟩
    · refine (WY_e D.1 0 x (fun j _ _ => dgn_4 _ j)).mpr ⟨d, wd, fun j a b => ?_⟩
      rw [ed j a b]
      exact ⟨Nat.le_refl _, Nat.le_refl _⟩
    · obtain ⟨t, ht, l⟩ := up n' hv
      have := h.1 t ht
      omega
  · refine Or.inl ⟨e, fun n' hv => ?_⟩
    obtain ⟨t, ht, _⟩ := up n' hv
    exact n t ht
end LOO

