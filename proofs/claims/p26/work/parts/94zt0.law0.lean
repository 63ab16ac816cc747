/-! The law's script; the state at first. -/
section LW0
variable {sc : Nat × (Nat → Int32)} {d : Nat} {code : List am_I} {h : am_H} {Q Q1 Q2 : Option Value → am_H → Prop}
theorem Z_ialS {pc len : Nat} {rs : List Nat} {cv : Value} {l : am_L} {st : List Value} {i : Int32} (K : Nat) (ha : am_at code pc = some (pc, .iaload, len, rs, cv)) (e : i = nI K) (hk : K < sc.1) (hn : sc.1 < 2 ^ 31) (k : Zs sc d code (pc + 1, l, .int (sc.2 K) :: st) h Q) : Zs sc d code (pc, l, .int i :: .retAddr 0 :: st) h Q := by
  refine Z_lift (fun _ _ => S_go ha ?_) k
  show am_ial sc pc l (.int i :: .retAddr 0 :: st) h = _
  unfold am_ial
  dsimp only
  have hv := wp_vK e hk hn
  rw [if_pos rfl, wp_cK e hk hn]
  refine if_neg (fun z => ?_)
  rw [← wp_cK e hk hn] at z
  exact z.elim (fun y => by rw [e] at y; exact nI_pos (by omega) y) (fun y => by rw [wp_cK e hk hn] at y; omega)
theorem Ze_ip {P : Prop} [Decidable P] {M : Nat} {as : List Value} (e : Ze sc d M as h (if P then Q1 else Q2)) (hp : P) : Ze sc d M as h Q1 := by rw [if_pos hp] at e; exact e
theorem Ze_in {P : Prop} [Decidable P] {M : Nat} {as : List Value} (e : Ze sc d M as h (if P then Q1 else Q2)) (hp : ¬ P) : Ze sc d M as h Q2 := by rw [if_neg hp] at e; exact e
def D_0 : FD := (0, fun _ => (0, 0, 0, 0), 0)
theorem I0_z {c k : Nat} (h1 : c ≠ 1) (h3 : c ≠ 3) : I_0 c k = 0 := by
  unfold I_0
  rw [if_neg (fun z => h1 z.1), if_neg (fun z => h3 z.1), if_neg (fun z => h3 z.1)]
theorem CI_0 : CI (fun _ => 0) 0 D_0 0 (fun _ _ => 0) I_0 R_1 [] := by
  refine ⟨⟨rfl, Nat.zero_le _, fun k hk => absurd hk (Nat.not_lt_zero k), fun k hk => absurd hk (Nat.not_lt_zero k)⟩, ⟨rfl, Nat.zero_le 6, rfl, fun k hk => absurd hk (Nat.not_lt_zero k)⟩, ⟨rfl, Nat.zero_le 6, fun k hk => absurd hk (Nat.not_lt_zero k)⟩, ⟨fun j _ => ?_, fun j _ => ?_, fun j _ => ?_, fun j _ => ?_⟩, ⟨0, rfl, by omega⟩, ⟨fun k hk => ?_, fun j k hj hk he => ?_⟩, ⟨rfl, rfl⟩, ⟨rfl, rfl, rfl⟩, fun a ha => ?_⟩
  · rw [I0_z (by decide) (by decide)]; decide
  · rw [I0_z (by decide) (by decide)]; decide
  · rw [I0_z (by decide) (by decide)]; decide
  · rw [I0_z (by decide) (by decide)]; decide
  · rcases (show k = 0 ∨ k = 1 ∨ k = 2 ∨ k = 3 ∨ k = 4 ∨ k = 5 ∨ k = 6 ∨ k = 7 by omega) with rfl | rfl | rfl | rfl | rfl | rfl | rfl | rfl
    · exact ⟨39, rfl, by decide⟩
    · exact ⟨42, rfl, by decide⟩
    · exact ⟨45, rfl, by decide⟩
    · exact ⟨48, rfl, by decide⟩
    · exact ⟨51, rfl, by decide⟩
    · exact ⟨54, rfl, by decide⟩
    · exact ⟨57, rfl, by decide⟩
    · exact ⟨60, rfl, by decide⟩
  · have key : ∀ j, j < 8 → R_1 38 j = some (39 + 3 * j) := fun j hj => by
      rcases (show j = 0 ∨ j = 1 ∨ j = 2 ∨ j = 3 ∨ j = 4 ∨ j = 5 ∨ j = 6 ∨ j = 7 by omega) with rfl | rfl | rfl | rfl | rfl | rfl | rfl | rfl <;> rfl
    rw [key j hj, key k hk] at he
    have := Option.some.inj he
    omega
  · have hs := isSB_s ha
    intro i _
    rw [I0_z (by omega) (by omega), I0_z (by omega) (by omega)]
    exact ⟨⟨by decide, by decide⟩, ⟨by decide, by decide⟩⟩
theorem MI_00 : MI (fun _ => 0) 0 D_0 0 (fun _ _ => 0) I_0 := by
  have z : b9 0 := ⟨by decide, by decide⟩
  refine ⟨⟨rfl, Nat.zero_le _, fun k hk => absurd hk (Nat.not_lt_zero k), fun k hk => absurd hk (Nat.not_lt_zero k)⟩, ⟨rfl, Nat.zero_le 6, rfl, fun k hk => absurd hk (Nat.not_lt_zero k)⟩, ⟨rfl, Nat.zero_le 6, fun k hk => absurd hk (Nat.not_lt_zero k)⟩, ⟨0, rfl, by omega⟩, ⟨0, rfl, by omega⟩, fun k _ => ?_, fun k _ _ => ?_, fun k _ _ => ?_⟩
  · rw [I0_z (by decide) (by decide)]; exact z
  · rw [I0_z (by decide) (by decide)]; exact z
  · rw [I0_z (by decide) (by decide)]; exact z
end LW0

