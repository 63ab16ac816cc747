/-! The mathematics: ways of showing a number, their cost and their number. -/
section MTH
/-- low beads, high beads, which parts stick -/
abbrev StV : Type := (Nat → Nat) × (Nat → Nat) × (Nat → Nat → Bool)
abbrev alw (D : FD) (v : StV) (i l h : Nat) : Prop := l ≤ (D.2.1 i).2.2.1 ∧ h ≤ (D.2.1 i).2.2.2 ∧ (v.2.2 i 0 = true → l = v.1 i) ∧ (v.2.2 i 1 = true → h = v.2.1 i)
def ad (a b : Nat) : Nat := if a < b then b - a else a - b
def cst (D : FD) (v : StV) (i l h : Nat) : Nat := ad l (v.1 i) * ltv (D.2.1 i) + ad h (v.2.1 i) * htv (D.2.1 i)
def vl (D : FD) (i l h : Nat) : Nat := l + h * hwv (D.2.1 i)
abbrev bs (D : FD) (i : Nat) : Nat := (D.2.1 i).2.1
/-- t is what a way costs to show x by k rods from i on -/
def WY (D : FD) (v : StV) : Nat → Nat → Nat → Nat → Prop
  | 0, _, x, t => x = 0 ∧ t = 0
  | k + 1, i, x, t => ∃ l h y t', alw D v i l h ∧ x = vl D i l h + y * bs D i ∧ WY D v k (i + 1) y t' ∧ t = cst D v i l h + t'
/-- the least, F if there is none -/
def isL (F : Nat) (D : FD) (v : StV) (k i x m : Nat) : Prop := (∀ t, WY D v k i x t → m ≤ t) ∧ (WY D v k i x m ∨ (m = F ∧ ∀ t, ¬ WY D v k i x t))
theorem isL_u {F D v k i x m m'} (h : isL F D v k i x m) (h' : isL F D v k i x m') : m = m' := by
  rcases h.2 with a | ⟨a, b⟩
  · rcases h'.2 with a' | ⟨a', b'⟩
    · exact Nat.le_antisymm (h.1 _ a') (h'.1 _ a)
    · exact absurd a (b' m)
  · rcases h'.2 with a' | ⟨a', b'⟩
    · exact absurd a' (b m')
    · rw [a, a']
def smn (f : Nat → Nat) : Nat → Nat
  | 0 => 0
  | n + 1 => smn f n + f n
theorem smn_pos {f : Nat → Nat} : ∀ n, 0 < smn f n ↔ ∃ j, j < n ∧ 0 < f j
  | 0 => ⟨fun h => absurd h (Nat.lt_irrefl 0), fun ⟨j, h, _⟩ => absurd h (Nat.not_lt_zero j)⟩
  | n + 1 => by
    unfold smn
    constructor
    · intro h
      by_cases z : 0 < f n
      · exact ⟨n, Nat.lt_succ_self n, z⟩
      · obtain ⟨j, h1, h2⟩ := (smn_pos (f := f) n).mp (by omega)
        exact ⟨j, by omega, h2⟩
    · intro ⟨j, h1, h2⟩
      by_cases e : j = n
      · subst e; omega
      · have := (smn_pos n).mpr ⟨j, by omega, h2⟩
        omega
theorem smn_le {f : Nat → Nat} {B : Nat} : ∀ n, (∀ j, j < n → f j ≤ B) → smn f n ≤ n * B
  | 0, h => by unfold smn; omega
  | n + 1, h => by
    unfold smn
    have h1 := smn_le n (fun j hj => h j (by omega))
    have h2 := h n (by omega)
    rw [Nat.succ_mul]
    omega
abbrev fit (D : FD) (v : StV) (i x l h : Nat) : Prop := alw D v i l h ∧ vl D i l h ≤ x ∧ (x - vl D i l h) % bs D i = 0
def cn (D : FD) (v : StV) : Nat → Nat → Nat → Nat
  | 0, _, x => if x = 0 then 1 else 0
  | k + 1, i, x => smn (fun h => smn (fun l => if fit D v i x l h then cn D v k (i + 1) ((x - vl D i l h) / bs D i) else 0) ((D.2.1 i).2.2.1 + 1)) ((D.2.1 i).2.2.2 + 1)
theorem fit_y {D : FD} {v : StV} {i x l h : Nat} (hb : 0 < bs D i) (hf : fit D v i x l h) : x = vl D i l h + (x - vl D i l h) / bs D i * bs D i := by
  have h1 := Nat.div_add_mod (x - vl D i l h) (bs D i)
  rw [hf.2.2, Nat.mul_comm] at h1
  have := hf.2.1
  omega
theorem fit_of {D : FD} {v : StV} {i x l h y : Nat} (hb : 0 < bs D i) (ha : alw D v i l h) (e : x = vl D i l h + y * bs D i) : fit D v i x l h ∧ (x - vl D i l h) / bs D i = y := by
  have e2 : x - vl D i l h = y * bs D i := by omega
  exact ⟨⟨ha, by omega, by rw [e2]; exact Nat.mul_mod_left _ _⟩, by rw [e2]; exact Nat.mul_div_cancel _ hb⟩
theorem cn_pos {D : FD} {v : StV} (hb : ∀ i, i < D.1 → 0 < bs D i) : ∀ (k i x : Nat), i + k ≤ D.1 → (0 < cn D v k i x ↔ ∃ t, WY D v k i x t)
  | 0, i, x, hi => by
    unfold cn
    constructor
    · intro h
      by_cases e : x = 0
      · exact ⟨0, e, rfl⟩
      · rw [if_neg e] at h; omega
    · intro ⟨t, h, _⟩
      rw [if_pos h]; omega
  | k + 1, i, x, hi => by
    have hbi := hb i (by omega)
    unfold cn
    rw [smn_pos]
    constructor
    · intro ⟨h, hh, hs⟩
      obtain ⟨l, hl, hf⟩ := (smn_pos _).mp hs
      by_cases hc : fit D v i x l h
      · rw [if_pos hc] at hf
        obtain ⟨t, ht⟩ := (cn_pos hb k (i + 1) _ (by omega)).mp hf
        exact ⟨cst D v i l h + t, l, h, _, t, hc.1, fit_y hbi hc, ht, rfl⟩
      · rw [if_neg hc] at hf; omega
    · intro ⟨t, l, h, y, t', ha, e, hw, _⟩
      obtain ⟨hf, ey⟩ := fit_of hbi ha e
      refine ⟨h, by have := ha.2.1; omega, (smn_pos _).mpr ⟨l, by have := ha.1; omega, ?_⟩⟩
      rw [if_pos hf, ey]
      exact (cn_pos hb k (i + 1) y (by omega)).mpr ⟨t', hw⟩
theorem cn_le {D : FD} {v : StV} (ho : ∀ i, i < D.1 → okR (D.2.1 i)) : ∀ (k i x : Nat), i + k ≤ D.1 → cn D v k i x ≤ 40 ^ k
  | 0, i, x, hi => by
    unfold cn
    split <;> simp
  | k + 1, i, x, hi => by
    have hq := ho i (by omega)
    have h9 := hq.2.2.1.2
    have h3 := hq.2.2.2.1
    unfold cn
    have h1 : ∀ h, smn (fun l => if fit D v i x l h then cn D v k (i + 1) ((x - vl D i l h) / bs D i) else 0) ((D.2.1 i).2.2.1 + 1) ≤ 10 * 40 ^ k := fun h => by
      refine Nat.le_trans (smn_le (B := 40 ^ k) _ (fun l _ => ?_)) (Nat.mul_le_mul_right _ (by omega))
      split
      · exact cn_le ho k (i + 1) _ (by omega)
      · exact Nat.zero_le _
    refine Nat.le_trans (smn_le (B := 10 * 40 ^ k) _ (fun h _ => h1 h)) ?_
    rw [Nat.pow_succ]
    have := Nat.mul_le_mul_right (10 * 40 ^ k) (show (D.2.1 i).2.2.2 + 1 ≤ 4 by omega)
    omega
theorem ad_le {a b : Nat} (h1 : a ≤ 9) (h2 : b ≤ 9) : ad a b ≤ 9 := by unfold ad; split <;> omega
theorem cst_le {D : FD} {v : StV} {i l h : Nat} (ho : okR (D.2.1 i)) (hv : v.1 i ≤ 9 ∧ v.2.1 i ≤ 9) (ha : alw D v i l h) : cst D v i l h ≤ 45 := by
  have a1 := ad_le (a := l) (b := v.1 i) (by have := ha.1; have := ho.2.2.1.2; omega) hv.1
  have a2 := ad_le (a := h) (b := v.2.1 i) (by have := ha.2.1; have := ho.2.2.2.1; omega) hv.2
  have b1 := (ltv_b (D.2.1 i)).2
  have b2 := (htv_b (D.2.1 i)).2
  unfold cst
  have m1 := Nat.mul_le_mul a1 b1
  have m2 := Nat.mul_le_mul a2 b2
  omega
theorem WY_le {D : FD} {v : StV} (ho : ∀ i, i < D.1 → okR (D.2.1 i)) (hv : ∀ i, i < D.1 → v.1 i ≤ 9 ∧ v.2.1 i ≤ 9) : ∀ (k i x t : Nat), i + k ≤ D.1 → WY D v k i x t → t ≤ 45 * k
  | 0, i, x, t, hi, h => by rw [h.2]; omega
  | k + 1, i, x, t, hi, h => by
    obtain ⟨l, hh, y, t', ha, _, hw, e⟩ := h
    have h1 := cst_le (ho i (by omega)) (hv i (by omega)) ha
    have h2 := WY_le ho hv k (i + 1) y t' (by omega) hw
    omega
end MTH

