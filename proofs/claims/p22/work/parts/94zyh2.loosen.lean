/-! loosen: both sides answer alike. -/
section LOO
theorem m1_h {t : Nat} (h : t < 2 ^ 31) : ¬ nI t = -1 := fun z => by
  have := (fi_eq _ _).mp z
  rw [nI_toInt h] at this
  have z1 : (-1 : Int32).toInt = -1 := rfl
  omega
/-- which parts of rod i a choice changes though they stick: 1 the low ones, 2 the high ones -/
def dgt (v : StV) (i l h : Nat) : Nat := (if v.2.2 i 0 = true ∧ l ≠ v.1 i then 1 else 0) + (if v.2.2 i 1 = true ∧ h ≠ v.2.1 i then 2 else 0)
def c4 (d : Nat) : Nat := d % 2 + d / 2
def kd4 (i d : Nat) : Nat := 4096 * c4 d + d * 4 ^ i
theorem dgt_m (v : StV) (i l h : Nat) : dgt v i l h < 4 ∧ (dgt v i l h % 2 = 1 ↔ v.2.2 i 0 = true ∧ l ≠ v.1 i) ∧ (dgt v i l h / 2 = 1 ↔ v.2.2 i 1 = true ∧ h ≠ v.2.1 i) := by
  unfold dgt
  by_cases a : v.2.2 i 0 = true ∧ l ≠ v.1 i
  · by_cases b : v.2.2 i 1 = true ∧ h ≠ v.2.1 i
    · rw [if_pos a, if_pos b]
      exact ⟨by decide, ⟨fun _ => a, fun _ => by decide⟩, ⟨fun _ => b, fun _ => by decide⟩⟩
    · rw [if_pos a, if_neg b]
      exact ⟨by decide, ⟨fun _ => a, fun _ => by decide⟩, ⟨fun z => absurd z (by decide), fun z => absurd z b⟩⟩
  · by_cases b : v.2.2 i 1 = true ∧ h ≠ v.2.1 i
    · rw [if_neg a, if_pos b]
      exact ⟨by decide, ⟨fun z => absurd z (by decide), fun z => absurd z a⟩, ⟨fun _ => b, fun _ => by decide⟩⟩
    · rw [if_neg a, if_neg b]
      exact ⟨by decide, ⟨fun z => absurd z (by decide), fun z => absurd z a⟩, ⟨fun z => absurd z (by decide), fun z => absurd z b⟩⟩
theorem dgt_c {D : FD} {v : StV} {i l h : Nat} (hi : i < 6) : cstL D v i l h = kd4 i (dgt v i l h) := by
  have e4 : 2 ^ (2 * (i % 6)) = 4 ^ i := by rw [Nat.mod_eq_of_lt hi, Nat.pow_mul]
  have e5 : 2 ^ (2 * (i % 6) + 1) = 4 ^ i * 2 := by rw [Nat.pow_succ, e4]
  unfold cstL pL0 pL1 kd4 c4 dgt
  rw [e4, e5]
  generalize 4 ^ i = q
  by_cases a : v.2.2 i 0 = true ∧ l ≠ v.1 i
  · by_cases b : v.2.2 i 1 = true ∧ h ≠ v.2.1 i
    · rw [if_pos a, if_pos b, if_pos a, if_pos b]; omega
    · rw [if_pos a, if_neg b, if_pos a, if_neg b]; omega
  · by_cases b : v.2.2 i 1 = true ∧ h ≠ v.2.1 i
    · rw [if_neg a, if_pos b, if_neg a, if_pos b]; omega
    · rw [if_neg a, if_neg b, if_neg a, if_neg b]; omega
/-- ways, told by what they change -/
def WD (D : FD) (v : StV) : Nat → Nat → Nat → (Nat → Nat) → Prop
  | 0, _, x, _ => x = 0
  | k + 1, i, x, d => ∃ l h y, alwL D v i l h ∧ x = vl D i l h + y * bs D i ∧ d i = dgt v i l h ∧ WD D v k (i + 1) y d
def csd (d : Nat → Nat) : Nat → Nat → Nat
  | 0, _ => 0
  | k + 1, i => kd4 i (d i) + csd d k (i + 1)
theorem csd_c {d d' : Nat → Nat} : ∀ k i, (∀ j, i ≤ j → j < i + k → d j = d' j) → csd d k i = csd d' k i
  | 0, i, h => rfl
  | k + 1, i, h => by
    unfold csd
    rw [h i (Nat.le_refl i) (by omega), csd_c k (i + 1) (fun j a b => h j (by omega) (by omega))]
theorem WD_c {D : FD} {v : StV} {d d' : Nat → Nat} : ∀ k i x, (∀ j, i ≤ j → j < i + k → d j = d' j) → WD D v k i x d → WD D v k i x d'
  | 0, i, x, h, w => w
  | k + 1, i, x, h, ⟨l, g, y, a, e, ed, w⟩ => ⟨l, g, y, a, e, by rw [← h i (Nat.le_refl i) (by omega)]; exact ed, WD_c k (i + 1) y (fun j p q => h j (by omega) (by omega)) w⟩
theorem WYL_d {D : FD} {v : StV} : ∀ k i x t, i + k ≤ 6 → (WYL D v k i x t ↔ ∃ d, WD D v k i x d ∧ t = csd d k i)
  | 0, i, x, t, hk => ⟨fun h => ⟨fun _ => 0, h.1, h.2⟩, fun ⟨d, h, e⟩ => ⟨h, e⟩⟩
  | k + 1, i, x, t, hk => by
    have ih := fun y t => WYL_d (D := D) (v := v) k (i + 1) y t (by omega)
    constructor
    · intro ⟨l, h, y, t', ha, e, hw, et⟩
      obtain ⟨d, w, ed⟩ := (ih y t').mp hw
      refine ⟨fun j => if j = i then dgt v i l h else d j, ⟨l, h, y, ha, e, if_pos rfl, WD_c k (i + 1) y (fun j a b => (if_neg (by omega)).symm) w⟩, ?_⟩
      rw [et, ed, dgt_c (by omega)]
      show kd4 i (dgt v i l h) + csd d k (i + 1) = kd4 i (if i = i then dgt v i l h else d i) + csd (fun j => if j = i then dgt v i l h else d j) k (i + 1)
      rw [if_pos rfl]
      congr 1
      exact csd_c k (i + 1) (fun j a b => by
        show d j = if j = i then dgt v i l h else d j
        rw [if_neg (show ¬ j = i by omega)])
    · intro ⟨d, ⟨l, h, y, ha, e, ed, w⟩, et⟩
      refine ⟨l, h, y, csd d k (i + 1), ha, e, (ih y _).mpr ⟨d, w, rfl⟩, ?_⟩
      rw [et, dgt_c (by omega), ← ed]
      rfl
theorem WD_g {D : FD} {v : StV} {d : Nat → Nat} : ∀ k i x, WD D v k i x d → ∀ j, i ≤ j → j < i + k → ∃ l h, d j = dgt v j l h
  | 0, i, x, w, j, a, b => by omega
  | k + 1, i, x, ⟨l, h, y, _, _, ed, w⟩, j, a, b => by
    by_cases e : j = i
    · rw [e]; exact ⟨l, h, ed⟩
    · exact WD_g k (i + 1) y w j (by omega) (by omega)
/-- e is loosened -/
def vm (v : StV) (e : Nat → Nat) : StV := (v.1, v.2.1, fun i p => v.2.2 i p && !(if p = 0 then decide (e i % 2 = 1) else decide (e i / 2 = 1)))
def sub4 (d e : Nat) : Prop := d % 2 ≤ e % 2 ∧ d / 2 ≤ e / 2
theorem vm_0 {v : StV} {e : Nat → Nat} {i : Nat} : ((vm v e).2.2 i 0 = true ↔ v.2.2 i 0 = true ∧ ¬ e i % 2 = 1) ∧ ((vm v e).2.2 i 1 = true ↔ v.2.2 i 1 = true ∧ ¬ e i / 2 = 1) := by
  unfold vm
  dsimp only
  rw [if_pos rfl, if_neg (by decide)]
  refine ⟨?_, ?_⟩
  · by_cases z : e i % 2 = 1
    · rw [decide_eq_true z]; simp [z]
    · rw [decide_eq_false z]; simp [z]
  · by_cases z : e i / 2 = 1
    · rw [decide_eq_true z]; simp [z]
    · rw [decide_eq_false z]; simp [z]
theorem alw_e {D : FD} {v : StV} {e : Nat → Nat} {i l h : Nat} (he : e i < 4) : alw D (vm v e) i l h ↔ alwL D v i l h ∧ sub4 (dgt v i l h) (e i) := by
  obtain ⟨g1, g2, g3⟩ := dgt_m v i l h
  obtain ⟨m0, m1⟩ := vm_0 (v := v) (e := e) (i := i)
  constructor
  · intro ⟨a1, a2, a3, a4⟩
    refine ⟨⟨a1, a2⟩, ?_, ?_⟩
    · by_cases z : dgt v i l h % 2 = 1
      · have w := g2.mp z
        have : e i % 2 = 1 := Classical.not_not.mp (fun y => w.2 (a3 (m0.mpr ⟨w.1, y⟩)))
        omega
      · omega
    · by_cases z : dgt v i l h / 2 = 1
      · have w := g3.mp z
        have : e i / 2 = 1 := Classical.not_not.mp (fun y => w.2 (a4 (m1.mpr ⟨w.1, y⟩)))
        omega
      · omega
  · intro ⟨⟨a1, a2⟩, s1, s2⟩
    refine ⟨a1, a2, fun z => ?_, fun z => ?_⟩
    · have w := m0.mp z
      exact Classical.not_not.mp (fun y => by have := g2.mpr ⟨w.1, y⟩; omega)
    · have w := m1.mp z
      exact Classical.not_not.mp (fun y => by have := g3.mpr ⟨w.1, y⟩; omega)
theorem WY_e {D : FD} {v : StV} {e : Nat → Nat} : ∀ k i x, (∀ j, i ≤ j → j < i + k → e j < 4) → ((∃ t, WY D (vm v e) k i x t) ↔ ∃ d, WD D v k i x d ∧ ∀ j, i ≤ j → j < i + k → sub4 (d j) (e j))
  | 0, i, x, h => ⟨fun ⟨t, w⟩ => ⟨fun _ => 0, w.1, fun j a b => by omega⟩, fun ⟨d, w, _⟩ => ⟨0, w, rfl⟩⟩
  | k + 1, i, x, h => by
    have ih := fun y => WY_e (D := D) (v := v) k (i + 1) y (fun j a b => h j (by omega) (by omega))
    have ae := fun l g => alw_e (D := D) (v := v) (l := l) (h := g) (h i (Nat.le_refl i) (by omega))
    constructor
    · intro ⟨t, l, g, y, t', ha, ex, hw, _⟩
      obtain ⟨d, w, s⟩ := (ih y).mp ⟨t', hw⟩
      have a := (ae l g).mp ha
      refine ⟨fun j => if j = i then dgt v i l g else d j, ⟨l, g, y, a.1, ex, if_pos rfl, WD_c k (i + 1) y (fun j a b => (if_neg (by omega)).symm) w⟩, fun j p q => ?_⟩
      dsimp only
      by_cases z : j = i
      · rw [if_pos z, z]; exact a.2
      · rw [if_neg z]; exact s j (by omega) (by omega)
    · intro ⟨d, ⟨l, g, y, ha, ex, ed, w⟩, s⟩
      obtain ⟨t, ht⟩ := (ih y).mpr ⟨d, w, fun j a b => s j (by omega) (by omega)⟩
      refine ⟨_, l, g, y, t, (ae l g).mpr ⟨ha, ?_⟩, ex, ht, rfl⟩
      rw [← ed]
      exact s i (Nat.le_refl i) (by omega)
theorem csd_m {d e : Nat → Nat} : ∀ k i, (∀ j, i ≤ j → j < i + k → sub4 (d j) (e j)) → csd d k i ≤ csd e k i
  | 0, i, h => Nat.le_refl _
  | k + 1, i, h => by
    have ih := csd_m (d := d) (e := e) k (i + 1) (fun j a b => h j (by omega) (by omega))
    have s := h i (Nat.le_refl i) (by omega)
    have le : d i ≤ e i := by have := s.1; have := s.2; omega
    have ml := Nat.mul_le_mul_right (4 ^ i) le
    unfold csd kd4 c4
    have := s.1
    have := s.2
    omega
theorem csd_z {d : Nat → Nat} : ∀ k i, (∀ j, i ≤ j → d j = 0) → csd d k i = 0
  | 0, i, h => rfl
  | k + 1, i, h => by
    unfold csd kd4 c4
    rw [h i (Nat.le_refl i), csd_z k (i + 1) (fun j a => h j (by omega)), Nat.zero_mul]
theorem csd_a {d : Nat → Nat} : ∀ k k' i, csd d (k + k') i = csd d k i + csd d k' (i + k)
  | 0, k', i => by rw [Nat.zero_add]; show _ = 0 + csd d k' (i + 0); rw [Nat.zero_add, Nat.add_zero]
  | k + 1, k', i => by
    rw [show k + 1 + k' = (k + k') + 1 by omega]
    show kd4 i (d i) + csd d (k + k') (i + 1) = kd4 i (d i) + csd d k (i + 1) + csd d k' (i + (k + 1))
    rw [csd_a k k' (i + 1), show i + 1 + k = i + (k + 1) by omega, Nat.add_assoc]
end LOO

