/-! The class's tables (3): bounds, all rods. -/
section CL3
theorem cost_n {I : hI} {i s : Nat} (hi : i < 6) (hs : s < 40) : costF I (nI i) (nI s) = I 5 (40 * i + s) := by
  unfold costF
  rw [sl_n hi hs, if_neg, am_rdK rfl (by omega) (by decide)]
  intro z
  have h := congrArg Int32.toInt z
  rw [nI_toInt (by omega), show (-1 : Int32).toInt = -1 from rfl] at h
  omega
theorem lbl_v {I : hI} {i : Int32} : ∀ (k s a b : Nat), s + k = 40 → a ≤ 40 → b ≤ 39 → (∀ j, j < s → ¬ 1048576 ≤ costF I i (nI j) → a ≤ j ∧ j ≤ b) → ∃ a' b', lbl I i k s (nI a) (nI b) = (nI a', nI b') ∧ a' ≤ 40 ∧ b' ≤ 39 ∧ ∀ j, j < 40 → ¬ 1048576 ≤ costF I i (nI j) → a' ≤ j ∧ j ≤ b'
  | 0, s, a, b, hs, ha, hb, h => ⟨a, b, rfl, ha, hb, fun j hj => h j (by omega)⟩
  | k + 1, s, a, b, hs, ha, hb, h => by
    unfold lbl
    by_cases c : 1048576 ≤ costF I i (nI s)
    · rw [if_pos c]
      refine lbl_v k (s + 1) a b (by omega) ha hb (fun j hj hp => ?_)
      by_cases e : j = s
      · rw [e] at hp; exact absurd c hp
      · exact h j (by omega) hp
    · rw [if_neg c]
      by_cases c2 : s < a
      · rw [if_pos ((nI_ltI (by omega) (by omega)).mpr c2)]
        refine lbl_v k (s + 1) s s (by omega) (by omega) (by omega) (fun j hj hp => ?_)
        by_cases e : j = s
        · omega
        · have := h j (by omega) hp; omega
      · rw [if_neg (fun z => c2 ((nI_ltI (by omega) (by omega)).mp z))]
        refine lbl_v k (s + 1) a s (by omega) ha (by omega) (fun j hj hp => ?_)
        by_cases e : j = s
        · omega
        · have := h j (by omega) hp; omega
def BD (D : FD) (v : StV) (i : Nat) (I : hI) : Prop := ∃ f M, I 11 i = nI f ∧ I 10 i = nI M ∧ f + 3 ≤ 3 * 16 ^ (D.1 - i) ∧ M + 3 ≤ 3 * 16 ^ (D.1 - i) ∧ ∀ x t, WY D v (D.1 - i) i x t → f ≤ x ∧ x ≤ M
/-- how many choices show s by rod i -/
def Nw (D : FD) (v : StV) (i s : Nat) : Nat := smn (C1 D v i s) ((D.2.1 i).2.2.2 + 1)
def FTr (D : FD) (v : StV) (i : Nat) (I : hI) : Prop := CRw D v i (fun _ _ => True) (Nw D v i) I ∧ I 8 i = nI (D.2.1 i).2.1 ∧ I 9 i = nI (hwv (D.2.1 i))
theorem p16 {k : Nat} (h : k ≤ 6) : (16 : Nat) ^ k ≤ 16777216 := Nat.le_trans (Nat.pow_le_pow_right (by omega) h) (by decide)
theorem lbF_v {D : FD} {v : StV} {i : Nat} {I : hI} (hi : i < D.1) (h6 : D.1 ≤ 6) (ho : ∀ i, i < D.1 → okR (D.2.1 i)) (hv : ∀ i, i < D.1 → v.1 i ≤ 9 ∧ v.2.1 i ≤ 9) (h : FTr D v i I) (hb : BD D v (i + 1) I) : BD D v i (lbF I i (nI (D.2.1 i).2.1)) := by
  obtain ⟨f, M, e1, e2, b1, b2, hw⟩ := hb
  obtain ⟨le, gr, el, l1, l2, l3⟩ := lbl_v (I := I) (i := nI i) 40 0 40 0 (by omega) (by omega) (by omega) (fun j hj => absurd hj (Nat.not_lt_zero j))
  have el' : lbl I (nI i) 40 0 40 0 = (nI le, nI gr) := el
  have hq := ho i hi
  have hb16 := hq.2.1.2
  have hp := p16 (k := D.1 - (i + 1)) (by omega)
  have ep : 16 ^ (D.1 - i) = 16 ^ (D.1 - (i + 1)) * 16 := by rw [← Nat.pow_succ]; congr 1; omega
  have m1 : (D.2.1 i).2.1 * f ≤ 16 * f := Nat.mul_le_mul_right _ hb16
  have m2 : (D.2.1 i).2.1 * M ≤ 16 * M := Nat.mul_le_mul_right _ hb16
  refine ⟨le + (D.2.1 i).2.1 * f, gr + (D.2.1 i).2.1 * M, ?_, ?_, by omega, by omega, fun x t hx => ?_⟩
  · unfold lbF
    rw [el', sf_s, nI_1, am_rdK rfl (by omega) (by decide), e1, show nI (D.2.1 i).2.1 * nI f = nI ((D.2.1 i).2.1 * f) from (Int32.ofNat_mul _ _).symm, nI_add]
  · unfold lbF
    rw [el', sf_c (by decide), sf_s, nI_1, am_rdK rfl (by omega) (by decide), e2, show nI (D.2.1 i).2.1 * nI M = nI ((D.2.1 i).2.1 * M) from (Int32.ofNat_mul _ _).symm, nI_add]
  · rw [show D.1 - i = D.1 - (i + 1) + 1 by omega] at hx
    obtain ⟨l, g, y, t', ha, e, hy, _⟩ := hx
    have h40 : vl D i l g < 40 := (slv (by omega) hq ha.1 ha.2.1).2
    obtain ⟨_, m, c5, _, cm, _⟩ := h.1 _ h40
    have hc := cst_le hq (hv i hi) ha
    have hm := cm.1 _ ⟨l, g, trivial, ha, rfl, rfl⟩
    have h3 := l3 _ h40 (by rw [cost_n (by omega) h40, c5]; exact nI_ge (b := 1048576) (by omega) (by omega))
    have hy2 := hw y t' hy
    have p1 := Nat.mul_le_mul_left (D.2.1 i).2.1 hy2.1
    have p2 := Nat.mul_le_mul_left (D.2.1 i).2.1 hy2.2
    have p3 : y * bs D i = (D.2.1 i).2.1 * y := Nat.mul_comm _ _
    omega
abbrev iniR (i : Nat) (I : hI) : Prop := ∀ s, s < 40 → I 5 (40 * i + s) = nI 1048576 ∧ I 7 (40 * i + s) = nI 0
theorem ini_CR {D : FD} {v : StV} {i : Nat} {I : hI} (h : iniR i I) : CRw D v i (PrL 0 0) (NL D v i 0 0) I := fun s hs => ⟨(h s hs).2, 1048576, (h s hs).1, Nat.le_refl _, min_0 _ (fun t ⟨l, g, x, _⟩ => by rcases x with x | ⟨_, x⟩ <;> omega), fun z => by omega⟩
theorem lrF_v {D : FD} {v : StV} {a i : Nat} {I : hI} (ha : 12 ≤ a) (hi : i < D.1) (h6 : D.1 ≤ 6) (hq : okR (D.2.1 i)) (hV : CV D v a I) (h : iniR i I) : FTr D v i (lrF I a (D.2.1 i) i 0) := by
  unfold lrF
  refine ⟨?_, ?_, ?_⟩
  · refine CRw_c (lrh_v (v := v) (by omega) hi h6 hq _ 0 _ (by omega) (CV_of hV ?_ ?_ ?_) (ini_CR (fun s hs => ?_))) (fun l g al => ⟨fun _ => Or.inl ?_, fun _ => trivial⟩) (fun s _ => rfl) (fun _ _ => rfl) (fun _ _ => rfl) (fun _ _ => rfl)
    · rw [sf_c (by omega), sf_c (by omega)]
    · rw [sf_c (by omega), sf_c (by omega)]
    · rw [sf_c (by omega), sf_c (by omega)]
    · rw [sf_c (by decide), sf_c (by decide), sf_c (by decide), sf_c (by decide)]
      exact h s hs
    · have := al.2.1; omega
  · rw [lrh_c (by decide) (by decide) (by decide), sf_c (by decide), sf_s]
  · rw [lrh_c (by decide) (by decide) (by decide), sf_s]
theorem lrF_o {D : FD} {a i q : Nat} {I : hI} {lo : Int32} (hi : i < 6) (hq : okR (D.2.1 i)) (hK : q ≠ i) : (∀ s, s < 40 → ∀ c, c = 5 ∨ c = 6 ∨ c = 7 → lrF I a (D.2.1 i) i lo c (40 * q + s) = I c (40 * q + s)) ∧ lrF I a (D.2.1 i) i lo 8 q = I 8 q ∧ lrF I a (D.2.1 i) i lo 9 q = I 9 q := by
  unfold lrF
  refine ⟨fun s hs c hc => ?_, ?_, ?_⟩
  · rw [lrh_k hi hq (by omega) _ 0 _ (by omega), sf_c (by omega), sf_c (by omega)]
  · rw [lrh_c (by decide) (by decide) (by decide), sf_c (by decide), sf_k hK]
  · rw [lrh_c (by decide) (by decide) (by decide), sf_k hK, sf_c (by decide)]
theorem FTr_of {D : FD} {v : StV} {i : Nat} {I I' : hI} (h : FTr D v i I) (e : ∀ s, s < 40 → ∀ c, c = 5 ∨ c = 6 ∨ c = 7 → I' c (40 * i + s) = I c (40 * i + s)) (e8 : I' 8 i = I 8 i) (e9 : I' 9 i = I 9 i) : FTr D v i I' :=
  ⟨CRw_c h.1 (fun _ _ _ => Iff.rfl) (fun _ _ => rfl) (fun s hs => e s hs 5 (by decide)) (fun s hs => e s hs 6 (by decide)) (fun s hs => e s hs 7 (by decide)), e8.trans h.2.1, e9.trans h.2.2⟩
theorem BD_of {D : FD} {v : StV} {i : Nat} {I I' : hI} (h : BD D v i I) (e0 : I' 10 i = I 10 i) (e1 : I' 11 i = I 11 i) : BD D v i I' := by
  unfold BD at h ⊢
  rw [e0, e1]
  exact h
theorem ldl_v {D : FD} {v : StV} {a : Nat} (ha : 12 ≤ a) (h6 : D.1 ≤ 6) (ho : ∀ i, i < D.1 → okR (D.2.1 i)) : ∀ (i : Nat) (I : hI), i ≤ D.1 → CV D v a I → (∀ q, q < i → iniR q I) → (∀ q, i ≤ q → q < D.1 → FTr D v q I) → (∀ q, i ≤ q → q ≤ D.1 → BD D v q I) → (∀ q, q < D.1 → FTr D v q (ldl D a 0 i I)) ∧ ∀ q, q ≤ D.1 → BD D v q (ldl D a 0 i I)
  | 0, I, hi, hV, h1, h2, h3 => ⟨fun q => h2 q (by omega), fun q => h3 q (by omega)⟩
  | i + 1, I, hi, hV, h1, h2, h3 => by
    have hq := ho i (by omega)
    have hvb : ∀ i, i < D.1 → v.1 i ≤ 9 ∧ v.2.1 i ≤ 9 := fun i hi => (hV i hi).2.1
    have hF := lrF_v (I := I) ha (show i < D.1 by omega) h6 hq hV (h1 i (by omega))
    have k10 : ∀ c, 10 ≤ c → lrF I a (D.2.1 i) i 0 c = I c := fun c hc => lrF_c (by omega) (by omega) (by omega) (by omega) (by omega)
    have hB := lbF_v (show i < D.1 by omega) h6 ho hvb hF (BD_of (h3 (i + 1) (by omega) hi) (by rw [k10 10 (by omega)]) (by rw [k10 11 (by omega)]))
    have hk : ∀ c, c ≠ 10 → c ≠ 11 → lbF (lrF I a (D.2.1 i) i 0) i (nI (D.2.1 i).2.1) c = lrF I a (D.2.1 i) i 0 c := fun c x y => lbF_c x y
    have kA : ∀ c, 12 ≤ c → lbF (lrF I a (D.2.1 i) i 0) i (nI (D.2.1 i).2.1) c = I c := fun c hc => by rw [hk c (by omega) (by omega), k10 c (by omega)]
    unfold ldl
    refine ldl_v ha h6 ho i _ (by omega) (CV_of hV (kA _ ha) (kA _ (by omega)) (kA _ (by omega))) (fun q hq' s hs => ?_) (fun q q1 q2 => ?_) (fun q q1 q2 => ?_)
    · have o := lrF_o (I := I) (a := a) (lo := 0) (show i < 6 by omega) hq (show q ≠ i by omega)
      rw [hk 5 (by decide) (by decide), hk 7 (by decide) (by decide), o.1 s hs 5 (by decide), o.1 s hs 7 (by decide)]
      exact h1 q (by omega) s hs
    · by_cases e : q = i
      · subst e
        exact FTr_of hF (fun s hs c hc => by rw [hk c (by omega) (by omega)]) (by rw [hk 8 (by decide) (by decide)]) (by rw [hk 9 (by decide) (by decide)])
      · have o := lrF_o (I := I) (a := a) (lo := 0) (show i < 6 by omega) hq (show q ≠ i by omega)
        exact FTr_of (h2 q (by omega) q2) (fun s hs c hc => by rw [hk c (by omega) (by omega), o.1 s hs c hc]) (by rw [hk 8 (by decide) (by decide), o.2.1]) (by rw [hk 9 (by decide) (by decide), o.2.2])
    · by_cases e : q = i
      · subst e; exact hB
      · refine BD_of (h3 q (by omega) q2) ?_ ?_
        · unfold lbF
          rw [sf_c (by decide), sf_k e, k10 10 (by omega)]
        · unfold lbF
          rw [sf_k e, sf_c (by decide), k10 11 (by omega)]
/-- what load leaves -/
theorem ldF_v {D : FD} {v : StV} {a : Nat} {I : hI} (ha : 12 ≤ a) (h6 : D.1 ≤ 6) (ho : ∀ i, i < D.1 → okR (D.2.1 i)) (hV : CV D v a I) : (∀ q, q < D.1 → FTr D v q (ldF I D a 0)) ∧ ∀ q, q ≤ D.1 → BD D v q (ldF I D a 0) := by
  unfold ldF
  have kA : ∀ c, 12 ≤ c → ldI I D.1 c = I c := fun c hc => ldI_c (by omega) (by omega) (by omega) (by omega) (by omega)
  refine ldl_v ha h6 ho D.1 _ (Nat.le_refl _) (CV_of hV (kA _ ha) (kA _ (by omega)) (kA _ (by omega))) (fun q hq s hs => ?_) (fun q q1 q2 => by omega) (fun q q1 q2 => ?_)
  · unfold ldI
    refine ⟨?_, ?_⟩
    · rw [sf_c (by decide), sf_c (by decide), up_ne (by decide), up_same]
      unfold am_fill
      rw [if_pos (by omega)]
      rfl
    · rw [sf_c (by decide), sf_c (by decide), up_same]
      unfold am_fill
      rw [if_pos (by omega)]
      rfl
  · have e : q = D.1 := by omega
    subst e
    refine ⟨0, 0, ?_, ?_, ?_, ?_, fun x t h => ?_⟩
    · unfold ldI; rw [sf_s]; rfl
    · unfold ldI; rw [sf_c (by decide), sf_s]; rfl
    · rw [Nat.sub_self]; decide
    · rw [Nat.sub_self]; decide
    · rw [Nat.sub_self] at h
      have := h.1
      omega
end CL3

