/-! The least and the greatest number that can be shown. -/
section EDG
def lmn (D : FD) (v : StV) (i : Nat) : Nat := if v.2.2 i 0 = true then v.1 i else 0
def lmx (D : FD) (v : StV) (i : Nat) : Nat := if v.2.2 i 0 = true then v.1 i else (D.2.1 i).2.2.1
def hmn (D : FD) (v : StV) (i : Nat) : Nat := if v.2.2 i 1 = true then v.2.1 i else 0
def hmx (D : FD) (v : StV) (i : Nat) : Nat := if v.2.2 i 1 = true then v.2.1 i else (D.2.1 i).2.2.2
def w0 (D : FD) (v : StV) (i : Nat) : Nat := vl D i (lmn D v i) (hmn D v i)
def w1 (D : FD) (v : StV) (i : Nat) : Nat := vl D i (lmx D v i) (hmx D v i)
/-- beads within the rods -/
def VW (D : FD) (v : StV) : Prop := ∀ i, i < D.1 → v.1 i ≤ (D.2.1 i).2.2.1 ∧ v.2.1 i ≤ (D.2.1 i).2.2.2
def nbw (D : FD) (w : Nat → Nat) : Nat → Nat → Nat
  | 0, _ => 0
  | k + 1, i => w i + bs D i * nbw D w k (i + 1)
def how (D : FD) (w : Nat → Nat) : Nat → Nat → Nat
  | 0, s => s
  | r + 1, s => how D w r (s * bs D r + w r)
theorem how_n {D : FD} {w : Nat → Nat} : ∀ r k, how D w r (nbw D w k r) = nbw D w (k + r) 0
  | 0, k => rfl
  | r + 1, k => by
    unfold how
    rw [show nbw D w k (r + 1) * bs D r + w r = nbw D w (k + 1) r by show _ = w r + bs D r * nbw D w k (r + 1); rw [Nat.mul_comm, Nat.add_comm], how_n r (k + 1)]
    congr 1
    omega
theorem al_0 {D : FD} {v : StV} {i : Nat} (h : VW D v) (hi : i < D.1) : alw D v i (lmn D v i) (hmn D v i) ∧ alw D v i (lmx D v i) (hmx D v i) := by
  have w := h i hi
  unfold lmn lmx hmn hmx
  refine ⟨⟨?_, ?_, fun z => if_pos z, fun z => if_pos z⟩, ⟨?_, ?_, fun z => if_pos z, fun z => if_pos z⟩⟩
  · split <;> omega
  · split <;> omega
  · split <;> omega
  · split <;> omega
theorem vl_m {D : FD} {i l g l' g' : Nat} (h1 : l ≤ l') (h2 : g ≤ g') : vl D i l g ≤ vl D i l' g' := by
  unfold vl
  have := Nat.mul_le_mul_right (hwv (D.2.1 i)) h2
  omega
theorem al_b {D : FD} {v : StV} {i l g : Nat} (ha : alw D v i l g) : w0 D v i ≤ vl D i l g ∧ vl D i l g ≤ w1 D v i := by
  unfold w0 w1
  obtain ⟨a1, a2, a3, a4⟩ := ha
  refine ⟨vl_m ?_ ?_, vl_m ?_ ?_⟩
  · unfold lmn
    by_cases z : v.2.2 i 0 = true
    · rw [if_pos z, a3 z]; exact Nat.le_refl _
    · rw [if_neg z]; exact Nat.zero_le _
  · unfold hmn
    by_cases z : v.2.2 i 1 = true
    · rw [if_pos z, a4 z]; exact Nat.le_refl _
    · rw [if_neg z]; exact Nat.zero_le _
  · unfold lmx
    by_cases z : v.2.2 i 0 = true
    · rw [if_pos z, a3 z]; exact Nat.le_refl _
    · rw [if_neg z]; exact a1
  · unfold hmx
    by_cases z : v.2.2 i 1 = true
    · rw [if_pos z, a4 z]; exact Nat.le_refl _
    · rw [if_neg z]; exact a2
/-- a row's least and greatest sum -/
theorem lbl_x {I : hI} {i : Int32} : ∀ (k s a b : Nat), s + k = 40 → ((a = 40 ∧ b = 0 ∧ ∀ j, j < s → 1048576 ≤ costF I i (nI j)) ∨ (a < s ∧ b < s ∧ ¬ 1048576 ≤ costF I i (nI a) ∧ ¬ 1048576 ≤ costF I i (nI b) ∧ ∀ j, j < s → ¬ 1048576 ≤ costF I i (nI j) → a ≤ j ∧ j ≤ b)) → ∃ a' b', lbl I i k s (nI a) (nI b) = (nI a', nI b') ∧ ((∀ j, j < 40 → 1048576 ≤ costF I i (nI j)) ∨ (a' < 40 ∧ b' < 40 ∧ ¬ 1048576 ≤ costF I i (nI a') ∧ ¬ 1048576 ≤ costF I i (nI b') ∧ ∀ j, j < 40 → ¬ 1048576 ≤ costF I i (nI j) → a' ≤ j ∧ j ≤ b'))
  | 0, s, a, b, hs, h => by
    have e : s = 40 := by omega
    subst e
    exact ⟨a, b, rfl, h.elim (fun z => Or.inl z.2.2) Or.inr⟩
  | k + 1, s, a, b, hs, h => by
    unfold lbl
    by_cases c : 1048576 ≤ costF I i (nI s)
    · rw [if_pos c]
      refine lbl_x k (s + 1) a b (by omega) ?_
      rcases h with ⟨h1, h2, h3⟩ | ⟨h1, h2, h3, h4, h5⟩
      · refine Or.inl ⟨h1, h2, fun j hj => ?_⟩
        by_cases e : j = s
        · rw [e]; exact c
        · exact h3 j (by omega)
      · refine Or.inr ⟨by omega, by omega, h3, h4, fun j hj hp => ?_⟩
        by_cases e : j = s
        · rw [e] at hp; exact absurd c hp
        · exact h5 j (by omega) hp
    · rw [if_neg c]
      rcases h with ⟨h1, h2, h3⟩ | ⟨h1, h2, h3, h4, h5⟩
      · rw [if_pos ((nI_ltI (by omega) (by omega)).mpr (show s < a by omega))]
        refine lbl_x k (s + 1) s s (by omega) (Or.inr ⟨by omega, by omega, c, c, fun j hj hp => ?_⟩)
        by_cases e : j = s
        · omega
        · exact absurd (h3 j (by omega)) hp
      · rw [if_neg (fun z => by have := (nI_ltI (by omega) (by omega)).mp z; omega)]
        refine lbl_x k (s + 1) a s (by omega) (Or.inr ⟨by omega, by omega, h3, c, fun j hj hp => ?_⟩)
        by_cases e : j = s
        · omega
        · have := h5 j (by omega) hp; omega
def BDx (D : FD) (v : StV) (i : Nat) (I : hI) : Prop := I 11 i = nI (nbw D (w0 D v) (D.1 - i) i) ∧ I 10 i = nI (nbw D (w1 D v) (D.1 - i) i)
theorem lbF_x {D : FD} {v : StV} {i : Nat} {I : hI} (hi : i < D.1) (h6 : D.1 ≤ 6) (hq : okR (D.2.1 i)) (hv : v.1 i ≤ 9 ∧ v.2.1 i ≤ 9) (hw : VW D v) (h : FTr D v i I) (hb : BDx D v (i + 1) I) : BDx D v i (lbF I i (nI (D.2.1 i).2.1)) := by
  have cv := fun s hs => cost_v (s := s) hi h6 hq hv h hs
  have al := al_0 hw hi
  have s0 := (slv (D := D) (i := i) (by omega) hq al.1.1 al.1.2.1).2
  have s1 := (slv (D := D) (i := i) (by omega) hq al.2.1 al.2.2.1).2
  have g0 : ¬ 1048576 ≤ costF I (nI i) (nI (w0 D v i)) := (cv _ s0).mpr ⟨_, _, al.1, rfl⟩
  have g1 : ¬ 1048576 ≤ costF I (nI i) (nI (w1 D v i)) := (cv _ s1).mpr ⟨_, _, al.2, rfl⟩
  obtain ⟨le, gr, el, hl⟩ := lbl_x (I := I) (i := nI i) 40 0 40 0 (by omega) (Or.inl ⟨rfl, rfl, fun j hj => absurd hj (Nat.not_lt_zero j)⟩)
  have el' : lbl I (nI i) 40 0 40 0 = (nI le, nI gr) := el
  rcases hl with z | ⟨l1, l2, l3, l4, l5⟩
  · exact absurd (z _ s0) g0
  · obtain ⟨p, q, pa, pe⟩ := (cv _ l1).mp l3
    obtain ⟨p', q', pa', pe'⟩ := (cv _ l2).mp l4
    have e0 : le = w0 D v i := by
      have := (al_b pa).1
      have : le ≤ w0 D v i := (l5 _ s0 g0).1
      omega
    have e1 : gr = w1 D v i := by
      have := (al_b pa').2
      have : w1 D v i ≤ gr := (l5 _ s1 g1).2
      omega
    have ek : D.1 - i = D.1 - (i + 1) + 1 := by omega
    unfold BDx lbF
    rw [el', e0, e1, ek]
    refine ⟨?_, ?_⟩
    · rw [sf_s, nI_1, am_rdK rfl (by omega) (by decide), hb.1, show nI (D.2.1 i).2.1 * nI (nbw D (w0 D v) (D.1 - (i + 1)) (i + 1)) = nI ((D.2.1 i).2.1 * nbw D (w0 D v) (D.1 - (i + 1)) (i + 1)) from (Int32.ofNat_mul _ _).symm, nI_add]
      rfl
    · rw [sf_c (by decide), sf_s, nI_1, am_rdK rfl (by omega) (by decide), hb.2, show nI (D.2.1 i).2.1 * nI (nbw D (w1 D v) (D.1 - (i + 1)) (i + 1)) = nI ((D.2.1 i).2.1 * nbw D (w1 D v) (D.1 - (i + 1)) (i + 1)) from (Int32.ofNat_mul _ _).symm, nI_add]
      rfl
theorem ldl_x {D : FD} {v : StV} {a : Nat} (ha : 12 ≤ a) (h6 : D.1 ≤ 6) (ho : ∀ i, i < D.1 → okR (D.2.1 i)) (hw : VW D v) : ∀ (i : Nat) (I : hI), i ≤ D.1 → CV D v a I → (∀ q, q < i → iniR q I) → (∀ q, i ≤ q → q ≤ D.1 → BDx D v q I) → ∀ q, q ≤ D.1 → BDx D v q (ldl D a 0 i I)
  | 0, I, hi, hV, h1, h3 => fun q => h3 q (by omega)
  | i + 1, I, hi, hV, h1, h3 => by
    have hq := ho i (by omega)
    have hF := lrF_v (I := I) ha (show i < D.1 by omega) h6 hq hV (h1 i (by omega))
    have k10 : ∀ c, 10 ≤ c → lrF I a (D.2.1 i) i 0 c = I c := fun c hc => lrF_c (by omega) (by omega) (by omega) (by omega) (by omega)
    have hx : BDx D v (i + 1) (lrF I a (D.2.1 i) i 0) := by
      unfold BDx
      rw [k10 10 (by omega), k10 11 (by omega)]
      exact h3 (i + 1) (by omega) hi
    have hB := lbF_x (show i < D.1 by omega) h6 hq (hV i (by omega)).2.1 hw hF hx
    have hk : ∀ c, c ≠ 10 → c ≠ 11 → lbF (lrF I a (D.2.1 i) i 0) i (nI (D.2.1 i).2.1) c = lrF I a (D.2.1 i) i 0 c := fun c x y => lbF_c x y
    have kA : ∀ c, 12 ≤ c → lbF (lrF I a (D.2.1 i) i 0) i (nI (D.2.1 i).2.1) c = I c := fun c hc => by rw [hk c (by omega) (by omega), k10 c (by omega)]
    unfold ldl
    refine ldl_x ha h6 ho hw i _ (by omega) (CV_of hV (kA _ ha) (kA _ (by omega)) (kA _ (by omega))) (fun q hq' s hs => ?_) (fun q q1 q2 => ?_)
    · have o := lrF_o (I := I) (a := a) (lo := 0) (show i < 6 by omega) hq (show q ≠ i by omega)
      rw [hk 5 (by decide) (by decide), hk 7 (by decide) (by decide), o.1 s hs 5 (by decide), o.1 s hs 7 (by decide)]
      exact h1 q (by omega) s hs
    · by_cases e : q = i
      · subst e; exact hB
      · have w := h3 q (by omega) q2
        unfold BDx at w ⊢
        unfold lbF
        refine ⟨?_, ?_⟩
        · rw [sf_k e, sf_c (by decide), k10 11 (by omega)]
          exact w.1
        · rw [sf_c (by decide), sf_k e, k10 10 (by omega)]
          exact w.2
theorem ldF_x {D : FD} {v : StV} {a : Nat} {I : hI} (ha : 12 ≤ a) (h6 : D.1 ≤ 6) (ho : ∀ i, i < D.1 → okR (D.2.1 i)) (hw : VW D v) (hV : CV D v a I) : ∀ q, q ≤ D.1 → BDx D v q (ldF I D a 0) := by
  unfold ldF
  have kA : ∀ c, 12 ≤ c → ldI I D.1 c = I c := fun c hc => ldI_c (by omega) (by omega) (by omega) (by omega) (by omega)
  refine ldl_x ha h6 ho hw D.1 _ (Nat.le_refl _) (CV_of hV (kA _ ha) (kA _ (by omega)) (kA _ (by omega))) (fun q hq s hs => ?_) (fun q q1 q2 => ?_)
  · unfold ldI
    refine ⟨?_, ?_⟩
    · rw [sf_c (by decide), sf_c (by decide), up_ne (by decide), up_same]
      unfold am_fill
      rw [if_pos (by omega)]
      rfl
    · rw [sf_c (by decide), sf_c (by decide), up_same]
      unfold am_fill
      rw [if_pos (by omega)]
      rfl
  · have e : q = D.1 := by omega
    subst e
    unfold BDx ldI
    rw [Nat.sub_self]
    refine ⟨?_, ?_⟩
    · rw [sf_s]; rfl
    · rw [sf_c (by decide), sf_s]; rfl
/-- the reference's edges -/
theorem ed_v {D : FD} {v : StV} {st : Int32} {I : hI} {mo : Int32} {w : Nat → Nat} (hD : DMf D I) (hR : RV D v 78 st I) (hst : st = I 78 12) (hmo : (mo = 0 ∧ w = w0 D v) ∨ (¬ mo = 0 ∧ w = w1 D v)) (hb : ∀ i, i < D.1 → w i ≤ 39) : ∀ r s, r ≤ D.1 → edl I D mo r (lN s) = lN (how D w r s)
  | 0, s, hr => by unfold edl how; rfl
  | r + 1, s, hr => by
    obtain ⟨⟨e1, e2⟩, ⟨b1, b2⟩, k1, k2⟩ := hR r (by omega)
    rw [hst] at k1 k2
    have hq := hD.2.2.2 r (by omega)
    have e3 : I 76 r = nI (D.2.1 r).2.2.1 := hq.2.2.2.1
    have e4 : I 77 r = nI (D.2.1 r).2.2.2 := hq.2.2.2.2
    have b9 := hq.1.2.2.1.2
    have b3 := hq.1.2.2.2.1
    have b16 := hq.1.2.1.2
    obtain ⟨l, g, el, eg, l9, g9, ew⟩ : ∃ l g, edLo I mo r = nI l ∧ edHi I mo r = nI g ∧ l ≤ 9 ∧ g ≤ 9 ∧ w r = vl D r l g := by
      unfold edLo edHi
      rcases hmo with ⟨m0, rfl⟩ | ⟨m0, rfl⟩
      · refine ⟨lmn D v r, hmn D v r, ?_, ?_, ?_, ?_, rfl⟩
        · unfold lmn
          by_cases z : v.2.2 r 0 = true
          · rw [if_pos z, if_pos (k1.mpr z)]; exact e1
          · rw [if_neg z, if_neg (fun y => z (k1.mp y)), if_pos m0]; rfl
        · unfold hmn
          by_cases z : v.2.2 r 1 = true
          · rw [if_pos z, if_pos (k2.mpr z)]; exact e2
          · rw [if_neg z, if_neg (fun y => z (k2.mp y)), if_pos m0]; rfl
        · unfold lmn; split <;> omega
        · unfold hmn; split <;> omega
      · refine ⟨lmx D v r, hmx D v r, ?_, ?_, ?_, ?_, rfl⟩
        · unfold lmx
          by_cases z : v.2.2 r 0 = true
          · rw [if_pos z, if_pos (k1.mpr z)]; exact e1
          · rw [if_neg z, if_neg (fun y => z (k1.mp y)), if_neg m0]; exact e3
        · unfold hmx
          by_cases z : v.2.2 r 1 = true
          · rw [if_pos z, if_pos (k2.mpr z)]; exact e2
          · rw [if_neg z, if_neg (fun y => z (k2.mp y)), if_neg m0]; exact e4
        · unfold lmx; split <;> omega
        · unfold hmx; split <;> omega
    have wb := hb r (by omega)
    rw [ew] at wb
    unfold vl at wb
    unfold edl how
    have es : edS I D mo r (lN s) = lN (s * bs D r + w r) := by
      unfold edS bsL
      rw [el, eg, show nI g * nI (hwv (D.2.1 r)) = nI (g * hwv (D.2.1 r)) from (Int32.ofNat_mul _ _).symm, nI_l (by omega), nI_l (by omega), nI_l (by omega), lN_mul, lN_add, lN_add, ew]
      unfold vl
      rw [Nat.add_assoc]
    rw [es]
    exact ed_v hD hR hst hmo hb r _ (by omega)
end EDG

