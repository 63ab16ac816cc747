/-! The class: tables and beads stay small numbers. -/
section CBD
def b100 (x : Int32) : Prop := -100 ≤ x.toInt ∧ x.toInt ≤ 100
def SBd (a : Nat) (I : hI) : Prop := ∀ i, i < 6 → b100 (I (a + 1) i) ∧ b100 (I (a + 2) i)
def HG (I : hI) : Prop := ∀ j, j < 240 → 0 ≤ (I 6 j).toInt ∧ (I 6 j).toInt ≤ 3
def WG (I : hI) : Prop := ∀ j, j < 6 → 0 ≤ (I 9 j).toInt ∧ (I 9 j).toInt ≤ 10
def CG (I : hI) : Prop := ∀ j, j < 240 → 0 ≤ (I 5 j).toInt ∧ (I 5 j).toInt ≤ 1048576
theorem SBd_of {a : Nat} {I I' : hI} (h : SBd a I) (e1 : I' (a + 1) = I (a + 1)) (e2 : I' (a + 2) = I (a + 2)) : SBd a I' := fun i hi => by rw [e1, e2]; exact h i hi
theorem HG_of {I I' : hI} (h : HG I) (e : I' 6 = I 6) : HG I' := fun j hj => by rw [e]; exact h j hj
theorem WG_of {I I' : hI} (h : WG I) (e : I' 9 = I 9) : WG I' := fun j hj => by rw [e]; exact h j hj
theorem CG_of {I I' : hI} (h : CG I) (e : I' 5 = I 5) : CG I' := fun j hj => by rw [e]; exact h j hj
theorem rd_b {L : Nat} {f : Nat → Int32} {x : Int32} {lo hi : Int} (hL : L < 2 ^ 31) (h0 : lo ≤ 0 ∧ 0 ≤ hi) (h : ∀ j, j < L → lo ≤ (f j).toInt ∧ (f j).toInt ≤ hi) : lo ≤ (am_rd L f x).toInt ∧ (am_rd L f x).toInt ≤ hi := by
  unfold am_rd
  by_cases hx : x < 0 ∨ Int32.ofNat L ≤ x
  · rw [if_pos hx]; exact h0
  · rw [if_neg hx]
    obtain ⟨j, hj, e⟩ := nI_of (fun z => hx (Or.inl z))
    subst e
    rw [nI_clamp hj]
    refine h j ?_
    by_cases h3 : j < L
    · exact h3
    · exact absurd (nI_le (a := L) (by omega) hj) (fun z => hx (Or.inr z))
theorem wI_b {I : hI} {c L : Nat} {x v : Int32} {lo hi : Int} (hv : lo ≤ v.toInt ∧ v.toInt ≤ hi) (h : ∀ j, j < L → lo ≤ (I c j).toInt ∧ (I c j).toInt ≤ hi) : ∀ j, j < L → lo ≤ (wI I c L x v c j).toInt ∧ (wI I c L x v c j).toInt ≤ hi := by
  intro j hj
  unfold wI
  rw [up_same]
  unfold am_wr
  split
  · exact h j hj
  · unfold upd
    split
    · exact hv
    · exact h j hj
theorem acF_HG {I : hI} {s h p : Int32} (hh : 0 ≤ h.toInt ∧ h.toInt ≤ 3) (hI : HG I) : HG (acF I s h p) := by
  unfold acF
  split
  · exact HG_of hI (wI_c (by decide))
  · split
    · exact HG_of hI (wI_c (by decide))
    · exact wI_b hh (HG_of hI (by rw [wI_c (by decide), wI_c (by decide)]))
theorem lrl_HG {a i g : Nat} {q : RD4} {lo hp : Int32} (hg : g ≤ 3) : ∀ (k l : Nat) (I : hI), HG I → HG (lrl a q i lo g hp k l I)
  | 0, l, I, h => h
  | k + 1, l, I, h => by
    unfold lrl
    refine lrl_HG hg k (l + 1) _ ?_
    split
    · exact h
    · exact acF_HG (by rw [nI_toInt (by omega)]; omega) h
theorem lrh_HG {a i : Nat} {q : RD4} {lo : Int32} : ∀ (k g : Nat) (I : hI), g + k ≤ 4 → HG I → HG (lrh a q i lo k g I)
  | 0, g, I, hk, h => h
  | k + 1, g, I, hk, h => by
    unfold lrh
    refine lrh_HG k (g + 1) _ (by omega) ?_
    unfold lrs
    split
    · exact h
    · exact lrl_HG (by omega) _ _ _ h
theorem lrF_HG {I : hI} {a i : Nat} {q : RD4} {lo : Int32} (hq : okR q) (h : HG I) : HG (lrF I a q i lo) := by
  have := hq.2.2.2.1
  unfold lrF
  exact lrh_HG _ _ _ (by omega) (HG_of h (by rw [sf_c (by decide), sf_c (by decide)]))
theorem ldl_HG {D : FD} {a : Nat} {lo : Int32} (ho : ∀ k, k < D.1 → okR (D.2.1 k)) : ∀ (k : Nat) (I : hI), k ≤ D.1 → HG I → HG (ldl D a lo k I)
  | 0, I, hk, h => h
  | k + 1, I, hk, h => by
    unfold ldl
    exact ldl_HG ho k _ (by omega) (HG_of (lrF_HG (ho k (by omega)) h) (lbF_c (by decide) (by decide)))
theorem ldF_HG {I : hI} {D : FD} {a : Nat} {lo : Int32} (ho : ∀ k, k < D.1 → okR (D.2.1 k)) (h : HG I) : HG (ldF I D a lo) := ldl_HG ho _ _ (Nat.le_refl _) (HG_of h (ldI_c (by decide) (by decide) (by decide) (by decide) (by decide)))
theorem ldl_WG {D : FD} {a : Nat} {lo : Int32} (ho : ∀ k, k < D.1 → okR (D.2.1 k)) : ∀ (k : Nat) (I : hI), k ≤ D.1 → WG I → WG (ldl D a lo k I)
  | 0, I, hk, h => h
  | k + 1, I, hk, h => by
    unfold ldl
    refine ldl_WG ho k _ (by omega) (fun j hj => ?_)
    rw [lbF_c (by decide) (by decide)]
    unfold lrF
    rw [lrh_c (by decide) (by decide) (by decide)]
    by_cases e : j = k
    · subst e
      rw [sf_s]
      have := hwv_b (ho j (by omega))
      rw [nI_toInt (by omega)]
      omega
    · rw [sf_k e, sf_c (by decide)]; exact h j hj
theorem ldF_WG {I : hI} {D : FD} {a : Nat} {lo : Int32} (ho : ∀ k, k < D.1 → okR (D.2.1 k)) (h : WG I) : WG (ldF I D a lo) := ldl_WG ho _ _ (Nat.le_refl _) (WG_of h (ldI_c (by decide) (by decide) (by decide) (by decide) (by decide)))
/-- prices are no debts -/
theorem tmF_b (q : RD4) (p : Int32) : 1 ≤ (tmF q p).toInt ∧ (tmF q p).toInt ≤ 3 := by
  unfold tmF htv ltv
  split
  · split
    · decide +kernel
    · split <;> decide +kernel
  · split <;> decide +kernel
theorem offF_b {I : hI} {a i n : Nat} {p : Int32} (hi : i < 6) (hn : n ≤ 9) (h : SBd a I) : 0 ≤ (offF I a i p (nI n)).toInt ∧ (offF I a i p (nI n)).toInt ≤ 109 := by
  have hb : b100 (bdF I a i p) := by unfold bdF; split; exact (h i hi).2; exact (h i hi).1
  have e1 : (nI n - bdF I a i p).toInt = n - (bdF I a i p).toInt := by
    have := hb.1; have := hb.2
    rw [ti_sub, nI_toInt (by omega)] <;> (rw [nI_toInt (by omega)]; omega)
  have h1 := hb.1
  have h2 := hb.2
  have z0 : (0 : Int32).toInt = 0 := rfl
  unfold offF
  split
  · rename_i hc
    rw [fi_le] at hc
    omega
  · rename_i hc
    rw [fi_le] at hc
    have e2 : (0 - (nI n - bdF I a i p)).toInt = 0 - (n - (bdF I a i p).toInt) := by rw [ti_sub (by rw [e1]; omega) (by rw [e1]; omega), e1]; omega
    omega
theorem bitF_b {i : Nat} {p : Int32} (hi : i < 6) (hp : p = 0 ∨ p = 1) : 0 ≤ (bitF (nI i) p).toInt ∧ (bitF (nI i) p).toInt ≤ 4096 := by
  rcases (show i = 0 ∨ i = 1 ∨ i = 2 ∨ i = 3 ∨ i = 4 ∨ i = 5 by omega) with rfl | rfl | rfl | rfl | rfl | rfl <;> rcases hp with rfl | rfl <;> decide +kernel
theorem mul_t {x y : Int} (h1 : 0 ≤ x ∧ x ≤ 109) (h2 : 1 ≤ y ∧ y ≤ 3) : 0 ≤ x * y ∧ x * y ≤ 327 := by
  refine ⟨Int.mul_nonneg h1.1 (by omega), ?_⟩
  have := Int.mul_le_mul h1.2 h2.2 (by omega) (show (0 : Int) ≤ 109 by omega)
  omega
theorem priceF_b {I : hI} {a i n : Nat} {q : RD4} {p lo : Int32} (hi : i < 6) (hn : n ≤ 9) (hp : p = 0 ∨ p = 1) (h : SBd a I) : 0 ≤ (priceF I a q i p (nI n) lo).toInt ∧ (priceF I a q i p (nI n) lo).toInt ≤ 1048576 := by
  have ho := offF_b (p := p) hi hn h
  have ht := tmF_b q p
  have hm := mul_t ho ht
  have e : (offF I a i p (nI n) * tmF q p).toInt = (offF I a i p (nI n)).toInt * (tmF q p).toInt := ti_mul (by omega) (by omega)
  have hb := bitF_b hi hp
  have z0 : (0 : Int32).toInt = 0 := rfl
  have z1 : (1048576 : Int32).toInt = 1048576 := rfl
  have z4 : (4096 : Int32).toInt = 4096 := rfl
  have e4 : (4096 + bitF (nI i) p).toInt = 4096 + (bitF (nI i) p).toInt := by rw [ti_add] <;> omega
  unfold priceF
  split
  · split <;> omega
  · split
    · split <;> omega
    · split <;> omega
theorem acF_CG {I : hI} {s h p : Int32} (hp : 0 ≤ p.toInt) (hI : CG I) : CG (acF I s h p) := by
  unfold acF
  split
  · exact CG_of hI (wI_c (by decide))
  · split
    · exact CG_of hI (wI_c (by decide))
    · rename_i hc
      rw [fi_le] at hc
      have := rd_b (x := s) (L := 240) (by decide) (by omega) hI
      intro j hj
      rw [wI_c (by decide)]
      exact wI_b ⟨hp, by omega⟩ (CG_of hI (wI_c (by decide))) j hj
theorem acF_SB {I : hI} {s h p : Int32} {a : Nat} (ha : 22 ≤ a) (hI : SBd a I) : SBd a (acF I s h p) := SBd_of hI (acF_c (by omega) (by omega) (by omega)) (acF_c (by omega) (by omega) (by omega))
theorem lrl_CG {a i g : Nat} {q : RD4} {lo hp : Int32} (ha : 22 ≤ a) (hi : i < 6) (hh : 0 ≤ hp.toInt ∧ hp.toInt ≤ 1048576) : ∀ (k l : Nat) (I : hI), l + k ≤ 10 → CG I → SBd a I → CG (lrl a q i lo g hp k l I)
  | 0, l, I, hl, h, hs => h
  | k + 1, l, I, hl, h, hs => by
    unfold lrl
    have hb := priceF_b (q := q) (p := 0) (lo := lo) (n := l) hi (by omega) (Or.inl rfl) hs
    split
    · exact lrl_CG ha hi hh k (l + 1) _ (by omega) h hs
    · refine lrl_CG ha hi hh k (l + 1) _ (by omega) (acF_CG ?_ h) (acF_SB ha hs)
      rw [ti_add (by omega) (by omega)]
      omega
theorem lrh_CG {a i : Nat} {q : RD4} {lo : Int32} (ha : 22 ≤ a) (hi : i < 6) (hq : okR q) : ∀ (k g : Nat) (I : hI), g + k ≤ 4 → CG I → SBd a I → CG (lrh a q i lo k g I)
  | 0, g, I, hk, h, hs => h
  | k + 1, g, I, hk, h, hs => by
    unfold lrh
    have h9 := hq.2.2.1.2
    have hs1 : SBd a (lrs a q i lo g I) := SBd_of hs (lrs_c (by omega) (by omega) (by omega)) (lrs_c (by omega) (by omega) (by omega))
    refine lrh_CG ha hi hq k (g + 1) _ (by omega) ?_ hs1
    unfold lrs
    split
    · exact h
    · exact lrl_CG ha hi (priceF_b hi (by omega) (Or.inr rfl) hs) _ _ _ (by omega) h hs
theorem ldl_CG {D : FD} {a : Nat} {lo : Int32} (ha : 22 ≤ a) (h6 : D.1 ≤ 6) (ho : ∀ k, k < D.1 → okR (D.2.1 k)) : ∀ (k : Nat) (I : hI), k ≤ D.1 → CG I → SBd a I → CG (ldl D a lo k I)
  | 0, I, hk, h, hs => h
  | k + 1, I, hk, h, hs => by
    unfold ldl
    have hq := ho k (by omega)
    have h3 := hq.2.2.2.1
    have s1 : SBd a (sf (sf I 8 k (nI (D.2.1 k).2.1)) 9 k (nI (hwv (D.2.1 k)))) := SBd_of hs (by rw [sf_c (by omega), sf_c (by omega)]) (by rw [sf_c (by omega), sf_c (by omega)])
    refine ldl_CG ha h6 ho k _ (by omega) (CG_of ?_ (lbF_c (by decide) (by decide))) (SBd_of hs (by rw [lbF_c (by omega) (by omega), lrF_c (by omega) (by omega) (by omega) (by omega) (by omega)]) (by rw [lbF_c (by omega) (by omega), lrF_c (by omega) (by omega) (by omega) (by omega) (by omega)]))
    unfold lrF
    exact lrh_CG ha (by omega) hq _ _ _ (by omega) (CG_of h (by rw [sf_c (by decide), sf_c (by decide)])) s1
theorem ldF_CG {I : hI} {D : FD} {a : Nat} {lo : Int32} (ha : 22 ≤ a) (h6 : D.1 ≤ 6) (ho : ∀ k, k < D.1 → okR (D.2.1 k)) (hs : SBd a I) : CG (ldF I D a lo) := by
  have hc : ∀ c, 17 < c → ldI I D.1 c = I c := fun c h => ldI_c (by omega) (by omega) (by omega) (by omega) (by omega)
  refine ldl_CG ha h6 ho _ _ (Nat.le_refl _) (fun j hj => ?_) (SBd_of hs (hc _ (by omega)) (hc _ (by omega)))
  unfold ldI
  rw [sf_c (by decide), sf_c (by decide), up_ne (by decide), up_same]
  unfold am_fill
  rw [if_pos hj]
  decide
/-- what is placed -/
theorem prF_SB {I : hI} {a i : Nat} {s : Int32} (hs : SBd a I) (hH : HG I) (hW : WG I) (h : -16 ≤ s.toInt ∧ s.toInt ≤ 39) : SBd a (prF I a i s) := by
  have h1 := rd_b (x := slotF (nI i) s) (L := 240) (by decide) (by omega) hH
  have h2 := rd_b (x := nI i) (L := 6) (by decide) (by omega) hW
  have h1' : 0 ≤ (hgF I (nI i) s).toInt ∧ (hgF I (nI i) s).toInt ≤ 3 := h1
  have hm : 0 ≤ (hgF I (nI i) s).toInt * (am_rd 6 (I 9) (nI i)).toInt ∧ (hgF I (nI i) s).toInt * (am_rd 6 (I 9) (nI i)).toInt ≤ 30 := by
    refine ⟨Int.mul_nonneg h1'.1 h2.1, ?_⟩
    have := Int.mul_le_mul h1'.2 h2.2 h2.1 (show (0 : Int) ≤ 3 by omega)
    omega
  have em : (hgF I (nI i) s * am_rd 6 (I 9) (nI i)).toInt = (hgF I (nI i) s).toInt * (am_rd 6 (I 9) (nI i)).toInt := ti_mul (by omega) (by omega)
  have el : (lwF I (nI i) s).toInt = s.toInt - (hgF I (nI i) s).toInt * (am_rd 6 (I 9) (nI i)).toInt := by
    unfold lwF
    rw [ti_sub, em] <;> (rw [em]; omega)
  intro j hj
  unfold prF
  constructor
  · by_cases e : j = i
    · rw [e, sf_s]; exact ⟨by omega, by omega⟩
    · rw [sf_k e, sf_c (by omega)]; exact (hs j hj).1
  · rw [sf_c (show a + 2 ≠ a + 1 by omega)]
    by_cases e : j = i
    · rw [e, sf_s]; exact ⟨by omega, by omega⟩
    · rw [sf_k e]; exact (hs j hj).2
theorem sbl_b {i left b goal : Int32} (hb : 2 ≤ b.toInt ∧ b.toInt ≤ 16) : ∀ (m : Nat) (I : hI) (s ch fh fl : Int32), -16 ≤ s.toInt → (-16 ≤ ch.toInt ∧ ch.toInt ≤ 39) → -16 ≤ (sbl i left b goal m I s ch fh fl).1.toInt ∧ (sbl i left b goal m I s ch fh fl).1.toInt ≤ 39
  | 0, I, s, ch, fh, fl, hs, hc => hc
  | m + 1, I, s, ch, fh, fl, hs, hc => by
    have z40 : (40 : Int32).toInt = 40 := rfl
    unfold sbl
    split
    · exact hc
    · split
      · exact hc
      · rename_i h40
        rw [fi_le] at h40
        have es : (s + b).toInt = s.toInt + b.toInt := ti_add (by omega) (by omega)
        split
        · exact sbl_b hb m _ _ _ _ _ (by omega) hc
        · split
          · exact sbl_b hb m _ _ _ _ _ (by omega) hc
          · split
            · exact sbl_b hb m _ _ _ _ _ (by omega) ⟨by omega, by omega⟩
            · exact sbl_b hb m _ _ _ _ _ (by omega) hc
theorem sbF_b {I : hI} {i left : Int32} (hB : BS I) : -16 ≤ (sbF I i left).1.toInt ∧ (sbF I i left).1.toInt ≤ 39 := by
  have hB1 : BS (lfF 7 I i left).2 := BS_of hB (lfF_c (by decide) _ _ _ _)
  have hb := baseF_b (x := i) hB1
  have hr := ti_rem (x := left) hb.1
  have hr2 := tm_lt (a := left.toInt) hb.1
  unfold sbF
  exact sbl_b hb _ _ _ _ _ _ (by omega) ⟨by decide, by decide⟩
theorem pal_SB {a : Nat} (ha : 22 ≤ a) : ∀ (k i : Nat) (left : Int32) (I : hI), BS I → HG I → WG I → SBd a I → SBd a (pal a k i left I)
  | 0, i, left, I, hB, hH, hW, hs => hs
  | k + 1, i, left, I, hB, hH, hW, hs => by
    unfold pal
    have e : ∀ c, c < 12 → prF (sbF I (nI i) left).2 a i (sbF I (nI i) left).1 c = I c := fun c hc => by rw [prF_c (by omega) (by omega), sbF_c (by omega)]
    refine pal_SB ha k (i + 1) _ _ (BS_of hB (e 8 (by decide))) (HG_of hH (e 6 (by decide))) (WG_of hW (e 9 (by decide))) (prF_SB (SBd_of hs (sbF_c (by omega)) (sbF_c (by omega))) (HG_of hH (sbF_c (by decide))) (WG_of hW (sbF_c (by decide))) (sbF_b hB))
theorem stF_SB {I : hI} {D : FD} {a : Nat} {v : Int64} (ha : 22 ≤ a) (ho : ∀ k, k < D.1 → okR (D.2.1 k)) (hB : BS I) (hH : HG I) (hW : WG I) (hs : SBd a I) : SBd a (stF I D a v).2 := by
  have e : ∀ c, 17 < c → (leF (ldF I D a 0) D.1 v).2 c = I c := fun c hc => by rw [leF_c (by omega) (by omega), ldF_c (by omega) (by omega) (by omega) (by omega) (by omega) (by omega) (by omega) (by omega)]
  have s1 : SBd a (leF (ldF I D a 0) D.1 v).2 := SBd_of hs (e _ (by omega)) (e _ (by omega))
  unfold stF
  split
  · dsimp only
    refine SBd_of (pal_SB ha _ _ _ _ (BS_of (ldF_BS ho hB) (leF_c (by decide) (by decide))) (HG_of (ldF_HG ho hH) (leF_c (by decide) (by decide))) (WG_of (ldF_WG ho hW) (leF_c (by decide) (by decide))) s1) (spF_c (by omega)) (spF_c (by omega))
  · exact s1
theorem stF_HG {I : hI} {D : FD} {a : Nat} {v : Int64} (ha : 22 ≤ a) (ho : ∀ k, k < D.1 → okR (D.2.1 k)) (hH : HG I) : HG (stF I D a v).2 := by
  unfold stF
  split
  · exact HG_of (ldF_HG ho hH) (by dsimp only; rw [spF_c (by omega), paF_c (by omega) (by omega) (by omega), leF_c (by decide) (by decide)])
  · exact HG_of (ldF_HG ho hH) (leF_c (by decide) (by decide))
theorem stF_WG {I : hI} {D : FD} {a : Nat} {v : Int64} (ha : 22 ≤ a) (ho : ∀ k, k < D.1 → okR (D.2.1 k)) (hW : WG I) : WG (stF I D a v).2 := by
  unfold stF
  split
  · exact WG_of (ldF_WG ho hW) (by dsimp only; rw [spF_c (by omega), paF_c (by omega) (by omega) (by omega), leF_c (by decide) (by decide)])
  · exact WG_of (ldF_WG ho hW) (leF_c (by decide) (by decide))
theorem stF_SG {I : hI} {D : FD} {a : Nat} {v : Int64} (ha : 22 ≤ a) (hS : SG I) : SG (stF I D a v).2 := by
  unfold stF
  split
  · exact SG_of (ldF_SG hS) (by dsimp only; rw [spF_c (by omega), paF_c (by omega) (by omega) (by omega), leF_c (by decide) (by decide)])
  · exact SG_of (ldF_SG hS) (leF_c (by decide) (by decide))
theorem costF_b {I : hI} {i s : Int32} (h : CG I) : 0 ≤ (costF I i s).toInt ∧ (costF I i s).toInt ≤ 1048576 ∧ ((costF I i s).toInt < 1048576 → 0 ≤ s.toInt ∧ s.toInt ≤ 39) := by
  have z : (1048576 : Int32).toInt = 1048576 := rfl
  have z0 : (0 : Int32).toInt = 0 := rfl
  have z40 : (40 : Int32).toInt = 40 := rfl
  unfold costF
  by_cases e : slotF i s = -1
  · rw [if_pos e]; omega
  · rw [if_neg e]
    have h1 := rd_b (x := slotF i s) (L := 240) (by decide) (by omega) h
    refine ⟨h1.1, h1.2, fun _ => ?_⟩
    unfold slotF at e
    by_cases c1 : s < 0
    · rw [if_pos c1] at e; exact absurd rfl e
    · rw [if_neg c1] at e
      by_cases c2 : 40 ≤ s
      · rw [if_pos c2] at e; exact absurd rfl e
      · rw [fi_lt] at c1
        rw [fi_le] at c2
        omega
theorem coF_SB {I : hI} {D : FD} {a i : Nat} (ha : 22 ≤ a) (h6 : D.1 ≤ 6) (ho : ∀ k, k < D.1 → okR (D.2.1 k)) (hH : HG I) (hW : WG I) (hs : SBd a I) : SBd a (coF I D a i).2 := by
  have e : ∀ c, 17 < c → ldF I D a 0 c = I c := fun c hc => ldF_c (by omega) (by omega) (by omega) (by omega) (by omega) (by omega) (by omega) (by omega)
  have s1 : SBd a (ldF I D a 0) := SBd_of hs (e _ (by omega)) (e _ (by omega))
  have hC : CG (ldF I D a 0) := ldF_CG ha h6 ho hs
  have hH1 := ldF_HG (a := a) (lo := 0) ho hH
  have hW1 := ldF_WG (a := a) (lo := 0) ho hW
  unfold coF
  split
  · exact hs
  · split
    · split
      · rename_i hc
        have c1 := costF_b (i := nI i) (s := coL I D a i) hC
        have c2 := costF_b (i := nI (i + 1)) (s := coM I D a i) hC
        have z : (1048576 : Int32).toInt = 1048576 := rfl
        have et : (coT I D a i).toInt = (costF (ldF I D a 0) (nI i) (coL I D a i)).toInt + (costF (ldF I D a 0) (nI (i + 1)) (coM I D a i)).toInt := ti_add (by omega) (by omega)
        rw [fi_lt, et] at hc
        have r1 := c1.2.2 (by omega)
        have r2 := c2.2.2 (by omega)
        have p1 := prF_SB (i := i) (s := coL I D a i) s1 hH1 hW1 (by omega)
        have p2 := prF_SB (i := i + 1) (s := coM I D a i) p1 (HG_of hH1 (prF_c (by omega) (by omega))) (WG_of hW1 (prF_c (by omega) (by omega))) (by omega)
        exact SBd_of p2 (spF_c (by omega)) (spF_c (by omega))
      · exact s1
    · exact hs
theorem coF_t {I : hI} {D : FD} {a i : Nat} (ha : 22 ≤ a) (ho : ∀ k, k < D.1 → okR (D.2.1 k)) : (HG I → HG (coF I D a i).2) ∧ (WG I → WG (coF I D a i).2) ∧ (SG I → SG (coF I D a i).2) := by
  unfold coF
  split
  · exact ⟨id, id, id⟩
  · split
    · split
      · have e : ∀ c, c < 18 → spF (prF (prF (ldF I D a 0) a i (coL I D a i)) a (i + 1) (coM I D a i)) a (coT I D a i) c = ldF I D a 0 c := fun c hc => by rw [spF_c (by omega), prF_c (by omega) (by omega), prF_c (by omega) (by omega)]
        exact ⟨fun h => HG_of (ldF_HG ho h) (e 6 (by decide)), fun h => WG_of (ldF_WG ho h) (e 9 (by decide)), fun h => SG_of (ldF_SG h) (e 14 (by decide))⟩
      · exact ⟨ldF_HG ho, ldF_WG ho, ldF_SG⟩
    · exact ⟨id, id, id⟩
theorem pb1_SB {I : hI} {q : RD4} {i : Nat} {p : Int32} (hs : SBd 22 I) : SBd 22 (pb1 I q i p) := by
  have z : b100 0 := ⟨by decide, by decide⟩
  unfold pb1
  split
  · intro j hj
    split
    · refine ⟨?_, ?_⟩
      · rw [sf_c (by decide), spF_c (by decide)]; exact (hs j hj).1
      · by_cases e : j = i
        · rw [e]; show b100 (sf _ 24 i 0 24 i); rw [sf_s]; exact z
        · rw [show 22 + 2 = 24 from rfl, sf_k e, spF_c (by decide)]; exact (hs j hj).2
    · refine ⟨?_, ?_⟩
      · by_cases e : j = i
        · rw [e]; show b100 (sf _ 23 i 0 23 i); rw [sf_s]; exact z
        · rw [show 22 + 1 = 23 from rfl, sf_k e, spF_c (by decide)]; exact (hs j hj).1
      · rw [sf_c (by decide), spF_c (by decide)]; exact (hs j hj).2
  · exact hs
theorem pbl_SB {D : FD} : ∀ (k i : Nat) (I : hI), SBd 22 I → SBd 22 (pbl D k i I)
  | 0, i, I, h => h
  | k + 1, i, I, h => by unfold pbl; exact pbl_SB k (i + 1) _ (pb1_SB (pb1_SB h))
/-- the numbers of Ways between calls -/
def WK (I : hI) : Prop := BS I ∧ HG I ∧ WG I ∧ SG I
theorem WK_of {I I' : hI} (h : WK I) (e : ∀ c, 4 ≤ c → c ≤ 17 → I' c = I c) : WK I' := ⟨BS_of h.1 (e 8 (by decide) (by decide)), HG_of h.2.1 (e 6 (by decide) (by decide)), WG_of h.2.2.1 (e 9 (by decide) (by decide)), SG_of h.2.2.2 (e 14 (by decide) (by decide))⟩
theorem stF_WK {I : hI} {D : FD} {a : Nat} {v : Int64} (ha : 22 ≤ a) (ho : ∀ k, k < D.1 → okR (D.2.1 k)) (h : WK I) : WK (stF I D a v).2 := ⟨stF_BS ha ho h.1, stF_HG ha ho h.2.1, stF_WG ha ho h.2.2.1, stF_SG ha h.2.2.2⟩
theorem coF_WK {I : hI} {D : FD} {a i : Nat} (ha : 22 ≤ a) (ho : ∀ k, k < D.1 → okR (D.2.1 k)) (h : WK I) : WK (coF I D a i).2 := ⟨coF_BS ha ho h.1, (coF_t ha ho).1 h.2.1, (coF_t ha ho).2.1 h.2.2.1, (coF_t ha ho).2.2 h.2.2.2⟩
theorem ldF_WK {I : hI} {D : FD} {a : Nat} {lo : Int32} (ho : ∀ k, k < D.1 → okR (D.2.1 k)) (h : WK I) : WK (ldF I D a lo) := ⟨ldF_BS ho h.1, ldF_HG ho h.2.1, ldF_WG ho h.2.2.1, ldF_SG h.2.2.2⟩
theorem leF_WK {I : hI} {n : Nat} {v : Int64} (h : WK I) : WK (leF I n v).2 := ⟨BS_of h.1 (leF_c (by decide) (by decide)), HG_of h.2.1 (leF_c (by decide) (by decide)), WG_of h.2.2.1 (leF_c (by decide) (by decide)), SG_of h.2.2.2 (leF_c (by decide) (by decide))⟩
theorem hoF_WK {I : hI} {n : Nat} {v : Int64} (h : WK I) : WK (hoF I n v).2 := ⟨BS_of h.1 (hoF_c (by decide) (by decide)), HG_of h.2.1 (hoF_c (by decide) (by decide)), WG_of h.2.2.1 (hoF_c (by decide) (by decide)), SG_of h.2.2.2 (hoF_c (by decide) (by decide))⟩
theorem sitF_WK {I : hI} {n : Nat} {fr up : Int32} (hn : n ≤ 6) (hf : fr.toInt ≤ 1500000000) (h : WK I) : WK (sitF I n fr up) := ⟨BS_of h.1 (sitF_c (by decide) (by decide) (by decide) (by decide)), HG_of h.2.1 (sitF_c (by decide) (by decide) (by decide) (by decide)), WG_of h.2.2.1 (sitF_c (by decide) (by decide) (by decide) (by decide)), sitF_SG hn h.1 h.2.2.2 hf⟩
theorem dsF_WK {I : hI} {D : FD} {vb : Nat} {vl : Int64} {fl : Int32} (ho : ∀ k, k < D.1 → okR (D.2.1 k)) (h : WK I) : WK (dsF I D vb vl fl).2 := by
  unfold dsF bo
  split
  · exact h
  · split
    · exact stF_WK (by omega) ho h
    · split
      · exact stF_WK (by omega) ho h
      · split
        · exact stF_WK (by omega) ho h
        · split
          · exact WK_of h (fun c _ _ => pbl_c (by omega) (by omega) (by omega) _ _ _)
          · exact coF_WK (by omega) ho h
theorem dsF_SB {I : hI} {D : FD} {vb : Nat} {vl : Int64} {fl : Int32} (h6 : D.1 ≤ 6) (ho : ∀ k, k < D.1 → okR (D.2.1 k)) (h : WK I) (hs : SBd 22 I) : SBd 22 (dsF I D vb vl fl).2 := by
  unfold dsF bo
  split
  · exact hs
  · split
    · exact stF_SB (by omega) ho h.1 h.2.1 h.2.2.1 hs
    · split
      · exact stF_SB (by omega) ho h.1 h.2.1 h.2.2.1 hs
      · split
        · exact stF_SB (by omega) ho h.1 h.2.1 h.2.2.1 hs
        · split
          · exact pbl_SB _ _ _ hs
          · exact coF_SB (by omega) h6 ho h.2.1 h.2.2.1 hs
theorem RN_k {tx : Nat → Nat} {c : Nat} {D : FD} (h6 : D.1 ≤ 6) (ho : ∀ k, k < D.1 → okR (D.2.1 k)) : ∀ (k j s : Nat) (I : hI) (jj : Nat) (If : hI), WK I → SBd 22 I → RN tx c D k j s I jj If → WK If ∧ SBd 22 If
  | 0, j, s, I, jj, If, hB, hs, hr => hr.elim
  | k + 1, j, s, I, jj, If, hB, hs, hr => by
    obtain ⟨I1, q, u1, hq0, hr⟩ := hr
    have w1 : WK I1 := WK_of hB (fun c h1 h2 => u1 c (by omega) (by omega))
    have s1 : SBd 22 I1 := SBd_of hs (u1 23 (by decide) (by decide)) (u1 24 (by decide) (by decide))
    have w2 := dsF_WK (vb := q.2.1) (vl := q.2.2.1) (fl := q.2.2.2) ho w1
    have s2 := dsF_SB (vb := q.2.1) (vl := q.2.2.1) (fl := q.2.2.2) h6 ho w1 s1
    rcases hr with ⟨_, _, rfl⟩ | ⟨_, ⟨_, _, rfl⟩ | ⟨_, _, _, I3, u3, hr'⟩⟩
    · exact ⟨w2, s2⟩
    · exact ⟨w2, s2⟩
    · exact RN_k h6 ho k (j + 1) _ I3 jj If (WK_of w2 (fun c h1 h2 => u3 c (by omega) (by omega))) (SBd_of s2 (u3 23 (by decide) (by decide)) (u3 24 (by decide) (by decide))) hr'
end CBD

