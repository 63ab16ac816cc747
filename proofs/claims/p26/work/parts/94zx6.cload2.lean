/-! The class's tables (2): a rod, all rods. -/
section CL2
theorem sf_o {I : hI} {c c' k K : Nat} {x : Int32} (h : K ≠ k) : sf I c k x c' K = I c' K := by
  by_cases e : c' = c
  · subst e; exact sf_k h
  · rw [sf_c e]
theorem acF_k {I : hI} {k K c : Nat} {h p : Int32} (hk : k < 240) (hK : K ≠ k) : acF I (nI k) h p c K = I c K := by
  rw [acF_n hk]
  split
  · exact sf_o hK
  · rw [sf_o hK, sf_o hK, sf_o hK]
def PrL (g l : Nat) (l' h : Nat) : Prop := h < g ∨ (h = g ∧ l' < l)
def c1 (D : FD) (v : StV) (i s h l : Nat) : Nat := if alw D v i l h ∧ vl D i l h = s then 1 else 0
def C1 (D : FD) (v : StV) (i s h : Nat) : Nat := smn (c1 D v i s h) ((D.2.1 i).2.2.1 + 1)
def NL (D : FD) (v : StV) (i g l s : Nat) : Nat := smn (C1 D v i s) g + smn (c1 D v i s g) l
theorem slv {D : FD} {i l g : Nat} (hi : i < 6) (hq : okR (D.2.1 i)) (hl : l ≤ (D.2.1 i).2.2.1) (hg : g ≤ (D.2.1 i).2.2.2) : slotF (nI i) (nI l + nI g * nI (hwv (D.2.1 i))) = nI (40 * i + vl D i l g) ∧ vl D i l g < 40 := by
  have h := wv40 hq hl hg
  rw [show nI g * nI (hwv (D.2.1 i)) = nI (g * hwv (D.2.1 i)) from (Int32.ofNat_mul _ _).symm, nI_add, sl_n hi (by omega)]
  exact ⟨rfl, by unfold vl; omega⟩
/-- the places outside of rod i's row -/
abbrev outR (i K : Nat) : Prop := K < 40 * i ∨ 40 * i + 40 ≤ K
theorem lrl_k {D : FD} {a i g K c : Nat} {lo hp : Int32} (hi : i < 6) (hq : okR (D.2.1 i)) (hg : g ≤ (D.2.1 i).2.2.2) (hK : outR i K) : ∀ (k l : Nat) (I : hI), l + k = (D.2.1 i).2.2.1 + 1 → lrl a (D.2.1 i) i lo g hp k l I c K = I c K
  | 0, l, I, hl => rfl
  | k + 1, l, I, hl => by
    have h := slv hi hq (show l ≤ (D.2.1 i).2.2.1 by omega) hg
    unfold lrl
    rw [lrl_k hi hq hg hK k (l + 1) _ (by omega), h.1]
    split
    · rfl
    · exact acF_k (by omega) (by omega)
theorem lrh_k {D : FD} {a i K c : Nat} {lo : Int32} (hi : i < 6) (hq : okR (D.2.1 i)) (hK : outR i K) : ∀ (k g : Nat) (I : hI), g + k = (D.2.1 i).2.2.2 + 1 → lrh a (D.2.1 i) i lo k g I c K = I c K
  | 0, g, I, hg => rfl
  | k + 1, g, I, hg => by
    unfold lrh
    rw [lrh_k hi hq hK k (g + 1) _ (by omega)]
    unfold lrs
    split
    · rfl
    · exact lrl_k hi hq (by omega) hK _ 0 I (by omega)
theorem lrl_v {D : FD} {v : StV} {a i g : Nat} (ha : 8 ≤ a) (hi : i < D.1) (h6 : D.1 ≤ 6) (hq : okR (D.2.1 i)) (hg : g ≤ (D.2.1 i).2.2.2) (hst : v.2.2 i 1 = true → g = v.2.1 i) : ∀ (k l : Nat) (I : hI), l + k = (D.2.1 i).2.2.1 + 1 → CV D v a I → CRw D v i (PrL g l) (NL D v i g l) I → CRw D v i (PrL g ((D.2.1 i).2.2.1 + 1)) (NL D v i g ((D.2.1 i).2.2.1 + 1)) (lrl a (D.2.1 i) i 0 g (nI (ad g (v.2.1 i) * htv (D.2.1 i))) k l I)
  | 0, l, I, hl, hV, h => by
    rw [Nat.add_zero] at hl
    rw [← hl]
    exact h
  | k + 1, l, I, hl, hV, h => by
    have h9 := hq.2.2.1.2
    have h3 := hq.2.2.2.1
    have hs := slv (by omega) hq (show l ≤ (D.2.1 i).2.2.1 by omega) hg
    have hv9 := (hV i hi).2.1
    unfold lrl
    rw [pr0 hV hi (show l ≤ 9 by omega), hs.1]
    by_cases c0 : v.2.2 i 0 = true → l = v.1 i
    · have hal : alw D v i l g := ⟨by omega, hg, c0, hst⟩
      have hc := cst_le hq hv9 hal
      have ec : nI (ad g (v.2.1 i) * htv (D.2.1 i)) + nI (ad l (v.1 i) * ltv (D.2.1 i)) = nI (cst D v i l g) := by
        rw [nI_add, Nat.add_comm]
        rfl
      have hle : ad l (v.1 i) * ltv (D.2.1 i) ≤ 45 := by unfold cst at hc; omega
      rw [if_pos c0, if_neg (show ¬ (1048576 : Int32) ≤ nI (ad l (v.1 i) * ltv (D.2.1 i)) from nI_ge (b := 1048576) (by omega) (by omega)), ec]
      refine lrl_v ha hi h6 hq hg hst k (l + 1) _ (by omega) (CV_of hV (acF_c (by omega) (by omega) (by omega)) (acF_c (by omega) (by omega) (by omega)) (acF_c (by omega) (by omega) (by omega))) ?_
      refine CRw_c (CRw_s (by omega) h (fun l' h' z => ?_) hal hs.2 (by omega)) (fun l' h' _ => ?_) (fun s _ => ?_) (fun _ _ => rfl) (fun _ _ => rfl) (fun _ _ => rfl)
      · rcases z with z | ⟨z, _⟩ <;> omega
      · unfold PrL
        constructor
        · intro z
          rcases z with z | ⟨z, w⟩
          · exact Or.inl (Or.inl z)
          · by_cases e : l' = l
            · exact Or.inr ⟨e, z⟩
            · exact Or.inl (Or.inr ⟨z, by omega⟩)
        · intro z
          rcases z with (z | ⟨z, w⟩) | ⟨z, w⟩
          · exact Or.inl z
          · exact Or.inr ⟨z, by omega⟩
          · exact Or.inr ⟨w, by omega⟩
      · have e1 : c1 D v i s g l = if vl D i l g = s then 1 else 0 := by
          unfold c1
          by_cases e : vl D i l g = s
          · rw [if_pos ⟨hal, e⟩, if_pos e]
          · rw [if_neg (fun z => e z.2), if_neg e]
        show smn (C1 D v i s) g + (smn (c1 D v i s g) l + c1 D v i s g l) = smn (C1 D v i s) g + smn (c1 D v i s g) l + _
        rw [e1, Nat.add_assoc]
    · rw [if_neg c0, if_pos (by decide)]
      refine lrl_v ha hi h6 hq hg hst k (l + 1) _ (by omega) hV (CRw_c h (fun l' h' al => ?_) (fun s _ => ?_) (fun _ _ => rfl) (fun _ _ => rfl) (fun _ _ => rfl))
      · unfold PrL
        constructor
        · intro z
          rcases z with z | ⟨z, w⟩
          · exact Or.inl z
          · by_cases e : l' = l
            · exact absurd (fun y => by rw [← e]; exact al.2.2.1 y) c0
            · exact Or.inr ⟨z, by omega⟩
        · intro z
          rcases z with z | ⟨z, w⟩
          · exact Or.inl z
          · exact Or.inr ⟨z, by omega⟩
      · have e1 : c1 D v i s g l = 0 := if_neg (fun z => c0 z.1.2.2.1)
        show smn (C1 D v i s) g + (smn (c1 D v i s g) l + c1 D v i s g l) = _
        rw [e1]
        rfl
theorem lrh_v {D : FD} {v : StV} {a i : Nat} (ha : 8 ≤ a) (hi : i < D.1) (h6 : D.1 ≤ 6) (hq : okR (D.2.1 i)) : ∀ (k g : Nat) (I : hI), g + k = (D.2.1 i).2.2.2 + 1 → CV D v a I → CRw D v i (PrL g 0) (NL D v i g 0) I → CRw D v i (PrL ((D.2.1 i).2.2.2 + 1) 0) (NL D v i ((D.2.1 i).2.2.2 + 1) 0) (lrh a (D.2.1 i) i 0 k g I)
  | 0, g, I, hg, hV, h => by
    rw [Nat.add_zero] at hg
    rw [← hg]
    exact h
  | k + 1, g, I, hg, hV, h => by
    have h9 := hq.2.2.1.2
    have h3 := hq.2.2.2.1
    unfold lrh
    have kc : ∀ c, 8 ≤ c → lrs a (D.2.1 i) i 0 g I c = I c := fun c hc => lrs_c (by omega) (by omega) (by omega)
    refine lrh_v ha hi h6 hq k (g + 1) _ (by omega) (CV_of hV (kc _ ha) (kc _ (by omega)) (kc _ (by omega))) ?_
    unfold lrs
    rw [pr1 hV hi (show g ≤ 9 by omega)]
    have hv9 := (hV i hi).2.1
    by_cases c0 : v.2.2 i 1 = true → g = v.2.1 i
    · have hle := Nat.mul_le_mul (ad_le (show g ≤ 9 by omega) hv9.2) (htv_b (D.2.1 i)).2
      rw [if_pos c0, if_neg (show ¬ (1048576 : Int32) ≤ nI (ad g (v.2.1 i) * htv (D.2.1 i)) from nI_ge (b := 1048576) (by omega) (by omega))]
      refine CRw_c (lrl_v ha hi h6 hq (by omega) c0 _ 0 I (by omega) hV h) (fun l' h' al => ?_) (fun s _ => rfl) (fun _ _ => rfl) (fun _ _ => rfl) (fun _ _ => rfl)
      have := al.1
      unfold PrL
      omega
    · rw [if_neg c0, if_pos (by decide)]
      refine CRw_c h (fun l' h' al => ?_) (fun s _ => ?_) (fun _ _ => rfl) (fun _ _ => rfl) (fun _ _ => rfl)
      · have : h' ≠ g := fun e => c0 (by rw [← e]; exact al.2.2.2)
        unfold PrL
        omega
      · have e1 : C1 D v i s g = 0 := smn_0 _ (fun l _ => if_neg (fun z => c0 z.1.2.2.2))
        show smn (C1 D v i s) g + C1 D v i s g + 0 = smn (C1 D v i s) g + 0
        rw [e1]
end CL2

