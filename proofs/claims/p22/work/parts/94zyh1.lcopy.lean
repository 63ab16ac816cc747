/-! loosen: the class's tables when parts may be loosened (written by lcopy.py out of 94zx1 to 94zx9). -/
section LCP
/-- any choice within the rod -/
abbrev alwL (D : FD) (_ : StV) (i l h : Nat) : Prop := l ≤ (D.2.1 i).2.2.1 ∧ h ≤ (D.2.1 i).2.2.2
def pL0 (v : StV) (i l : Nat) : Nat := if v.2.2 i 0 = true ∧ l ≠ v.1 i then 4096 + 2 ^ (2 * (i % 6)) else 0
def pL1 (v : StV) (i h : Nat) : Nat := if v.2.2 i 1 = true ∧ h ≠ v.2.1 i then 4096 + 2 ^ (2 * (i % 6) + 1) else 0
def cstL (_ : FD) (v : StV) (i l h : Nat) : Nat := pL0 v i l + pL1 v i h
theorem p6_b (i : Nat) : 2 ^ (2 * (i % 6)) ≤ 1024 ∧ 2 ^ (2 * (i % 6) + 1) ≤ 2048 := by
  have h := Nat.mod_lt i (show 0 < 6 by decide)
  rcases (show i % 6 = 0 ∨ i % 6 = 1 ∨ i % 6 = 2 ∨ i % 6 = 3 ∨ i % 6 = 4 ∨ i % 6 = 5 by omega) with e | e | e | e | e | e <;> rw [e] <;> decide
theorem pL_b (v : StV) (i n : Nat) : pL0 v i n ≤ 5120 ∧ pL1 v i n ≤ 6144 := by
  have b := p6_b i
  unfold pL0 pL1
  refine ⟨?_, ?_⟩
  · split <;> omega
  · split <;> omega
theorem cst_leL {D : FD} {v : StV} {i l h : Nat} (_ : okR (D.2.1 i)) (_ : v.1 i ≤ 9 ∧ v.2.1 i ≤ 9) (_ : alwL D v i l h) : cstL D v i l h ≤ 11264 := by
  have b1 := (pL_b v i l).1
  have b2 := (pL_b v i h).2
  unfold cstL
  omega
/-- t is what a way costs to show x by k rods from i on -/
def WYL (D : FD) (v : StV) : Nat → Nat → Nat → Nat → Prop
  | 0, _, x, t => x = 0 ∧ t = 0
  | k + 1, i, x, t => ∃ l h y t', alwL D v i l h ∧ x = vl D i l h + y * bs D i ∧ WYL D v k (i + 1) y t' ∧ t = cstL D v i l h + t'
theorem WY_leL {D : FD} {v : StV} (ho : ∀ i, i < D.1 → okR (D.2.1 i)) (hv : ∀ i, i < D.1 → v.1 i ≤ 9 ∧ v.2.1 i ≤ 9) : ∀ (k i x t : Nat), i + k ≤ D.1 → WYL D v k i x t → t ≤ 11264 * k
  | 0, i, x, t, hi, h => by rw [h.2]; omega
  | k + 1, i, x, t, hi, h => by
    obtain ⟨l, hh, y, t', ha, _, hw, e⟩ := h
    have h1 := cst_leL (ho i (by omega)) (hv i (by omega)) ha
    have h2 := WY_leL ho hv k (i + 1) y t' (by omega) hw
    omega
/-- the same over numbers below 0: none -/
def WYzL (D : FD) (v : StV) (k i : Nat) (z : Int) (t : Nat) : Prop := 0 ≤ z ∧ WYL D v k i z.toNat t
/-- what the row of rod i holds when the choices of Pr are in -/
def CRwL (D : FD) (v : StV) (i : Nat) (Pr : Nat → Nat → Prop) (N : Nat → Nat) (I : hI) : Prop := ∀ s, s < 40 → I 7 (40 * i + s) = nI (N s) ∧ ∃ m, I 5 (40 * i + s) = nI m ∧ m ≤ 1048576 ∧ isMin 1048576 (fun t => ∃ l h, Pr l h ∧ alwL D v i l h ∧ vl D i l h = s ∧ t = cstL D v i l h) m ∧ (m < 1048576 → ∃ g, I 6 (40 * i + s) = nI g ∧ isF (fun h => ∃ l, Pr l h ∧ alwL D v i l h ∧ vl D i l h = s ∧ m = cstL D v i l h) g)
theorem CRw_cL {D : FD} {v : StV} {i : Nat} {Pr Pr' : Nat → Nat → Prop} {N N' : Nat → Nat} {I I' : hI} (h : CRwL D v i Pr N I) (e : ∀ l h, alwL D v i l h → (Pr' l h ↔ Pr l h)) (en : ∀ s, s < 40 → N' s = N s) (e5 : ∀ s, s < 40 → I' 5 (40 * i + s) = I 5 (40 * i + s)) (e6 : ∀ s, s < 40 → I' 6 (40 * i + s) = I 6 (40 * i + s)) (e7 : ∀ s, s < 40 → I' 7 (40 * i + s) = I 7 (40 * i + s)) : CRwL D v i Pr' N' I' := fun s hs => by
  obtain ⟨a, m, b, b', c, d⟩ := h s hs
  rw [e5 s hs, e6 s hs, e7 s hs, en s hs]
  refine ⟨a, m, b, b', min_c c (fun t => ⟨fun ⟨l, h, x, y, z⟩ => ⟨l, h, (e l h y).mp x, y, z⟩, fun ⟨l, h, x, y, z⟩ => ⟨l, h, (e l h y).mpr x, y, z⟩⟩), fun hm => ?_⟩
  obtain ⟨g, eg, f1, f2⟩ := d hm
  obtain ⟨l, x, y, z⟩ := f1
  exact ⟨g, eg, ⟨l, (e l g y).mpr x, y, z⟩, fun j hj ⟨l, x, y, z⟩ => f2 j hj ⟨l, (e l j y).mp x, y, z⟩⟩
/-- one choice more -/
theorem CRw_sL {D : FD} {v : StV} {i l0 g0 : Nat} {Pr : Nat → Nat → Prop} {N : Nat → Nat} {I : hI} (hi : i < 6) (h : CRwL D v i Pr N I) (hp : ∀ l h, Pr l h → h ≤ g0) (ha : alwL D v i l0 g0) (hv : vl D i l0 g0 < 40) (hc : cstL D v i l0 g0 < 1048576) :
    CRwL D v i (fun l h => Pr l h ∨ (l = l0 ∧ h = g0)) (fun s => N s + if vl D i l0 g0 = s then 1 else 0) (acF I (nI (40 * i + vl D i l0 g0)) (nI g0) (nI (cstL D v i l0 g0))) := by
  rw [acF_n (by omega)]
  intro s hs
  obtain ⟨a, m, b, b', c, d⟩ := h s hs
  by_cases es : vl D i l0 g0 = s
  · rw [es]
    have e1 : I 7 (40 * i + s) + 1 = nI (N s + 1) := by rw [a]; exact nI_1 _
    dsimp only
    rw [if_pos rfl, b]
    by_cases c1L : m ≤ cstL D v i l0 g0
    · rw [if_pos (nI_le c1L (by omega))]
      refine ⟨by rw [sf_s]; exact e1, m, by rw [sf_c (by decide)]; exact b, b', ⟨fun t ⟨l, h, x, y, z, w⟩ => ?_, ?_⟩, fun hm => ?_⟩
      · rcases x with x | ⟨rfl, rfl⟩
        · exact c.1 t ⟨l, h, x, y, z, w⟩
        · omega
      · rcases c.2 with ⟨l, h, x, y, z⟩ | ⟨x, y⟩
        · exact Or.inl ⟨l, h, Or.inl x, y, z⟩
        · omega
      · obtain ⟨g, eg, ⟨l, x, y, z⟩, f2⟩ := d hm
        refine ⟨g, by rw [sf_c (by decide)]; exact eg, ⟨l, Or.inl x, y, z⟩, fun j hj ⟨l', x', y', z'⟩ => ?_⟩
        rcases x' with x' | ⟨rfl, rfl⟩
        · exact f2 j hj ⟨l', x', y', z'⟩
        · have := hp l g x
          omega
    · rw [if_neg (nI_ge (by omega) (by omega))]
      refine ⟨by rw [sf_c (by decide), sf_c (by decide), sf_s]; exact e1, cstL D v i l0 g0, by rw [sf_c (by decide), sf_s], by omega, ⟨fun t ⟨l, h, x, y, z, w⟩ => ?_, Or.inl ⟨l0, g0, Or.inr ⟨rfl, rfl⟩, ha, es, rfl⟩⟩, fun hm => ⟨g0, by rw [sf_s], ⟨l0, Or.inr ⟨rfl, rfl⟩, ha, es, rfl⟩, fun j hj ⟨l, x, y, z, w⟩ => ?_⟩⟩
      · rcases x with x | ⟨rfl, rfl⟩
        · have := c.1 t ⟨l, h, x, y, z, w⟩
          omega
        · omega
      · rcases x with x | ⟨rfl, rfl⟩
        · have := c.1 _ ⟨l, j, x, y, z, w⟩
          omega
        · omega
  · dsimp only
    rw [if_neg es, Nat.add_zero]
    have k7 : ∀ (J : hI) (c : Nat) (x : Int32), sf J c (40 * i + vl D i l0 g0) x c (40 * i + s) = J c (40 * i + s) := fun J c x => sf_k (by omega)
    have hI : ∀ c, c = 5 ∨ c = 6 ∨ c = 7 → (if I 5 (40 * i + vl D i l0 g0) ≤ nI (cstL D v i l0 g0) then sf I 7 (40 * i + vl D i l0 g0) (I 7 (40 * i + vl D i l0 g0) + 1) else sf (sf (sf I 7 (40 * i + vl D i l0 g0) (I 7 (40 * i + vl D i l0 g0) + 1)) 5 (40 * i + vl D i l0 g0) (nI (cstL D v i l0 g0))) 6 (40 * i + vl D i l0 g0) (nI g0)) c (40 * i + s) = I c (40 * i + s) := fun c hc => by
      split
      · rcases hc with rfl | rfl | rfl
        · rw [sf_c (by decide)]
        · rw [sf_c (by decide)]
        · rw [k7]
      · rcases hc with rfl | rfl | rfl
        · rw [sf_c (by decide), k7, sf_c (by decide)]
        · rw [k7, sf_c (by decide), sf_c (by decide)]
        · rw [sf_c (by decide), sf_c (by decide), k7]
    rw [hI 5 (by decide), hI 6 (by decide), hI 7 (by decide)]
    have hn : ∀ l h, (Pr l h ∨ l = l0 ∧ h = g0) → vl D i l h = s → Pr l h := fun l h x z => x.resolve_right (fun w => es (by rw [← w.1, ← w.2]; exact z))
    refine ⟨a, m, b, b', min_c c (fun t => ⟨fun ⟨l, h, x, y, z, w⟩ => ⟨l, h, hn l h x z, y, z, w⟩, fun ⟨l, h, x, y⟩ => ⟨l, h, Or.inl x, y⟩⟩), fun hm => ?_⟩
    obtain ⟨g, eg, ⟨l, x, y⟩, f2⟩ := d hm
    exact ⟨g, eg, ⟨l, Or.inl x, y⟩, fun j hj ⟨l, x, y, z, w⟩ => f2 j hj ⟨l, hn l j x z, y, z, w⟩⟩
def c1L (D : FD) (v : StV) (i s h l : Nat) : Nat := if alwL D v i l h ∧ vl D i l h = s then 1 else 0
def C1L (D : FD) (v : StV) (i s h : Nat) : Nat := smn (c1L D v i s h) ((D.2.1 i).2.2.1 + 1)
def NLL (D : FD) (v : StV) (i g l s : Nat) : Nat := smn (C1L D v i s) g + smn (c1L D v i s g) l
theorem bitF_n {i : Nat} (hi : i < 6) : bitF (nI i) 0 = nI (2 ^ (2 * (i % 6))) ∧ bitF (nI i) 1 = nI (2 ^ (2 * (i % 6) + 1)) := by
  rcases (show i = 0 ∨ i = 1 ∨ i = 2 ∨ i = 3 ∨ i = 4 ∨ i = 5 by omega) with rfl | rfl | rfl | rfl | rfl | rfl <;> exact ⟨rfl, rfl⟩
theorem pr_L {I : hI} {a i n b B : Nat} {q : RD4} {p : Int32} {s : Bool} (hb : bdF I a i p = nI b) (hs : I a 2 &&& bitF (nI i) p = 0 ↔ ¬ s = true) (hB : bitF (nI i) p = nI B) (hn : n ≤ 9) (hb9 : b ≤ 9) : priceF I a q i p (nI n) 1 = nI (if s = true ∧ n ≠ b then 4096 + B else 0) := by
  have eo : offF I a i p (nI n) = nI (ad n b) := by unfold offF; rw [hb]; exact off_v hn hb9
  have h9 := ad_le hn hb9
  have z1 : ¬ (1 : Int32) = 0 := by decide
  unfold priceF
  rw [eo]
  by_cases c : I a 2 &&& bitF (nI i) p = 0
  · rw [if_pos c, if_neg z1, if_neg (fun z => hs.mp c z.1)]
    rfl
  · have hst : s = true := by
      cases s
      · exact absurd (hs.mpr (by decide)) c
      · rfl
    rw [if_neg c, if_neg z1]
    have h0 : nI (ad n b) ≤ 0 ↔ n = b := by
      rw [fi_le, nI_toInt (by omega)]
      have z0 : (0 : Int32).toInt = 0 := rfl
      unfold ad
      split <;> omega
    by_cases e : n = b
    · rw [if_pos (h0.mpr e), if_neg (fun z => z.2 e)]
      rfl
    · rw [if_neg (fun z => e (h0.mp z)), if_pos ⟨hst, e⟩, hB, show (4096 : Int32) = nI 4096 from rfl, nI_add]
theorem pr0L {I : hI} {D : FD} {v : StV} {a i n : Nat} (hV : CV D v a I) (hi : i < D.1) (h6 : D.1 ≤ 6) (hn : n ≤ 9) : priceF I a (D.2.1 i) i 0 (nI n) 1 = nI (pL0 v i n) := by
  obtain ⟨⟨e1, e2⟩, ⟨b1, b2⟩, s1, s2⟩ := hV i hi
  exact pr_L (by unfold bdF; rw [if_neg (by decide)]; exact e1) s1 (bitF_n (by omega)).1 hn b1
theorem pr1L {I : hI} {D : FD} {v : StV} {a i n : Nat} (hV : CV D v a I) (hi : i < D.1) (h6 : D.1 ≤ 6) (hn : n ≤ 9) : priceF I a (D.2.1 i) i 1 (nI n) 1 = nI (pL1 v i n) := by
  obtain ⟨⟨e1, e2⟩, ⟨b1, b2⟩, s1, s2⟩ := hV i hi
  exact pr_L (by unfold bdF; rw [if_pos rfl]; exact e2) s2 (bitF_n (by omega)).2 hn b2
theorem lrl_vL {D : FD} {v : StV} {a i g : Nat} (ha : 8 ≤ a) (hi : i < D.1) (h6 : D.1 ≤ 6) (hq : okR (D.2.1 i)) (hg : g ≤ (D.2.1 i).2.2.2) : ∀ (k l : Nat) (I : hI), l + k = (D.2.1 i).2.2.1 + 1 → CV D v a I → CRwL D v i (PrL g l) (NLL D v i g l) I → CRwL D v i (PrL g ((D.2.1 i).2.2.1 + 1)) (NLL D v i g ((D.2.1 i).2.2.1 + 1)) (lrl a (D.2.1 i) i 1 g (nI (pL1 v i g)) k l I)
  | 0, l, I, hl, hV, h => by
    rw [Nat.add_zero] at hl
    rw [← hl]
    exact h
  | k + 1, l, I, hl, hV, h => by
    have h9 := hq.2.2.1.2
    have hs := slv (by omega) hq (show l ≤ (D.2.1 i).2.2.1 by omega) hg
    have hv9 := (hV i hi).2.1
    have hal : alwL D v i l g := ⟨by omega, hg⟩
    have hc := cst_leL hq hv9 hal
    have b0 := (pL_b v i l).1
    unfold lrl
    have ec : nI (pL1 v i g) + nI (pL0 v i l) = nI (cstL D v i l g) := by
      rw [nI_add, Nat.add_comm]
      rfl
    rw [pr0L hV hi h6 (show l ≤ 9 by omega), hs.1, if_neg (show ¬ (1048576 : Int32) ≤ nI (pL0 v i l) from nI_ge (b := 1048576) (by omega) (by omega)), ec]
    refine lrl_vL ha hi h6 hq hg k (l + 1) _ (by omega) (CV_of hV (acF_c (by omega) (by omega) (by omega)) (acF_c (by omega) (by omega) (by omega)) (acF_c (by omega) (by omega) (by omega))) ?_
    refine CRw_cL (CRw_sL (by omega) h (fun l' h' z => ?_) hal hs.2 (by omega)) (fun l' h' _ => ?_) (fun s _ => ?_) (fun _ _ => rfl) (fun _ _ => rfl) (fun _ _ => rfl)
    · rcases z with z | ⟨z, _⟩ <;> omega
    · unfold PrL
      constructor
      · intro z
        rcases z with z | ⟨z, w⟩
        · exact Or.inl (Or.inl z)
        · by_cases e : l' = l
          · exact Or.inr ⟨e, z⟩
          · exact Or.inl (Or.inr ⟨z, by omega⟩)
      · intro z
        rcases z with (z | ⟨z, w⟩) | ⟨z, w⟩
        · exact Or.inl z
        · exact Or.inr ⟨z, by omega⟩
        · exact Or.inr ⟨w, by omega⟩
    · have e1 : c1L D v i s g l = if vl D i l g = s then 1 else 0 := by
        unfold c1L
        by_cases e : vl D i l g = s
        · rw [if_pos ⟨hal, e⟩, if_pos e]
        · rw [if_neg (fun z => e z.2), if_neg e]
      show smn (C1L D v i s) g + (smn (c1L D v i s g) l + c1L D v i s g l) = smn (C1L D v i s) g + smn (c1L D v i s g) l + _
      rw [e1, Nat.add_assoc]
theorem lrh_vL {D : FD} {v : StV} {a i : Nat} (ha : 8 ≤ a) (hi : i < D.1) (h6 : D.1 ≤ 6) (hq : okR (D.2.1 i)) : ∀ (k g : Nat) (I : hI), g + k = (D.2.1 i).2.2.2 + 1 → CV D v a I → CRwL D v i (PrL g 0) (NLL D v i g 0) I → CRwL D v i (PrL ((D.2.1 i).2.2.2 + 1) 0) (NLL D v i ((D.2.1 i).2.2.2 + 1) 0) (lrh a (D.2.1 i) i 1 k g I)
  | 0, g, I, hg, hV, h => by
    rw [Nat.add_zero] at hg
    rw [← hg]
    exact h
  | k + 1, g, I, hg, hV, h => by
    have h3 := hq.2.2.2.1
    unfold lrh
    have kc : ∀ c, 8 ≤ c → lrs a (D.2.1 i) i 1 g I c = I c := fun c hc => lrs_c (by omega) (by omega) (by omega)
    refine lrh_vL ha hi h6 hq k (g + 1) _ (by omega) (CV_of hV (kc _ ha) (kc _ (by omega)) (kc _ (by omega))) ?_
    unfold lrs
    have b1 := (pL_b v i g).2
    rw [pr1L hV hi h6 (show g ≤ 9 by omega), if_neg (show ¬ (1048576 : Int32) ≤ nI (pL1 v i g) from nI_ge (b := 1048576) (by omega) (by omega))]
    refine CRw_cL (lrl_vL ha hi h6 hq (by omega) _ 0 I (by omega) hV h) (fun l' h' al => ?_) (fun s _ => rfl) (fun _ _ => rfl) (fun _ _ => rfl) (fun _ _ => rfl)
    have := al.1
    unfold PrL
    omega
def BDL (D : FD) (v : StV) (i : Nat) (I : hI) : Prop := ∃ f M, I 11 i = nI f ∧ I 10 i = nI M ∧ f + 3 ≤ 3 * 16 ^ (D.1 - i) ∧ M + 3 ≤ 3 * 16 ^ (D.1 - i) ∧ ∀ x t, WYL D v (D.1 - i) i x t → f ≤ x ∧ x ≤ M
/-- how many choices show s by rod i -/
def NwL (D : FD) (v : StV) (i s : Nat) : Nat := smn (C1L D v i s) ((D.2.1 i).2.2.2 + 1)
def FTrL (D : FD) (v : StV) (i : Nat) (I : hI) : Prop := CRwL D v i (fun _ _ => True) (NwL D v i) I ∧ I 8 i = nI (D.2.1 i).2.1 ∧ I 9 i = nI (hwv (D.2.1 i))
theorem lbF_vL {D : FD} {v : StV} {i : Nat} {I : hI} (hi : i < D.1) (h6 : D.1 ≤ 6) (ho : ∀ i, i < D.1 → okR (D.2.1 i)) (hv : ∀ i, i < D.1 → v.1 i ≤ 9 ∧ v.2.1 i ≤ 9) (h : FTrL D v i I) (hb : BDL D v (i + 1) I) : BDL D v i (lbF I i (nI (D.2.1 i).2.1)) := by
  obtain ⟨f, M, e1, e2, b1, b2, hw⟩ := hb
  obtain ⟨le, gr, el, l1, l2, l3⟩ := lbl_v (I := I) (i := nI i) 40 0 40 0 (by omega) (by omega) (by omega) (fun j hj => absurd hj (Nat.not_lt_zero j))
  have el' : lbl I (nI i) 40 0 40 0 = (nI le, nI gr) := el
  have hq := ho i hi
  have hb16 := hq.2.1.2
  have hp := p16 (k := D.1 - (i + 1)) (by omega)
  have ep : 16 ^ (D.1 - i) = 16 ^ (D.1 - (i + 1)) * 16 := by rw [← Nat.pow_succ]; congr 1; omega
  have m1 : (D.2.1 i).2.1 * f ≤ 16 * f := Nat.mul_le_mul_right _ hb16
  have m2 : (D.2.1 i).2.1 * M ≤ 16 * M := Nat.mul_le_mul_right _ hb16
  refine ⟨le + (D.2.1 i).2.1 * f, gr + (D.2.1 i).2.1 * M, ?_, ?_, by omega, by omega, fun x t hx => ?_⟩
  · unfold lbF
    rw [el', sf_s, nI_1, am_rdK rfl (by omega) (by decide), e1, show nI (D.2.1 i).2.1 * nI f = nI ((D.2.1 i).2.1 * f) from (Int32.ofNat_mul _ _).symm, nI_add]
  · unfold lbF
    rw [el', sf_c (by decide), sf_s, nI_1, am_rdK rfl (by omega) (by decide), e2, show nI (D.2.1 i).2.1 * nI M = nI ((D.2.1 i).2.1 * M) from (Int32.ofNat_mul _ _).symm, nI_add]
  · rw [show D.1 - i = D.1 - (i + 1) + 1 by omega] at hx
    obtain ⟨l, g, y, t', ha, e, hy, _⟩ := hx
    have h40 : vl D i l g < 40 := (slv (by omega) hq ha.1 ha.2).2
    obtain ⟨_, m, c5, _, cm, _⟩ := h.1 _ h40
    have hc := cst_leL hq (hv i hi) ha
    have hm := cm.1 _ ⟨l, g, trivial, ha, rfl, rfl⟩
    have h3 := l3 _ h40 (by rw [cost_n (by omega) h40, c5]; exact nI_ge (b := 1048576) (by omega) (by omega))
    have hy2 := hw y t' hy
    have p1 := Nat.mul_le_mul_left (D.2.1 i).2.1 hy2.1
    have p2 := Nat.mul_le_mul_left (D.2.1 i).2.1 hy2.2
    have p3 : y * bs D i = (D.2.1 i).2.1 * y := Nat.mul_comm _ _
    omega
theorem ini_CRL {D : FD} {v : StV} {i : Nat} {I : hI} (h : iniR i I) : CRwL D v i (PrL 0 0) (NLL D v i 0 0) I := fun s hs => ⟨(h s hs).2, 1048576, (h s hs).1, Nat.le_refl _, min_0 _ (fun t ⟨l, g, x, _⟩ => by rcases x with x | ⟨_, x⟩ <;> omega), fun z => by omega⟩
theorem lrF_vL {D : FD} {v : StV} {a i : Nat} {I : hI} (ha : 12 ≤ a) (hi : i < D.1) (h6 : D.1 ≤ 6) (hq : okR (D.2.1 i)) (hV : CV D v a I) (h : iniR i I) : FTrL D v i (lrF I a (D.2.1 i) i 1) := by
  unfold lrF
  refine ⟨?_, ?_, ?_⟩
  · refine CRw_cL (lrh_vL (v := v) (by omega) hi h6 hq _ 0 _ (by omega) (CV_of hV ?_ ?_ ?_) (ini_CRL (fun s hs => ?_))) (fun l g al => ⟨fun _ => Or.inl ?_, fun _ => trivial⟩) (fun s _ => rfl) (fun _ _ => rfl) (fun _ _ => rfl) (fun _ _ => rfl)
    · rw [sf_c (by omega), sf_c (by omega)]
    · rw [sf_c (by omega), sf_c (by omega)]
    · rw [sf_c (by omega), sf_c (by omega)]
    · rw [sf_c (by decide), sf_c (by decide), sf_c (by decide), sf_c (by decide)]
      exact h s hs
    · have := al.2; omega
  · rw [lrh_c (by decide) (by decide) (by decide), sf_c (by decide), sf_s]
  · rw [lrh_c (by decide) (by decide) (by decide), sf_s]
theorem FTr_ofL {D : FD} {v : StV} {i : Nat} {I I' : hI} (h : FTrL D v i I) (e : ∀ s, s < 40 → ∀ c, c = 5 ∨ c = 6 ∨ c = 7 → I' c (40 * i + s) = I c (40 * i + s)) (e8 : I' 8 i = I 8 i) (e9 : I' 9 i = I 9 i) : FTrL D v i I' :=
  ⟨CRw_cL h.1 (fun _ _ _ => Iff.rfl) (fun _ _ => rfl) (fun s hs => e s hs 5 (by decide)) (fun s hs => e s hs 6 (by decide)) (fun s hs => e s hs 7 (by decide)), e8.trans h.2.1, e9.trans h.2.2⟩
theorem BD_ofL {D : FD} {v : StV} {i : Nat} {I I' : hI} (h : BDL D v i I) (e0 : I' 10 i = I 10 i) (e1 : I' 11 i = I 11 i) : BDL D v i I' := by
  unfold BDL at h ⊢
  rw [e0, e1]
  exact h
theorem ldl_vL {D : FD} {v : StV} {a : Nat} (ha : 12 ≤ a) (h6 : D.1 ≤ 6) (ho : ∀ i, i < D.1 → okR (D.2.1 i)) : ∀ (i : Nat) (I : hI), i ≤ D.1 → CV D v a I → (∀ q, q < i → iniR q I) → (∀ q, i ≤ q → q < D.1 → FTrL D v q I) → (∀ q, i ≤ q → q ≤ D.1 → BDL D v q I) → (∀ q, q < D.1 → FTrL D v q (ldl D a 1 i I)) ∧ ∀ q, q ≤ D.1 → BDL D v q (ldl D a 1 i I)
  | 0, I, hi, hV, h1, h2, h3 => ⟨fun q => h2 q (by omega), fun q => h3 q (by omega)⟩
  | i + 1, I, hi, hV, h1, h2, h3 => by
    have hq := ho i (by omega)
    have hvb : ∀ i, i < D.1 → v.1 i ≤ 9 ∧ v.2.1 i ≤ 9 := fun i hi => (hV i hi).2.1
    have hF := lrF_vL (I := I) ha (show i < D.1 by omega) h6 hq hV (h1 i (by omega))
    have k10 : ∀ c, 10 ≤ c → lrF I a (D.2.1 i) i 1 c = I c := fun c hc => lrF_c (by omega) (by omega) (by omega) (by omega) (by omega)
    have hB := lbF_vL (show i < D.1 by omega) h6 ho hvb hF (BD_ofL (h3 (i + 1) (by omega) hi) (by rw [k10 10 (by omega)]) (by rw [k10 11 (by omega)]))
    have hk : ∀ c, c ≠ 10 → c ≠ 11 → lbF (lrF I a (D.2.1 i) i 1) i (nI (D.2.1 i).2.1) c = lrF I a (D.2.1 i) i 1 c := fun c x y => lbF_c x y
    have kA : ∀ c, 12 ≤ c → lbF (lrF I a (D.2.1 i) i 1) i (nI (D.2.1 i).2.1) c = I c := fun c hc => by rw [hk c (by omega) (by omega), k10 c (by omega)]
    unfold ldl
    refine ldl_vL ha h6 ho i _ (by omega) (CV_of hV (kA _ ha) (kA _ (by omega)) (kA _ (by omega))) (fun q hq' s hs => ?_) (fun q q1 q2 => ?_) (fun q q1 q2 => ?_)
    · have o := lrF_o (I := I) (a := a) (lo := 1) (show i < 6 by omega) hq (show q ≠ i by omega)
      rw [hk 5 (by decide) (by decide), hk 7 (by decide) (by decide), o.1 s hs 5 (by decide), o.1 s hs 7 (by decide)]
      exact h1 q (by omega) s hs
    · by_cases e : q = i
      · subst e
        exact FTr_ofL hF (fun s hs c hc => by rw [hk c (by omega) (by omega)]) (by rw [hk 8 (by decide) (by decide)]) (by rw [hk 9 (by decide) (by decide)])
      · have o := lrF_o (I := I) (a := a) (lo := 1) (show i < 6 by omega) hq (show q ≠ i by omega)
        exact FTr_ofL (h2 q (by omega) q2) (fun s hs c hc => by rw [hk c (by omega) (by omega), o.1 s hs c hc]) (by rw [hk 8 (by decide) (by decide), o.2.1]) (by rw [hk 9 (by decide) (by decide), o.2.2])
    · by_cases e : q = i
      · subst e; exact hB
      · refine BD_ofL (h3 q (by omega) q2) ?_ ?_
        · unfold lbF
          rw [sf_c (by decide), sf_k e, k10 10 (by omega)]
        · unfold lbF
          rw [sf_k e, sf_c (by decide), k10 11 (by omega)]
/-- what load leaves -/
theorem ldF_vL {D : FD} {v : StV} {a : Nat} {I : hI} (ha : 12 ≤ a) (h6 : D.1 ≤ 6) (ho : ∀ i, i < D.1 → okR (D.2.1 i)) (hV : CV D v a I) : (∀ q, q < D.1 → FTrL D v q (ldF I D a 1)) ∧ ∀ q, q ≤ D.1 → BDL D v q (ldF I D a 1) := by
  unfold ldF
  have kA : ∀ c, 12 ≤ c → ldI I D.1 c = I c := fun c hc => ldI_c (by omega) (by omega) (by omega) (by omega) (by omega)
  refine ldl_vL ha h6 ho D.1 _ (Nat.le_refl _) (CV_of hV (kA _ ha) (kA _ (by omega)) (kA _ (by omega))) (fun q hq s hs => ?_) (fun q q1 q2 => by omega) (fun q q1 q2 => ?_)
  · unfold ldI
    refine ⟨?_, ?_⟩
    · rw [sf_c (by decide), sf_c (by decide), up_ne (by decide), up_same]
      unfold am_fill
      rw [if_pos (by omega)]
      rfl
    · rw [sf_c (by decide), sf_c (by decide), up_same]
      unfold am_fill
      rw [if_pos (by omega)]
      rfl
  · have e : q = D.1 := by omega
    subst e
    refine ⟨0, 0, ?_, ?_, ?_, ?_, fun x t h => ?_⟩
    · unfold ldI; rw [sf_s]; rfl
    · unfold ldI; rw [sf_c (by decide), sf_s]; rfl
    · rw [Nat.sub_self]; decide
    · rw [Nat.sub_self]; decide
    · rw [Nat.sub_self] at h
      have := h.1
      omega
/-- the costs by which rod i shows u -/
def HCL (D : FD) (v : StV) (i u t : Nat) : Prop := ∃ l h, alwL D v i l h ∧ vl D i l h = u ∧ t = cstL D v i l h
/-- ways whose rod i shows less than s -/
def WPL (D : FD) (v : StV) (k i left s t : Nat) : Prop := ∃ u y t1 t', u < s ∧ left = u + y * bs D i ∧ HCL D v i u t1 ∧ WYL D v k (i + 1) y t' ∧ t = t1 + t'
theorem WP_allL {D : FD} {v : StV} {k i left s t : Nat} (hi : i < D.1) (h6 : D.1 ≤ 6) (hq : okR (D.2.1 i)) (hs : 40 ≤ s ∨ left < s) : WPL D v k i left s t ↔ WYL D v (k + 1) i left t := by
  constructor
  · intro ⟨u, y, t1, t', _, e, ⟨l, h, ha, eu, e1⟩, hw, et⟩
    exact ⟨l, h, y, t', ha, by rw [eu]; exact e, hw, by rw [← e1]; exact et⟩
  · intro ⟨l, h, y, t', ha, e, hw, et⟩
    have h40 := (slv (D := D) (i := i) (by omega) hq ha.1 ha.2).2
    exact ⟨vl D i l h, y, _, t', by omega, e, ⟨l, h, ha, rfl, rfl⟩, hw, et⟩
/-- what the tables, the aim and the memo hold -/
def TblL (D : FD) (v : StV) (tp : Nat → Nat) (I : hI) : Prop := D.1 ≤ 6 ∧ (∀ i, i < D.1 → okR (D.2.1 i)) ∧ (∀ i, i < D.1 → v.1 i ≤ 9 ∧ v.2.1 i ≤ 9) ∧ I 4 13 = nI D.1 ∧ (∀ q, q < D.1 → FTrL D v q I) ∧ (∀ q, q ≤ D.1 → BDL D v q I) ∧ (∀ q, q < D.1 → tp q < 2 ^ 31) ∧ (∀ q, q + 1 < D.1 → tp (q + 1) = tp q / bs D q) ∧ ∀ q, q < D.1 → I 13 q = nI (tp q)
theorem TblL.h6 {D : FD} {v : StV} {tp : Nat → Nat} {I : hI} (h : TblL D v tp I) : D.1 ≤ 6 := h.1
theorem TblL.ok {D : FD} {v : StV} {tp : Nat → Nat} {I : hI} (h : TblL D v tp I) : ∀ i, i < D.1 → okR (D.2.1 i) := h.2.1
theorem TblL.vb {D : FD} {v : StV} {tp : Nat → Nat} {I : hI} (h : TblL D v tp I) : ∀ i, i < D.1 → v.1 i ≤ 9 ∧ v.2.1 i ≤ 9 := h.2.2.1
theorem TblL.sz {D : FD} {v : StV} {tp : Nat → Nat} {I : hI} (h : TblL D v tp I) : I 4 13 = nI D.1 := h.2.2.2.1
theorem TblL.ft {D : FD} {v : StV} {tp : Nat → Nat} {I : hI} (h : TblL D v tp I) : ∀ q, q < D.1 → FTrL D v q I := h.2.2.2.2.1
theorem TblL.bd {D : FD} {v : StV} {tp : Nat → Nat} {I : hI} (h : TblL D v tp I) : ∀ q, q ≤ D.1 → BDL D v q I := h.2.2.2.2.2.1
theorem TblL.tp0 {D : FD} {v : StV} {tp : Nat → Nat} {I : hI} (h : TblL D v tp I) : ∀ q, q < D.1 → tp q < 2 ^ 31 := h.2.2.2.2.2.2.1
theorem TblL.tps {D : FD} {v : StV} {tp : Nat → Nat} {I : hI} (h : TblL D v tp I) : ∀ q, q + 1 < D.1 → tp (q + 1) = tp q / bs D q := h.2.2.2.2.2.2.2.1
theorem TblL.tpI {D : FD} {v : StV} {tp : Nat → Nat} {I : hI} (h : TblL D v tp I) : ∀ q, q < D.1 → I 13 q = nI (tp q) := h.2.2.2.2.2.2.2.2
/-- the memo -/
def MKL (D : FD) (v : StV) (tp : Nat → Nat) (I : hI) : Prop := ∀ i d, i < D.1 → d < 40 → I 12 (40 * i + d) = -1 ∨ (d ≤ tp i ∧ ∃ m, I 12 (40 * i + d) = nI m ∧ isMin 1048576 (fun t => WYL D v (D.1 - i) i (tp i - d) t) m)
theorem Tbl_ofL {D : FD} {v : StV} {tp : Nat → Nat} {I I' : hI} (h : TblL D v tp I) (e : ∀ c, c ≠ 12 → I' c = I c) : TblL D v tp I' :=
  ⟨h.h6, h.ok, h.vb, by rw [e 4 (by decide)]; exact h.sz, fun q hq => FTr_ofL (h.ft q hq) (fun s hs c hc => by rw [e c (by omega)]) (by rw [e 8 (by decide)]) (by rw [e 9 (by decide)]), fun q hq => BD_ofL (h.bd q hq) (by rw [e 10 (by decide)]) (by rw [e 11 (by decide)]), h.tp0, h.tps, fun q hq => by rw [e 13 (by decide)]; exact h.tpI q hq⟩
theorem Tbl_baseL {D : FD} {v : StV} {tp : Nat → Nat} {I : hI} (h : TblL D v tp I) {i : Nat} (hi : i < D.1) : baseF I (nI i) = nI (bs D i) := by
  have := h.h6
  have hq := h.ok i hi
  unfold baseF
  rw [am_rdK rfl (by omega) (by decide), (h.ft i hi).2.1, if_neg]
  exact fun z => by
    have z2 := (nI_ltI (b := 2) (by have := hq.2.1.2; omega) (by omega)).mp z
    have := hq.2.1.1
    omega
/-- what leastFrom answers -/
def LFvL (D : FD) (v : StV) (tp : Nat → Nat) (i : Nat) (f : hI → Int32 → Int32 → Int32 × hI) : Prop := ∀ (I : hI) (left : Nat), TblL D v tp I → MKL D v tp I → left < 2 ^ 31 → (i < D.1 → left ≤ tp i) → ∃ m, (f I (nI i) (nI left)).1 = nI m ∧ isMin 1048576 (fun t => WYL D v (D.1 - i) i left t) m ∧ MKL D v tp (f I (nI i) (nI left)).2
theorem lfl_vL {D : FD} {v : StV} {tp : Nat → Nat} {i left : Nat} {f : hI → Int32 → Int32 → Int32 × hI} (hi : i < D.1) (hf : LFvL D v tp (i + 1) f) (hc : ∀ c, c ≠ 12 → ∀ I x y, (f I x y).2 c = I c) (hl : left < 2 ^ 31) (hlt : left ≤ tp i) : ∀ (k s best : Nat) (I : hI), 40 ≤ s + 2 * k → s < 2 ^ 20 → (∃ y, left + bs D i * y = s ∨ left = s + y * bs D i) → TblL D v tp I → MKL D v tp I → isMin 1048576 (fun t => WPL D v (D.1 - (i + 1)) i left s t) best → ∃ m, (lfl f (nI i) (nI left) (nI (bs D i)) k I (nI s) (nI best)).1 = nI m ∧ isMin 1048576 (fun t => WYL D v (D.1 - i) i left t) m ∧ MKL D v tp (lfl f (nI i) (nI left) (nI (bs D i)) k I (nI s) (nI best)).2
  | k, s, best, I, hk, hs, hy, hT, hM, hb => by
    have h6 := hT.h6
    have hq := hT.ok i hi
    have b2 : 2 ≤ bs D i := hq.2.1.1
    have b16 : bs D i ≤ 16 := hq.2.1.2
    have en : D.1 - i = D.1 - (i + 1) + 1 := by omega
    have done : 40 ≤ s ∨ left < s → isMin 1048576 (fun t => WYL D v (D.1 - i) i left t) best := fun hd => by
      rw [en]
      exact min_c hb (fun t => (WP_allL hi h6 hq hd).symm)
    cases k with
    | zero => exact ⟨best, rfl, done (by omega), hM⟩
    | succ k =>
      unfold lfl
      have hWb : ∀ s t, WPL D v (D.1 - (i + 1)) i left s t → t ≤ 11264 * 7 := fun s t ⟨u, y, t1, t', _, _, ⟨l, h, ha, _, e1⟩, hw, et⟩ => by
        have := cst_leL hq (hT.vb i hi) ha
        have := WY_leL hT.ok hT.vb _ _ _ _ (by omega) hw
        omega
      have hbF := min_le hb (fun t ht => by have := hWb _ t ht; omega)
      by_cases c1L : left < s
      · rw [if_pos ((nI_ltI hl (by omega)).mpr c1L)]
        exact ⟨best, rfl, done (Or.inr c1L), hM⟩
      · rw [if_neg (fun z => c1L ((nI_ltI hl (by omega)).mp z))]
        by_cases c2 : 40 ≤ s
        · rw [if_pos (show (40 : Int32) ≤ nI s from nI_le (a := 40) c2 (by omega))]
          exact ⟨best, rfl, done (Or.inl c2), hM⟩
        · rw [if_neg (show ¬ (40 : Int32) ≤ nI s from nI_ge (b := 40) (by omega) (by omega)), cost_n (by omega) (by omega)]
          obtain ⟨y, ey⟩ : ∃ y, left = s + y * bs D i := by
            obtain ⟨y, hy | hy⟩ := hy
            · have h0 : bs D i * y = 0 := by omega
              exact ⟨0, by omega⟩
            · exact ⟨y, hy⟩
          obtain ⟨_, c, e5, cF, cm, _⟩ := (hT.ft i hi).1 s (by omega)
          have cH : isMin 1048576 (HCL D v i s) c := min_c cm (fun t => ⟨fun ⟨l, h, a, b, e⟩ => ⟨l, h, trivial, a, b, e⟩, fun ⟨l, h, _, a, b, e⟩ => ⟨l, h, a, b, e⟩⟩)
          rw [e5, nI_add]
          have ny : (left - s) / bs D i = y := by rw [ey, Nat.add_sub_cancel_left]; exact Nat.mul_div_cancel _ (by omega)
          have hu : ∀ u y', u < s + bs D i → left = u + y' * bs D i → u < s ∨ (u = s ∧ y' = y) := fun u y' h1 h2 => by
            by_cases h3 : u < s
            · exact Or.inl h3
            · have h4 : y' * bs D i ≤ y * bs D i := by omega
              have h5 : y * bs D i < (y' + 1) * bs D i := by rw [Nat.succ_mul]; omega
              have h6 := Nat.le_of_mul_le_mul_right h4 (by omega)
              have h7 := Nat.lt_of_mul_lt_mul_right h5
              have h8 : y' = y := by omega
              exact Or.inr ⟨by rw [h8] at h2; omega, h8⟩
          have hy' : ∃ y, left + bs D i * y = s + bs D i ∨ left = s + bs D i + y * bs D i := by
            cases y with
            | zero => exact ⟨1, Or.inl (by omega)⟩
            | succ y => exact ⟨y, Or.inr (by rw [ey, Nat.succ_mul]; omega)⟩
          by_cases c3 : best ≤ c
          · rw [if_pos (nI_le c3 (by omega))]
            refine lfl_vL hi hf hc hl hlt k (s + bs D i) best I (by omega) (by omega) hy' hT hM ⟨fun t ⟨u, y', t1, t', h1, h2, h3, h4, h5⟩ => ?_, ?_⟩
            · rcases hu u y' h1 h2 with h | ⟨h, h'⟩
              · exact hb.1 t ⟨u, y', t1, t', h, h2, h3, h4, h5⟩
              · rw [h] at h3
                have := cH.1 t1 h3
                omega
            · rcases hb.2 with ⟨u, y', t1, t', h1, h2⟩ | ⟨h1, h2⟩
              · exact Or.inl ⟨u, y', t1, t', by omega, h2⟩
              · refine Or.inr ⟨h1, fun t ⟨u, y', t1, t', a1, a2, a3, a4, a5⟩ => ?_⟩
                rcases hu u y' a1 a2 with h | ⟨h, h'⟩
                · exact h2 t ⟨u, y', t1, t', h, a2, a3, a4, a5⟩
                · rw [h] at a3
                  have l1 := cH.1 t1 a3
                  obtain ⟨l, g, ha, _, e1⟩ := a3
                  have := cst_leL hq (hT.vb i hi) ha
                  omega
          · rw [if_neg (nI_ge (by omega) (by omega)), nI_subI (by omega), n_div (by omega) b2 (by omega), nI_1, ny]
            have hyt : i + 1 < D.1 → y ≤ tp (i + 1) := fun h => by
              rw [hT.tps i h, ← ny]
              exact Nat.div_le_div_right (by omega)
            obtain ⟨m1, e1, hm1, hM1⟩ := hf I y hT hM (by rw [← ny]; have := Nat.div_le_self (left - s) (bs D i); omega) hyt
            rw [e1, nI_add]
            have hm1F := min_le hm1 (fun t ht => by have := WY_leL hT.ok hT.vb _ _ _ _ (show i + 1 + (D.1 - (i + 1)) ≤ D.1 by omega) ht; omega)
            have hb2 : isMin 1048576 (fun t => WPL D v (D.1 - (i + 1)) i left (s + bs D i) t) (if c + m1 < best then c + m1 else best) := by
              have cA : HCL D v i s c := cH.2.resolve_right (fun z => by omega)
              by_cases c4 : c + m1 < best
              · rw [if_pos c4]
                refine ⟨fun t ⟨u, y', t1, t', h1, h2, h3, h4, h5⟩ => ?_, Or.inl ⟨s, y, c, m1, by omega, ey, cA, hm1.2.resolve_right (fun z => by omega), rfl⟩⟩
                rcases hu u y' h1 h2 with h | ⟨h, h'⟩
                · have := hb.1 t ⟨u, y', t1, t', h, h2, h3, h4, h5⟩
                  omega
                · rw [h] at h3
                  rw [h'] at h4
                  have := cH.1 t1 h3
                  have := hm1.1 t' h4
                  omega
              · rw [if_neg c4]
                refine ⟨fun t ⟨u, y', t1, t', h1, h2, h3, h4, h5⟩ => ?_, ?_⟩
                · rcases hu u y' h1 h2 with h | ⟨h, h'⟩
                  · exact hb.1 t ⟨u, y', t1, t', h, h2, h3, h4, h5⟩
                  · rw [h] at h3
                    rw [h'] at h4
                    have := cH.1 t1 h3
                    have := hm1.1 t' h4
                    omega
                · rcases hb.2 with ⟨u, y', t1, t', h1, h2⟩ | ⟨h1, h2⟩
                  · exact Or.inl ⟨u, y', t1, t', by omega, h2⟩
                  · refine Or.inr ⟨h1, fun t ⟨u, y', t1, t', a1, a2, a3, a4, a5⟩ => ?_⟩
                    rcases hu u y' a1 a2 with h | ⟨h, h'⟩
                    · exact h2 t ⟨u, y', t1, t', h, a2, a3, a4, a5⟩
                    · rw [h'] at a4
                      have l2 := hm1.1 t' a4
                      have l3 := WY_leL hT.ok hT.vb _ _ _ _ (show i + 1 + (D.1 - (i + 1)) ≤ D.1 by omega) a4
                      obtain ⟨l, g, ha, _, e1⟩ := cA
                      have := cst_leL hq (hT.vb i hi) ha
                      omega
            have eb : (if nI (c + m1) < nI best then nI (c + m1) else nI best) = nI (if c + m1 < best then c + m1 else best) := by
              by_cases c4 : c + m1 < best
              · rw [if_pos c4, if_pos ((nI_ltI (by omega) (by omega)).mpr c4)]
              · rw [if_neg c4, if_neg (fun z => c4 ((nI_ltI (by omega) (by omega)).mp z))]
            rw [eb]
            exact lfl_vL hi hf hc hl hlt k (s + bs D i) _ _ (by omega) (by omega) hy' (Tbl_ofL hT (fun c h => hc c h I _ _)) hM1 hb2
theorem MK_wL {D : FD} {v : StV} {tp : Nat → Nat} {I : hI} {i left m : Nat} (h6 : D.1 ≤ 6) (hi : i < D.1) (hM : MKL D v tp I) (hl : left ≤ tp i) (ht : tp i < 2 ^ 31) (hm : isMin 1048576 (fun t => WYL D v (D.1 - i) i left t) m) : MKL D v tp (wI I 12 240 (slotF (nI i) (nI (tp i) - nI left)) (nI m)) := by
  rw [nI_subI hl]
  by_cases c : tp i - left < 40
  · rw [sl_n (by omega) c, wI_n (by omega) (by decide)]
    intro i' d hi' hd
    by_cases e : i' = i ∧ d = tp i - left
    · obtain ⟨rfl, rfl⟩ := e
      refine Or.inr ⟨by omega, m, sf_s _ _ _ _, ?_⟩
      rw [show tp i' - (tp i' - left) = left by omega]
      exact hm
    · rw [sf_k (by omega)]
      exact hM i' d hi' hd
  · have e : slotF (nI i) (nI (tp i - left)) = -1 := by
      unfold slotF
      rw [if_neg (nI_pos (by omega)), if_pos (show (40 : Int32) ≤ nI (tp i - left) from nI_le (a := 40) (by omega) (by omega))]
    rw [e]
    have e2 : wI I 12 240 (-1) (nI m) = I := by
      unfold wI
      rw [am_wr_out (Or.inl (by decide))]
      funext c
      by_cases ec : c = 12
      · rw [ec, up_same]
      · rw [up_ne ec]
    rw [e2]
    exact hM
theorem lfF_vL {D : FD} {v : StV} {tp : Nat → Nat} : ∀ (k i : Nat), i ≤ D.1 → D.1 < i + k → LFvL D v tp i (lfF k)
  | 0, i, hi, hk => by omega
  | k + 1, i, hi, hk => fun I left hT hM hl hlt => by
    have h6 := hT.h6
    unfold lfF
    by_cases c0 : i = D.1
    · rw [if_pos (by rw [hT.sz]; exact nI_le (by omega) (by omega)), c0, Nat.sub_self]
      by_cases c1L : left = 0
      · rw [c1L, if_pos (show nI 0 = (0 : Int32) from rfl)]
        exact ⟨0, rfl, ⟨fun t _ => Nat.zero_le t, Or.inl ⟨rfl, rfl⟩⟩, hM⟩
      · rw [if_neg (show ¬ nI left = (0 : Int32) from fun z => c1L ((nI_eq (b := 0) hl (by omega)).mp z))]
        exact ⟨1048576, rfl, min_0 _ (fun t z => c1L z.1), hM⟩
    · have hi' : i < D.1 := by omega
      have hq := hT.ok i hi'
      have b2 : 2 ≤ bs D i := hq.2.1.1
      have b16 : bs D i ≤ 16 := hq.2.1.2
      have hlt' := hlt hi'
      have ht := hT.tp0 i hi'
      rw [if_neg (by rw [hT.sz]; exact nI_ge (by omega) (by omega))]
      obtain ⟨f, M, e1, e2, b1, b3, hw⟩ := hT.bd i (by omega)
      have hp := p16 (k := D.1 - i) (by omega)
      have eR : inR I (nI i) (nI left) ↔ f ≤ left ∧ left ≤ M := by
        show (¬ nI left < am_rd 7 (I 11) (nI i) ∧ ¬ am_rd 7 (I 10) (nI i) < nI left) ↔ _
        rw [am_rdK rfl (by omega) (by decide), am_rdK rfl (by omega) (by decide), e1, e2, nI_ltI hl (by omega), nI_ltI (by omega) hl]
        omega
      by_cases c1L : inR I (nI i) (nI left)
      · rw [if_neg (fun z => z c1L), am_rdK rfl (by omega) (by decide), hT.tpI i hi', Tbl_baseL hT hi']
        by_cases c2 : slotF (nI i) (nI (tp i) - nI left) ≠ -1 ∧ am_rd 240 (I 12) (slotF (nI i) (nI (tp i) - nI left)) ≠ -1
        · rw [if_pos c2]
          have c3 : tp i - left < 40 := by
            by_cases c : tp i - left < 40
            · exact c
            · refine absurd ?_ c2.1
              rw [nI_subI hlt']
              unfold slotF
              rw [if_neg (nI_pos (by omega)), if_pos (show (40 : Int32) ≤ nI (tp i - left) from nI_le (a := 40) (by omega) (by omega))]
          have es : am_rd 240 (I 12) (slotF (nI i) (nI (tp i) - nI left)) = I 12 (40 * i + (tp i - left)) := by
            rw [nI_subI hlt', sl_n (by omega) c3, am_rdK rfl (by omega) (by decide)]
          rw [es] at c2 ⊢
          rcases hM i (tp i - left) hi' c3 with z | ⟨_, m, em, hm⟩
          · exact absurd z c2.2
          · rw [show tp i - (tp i - left) = left by omega] at hm
            exact ⟨m, em, hm, hM⟩
        · rw [if_neg c2, n_mod hl b2 (by omega)]
          have hmo := Nat.mod_lt left (show 0 < bs D i by omega)
          have hdm := Nat.div_add_mod left (bs D i)
          obtain ⟨m, em, hm, hM2⟩ := lfl_vL (f := lfF k) hi' (lfF_vL k (i + 1) (by omega) (by omega)) (fun c h I x y => lfF_c h k I x y) hl hlt' 60 (left % bs D i) 1048576 I (by omega) (by omega) ⟨left / bs D i, Or.inr (by rw [Nat.mul_comm]; omega)⟩ hT hM (min_0 _ (fun t ⟨u, y, _, _, h1, h2, _⟩ => by
            have h3 : left % bs D i = u % bs D i := by rw [h2, Nat.add_mul_mod_self_right]
            have h4 := Nat.mod_le u (bs D i)
            omega))
          have em' : (lfl (lfF k) (nI i) (nI left) (nI (bs D i)) 60 I (nI (left % bs D i)) 1048576).1 = nI m := em
          dsimp only
          rw [em']
          exact ⟨m, rfl, hm, MK_wL h6 hi' hM2 hlt' ht hm⟩
      · rw [if_pos c1L]
        exact ⟨1048576, rfl, min_0 _ (fun t z => c1L (eR.mpr (hw left t z))), hM⟩
theorem aim_vL {D : FD} {v : StV} {I : hI} {x : Nat} (hx : x < 2 ^ 31) (h6 : D.1 ≤ 6) (ho : ∀ i, i < D.1 → okR (D.2.1 i)) (hvb : ∀ i, i < D.1 → v.1 i ≤ 9 ∧ v.2.1 i ≤ 9) (hs : I 4 13 = nI D.1) (hF : ∀ q, q < D.1 → FTrL D v q I) (hB : ∀ q, q ≤ D.1 → BDL D v q I) : TblL D v (tpx D x) (aimF I D.1 (nI x)) ∧ MKL D v (tpx D x) (aimF I D.1 (nI x)) := by
  have k : ∀ c, c ≠ 12 → c ≠ 13 → aimF I D.1 (nI x) c = I c := fun c h1 h2 => aimF_c h1 h2
  refine ⟨⟨h6, ho, hvb, by rw [k 4 (by decide) (by decide)]; exact hs, fun q hq => FTr_ofL (hF q hq) (fun s hs c hc => by rw [k c (by omega) (by omega)]) (by rw [k 8 (by decide) (by decide)]) (by rw [k 9 (by decide) (by decide)]), fun q hq => BD_ofL (hB q hq) (by rw [k 10 (by decide) (by decide)]) (by rw [k 11 (by decide) (by decide)]), fun q _ => Nat.lt_of_le_of_lt (tpx_le q) hx, fun q _ => rfl, ?_⟩, fun i d hi hd => Or.inl ?_⟩
  · unfold aimF
    refine aml_v hx h6 ho D.1 0 _ (by omega) (fun q hq => ?_) (fun q hq => absurd hq (Nat.not_lt_zero q))
    rw [up_ne (by decide)]
    exact (hF q hq).2.1
  · unfold aimF
    rw [aml_c (by decide), up_same]
    unfold am_fill
    rw [if_pos (by omega)]
/-- least -/
theorem leF_vL {D : FD} {v : StV} {I : hI} {V : Int64} (h6 : D.1 ≤ 6) (ho : ∀ i, i < D.1 → okR (D.2.1 i)) (hvb : ∀ i, i < D.1 → v.1 i ≤ 9 ∧ v.2.1 i ≤ 9) (hs : I 4 13 = nI D.1) (hF : ∀ q, q < D.1 → FTrL D v q I) (hB : ∀ q, q ≤ D.1 → BDL D v q I) : ∃ m, (leF I D.1 V).1 = nI m ∧ isMin 1048576 (fun t => WYzL D v D.1 0 V.toInt t) m ∧ (m < 1048576 → ∃ x : Nat, V.toInt = x ∧ x < 2 ^ 31 ∧ WYL D v D.1 0 x m ∧ (∀ t, WYL D v D.1 0 x t → m ≤ t) ∧ TblL D v (tpx D x) (leF I D.1 V).2 ∧ MKL D v (tpx D x) (leF I D.1 V).2) := by
  obtain ⟨f, M, e1, e2, b1, b2, hw⟩ := hB 0 (Nat.zero_le _)
  have hp := p16 (k := D.1 - 0) (by omega)
  have ef : ((nI f).toInt64).toInt = f := by rw [Int32.toInt_toInt64, nI_toInt (by omega)]
  have eM : ((nI M).toInt64).toInt = M := by rw [Int32.toInt_toInt64, nI_toInt (by omega)]
  have r1 : am_rd 7 (I 11) 0 = nI f := (am_rdK (i := 0) rfl (by decide) (by decide)).trans e1
  have r2 : am_rd 7 (I 10) 0 = nI M := (am_rdK (i := 0) rfl (by decide) (by decide)).trans e2
  unfold leF
  rw [r1, r2]
  by_cases c1L : V < (nI f).toInt64
  · rw [if_pos c1L]
    rw [fi_ltL, ef] at c1L
    refine ⟨1048576, rfl, min_0 _ (fun t z => ?_), fun z => by omega⟩
    have := hw _ t z.2
    have := z.1
    omega
  · rw [if_neg c1L]
    rw [fi_ltL, ef] at c1L
    by_cases c2 : V ≤ (nI M).toInt64
    · rw [if_pos c2]
      rw [fi_leL, eM] at c2
      have hx : V.toInt = (V.toInt.toNat : Int) := (Int.toNat_of_nonneg (by omega)).symm
      have e32 : V.toInt32 = nI V.toInt.toNat := by
        rw [fi_eq, tl_32 (by omega) (by omega), nI_toInt (by omega)]
        exact hx
      rw [e32]
      generalize V.toInt.toNat = x at hx
      have hx31 : x < 2 ^ 31 := by omega
      obtain ⟨hT, hM⟩ := aim_vL hx31 h6 ho hvb hs hF hB
      obtain ⟨m, em, hm, hM2⟩ := lfF_vL 7 0 (Nat.zero_le _) (by omega) _ x hT hM hx31 (fun _ => Nat.le_refl _)
      have em' : (lfF 7 (aimF I D.1 (nI x)) 0 (nI x)).1 = nI m := em
      refine ⟨m, em', min_c hm (fun t => ?_), fun hlt => ⟨x, hx, hx31, hm.2.resolve_right (fun z => by omega), hm.1, Tbl_ofL hT (fun c h => lfF_c h _ _ _ _), hM2⟩⟩
      unfold WYzL
      rw [hx, Int.toNat_natCast]
      exact ⟨fun z => z.2, fun z => ⟨by omega, z⟩⟩
    · rw [if_neg c2]
      rw [fi_leL, eM] at c2
      refine ⟨1048576, rfl, min_0 _ (fun t z => ?_), fun z => by omega⟩
      have := hw _ t z.2
      have := z.1
      omega
end LCP

