/-! The class's howMany is the mathematics'. -/
section CMN
theorem smn_z {f : Nat → Nat} {a : Nat} : ∀ (k : Nat), (∀ u, a ≤ u → u < a + k → f u = 0) → smn f (a + k) = smn f a
  | 0, h => rfl
  | k + 1, h => by
    show smn f (a + k) + f (a + k) = smn f a
    rw [smn_z k (fun u h1 h2 => h u h1 (by omega)), h (a + k) (by omega) (by omega)]
    rfl
theorem smn_mul {f : Nat → Nat} {c : Nat} : ∀ n, smn f n * c = smn (fun j => f j * c) n
  | 0 => Nat.zero_mul c
  | n + 1 => by
    show (smn f n + f n) * c = smn (fun j => f j * c) n + f n * c
    rw [Nat.add_mul, smn_mul n]
theorem smn_add {f g : Nat → Nat} : ∀ n, smn (fun j => f j + g j) n = smn f n + smn g n
  | 0 => rfl
  | n + 1 => by
    show smn (fun j => f j + g j) n + (f n + g n) = smn f n + f n + (smn g n + g n)
    rw [smn_add n]
    omega
theorem smn_sw {F : Nat → Nat → Nat} {m : Nat} : ∀ n, smn (fun a => smn (F a) m) n = smn (fun b => smn (fun a => F a b) n) m
  | 0 => (smn_0 (f := fun b => smn (fun a => F a b) 0) m (fun _ _ => rfl)).symm
  | n + 1 => by
    show smn (fun a => smn (F a) m) n + smn (F n) m = smn (fun b => smn (fun a => F a b) n + F n b) m
    rw [smn_add m, smn_sw n]
theorem smn_one {g : Nat → Nat} {k : Nat} : ∀ n, k < n → smn (fun u => if k = u then g u else 0) n = g k
  | 0, h => absurd h (Nat.not_lt_zero k)
  | n + 1, h => by
    show smn (fun u => if k = u then g u else 0) n + (if k = n then g n else 0) = g k
    by_cases e : k = n
    · rw [if_pos e, smn_0 n (fun j hj => if_neg (by omega)), e, Nat.zero_add]
    · rw [if_neg e, smn_one n (by omega)]
      rfl
/-- what is behind rod i if it shows u -/
def Wb (D : FD) (v : StV) (k i x u : Nat) : Nat := if u ≤ x ∧ (x - u) % bs D i = 0 then cn D v k (i + 1) ((x - u) / bs D i) else 0
theorem cn_sum {D : FD} {v : StV} {k i x : Nat} (hi : i < 6) (hq : okR (D.2.1 i)) : cn D v (k + 1) i x = smn (fun u => Nw D v i u * Wb D v k i x u) 40 := by
  have e1 : ∀ u, Nw D v i u * Wb D v k i x u = smn (fun h => smn (fun l => c1 D v i u h l * Wb D v k i x u) ((D.2.1 i).2.2.1 + 1)) ((D.2.1 i).2.2.2 + 1) := fun u => by
    unfold Nw
    rw [smn_mul]
    refine smn_c _ (fun h _ => ?_)
    show C1 D v i u h * Wb D v k i x u = _
    unfold C1
    rw [smn_mul]
  rw [smn_c 40 (fun u _ => e1 u), smn_sw]
  unfold cn
  refine smn_c _ (fun h hh => ?_)
  rw [smn_sw]
  refine smn_c _ (fun l hl => ?_)
  have h40 := (slv (D := D) (i := i) hi hq (show l ≤ (D.2.1 i).2.2.1 by omega) (show h ≤ (D.2.1 i).2.2.2 by omega)).2
  by_cases ha : alw D v i l h
  · have e2 : ∀ u, c1 D v i u h l * Wb D v k i x u = if vl D i l h = u then Wb D v k i x u else 0 := fun u => by
      unfold c1
      by_cases e : vl D i l h = u
      · rw [if_pos ⟨ha, e⟩, if_pos e, Nat.one_mul]
      · rw [if_neg (fun z => e z.2), if_neg e, Nat.zero_mul]
    rw [smn_c 40 (fun u _ => e2 u), smn_one 40 h40]
    unfold Wb
    by_cases e : vl D i l h ≤ x ∧ (x - vl D i l h) % bs D i = 0
    · rw [if_pos (show fit D v i x l h from ⟨ha, e⟩), if_pos e]
    · rw [if_neg (fun z : fit D v i x l h => e z.2), if_neg e]
  · rw [if_neg (fun z : fit D v i x l h => ha z.1)]
    refine (smn_0 40 (fun u _ => ?_)).symm
    unfold c1
    rw [if_neg (fun z => ha z.1), Nat.zero_mul]
theorem Nw_le {D : FD} {v : StV} {i s : Nat} (hq : okR (D.2.1 i)) : Nw D v i s ≤ 40 := by
  have h9 := hq.2.2.1.2
  have h3 := hq.2.2.2.1
  unfold Nw
  have h1 : ∀ h, C1 D v i s h ≤ 10 := fun h => by
    unfold C1
    refine Nat.le_trans (smn_le (B := 1) _ (fun l _ => ?_)) (by omega)
    unfold c1
    split <;> omega
  refine Nat.le_trans (smn_le (B := 10) _ (fun h _ => h1 h)) (by omega)
theorem Nw_40 {D : FD} {v : StV} {i s : Nat} (hi : i < 6) (hq : okR (D.2.1 i)) (hs : 40 ≤ s) : Nw D v i s = 0 := by
  unfold Nw
  refine smn_0 _ (fun h _ => smn_0 _ (fun l _ => if_neg (fun z => ?_)))
  have := (slv (D := D) (i := i) hi hq z.1.1 z.1.2.1).2
  have := z.2
  omega
/-- the memo of howMany -/
def MH (D : FD) (v : StV) (tp : Nat → Nat) (I : hI) : Prop := ∀ i d, i < D.1 → d < 40 → I 12 (40 * i + d) = -1 ∨ (d ≤ tp i ∧ I 12 (40 * i + d) = nI (cn D v (D.1 - i) i (tp i - d)))
def HMv (D : FD) (v : StV) (tp : Nat → Nat) (i : Nat) (f : hI → Int32 → Int32 → Int32 × hI) : Prop := ∀ (I : hI) (left : Nat), Tbl D v tp I → MH D v tp I → left < 2 ^ 31 → (i < D.1 → left ≤ tp i) → (f I (nI i) (nI left)).1 = nI (cn D v (D.1 - i) i left) ∧ MH D v tp (f I (nI i) (nI left)).2
theorem hml_v {D : FD} {v : StV} {tp : Nat → Nat} {i left : Nat} {f : hI → Int32 → Int32 → Int32 × hI} (hi : i < D.1) (hf : HMv D v tp (i + 1) f) (hc : ∀ c, c ≠ 12 → ∀ I x y, (f I x y).2 c = I c) (hl : left < 2 ^ 31) (hlt : left ≤ tp i) : ∀ (k s : Nat) (I : hI), 40 ≤ s + 2 * k → s < 2 ^ 20 → (∃ y, left + bs D i * y = s ∨ left = s + y * bs D i) → Tbl D v tp I → MH D v tp I → (hml f (nI i) (nI left) (nI (bs D i)) k I (nI s) (nI (smn (fun u => Nw D v i u * Wb D v (D.1 - (i + 1)) i left u) s))).1 = nI (cn D v (D.1 - i) i left) ∧ MH D v tp (hml f (nI i) (nI left) (nI (bs D i)) k I (nI s) (nI (smn (fun u => Nw D v i u * Wb D v (D.1 - (i + 1)) i left u) s))).2
  | k, s, I, hk, hs, hy, hT, hM => by
    have h6 := hT.h6
    have hq := hT.ok i hi
    have b2 : 2 ≤ bs D i := hq.2.1.1
    have b16 : bs D i ≤ 16 := hq.2.1.2
    have done : 40 ≤ s ∨ left < s → nI (smn (fun u => Nw D v i u * Wb D v (D.1 - (i + 1)) i left u) s) = nI (cn D v (D.1 - i) i left) := fun hd => by
      rw [show D.1 - i = D.1 - (i + 1) + 1 by omega, cn_sum (by omega) hq]
      congr 1
      by_cases h : 40 ≤ s
      · obtain ⟨e, rfl⟩ : ∃ e, s = 40 + e := ⟨s - 40, by omega⟩
        exact smn_z e (fun u h1 _ => by rw [Nw_40 (by omega) hq h1, Nat.zero_mul])
      · obtain ⟨e, he⟩ : ∃ e, 40 = s + e := ⟨40 - s, by omega⟩
        rw [he]
        refine (smn_z e (fun u h1 _ => ?_)).symm
        have : Wb D v (D.1 - (i + 1)) i left u = 0 := if_neg (fun z => by omega)
        rw [this, Nat.mul_zero]
    cases k with
    | zero => exact ⟨done (by omega), hM⟩
    | succ k =>
      unfold hml
      by_cases c1 : left < s
      · rw [if_pos ((nI_ltI hl (by omega)).mpr c1)]
        exact ⟨done (Or.inr c1), hM⟩
      · rw [if_neg (fun z => c1 ((nI_ltI hl (by omega)).mp z))]
        by_cases c2 : 40 ≤ s
        · rw [if_pos (show (40 : Int32) ≤ nI s from nI_le (a := 40) c2 (by omega))]
          exact ⟨done (Or.inl c2), hM⟩
        · rw [if_neg (show ¬ (40 : Int32) ≤ nI s from nI_ge (b := 40) (by omega) (by omega))]
          obtain ⟨y, ey⟩ : ∃ y, left = s + y * bs D i := by
            obtain ⟨y, hy | hy⟩ := hy
            · have h0 : bs D i * y = 0 := by omega
              exact ⟨0, by omega⟩
            · exact ⟨y, hy⟩
          have ny : (left - s) / bs D i = y := by rw [ey, Nat.add_sub_cancel_left]; exact Nat.mul_div_cancel _ (by omega)
          have hy' : ∃ y, left + bs D i * y = s + bs D i ∨ left = s + bs D i + y * bs D i := by
            cases y with
            | zero => exact ⟨1, Or.inl (by omega)⟩
            | succ y => exact ⟨y, Or.inr (by rw [ey, Nat.succ_mul]; omega)⟩
          have ech : chF I (nI i) (nI s) = nI (Nw D v i s) := by
            unfold chF
            rw [sl_n (by omega) (by omega), am_rdK rfl (by omega) (by decide)]
            exact ((hT.ft i hi).1 s (by omega)).1
          have hN := Nw_le (v := v) (s := s) hq
          have eW : Wb D v (D.1 - (i + 1)) i left s = cn D v (D.1 - (i + 1)) (i + 1) y := by
            unfold Wb
            rw [if_pos ⟨by omega, by rw [ey, Nat.add_sub_cancel_left]; exact Nat.mul_mod_left _ _⟩, ny]
          have est : smn (fun u => Nw D v i u * Wb D v (D.1 - (i + 1)) i left u) (s + bs D i) = smn (fun u => Nw D v i u * Wb D v (D.1 - (i + 1)) i left u) s + Nw D v i s * cn D v (D.1 - (i + 1)) (i + 1) y := by
            rw [show s + bs D i = s + 1 + (bs D i - 1) by omega, smn_z (bs D i - 1) (fun u h1 h2 => ?_)]
            · show smn _ s + Nw D v i s * Wb D v (D.1 - (i + 1)) i left s = _
              rw [eW]
            · have : Wb D v (D.1 - (i + 1)) i left u = 0 := if_neg (fun z => by
                obtain ⟨z1, z2⟩ := z
                have z3 := Nat.div_add_mod (left - u) (bs D i)
                rw [z2, Nat.mul_comm] at z3
                generalize (left - u) / bs D i = w at z3
                have h4 : w * bs D i < y * bs D i := by omega
                have h5 : y * bs D i < (w + 1) * bs D i := by rw [Nat.succ_mul]; omega
                have h6 := Nat.lt_of_mul_lt_mul_right h4
                have h7 := Nat.lt_of_mul_lt_mul_right h5
                omega)
              rw [this, Nat.mul_zero]
          rw [ech, nI_add]
          by_cases c3 : Nw D v i s = 0
          · rw [if_pos (by rw [c3]; decide)]
            have est' : smn (fun u => Nw D v i u * Wb D v (D.1 - (i + 1)) i left u) (s + bs D i) = smn (fun u => Nw D v i u * Wb D v (D.1 - (i + 1)) i left u) s := by
              rw [est, c3, Nat.zero_mul]
              rfl
            rw [← est']
            exact hml_v hi hf hc hl hlt k (s + bs D i) I (by omega) (by omega) hy' hT hM
          · rw [if_neg (show ¬ nI (Nw D v i s) ≤ (0 : Int32) from nI_ge (b := Nw D v i s) (a := 0) (by omega) (by omega)), nI_subI (by omega), n_div (by omega) b2 (by omega), nI_1, ny]
            have hyt : i + 1 < D.1 → y ≤ tp (i + 1) := fun h => by
              rw [hT.tps i h, ← ny]
              exact Nat.div_le_div_right (by omega)
            obtain ⟨e1, hM1⟩ := hf I y hT hM (by rw [← ny]; have := Nat.div_le_self (left - s) (bs D i); omega) hyt
            rw [e1, show nI (Nw D v i s) * nI (cn D v (D.1 - (i + 1)) (i + 1) y) = nI (Nw D v i s * cn D v (D.1 - (i + 1)) (i + 1) y) from (Int32.ofNat_mul _ _).symm, nI_add, ← est]
            exact hml_v hi hf hc hl hlt k (s + bs D i) _ (by omega) (by omega) hy' (Tbl_of hT (fun c h => hc c h I _ _)) hM1
theorem MH_w {D : FD} {v : StV} {tp : Nat → Nat} {I : hI} {i left : Nat} (h6 : D.1 ≤ 6) (hi : i < D.1) (hM : MH D v tp I) (hl : left ≤ tp i) (ht : tp i < 2 ^ 31) : MH D v tp (wI I 12 240 (slotF (nI i) (nI (tp i) - nI left)) (nI (cn D v (D.1 - i) i left))) := by
  rw [nI_subI hl]
  by_cases c : tp i - left < 40
  · rw [sl_n (by omega) c, wI_n (by omega) (by decide)]
    intro i' d hi' hd
    by_cases e : i' = i ∧ d = tp i - left
    · obtain ⟨rfl, rfl⟩ := e
      refine Or.inr ⟨by omega, ?_⟩
      rw [show tp i' - (tp i' - left) = left by omega]
      exact sf_s _ _ _ _
    · rw [sf_k (by omega)]
      exact hM i' d hi' hd
  · have e : slotF (nI i) (nI (tp i - left)) = -1 := by
      unfold slotF
      rw [if_neg (nI_pos (by omega)), if_pos (show (40 : Int32) ≤ nI (tp i - left) from nI_le (a := 40) (by omega) (by omega))]
    rw [e]
    have e2 : ∀ x, wI I 12 240 (-1) x = I := fun x => by
      unfold wI
      rw [am_wr_out (Or.inl (by decide))]
      funext c
      by_cases ec : c = 12
      · rw [ec, up_same]
      · rw [up_ne ec]
    rw [e2]
    exact hM
theorem cn_no {D : FD} {v : StV} {k i x : Nat} (hb : ∀ i, i < D.1 → 0 < bs D i) (hi : i + k ≤ D.1) (h : ∀ t, ¬ WY D v k i x t) : cn D v k i x = 0 := by
  by_cases c : 0 < cn D v k i x
  · obtain ⟨t, ht⟩ := (cn_pos hb k i x hi).mp c
    exact absurd ht (h t)
  · omega
theorem hmF_v {D : FD} {v : StV} {tp : Nat → Nat} : ∀ (k i : Nat), i ≤ D.1 → D.1 < i + k → HMv D v tp i (hmF k)
  | 0, i, hi, hk => by omega
  | k + 1, i, hi, hk => fun I left hT hM hl hlt => by
    have h6 := hT.h6
    have hbp : ∀ i, i < D.1 → 0 < bs D i := fun i hi => Nat.lt_of_lt_of_le (by decide) (hT.ok i hi).2.1.1
    unfold hmF
    by_cases c0 : i = D.1
    · rw [if_pos (by rw [hT.sz]; exact nI_le (by omega) (by omega)), c0, Nat.sub_self]
      unfold cn
      by_cases c1 : left = 0
      · rw [c1, if_pos (show nI 0 = (0 : Int32) from rfl), if_pos rfl]
        exact ⟨rfl, hM⟩
      · rw [if_neg (show ¬ nI left = (0 : Int32) from fun z => c1 ((nI_eq (b := 0) hl (by omega)).mp z)), if_neg c1]
        exact ⟨rfl, hM⟩
    · have hi' : i < D.1 := by omega
      have hq := hT.ok i hi'
      have b2 : 2 ≤ bs D i := hq.2.1.1
      have b16 : bs D i ≤ 16 := hq.2.1.2
      have hlt' := hlt hi'
      have ht := hT.tp0 i hi'
      rw [if_neg (by rw [hT.sz]; exact nI_ge (by omega) (by omega))]
      obtain ⟨f, M, e1, e2, b1, b3, hw⟩ := hT.bd i (by omega)
      have hp := p16 (k := D.1 - i) (by omega)
      have eR : inR I (nI i) (nI left) ↔ f ≤ left ∧ left ≤ M := by
        show (¬ nI left < am_rd 7 (I 11) (nI i) ∧ ¬ am_rd 7 (I 10) (nI i) < nI left) ↔ _
        rw [am_rdK rfl (by omega) (by decide), am_rdK rfl (by omega) (by decide), e1, e2, nI_ltI hl (by omega), nI_ltI (by omega) hl]
        omega
      by_cases c1 : inR I (nI i) (nI left)
      · rw [if_neg (fun z => z c1), am_rdK rfl (by omega) (by decide), hT.tpI i hi', Tbl_base hT hi']
        by_cases c2 : slotF (nI i) (nI (tp i) - nI left) ≠ -1 ∧ am_rd 240 (I 12) (slotF (nI i) (nI (tp i) - nI left)) ≠ -1
        · rw [if_pos c2]
          have c3 : tp i - left < 40 := by
            by_cases c : tp i - left < 40
            · exact c
            · refine absurd ?_ c2.1
              rw [nI_subI hlt']
              unfold slotF
              rw [if_neg (nI_pos (by omega)), if_pos (show (40 : Int32) ≤ nI (tp i - left) from nI_le (a := 40) (by omega) (by omega))]
          have es : am_rd 240 (I 12) (slotF (nI i) (nI (tp i) - nI left)) = I 12 (40 * i + (tp i - left)) := by
            rw [nI_subI hlt', sl_n (by omega) c3, am_rdK rfl (by omega) (by decide)]
          rw [es] at c2 ⊢
          rcases hM i (tp i - left) hi' c3 with z | ⟨_, em⟩
          · exact absurd z c2.2
          · rw [show tp i - (tp i - left) = left by omega] at em
            exact ⟨em, hM⟩
        · rw [if_neg c2, n_mod hl b2 (by omega)]
          have hmo := Nat.mod_lt left (show 0 < bs D i by omega)
          have hdm := Nat.div_add_mod left (bs D i)
          have hz : smn (fun u => Nw D v i u * Wb D v (D.1 - (i + 1)) i left u) (left % bs D i) = 0 := smn_0 _ (fun u hu => by
            have : Wb D v (D.1 - (i + 1)) i left u = 0 := if_neg (fun z => by
              have z3 := Nat.div_add_mod (left - u) (bs D i)
              rw [z.2, Nat.add_zero] at z3
              have h3 : left % bs D i = u % bs D i := by
                have : left = u + bs D i * ((left - u) / bs D i) := by have := z.1; omega
                rw [this, Nat.add_mul_mod_self_left]
              have h4 := Nat.mod_le u (bs D i)
              omega)
            rw [this, Nat.mul_zero])
          have r := hml_v (f := hmF k) hi' (hmF_v k (i + 1) (by omega) (by omega)) (fun c h I x y => hmF_c h k I x y) hl hlt' 60 (left % bs D i) I (by omega) (by omega) ⟨left / bs D i, Or.inr (by rw [Nat.mul_comm]; omega)⟩ hT hM
          rw [hz] at r
          obtain ⟨em, hM2⟩ := r
          have em' : (hml (hmF k) (nI i) (nI left) (nI (bs D i)) 60 I (nI (left % bs D i)) 0).1 = nI (cn D v (D.1 - i) i left) := em
          dsimp only
          rw [em']
          exact ⟨rfl, MH_w h6 hi' hM2 hlt' ht⟩
      · rw [if_pos c1, cn_no hbp (by omega) (fun t z => c1 (eR.mpr (hw left t z)))]
        exact ⟨rfl, hM⟩
/-- howMany -/
theorem hoF_v {D : FD} {v : StV} {I : hI} {V : Int64} (h6 : D.1 ≤ 6) (ho : ∀ i, i < D.1 → okR (D.2.1 i)) (hvb : ∀ i, i < D.1 → v.1 i ≤ 9 ∧ v.2.1 i ≤ 9) (hs : I 4 13 = nI D.1) (hF : ∀ q, q < D.1 → FTr D v q I) (hB : ∀ q, q ≤ D.1 → BD D v q I) : (hoF I D.1 V).1 = nI (cnz D v D.1 0 V.toInt) := by
  obtain ⟨f, M, e1, e2, b1, b2, hw⟩ := hB 0 (Nat.zero_le _)
  have hbp : ∀ i, i < D.1 → 0 < bs D i := fun i hi => Nat.lt_of_lt_of_le (by decide) (ho i hi).2.1.1
  have hp := p16 (k := D.1 - 0) (by omega)
  have ef : ((nI f).toInt64).toInt = f := by rw [Int32.toInt_toInt64, nI_toInt (by omega)]
  have eM : ((nI M).toInt64).toInt = M := by rw [Int32.toInt_toInt64, nI_toInt (by omega)]
  have r1 : am_rd 7 (I 11) 0 = nI f := (am_rdK (i := 0) rfl (by decide) (by decide)).trans e1
  have r2 : am_rd 7 (I 10) 0 = nI M := (am_rdK (i := 0) rfl (by decide) (by decide)).trans e2
  have no : (V.toInt < f ∨ (M : Int) < V.toInt) → cnz D v D.1 0 V.toInt = 0 := fun h => by
    unfold cnz
    by_cases c : V.toInt < 0
    · rw [if_pos c]
    · rw [if_neg c]
      refine cn_no hbp (by omega) (fun t z => ?_)
      have := hw _ t z
      omega
  unfold hoF
  rw [r1, r2]
  by_cases c1 : V < (nI f).toInt64
  · rw [if_pos c1]
    rw [fi_ltL, ef] at c1
    rw [no (Or.inl c1)]
    rfl
  · rw [if_neg c1]
    rw [fi_ltL, ef] at c1
    by_cases c2 : V ≤ (nI M).toInt64
    · rw [if_pos c2]
      rw [fi_leL, eM] at c2
      have hx : V.toInt = (V.toInt.toNat : Int) := (Int.toNat_of_nonneg (by omega)).symm
      have e32 : V.toInt32 = nI V.toInt.toNat := by
        rw [fi_eq, tl_32 (by omega) (by omega), nI_toInt (by omega)]
        exact hx
      rw [e32]
      have ec : cnz D v D.1 0 V.toInt = cn D v D.1 0 V.toInt.toNat := by unfold cnz; rw [if_neg (by omega)]
      rw [ec]
      generalize V.toInt.toNat = x at hx
      have hx31 : x < 2 ^ 31 := by omega
      obtain ⟨hT, hM⟩ := aim_v hx31 h6 ho hvb hs hF hB
      have hM' : MH D v (tpx D x) (aimF I D.1 (nI x)) := fun i d hi hd => Or.inl (by
        unfold aimF
        rw [aml_c (by decide), up_same]
        unfold am_fill
        rw [if_pos (by omega)])
      exact (hmF_v 7 0 (Nat.zero_le _) (by omega) _ x hT hM' hx31 (fun _ => Nat.le_refl _)).1
    · rw [if_neg c2]
      rw [fi_leL, eM] at c2
      rw [no (Or.inr (by omega))]
      rfl
end CMN

