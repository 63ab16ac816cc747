/-! The class's least is the mathematics'. -/
section CLE
theorem n_div {a b : Nat} (ha : a < 2 ^ 31) (hb : 2 ≤ b) (hb' : b < 2 ^ 31) : nI a / nI b = nI (a / b) := by
  have := Nat.div_le_self a b
  rw [fi_eq, ti_div (by rw [nI_toInt hb']; omega), nI_toInt ha, nI_toInt hb', nI_toInt (by omega), ← Int.ofNat_tdiv]
theorem n_mod {a b : Nat} (ha : a < 2 ^ 31) (hb : 2 ≤ b) (hb' : b < 2 ^ 31) : nI a - nI a / nI b * nI b = nI (a % b) := by
  have h := Nat.div_add_mod a b
  have h2 : a / b * b = b * (a / b) := Nat.mul_comm _ _
  rw [n_div ha hb hb', show nI (a / b) * nI b = nI (a / b * b) from (Int32.ofNat_mul _ _).symm, nI_subI (by omega)]
  congr 1
  omega
/-- the costs by which rod i shows u -/
def HC (D : FD) (v : StV) (i u t : Nat) : Prop := ∃ l h, alw D v i l h ∧ vl D i l h = u ∧ t = cst D v i l h
/-- ways whose rod i shows less than s -/
def WP (D : FD) (v : StV) (k i left s t : Nat) : Prop := ∃ u y t1 t', u < s ∧ left = u + y * bs D i ∧ HC D v i u t1 ∧ WY D v k (i + 1) y t' ∧ t = t1 + t'
theorem WP_all {D : FD} {v : StV} {k i left s t : Nat} (hi : i < D.1) (h6 : D.1 ≤ 6) (hq : okR (D.2.1 i)) (hs : 40 ≤ s ∨ left < s) : WP D v k i left s t ↔ WY D v (k + 1) i left t := by
  constructor
  · intro ⟨u, y, t1, t', _, e, ⟨l, h, ha, eu, e1⟩, hw, et⟩
    exact ⟨l, h, y, t', ha, by rw [eu]; exact e, hw, by rw [← e1]; exact et⟩
  · intro ⟨l, h, y, t', ha, e, hw, et⟩
    have h40 := (slv (D := D) (i := i) (by omega) hq ha.1 ha.2.1).2
    exact ⟨vl D i l h, y, _, t', by omega, e, ⟨l, h, ha, rfl, rfl⟩, hw, et⟩
/-- what the tables, the aim and the memo hold -/
def Tbl (D : FD) (v : StV) (tp : Nat → Nat) (I : hI) : Prop := D.1 ≤ 6 ∧ (∀ i, i < D.1 → okR (D.2.1 i)) ∧ (∀ i, i < D.1 → v.1 i ≤ 9 ∧ v.2.1 i ≤ 9) ∧ I 4 13 = nI D.1 ∧ (∀ q, q < D.1 → FTr D v q I) ∧ (∀ q, q ≤ D.1 → BD D v q I) ∧ (∀ q, q < D.1 → tp q < 2 ^ 31) ∧ (∀ q, q + 1 < D.1 → tp (q + 1) = tp q / bs D q) ∧ ∀ q, q < D.1 → I 13 q = nI (tp q)
theorem Tbl.h6 {D : FD} {v : StV} {tp : Nat → Nat} {I : hI} (h : Tbl D v tp I) : D.1 ≤ 6 := h.1
theorem Tbl.ok {D : FD} {v : StV} {tp : Nat → Nat} {I : hI} (h : Tbl D v tp I) : ∀ i, i < D.1 → okR (D.2.1 i) := h.2.1
theorem Tbl.vb {D : FD} {v : StV} {tp : Nat → Nat} {I : hI} (h : Tbl D v tp I) : ∀ i, i < D.1 → v.1 i ≤ 9 ∧ v.2.1 i ≤ 9 := h.2.2.1
theorem Tbl.sz {D : FD} {v : StV} {tp : Nat → Nat} {I : hI} (h : Tbl D v tp I) : I 4 13 = nI D.1 := h.2.2.2.1
theorem Tbl.ft {D : FD} {v : StV} {tp : Nat → Nat} {I : hI} (h : Tbl D v tp I) : ∀ q, q < D.1 → FTr D v q I := h.2.2.2.2.1
theorem Tbl.bd {D : FD} {v : StV} {tp : Nat → Nat} {I : hI} (h : Tbl D v tp I) : ∀ q, q ≤ D.1 → BD D v q I := h.2.2.2.2.2.1
theorem Tbl.tp0 {D : FD} {v : StV} {tp : Nat → Nat} {I : hI} (h : Tbl D v tp I) : ∀ q, q < D.1 → tp q < 2 ^ 31 := h.2.2.2.2.2.2.1
theorem Tbl.tps {D : FD} {v : StV} {tp : Nat → Nat} {I : hI} (h : Tbl D v tp I) : ∀ q, q + 1 < D.1 → tp (q + 1) = tp q / bs D q := h.2.2.2.2.2.2.2.1
theorem Tbl.tpI {D : FD} {v : StV} {tp : Nat → Nat} {I : hI} (h : Tbl D v tp I) : ∀ q, q < D.1 → I 13 q = nI (tp q) := h.2.2.2.2.2.2.2.2
/-- the memo -/
def MK (D : FD) (v : StV) (tp : Nat → Nat) (I : hI) : Prop := ∀ i d, i < D.1 → d < 40 → I 12 (40 * i + d) = -1 ∨ (d ≤ tp i ∧ ∃ m, I 12 (40 * i + d) = nI m ∧ isMin 1048576 (fun t => WY D v (D.1 - i) i (tp i - d) t) m)
theorem Tbl_of {D : FD} {v : StV} {tp : Nat → Nat} {I I' : hI} (h : Tbl D v tp I) (e : ∀ c, c ≠ 12 → I' c = I c) : Tbl D v tp I' :=
  ⟨h.h6, h.ok, h.vb, by rw [e 4 (by decide)]; exact h.sz, fun q hq => FTr_of (h.ft q hq) (fun s hs c hc => by rw [e c (by omega)]) (by rw [e 8 (by decide)]) (by rw [e 9 (by decide)]), fun q hq => BD_of (h.bd q hq) (by rw [e 10 (by decide)]) (by rw [e 11 (by decide)]), h.tp0, h.tps, fun q hq => by rw [e 13 (by decide)]; exact h.tpI q hq⟩
theorem Tbl_base {D : FD} {v : StV} {tp : Nat → Nat} {I : hI} (h : Tbl D v tp I) {i : Nat} (hi : i < D.1) : baseF I (nI i) = nI (bs D i) := by
  have := h.h6
  have hq := h.ok i hi
  unfold baseF
  rw [am_rdK rfl (by omega) (by decide), (h.ft i hi).2.1, if_neg]
  exact fun z => by
    have z2 := (nI_ltI (b := 2) (by have := hq.2.1.2; omega) (by omega)).mp z
    have := hq.2.1.1
    omega
/-- what leastFrom answers -/
def LFv (D : FD) (v : StV) (tp : Nat → Nat) (i : Nat) (f : hI → Int32 → Int32 → Int32 × hI) : Prop := ∀ (I : hI) (left : Nat), Tbl D v tp I → MK D v tp I → left < 2 ^ 31 → (i < D.1 → left ≤ tp i) → ∃ m, (f I (nI i) (nI left)).1 = nI m ∧ isMin 1048576 (fun t => WY D v (D.1 - i) i left t) m ∧ MK D v tp (f I (nI i) (nI left)).2
theorem lfl_v {D : FD} {v : StV} {tp : Nat → Nat} {i left : Nat} {f : hI → Int32 → Int32 → Int32 × hI} (hi : i < D.1) (hf : LFv D v tp (i + 1) f) (hc : ∀ c, c ≠ 12 → ∀ I x y, (f I x y).2 c = I c) (hl : left < 2 ^ 31) (hlt : left ≤ tp i) : ∀ (k s best : Nat) (I : hI), 40 ≤ s + 2 * k → s < 2 ^ 20 → (∃ y, left + bs D i * y = s ∨ left = s + y * bs D i) → Tbl D v tp I → MK D v tp I → isMin 1048576 (fun t => WP D v (D.1 - (i + 1)) i left s t) best → ∃ m, (lfl f (nI i) (nI left) (nI (bs D i)) k I (nI s) (nI best)).1 = nI m ∧ isMin 1048576 (fun t => WY D v (D.1 - i) i left t) m ∧ MK D v tp (lfl f (nI i) (nI left) (nI (bs D i)) k I (nI s) (nI best)).2
  | k, s, best, I, hk, hs, hy, hT, hM, hb => by
    have h6 := hT.h6
    have hq := hT.ok i hi
    have b2 : 2 ≤ bs D i := hq.2.1.1
    have b16 : bs D i ≤ 16 := hq.2.1.2
    have en : D.1 - i = D.1 - (i + 1) + 1 := by omega
    have done : 40 ≤ s ∨ left < s → isMin 1048576 (fun t => WY D v (D.1 - i) i left t) best := fun hd => by
      rw [en]
      exact min_c hb (fun t => (WP_all hi h6 hq hd).symm)
    cases k with
    | zero => exact ⟨best, rfl, done (by omega), hM⟩
    | succ k =>
      unfold lfl
      have hWb : ∀ s t, WP D v (D.1 - (i + 1)) i left s t → t ≤ 45 * 7 := fun s t ⟨u, y, t1, t', _, _, ⟨l, h, ha, _, e1⟩, hw, et⟩ => by
        have := cst_le hq (hT.vb i hi) ha
        have := WY_le hT.ok hT.vb _ _ _ _ (by omega) hw
        omega
      have hbF := min_le hb (fun t ht => by have := hWb _ t ht; omega)
      by_cases c1 : left < s
      · rw [if_pos ((nI_ltI hl (by omega)).mpr c1)]
        exact ⟨best, rfl, done (Or.inr c1), hM⟩
      · rw [if_neg (fun z => c1 ((nI_ltI hl (by omega)).mp z))]
        by_cases c2 : 40 ≤ s
        · rw [if_pos (show (40 : Int32) ≤ nI s from nI_le (a := 40) c2 (by omega))]
          exact ⟨best, rfl, done (Or.inl c2), hM⟩
        · rw [if_neg (show ¬ (40 : Int32) ≤ nI s from nI_ge (b := 40) (by omega) (by omega)), cost_n (by omega) (by omega)]
          obtain ⟨y, ey⟩ : ∃ y, left = s + y * bs D i := by
            obtain ⟨y, hy | hy⟩ := hy
            · have h0 : bs D i * y = 0 := by omega
              exact ⟨0, by omega⟩
            · exact ⟨y, hy⟩
          obtain ⟨_, c, e5, cF, cm, _⟩ := (hT.ft i hi).1 s (by omega)
          have cH : isMin 1048576 (HC D v i s) c := min_c cm (fun t => ⟨fun ⟨l, h, a, b, e⟩ => ⟨l, h, trivial, a, b, e⟩, fun ⟨l, h, _, a, b, e⟩ => ⟨l, h, a, b, e⟩⟩)
          rw [e5, nI_add]
          have ny : (left - s) / bs D i = y := by rw [ey, Nat.add_sub_cancel_left]; exact Nat.mul_div_cancel _ (by omega)
          have hu : ∀ u y', u < s + bs D i → left = u + y' * bs D i → u < s ∨ (u = s ∧ y' = y) := fun u y' h1 h2 => by
            by_cases h3 : u < s
            · exact Or.inl h3
            · have h4 : y' * bs D i ≤ y * bs D i := by omega
              have h5 : y * bs D i < (y' + 1) * bs D i := by rw [Nat.succ_mul]; omega
              have h6 := Nat.le_of_mul_le_mul_right h4 (by omega)
              have h7 := Nat.lt_of_mul_lt_mul_right h5
              have h8 : y' = y := by omega
              exact Or.inr ⟨by rw [h8] at h2; omega, h8⟩
          have hy' : ∃ y, left + bs D i * y = s + bs D i ∨ left = s + bs D i + y * bs D i := by
            cases y with
            | zero => exact ⟨1, Or.inl (by omega)⟩
            | succ y => exact ⟨y, Or.inr (by rw [ey, Nat.succ_mul]; omega)⟩
          by_cases c3 : best ≤ c
          · rw [if_pos (nI_le c3 (by omega))]
            refine lfl_v hi hf hc hl hlt k (s + bs D i) best I (by omega) (by omega) hy' hT hM ⟨fun t ⟨u, y', t1, t', h1, h2, h3, h4, h5⟩ => ?_, ?_⟩
            · rcases hu u y' h1 h2 with h | ⟨h, h'⟩
              · exact hb.1 t ⟨u, y', t1, t', h, h2, h3, h4, h5⟩
              · rw [h] at h3
                have := cH.1 t1 h3
                omega
            · rcases hb.2 with ⟨u, y', t1, t', h1, h2⟩ | ⟨h1, h2⟩
              · exact Or.inl ⟨u, y', t1, t', by omega, h2⟩
              · refine Or.inr ⟨h1, fun t ⟨u, y', t1, t', a1, a2, a3, a4, a5⟩ => ?_⟩
                rcases hu u y' a1 a2 with h | ⟨h, h'⟩
                · exact h2 t ⟨u, y', t1, t', h, a2, a3, a4, a5⟩
                · rw [h] at a3
                  have l1 := cH.1 t1 a3
                  obtain ⟨l, g, ha, _, e1⟩ := a3
                  have := cst_le hq (hT.vb i hi) ha
                  omega
          · rw [if_neg (nI_ge (by omega) (by omega)), nI_subI (by omega), n_div (by omega) b2 (by omega), nI_1, ny]
            have hyt : i + 1 < D.1 → y ≤ tp (i + 1) := fun h => by
              rw [hT.tps i h, ← ny]
              exact Nat.div_le_div_right (by omega)
            obtain ⟨m1, e1, hm1, hM1⟩ := hf I y hT hM (by rw [← ny]; have := Nat.div_le_self (left - s) (bs D i); omega) hyt
            rw [e1, nI_add]
            have hm1F := min_le hm1 (fun t ht => by have := WY_le hT.ok hT.vb _ _ _ _ (show i + 1 + (D.1 - (i + 1)) ≤ D.1 by omega) ht; omega)
            have hb2 : isMin 1048576 (fun t => WP D v (D.1 - (i + 1)) i left (s + bs D i) t) (if c + m1 < best then c + m1 else best) := by
              have cA : HC D v i s c := cH.2.resolve_right (fun z => by omega)
              by_cases c4 : c + m1 < best
              · rw [if_pos c4]
                refine ⟨fun t ⟨u, y', t1, t', h1, h2, h3, h4, h5⟩ => ?_, Or.inl ⟨s, y, c, m1, by omega, ey, cA, hm1.2.resolve_right (fun z => by omega), rfl⟩⟩
                rcases hu u y' h1 h2 with h | ⟨h, h'⟩
                · have := hb.1 t ⟨u, y', t1, t', h, h2, h3, h4, h5⟩
                  omega
                · rw [h] at h3
                  rw [h'] at h4
                  have := cH.1 t1 h3
                  have := hm1.1 t' h4
                  omega
              · rw [if_neg c4]
                refine ⟨fun t ⟨u, y', t1, t', h1, h2, h3, h4, h5⟩ => ?_, ?_⟩
                · rcases hu u y' h1 h2 with h | ⟨h, h'⟩
                  · exact hb.1 t ⟨u, y', t1, t', h, h2, h3, h4, h5⟩
                  · rw [h] at h3
                    rw [h'] at h4
                    have := cH.1 t1 h3
                    have := hm1.1 t' h4
                    omega
                · rcases hb.2 with ⟨u, y', t1, t', h1, h2⟩ | ⟨h1, h2⟩
                  · exact Or.inl ⟨u, y', t1, t', by omega, h2⟩
                  · refine Or.inr ⟨h1, fun t ⟨u, y', t1, t', a1, a2, a3, a4, a5⟩ => ?_⟩
                    rcases hu u y' a1 a2 with h | ⟨h, h'⟩
                    · exact h2 t ⟨u, y', t1, t', h, a2, a3, a4, a5⟩
                    · rw [h'] at a4
                      have l2 := hm1.1 t' a4
                      have l3 := WY_le hT.ok hT.vb _ _ _ _ (show i + 1 + (D.1 - (i + 1)) ≤ D.1 by omega) a4
                      obtain ⟨l, g, ha, _, e1⟩ := cA
                      have := cst_le hq (hT.vb i hi) ha
                      omega
            have eb : (if nI (c + m1) < nI best then nI (c + m1) else nI best) = nI (if c + m1 < best then c + m1 else best) := by
              by_cases c4 : c + m1 < best
              · rw [if_pos c4, if_pos ((nI_ltI (by omega) (by omega)).mpr c4)]
              · rw [if_neg c4, if_neg (fun z => c4 ((nI_ltI (by omega) (by omega)).mp z))]
            rw [eb]
            exact lfl_v hi hf hc hl hlt k (s + bs D i) _ _ (by omega) (by omega) hy' (Tbl_of hT (fun c h => hc c h I _ _)) hM1 hb2
theorem MK_w {D : FD} {v : StV} {tp : Nat → Nat} {I : hI} {i left m : Nat} (h6 : D.1 ≤ 6) (hi : i < D.1) (hM : MK D v tp I) (hl : left ≤ tp i) (ht : tp i < 2 ^ 31) (hm : isMin 1048576 (fun t => WY D v (D.1 - i) i left t) m) : MK D v tp (wI I 12 240 (slotF (nI i) (nI (tp i) - nI left)) (nI m)) := by
  rw [nI_subI hl]
  by_cases c : tp i - left < 40
  · rw [sl_n (by omega) c, wI_n (by omega) (by decide)]
    intro i' d hi' hd
    by_cases e : i' = i ∧ d = tp i - left
    · obtain ⟨rfl, rfl⟩ := e
      refine Or.inr ⟨by omega, m, sf_s _ _ _ _, ?_⟩
      rw [show tp i' - (tp i' - left) = left by omega]
      exact hm
    · rw [sf_k (by omega)]
      exact hM i' d hi' hd
  · have e : slotF (nI i) (nI (tp i - left)) = -1 := by
      unfold slotF
      rw [if_neg (nI_pos (by omega)), if_pos (show (40 : Int32) ≤ nI (tp i - left) from nI_le (a := 40) (by omega) (by omega))]
    rw [e]
    have e2 : wI I 12 240 (-1) (nI m) = I := by
      unfold wI
      rw [am_wr_out (Or.inl (by decide))]
      funext c
      by_cases ec : c = 12
      · rw [ec, up_same]
      · rw [up_ne ec]
    rw [e2]
    exact hM
theorem lfF_v {D : FD} {v : StV} {tp : Nat → Nat} : ∀ (k i : Nat), i ≤ D.1 → D.1 < i + k → LFv D v tp i (lfF k)
  | 0, i, hi, hk => by omega
  | k + 1, i, hi, hk => fun I left hT hM hl hlt => by
    have h6 := hT.h6
    unfold lfF
    by_cases c0 : i = D.1
    · rw [if_pos (by rw [hT.sz]; exact nI_le (by omega) (by omega)), c0, Nat.sub_self]
      by_cases c1 : left = 0
      · rw [c1, if_pos (show nI 0 = (0 : Int32) from rfl)]
        exact ⟨0, rfl, ⟨fun t _ => Nat.zero_le t, Or.inl ⟨rfl, rfl⟩⟩, hM⟩
      · rw [if_neg (show ¬ nI left = (0 : Int32) from fun z => c1 ((nI_eq (b := 0) hl (by omega)).mp z))]
        exact ⟨1048576, rfl, min_0 _ (fun t z => c1 z.1), hM⟩
    · have hi' : i < D.1 := by omega
      have hq := hT.ok i hi'
      have b2 : 2 ≤ bs D i := hq.2.1.1
      have b16 : bs D i ≤ 16 := hq.2.1.2
      have hlt' := hlt hi'
      have ht := hT.tp0 i hi'
      rw [if_neg (by rw [hT.sz]; exact nI_ge (by omega) (by omega))]
      obtain ⟨f, M, e1, e2, b1, b3, hw⟩ := hT.bd i (by omega)
      have hp := p16 (k := D.1 - i) (by omega)
      have eR : inR I (nI i) (nI left) ↔ f ≤ left ∧ left ≤ M := by
        show (¬ nI left < am_rd 7 (I 11) (nI i) ∧ ¬ am_rd 7 (I 10) (nI i) < nI left) ↔ _
        rw [am_rdK rfl (by omega) (by decide), am_rdK rfl (by omega) (by decide), e1, e2, nI_ltI hl (by omega), nI_ltI (by omega) hl]
        omega
      by_cases c1 : inR I (nI i) (nI left)
      · rw [if_neg (fun z => z c1), am_rdK rfl (by omega) (by decide), hT.tpI i hi', Tbl_base hT hi']
        by_cases c2 : slotF (nI i) (nI (tp i) - nI left) ≠ -1 ∧ am_rd 240 (I 12) (slotF (nI i) (nI (tp i) - nI left)) ≠ -1
        · rw [if_pos c2]
          have c3 : tp i - left < 40 := by
            by_cases c : tp i - left < 40
            · exact c
            · refine absurd ?_ c2.1
              rw [nI_subI hlt']
              unfold slotF
              rw [if_neg (nI_pos (by omega)), if_pos (show (40 : Int32) ≤ nI (tp i - left) from nI_le (a := 40) (by omega) (by omega))]
          have es : am_rd 240 (I 12) (slotF (nI i) (nI (tp i) - nI left)) = I 12 (40 * i + (tp i - left)) := by
            rw [nI_subI hlt', sl_n (by omega) c3, am_rdK rfl (by omega) (by decide)]
          rw [es] at c2 ⊢
          rcases hM i (tp i - left) hi' c3 with z | ⟨_, m, em, hm⟩
          · exact absurd z c2.2
          · rw [show tp i - (tp i - left) = left by omega] at hm
            exact ⟨m, em, hm, hM⟩
        · rw [if_neg c2, n_mod hl b2 (by omega)]
          have hmo := Nat.mod_lt left (show 0 < bs D i by omega)
          have hdm := Nat.div_add_mod left (bs D i)
          obtain ⟨m, em, hm, hM2⟩ := lfl_v (f := lfF k) hi' (lfF_v k (i + 1) (by omega) (by omega)) (fun c h I x y => lfF_c h k I x y) hl hlt' 60 (left % bs D i) 1048576 I (by omega) (by omega) ⟨left / bs D i, Or.inr (by rw [Nat.mul_comm]; omega)⟩ hT hM (min_0 _ (fun t ⟨u, y, _, _, h1, h2, _⟩ => by
            have h3 : left % bs D i = u % bs D i := by rw [h2, Nat.add_mul_mod_self_right]
            have h4 := Nat.mod_le u (bs D i)
            omega))
          have em' : (lfl (lfF k) (nI i) (nI left) (nI (bs D i)) 60 I (nI (left % bs D i)) 1048576).1 = nI m := em
          dsimp only
          rw [em']
          exact ⟨m, rfl, hm, MK_w h6 hi' hM2 hlt' ht hm⟩
      · rw [if_pos c1]
        exact ⟨1048576, rfl, min_0 _ (fun t z => c1 (eR.mpr (hw left t z))), hM⟩
end CLE

