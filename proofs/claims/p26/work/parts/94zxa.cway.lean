/-! The class's choice is the first of the best. -/
section CWY
theorem few_v {g l h f : Nat} (h1 : g ≤ 3) (h2 : l ≤ 9) (h3 : h ≤ 3) (h4 : f ≤ 9) : few (nI g) (nI l) (nI h) (nI f) = 0 ↔ 10 * h + f ≤ 10 * g + l := by
  unfold few
  by_cases c1 : g < h
  · rw [if_pos ((nI_ltI (by omega) (by omega)).mpr c1)]
    exact ⟨fun z => absurd z (by decide), fun z => by omega⟩
  · rw [if_neg (fun z => c1 ((nI_ltI (by omega) (by omega)).mp z))]
    by_cases c2 : g = h
    · rw [if_pos (by rw [c2])]
      by_cases c3 : f ≤ l
      · rw [if_pos (nI_le c3 (by omega))]
        exact ⟨fun _ => by omega, fun _ => rfl⟩
      · rw [if_neg (nI_ge (by omega) (by omega))]
        exact ⟨fun z => absurd z (by decide), fun z => by omega⟩
    · rw [if_neg (fun z => c2 ((nI_eq (by omega) (by omega)).mp z))]
      exact ⟨fun _ => by omega, fun _ => rfl⟩
/-- what was chosen out of those that show less than s -/
def Sel (D : FD) (v : StV) (k i left m s : Nat) (I : hI) (ch fh fl : Int32) : Prop := ((∀ j, BsK D v k i left m j → ¬ vl D i (j % 10) (j / 10) < s) ∧ fh = 40) ∨ ∃ j, BsK D v k i left m j ∧ vl D i (j % 10) (j / 10) < s ∧ (∀ j', BsK D v k i left m j' → vl D i (j' % 10) (j' / 10) < s → j ≤ j') ∧ ch = nI (vl D i (j % 10) (j / 10)) ∧ fh = nI (j / 10) ∧ fl = nI (j % 10) ∧ I 6 (40 * i + vl D i (j % 10) (j / 10)) = nI (j / 10)
theorem BsK_u {D : FD} {v : StV} {k i left m j : Nat} (h : BsK D v k i left m j) : ∃ y t', left = vl D i (j % 10) (j / 10) + y * bs D i ∧ WY D v k (i + 1) y t' ∧ m = cst D v i (j % 10) (j / 10) + t' ∧ alw D v i (j % 10) (j / 10) := by
  obtain ⟨_, _, ha, y, t', e, hw, et⟩ := h
  refine ⟨y, t', ?_, hw, et, ha⟩
  have : ((left : Nat) : Int) = ((vl D i (j % 10) (j / 10) + y * bs D i : Nat) : Int) := by rw [e]; simp
  exact Int.ofNat_inj.mp this
theorem BsK_m {D : FD} {v : StV} {k i left m l g y t : Nat} (hq : okR (D.2.1 i)) (ha : alw D v i l g) (e : left = vl D i l g + y * bs D i) (hw : WY D v k (i + 1) y t) (et : m = cst D v i l g + t) : BsK D v k i left m (10 * g + l) := by
  have h9 := hq.2.2.1.2
  have := ha.1
  unfold BsK
  rw [show (10 * g + l) / 10 = g by omega, show (10 * g + l) % 10 = l by omega]
  exact ⟨ha.2.1, ha.1, ha, y, t, by rw [e]; simp, hw, et⟩
theorem sbl_v {D : FD} {v : StV} {tp : Nat → Nat} {i left m : Nat} (hi : i < D.1) (hl : left < 2 ^ 31) (hlt : left ≤ tp i) (hw : WY D v (D.1 - (i + 1) + 1) i left m) (hmi : ∀ t, WY D v (D.1 - (i + 1) + 1) i left t → m ≤ t) : ∀ (k s : Nat) (I : hI) (ch fh fl : Int32), 40 ≤ s + 2 * k → s < 2 ^ 20 → (∃ y, left + bs D i * y = s ∨ left = s + y * bs D i) → Tbl D v tp I → MK D v tp I → Sel D v (D.1 - (i + 1)) i left m s I ch fh fl → (∃ j, isF (BsK D v (D.1 - (i + 1)) i left m) j ∧ (sbl (nI i) (nI left) (nI (bs D i)) (nI m) k I (nI s) ch fh fl).1 = nI (vl D i (j % 10) (j / 10)) ∧ I 6 (40 * i + vl D i (j % 10) (j / 10)) = nI (j / 10)) ∧ MK D v tp (sbl (nI i) (nI left) (nI (bs D i)) (nI m) k I (nI s) ch fh fl).2
  | k, s, I, ch, fh, fl, hk, hs, hy, hT, hM, hS => by
    have h6 := hT.h6
    have hq := hT.ok i hi
    have h9 := hq.2.2.1.2
    have h3 := hq.2.2.2.1
    have b2 : 2 ≤ bs D i := hq.2.1.1
    have b16 : bs D i ≤ 16 := hq.2.1.2
    have hmb := WY_le hT.ok hT.vb _ _ _ _ (show i + (D.1 - (i + 1) + 1) ≤ D.1 by omega) hw
    have done : 40 ≤ s ∨ left < s → ∃ j, isF (BsK D v (D.1 - (i + 1)) i left m) j ∧ ch = nI (vl D i (j % 10) (j / 10)) ∧ I 6 (40 * i + vl D i (j % 10) (j / 10)) = nI (j / 10) := fun hd => by
      have all : ∀ j, BsK D v (D.1 - (i + 1)) i left m j → vl D i (j % 10) (j / 10) < s := fun j hj => by
        obtain ⟨y, t', e, _, _, ha⟩ := BsK_u hj
        have := (slv (D := D) (i := i) (by omega) hq ha.1 ha.2.1).2
        omega
      rcases hS with ⟨h1, _⟩ | ⟨j, h1, h2, h3', h4, _, _, h5⟩
      · obtain ⟨l, g, y, t', ha, e, hwy, et⟩ := hw
        have hB := BsK_m hq ha e hwy et
        exact absurd (all _ hB) (h1 _ hB)
      · exact ⟨j, ⟨h1, fun j' hj' hb => by have := h3' j' hb (all j' hb); omega⟩, h4, h5⟩
    cases k with
    | zero => exact ⟨done (by omega), hM⟩
    | succ k =>
      unfold sbl
      by_cases c1 : left < s
      · rw [if_pos ((nI_ltI hl (by omega)).mpr c1)]
        exact ⟨done (Or.inr c1), hM⟩
      · rw [if_neg (fun z => c1 ((nI_ltI hl (by omega)).mp z))]
        by_cases c2 : 40 ≤ s
        · rw [if_pos (show (40 : Int32) ≤ nI s from nI_le (a := 40) c2 (by omega))]
          exact ⟨done (Or.inl c2), hM⟩
        · rw [if_neg (show ¬ (40 : Int32) ≤ nI s from nI_ge (b := 40) (by omega) (by omega)), cost_n (by omega) (by omega)]
          obtain ⟨y, ey⟩ : ∃ y, left = s + y * bs D i := by
            obtain ⟨y, hy | hy⟩ := hy
            · have h0 : bs D i * y = 0 := by omega
              exact ⟨0, by omega⟩
            · exact ⟨y, hy⟩
          have ny : (left - s) / bs D i = y := by rw [ey, Nat.add_sub_cancel_left]; exact Nat.mul_div_cancel _ (by omega)
          have hu : ∀ u y', u < s + bs D i → left = u + y' * bs D i → u < s ∨ (u = s ∧ y' = y) := fun u y' h1 h2 => by
            by_cases h3 : u < s
            · exact Or.inl h3
            · have h4 : y' * bs D i ≤ y * bs D i := by omega
              have h5 : y * bs D i < (y' + 1) * bs D i := by rw [Nat.succ_mul]; omega
              have h6 := Nat.le_of_mul_le_mul_right h4 (by omega)
              have h7 := Nat.lt_of_mul_lt_mul_right h5
              have h8 : y' = y := by omega
              exact Or.inr ⟨by rw [h8] at h2; omega, h8⟩
          have hy' : ∃ y, left + bs D i * y = s + bs D i ∨ left = s + bs D i + y * bs D i := by
            cases y with
            | zero => exact ⟨1, Or.inl (by omega)⟩
            | succ y => exact ⟨y, Or.inr (by rw [ey, Nat.succ_mul]; omega)⟩
          /- those that show s -/
          have hat : ∀ j, BsK D v (D.1 - (i + 1)) i left m j → vl D i (j % 10) (j / 10) < s + bs D i → vl D i (j % 10) (j / 10) < s ∨ (vl D i (j % 10) (j / 10) = s ∧ ∃ t', WY D v (D.1 - (i + 1)) (i + 1) y t' ∧ m = cst D v i (j % 10) (j / 10) + t' ∧ alw D v i (j % 10) (j / 10)) := fun j hj h1 => by
            obtain ⟨y', t', e, hwy, et, ha⟩ := BsK_u hj
            rcases hu _ y' h1 e with h | ⟨h, h'⟩
            · exact Or.inl h
            · rw [h'] at hwy
              exact Or.inr ⟨h, t', hwy, et, ha⟩
          /- nothing new is better -/
          have skip : ∀ I' : hI, I' 6 = I 6 → (∀ j, BsK D v (D.1 - (i + 1)) i left m j → vl D i (j % 10) (j / 10) = s → fh ≠ 40 ∧ ∀ j0, fh = nI (j0 / 10) → fl = nI (j0 % 10) → BsK D v (D.1 - (i + 1)) i left m j0 → j0 ≤ j) → Sel D v (D.1 - (i + 1)) i left m (s + bs D i) I' ch fh fl := fun I' e6 hn => by
            rcases hS with ⟨h1, h2⟩ | ⟨j, h1, h2, h3', h4, h5, h7, h8⟩
            · refine Or.inl ⟨fun j hj hv => ?_, h2⟩
              rcases hat j hj hv with h | ⟨h, _⟩
              · exact h1 j hj h
              · exact (hn j hj h).1 h2
            · refine Or.inr ⟨j, h1, by omega, fun j' hj' hv => ?_, h4, h5, h7, by rw [e6]; exact h8⟩
              rcases hat j' hj' hv with h | ⟨h, _⟩
              · exact h3' j' hj' h
              · exact (hn j' hj' h).2 j h5 h7 h1
          obtain ⟨_, c, e5, cF, cm, cg⟩ := (hT.ft i hi).1 s (by omega)
          rw [e5, nI_add]
          by_cases c3 : 1048576 ≤ c
          · rw [if_pos (show (1048576 : Int32) ≤ nI c from nI_le (a := 1048576) c3 (by omega))]
            refine sbl_v hi hl hlt hw hmi k (s + bs D i) I ch fh fl (by omega) (by omega) hy' hT hM (skip I rfl (fun j hj hv => ?_))
            obtain ⟨y', t', _, _, _, ha⟩ := BsK_u hj
            have l1 := cm.1 _ ⟨_, _, trivial, ha, hv, rfl⟩
            have := cst_le hq (hT.vb i hi) ha
            omega
          · rw [if_neg (show ¬ (1048576 : Int32) ≤ nI c from nI_ge (b := 1048576) (by omega) (by omega))]
            obtain ⟨g, e6, ⟨l, _, ha, hvl, hcs⟩, hfst⟩ := cg (by omega)
            have al := ha.1
            have ag := ha.2.1
            have ehg : hgF I (nI i) (nI s) = nI g := by
              unfold hgF
              rw [sl_n (by omega) (by omega), am_rdK rfl (by omega) (by decide), e6]
            have elw : lwF I (nI i) (nI s) = nI l := by
              unfold lwF
              unfold vl at hvl
              rw [ehg, am_rdK rfl (by omega) (by decide), (hT.ft i hi).2.2, show nI g * nI (hwv (D.2.1 i)) = nI (g * hwv (D.2.1 i)) from (Int32.ofNat_mul _ _).symm, nI_subI (by omega)]
              congr 1
              omega
            rw [ehg, elw]
            /- of those that show s, the first -/
            have least : ∀ j, BsK D v (D.1 - (i + 1)) i left m j → vl D i (j % 10) (j / 10) = s → 10 * g + l ≤ j ∧ ∃ t', WY D v (D.1 - (i + 1)) (i + 1) y t' ∧ m = c + t' := fun j hj hv => by
              rcases hat j hj (by omega) with h | ⟨h, t', hwy, et, haj⟩
              · omega
              · have l1 := cm.1 _ ⟨_, _, trivial, haj, hv, rfl⟩
                have l2 := hmi (cst D v i l g + t') ⟨l, g, y, t', ha, by rw [hvl]; exact ey, hwy, rfl⟩
                have l3 : c = cst D v i (j % 10) (j / 10) := by omega
                have l4 : ¬ j / 10 < g := fun z => hfst _ z ⟨_, trivial, haj, hv, l3⟩
                refine ⟨?_, t', hwy, by omega⟩
                by_cases l5 : j / 10 = g
                · unfold vl at hv hvl
                  rw [l5] at hv
                  omega
                · omega
            by_cases c4 : few (nI g) (nI l) fh fl = 0
            · rw [if_pos c4]
              refine sbl_v hi hl hlt hw hmi k (s + bs D i) I ch fh fl (by omega) (by omega) hy' hT hM (skip I rfl (fun j hj hv => ⟨fun z => ?_, fun j0 z1 z2 hj0 => ?_⟩))
              · rw [z] at c4
                unfold few at c4
                rw [if_pos (show nI g < (40 : Int32) from (nI_ltI (b := 40) (by omega) (by omega)).mpr (by omega))] at c4
                exact absurd c4 (by decide)
              · rw [z1, z2] at c4
                have hb0 := hj0.1
                have := (few_v (by omega) (by omega) (by omega) (by omega)).mp c4
                have := (least j hj hv).1
                omega
            · rw [if_neg c4, nI_subI (by omega), n_div (by omega) b2 (by omega), nI_1, ny]
              have hyt : i + 1 < D.1 → y ≤ tp (i + 1) := fun h => by
                rw [hT.tps i h, ← ny]
                exact Nat.div_le_div_right (by omega)
              obtain ⟨m1, e1, hm1, hM1⟩ := lfF_v 7 (i + 1) (by omega) (by omega) I y hT hM (by rw [← ny]; have := Nat.div_le_self (left - s) (bs D i); omega) hyt
              rw [e1, nI_add]
              have hm1F := min_le hm1 (fun t ht => by have := WY_le hT.ok hT.vb _ _ _ _ (show i + 1 + (D.1 - (i + 1)) ≤ D.1 by omega) ht; omega)
              have hT2 := Tbl_of hT (fun c h => lfF_c h 7 I (nI (i + 1)) (nI y))
              have e62 : (lfF 7 I (nI (i + 1)) (nI y)).2 6 = I 6 := lfF_c (by decide) _ _ _ _
              by_cases c5 : c + m1 = m
              · rw [if_pos (by rw [c5])]
                have hwm : WY D v (D.1 - (i + 1)) (i + 1) y m1 := hm1.2.resolve_right (fun z => by omega)
                have hB := BsK_m (k := D.1 - (i + 1)) (left := left) (m := m) hq ha (by rw [hvl]; exact ey) hwm (by rw [← hcs]; exact c5.symm)
                have d1 : (10 * g + l) / 10 = g := by omega
                have d2 : (10 * g + l) % 10 = l := by omega
                have r := sbl_v hi hl hlt hw hmi k (s + bs D i) (lfF 7 I (nI (i + 1)) (nI y)).2 (nI s) (nI g) (nI l) (by omega) (by omega) hy' hT2 hM1 (Or.inr ⟨10 * g + l, hB, by rw [d1, d2, hvl]; omega, fun j' hj' hv => ?_, by rw [d1, d2, hvl], by rw [d1], by rw [d2], by rw [d1, d2, hvl, e62]; exact e6⟩)
                · rw [e62] at r
                  exact r
                · rcases hat j' hj' hv with h | ⟨h, _⟩
                  · rcases hS with ⟨h1, _⟩ | ⟨j, h1, h2, h3', h4, h5, h7, h8⟩
                    · exact absurd h (h1 j' hj')
                    · have n1 := h3' j' hj' h
                      have hb0 := h1.1
                      rw [h5, h7] at c4
                      have n2 : ¬ 10 * (j / 10) + j % 10 ≤ 10 * g + l := fun z => c4 ((few_v (by omega) (by omega) (by omega) (by omega)).mpr z)
                      omega
                  · exact (least j' hj' h).1
              · rw [if_neg (fun z => c5 ((nI_eq (by omega) (by omega)).mp z))]
                have r := sbl_v hi hl hlt hw hmi k (s + bs D i) (lfF 7 I (nI (i + 1)) (nI y)).2 ch fh fl (by omega) (by omega) hy' hT2 hM1 (skip _ e62 (fun j hj hv => ?_))
                · rw [e62] at r
                  exact r
                · obtain ⟨_, t', hwy, et⟩ := least j hj hv
                  have l1 := hm1.1 t' hwy
                  rcases hm1.2 with z | ⟨_, z⟩
                  · have l2 := hmi (cst D v i l g + m1) ⟨l, g, y, m1, ha, by rw [hvl]; exact ey, z, rfl⟩
                    omega
                  · exact absurd hwy (z t')
end CWY

