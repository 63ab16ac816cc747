/-! The class places the first of the best. -/
section CPL
theorem Tbl_o2 {D : FD} {v : StV} {tp : Nat → Nat} {I I' : hI} (h : Tbl D v tp I) (e : ∀ c, c < 14 → c ≠ 12 → I' c = I c) : Tbl D v tp I' :=
  ⟨h.h6, h.ok, h.vb, by rw [e 4 (by decide) (by decide)]; exact h.sz, fun q hq => FTr_of (h.ft q hq) (fun s hs c hc => by rw [e c (by omega) (by omega)]) (by rw [e 8 (by decide) (by decide)]) (by rw [e 9 (by decide) (by decide)]), fun q hq => BD_of (h.bd q hq) (by rw [e 10 (by decide) (by decide)]) (by rw [e 11 (by decide) (by decide)]), h.tp0, h.tps, fun q hq => by rw [e 13 (by decide) (by decide)]; exact h.tpI q hq⟩
theorem MK_of {D : FD} {v : StV} {tp : Nat → Nat} {I I' : hI} (h : MK D v tp I) (e : I' 12 = I 12) : MK D v tp I' := fun i d hi hd => by rw [e]; exact h i d hi hd
theorem sbF_v {D : FD} {v : StV} {tp : Nat → Nat} {i left m : Nat} {I : hI} (hi : i < D.1) (hl : left < 2 ^ 31) (hlt : left ≤ tp i) (hw : WY D v (D.1 - (i + 1) + 1) i left m) (hmi : ∀ t, WY D v (D.1 - (i + 1) + 1) i left t → m ≤ t) (hT : Tbl D v tp I) (hM : MK D v tp I) : (∃ j, isF (BsK D v (D.1 - (i + 1)) i left m) j ∧ (sbF I (nI i) (nI left)).1 = nI (vl D i (j % 10) (j / 10)) ∧ I 6 (40 * i + vl D i (j % 10) (j / 10)) = nI (j / 10)) ∧ MK D v tp (sbF I (nI i) (nI left)).2 := by
  have h6 := hT.h6
  have hq := hT.ok i hi
  have b2 : 2 ≤ bs D i := hq.2.1.1
  have b16 : bs D i ≤ 16 := hq.2.1.2
  obtain ⟨m1, e1, hm1, hM1⟩ := lfF_v 7 i (by omega) (by omega) I left hT hM hl (fun _ => hlt)
  have hm1' : m1 = m := min_u hm1 ⟨fun t ht => hmi t (by rw [show D.1 - (i + 1) + 1 = D.1 - i by omega]; exact ht), Or.inl (by rw [show D.1 - i = D.1 - (i + 1) + 1 by omega]; exact hw)⟩
  have hT2 := Tbl_of hT (fun c h => lfF_c h 7 I (nI i) (nI left))
  have e62 : (lfF 7 I (nI i) (nI left)).2 6 = I 6 := lfF_c (by decide) _ _ _ _
  have hmo := Nat.mod_lt left (show 0 < bs D i by omega)
  have hdm := Nat.div_add_mod left (bs D i)
  unfold sbF
  rw [Tbl_base hT2 hi, e1, hm1', n_mod hl b2 (by omega), ← e62]
  refine sbl_v hi hl hlt hw hmi 60 (left % bs D i) _ 0 40 40 (by omega) (by omega) ⟨left / bs D i, Or.inr (by rw [Nat.mul_comm]; omega)⟩ hT2 hM1 (Or.inl ⟨fun j hj hv => ?_, rfl⟩)
  obtain ⟨y, t', e, _, _, _⟩ := BsK_u hj
  have h3 : left % bs D i = vl D i (j % 10) (j / 10) % bs D i := by rw [e, Nat.add_mul_mod_self_right]
  have h4 := Nat.mod_le (vl D i (j % 10) (j / 10)) (bs D i)
  omega
theorem pal_v {D : FD} {v : StV} {tp : Nat → Nat} {a : Nat} (ha : 14 ≤ a) : ∀ (k i left m : Nat) (I : hI), i + k = D.1 → left < 2 ^ 31 → (i < D.1 → left ≤ tp i) → WY D v k i left m → (∀ t, WY D v k i left t → m ≤ t) → Tbl D v tp I → MK D v tp I →
    (∃ f, GW D v k i left m f ∧ ∀ q, i ≤ q → q < D.1 → pal a k i (nI left) I (a + 1) q = nI (f q % 10) ∧ pal a k i (nI left) I (a + 2) q = nI (f q / 10)) ∧ ∀ q, q < i → pal a k i (nI left) I (a + 1) q = I (a + 1) q ∧ pal a k i (nI left) I (a + 2) q = I (a + 2) q
  | 0, i, left, m, I, hi, hl, hlt, hw, hmi, hT, hM => ⟨⟨fun _ => 0, trivial, fun q a b => by omega⟩, fun q _ => ⟨rfl, rfl⟩⟩
  | k + 1, i, left, m, I, hi, hl, hlt, hw, hmi, hT, hM => by
    have h6 := hT.h6
    have hi' : i < D.1 := by omega
    have hq := hT.ok i hi'
    have b2 : 2 ≤ bs D i := hq.2.1.1
    have b16 : bs D i ≤ 16 := hq.2.1.2
    have en : D.1 - (i + 1) = k := by omega
    obtain ⟨⟨j, hF, es, e6⟩, hM1⟩ := sbF_v hi' hl (hlt hi') (by rw [en]; exact hw) (by rw [en]; exact hmi) hT hM
    rw [en] at hF
    obtain ⟨y, t', e, hwy, et, hal⟩ := BsK_u hF.1
    have h40 := (slv (D := D) (i := i) (by omega) hq hal.1 hal.2.1).2
    have k12 : ∀ c, c ≠ 12 → (sbF I (nI i) (nI left)).2 c = I c := fun c h => sbF_c h
    have ehg : hgF (sbF I (nI i) (nI left)).2 (nI i) (nI (vl D i (j % 10) (j / 10))) = nI (j / 10) := by
      unfold hgF
      rw [sl_n (by omega) h40, am_rdK rfl (by omega) (by decide), k12 6 (by decide), e6]
    have elw : lwF (sbF I (nI i) (nI left)).2 (nI i) (nI (vl D i (j % 10) (j / 10))) = nI (j % 10) := by
      unfold lwF
      rw [ehg, am_rdK rfl (by omega) (by decide), k12 9 (by decide), (hT.ft i hi').2.2, show nI (j / 10) * nI (hwv (D.2.1 i)) = nI (j / 10 * hwv (D.2.1 i)) from (Int32.ofNat_mul _ _).symm]
      unfold vl
      rw [nI_subI (by omega)]
      congr 1
      omega
    have hpr : prF (sbF I (nI i) (nI left)).2 a i (nI (vl D i (j % 10) (j / 10))) = sf (sf (sbF I (nI i) (nI left)).2 (a + 2) i (nI (j / 10))) (a + 1) i (nI (j % 10)) := by
      unfold prF
      rw [ehg, elw]
    have kp : ∀ c, c < 14 → c ≠ 12 → sf (sf (sbF I (nI i) (nI left)).2 (a + 2) i (nI (j / 10))) (a + 1) i (nI (j % 10)) c = I c := fun c h1 h2 => by
      rw [sf_c (by omega), sf_c (by omega), k12 c h2]
    have hT2 := Tbl_o2 hT kp
    have hM2 : MK D v tp (sf (sf (sbF I (nI i) (nI left)).2 (a + 2) i (nI (j / 10))) (a + 1) i (nI (j % 10))) := MK_of hM1 (by rw [sf_c (by omega), sf_c (by omega)])
    have ny : (left - vl D i (j % 10) (j / 10)) / bs D i = y := by rw [e, Nat.add_sub_cancel_left]; exact Nat.mul_div_cancel _ (by omega)
    have hmi2 : ∀ t, WY D v k (i + 1) y t → t' ≤ t := fun t ht => by
      have := hmi (cst D v i (j % 10) (j / 10) + t) ⟨j % 10, j / 10, y, t, hal, e, ht, rfl⟩
      omega
    have hyt : i + 1 < D.1 → y ≤ tp (i + 1) := fun h => by
      rw [hT.tps i h, ← ny]
      have := hlt hi'
      exact Nat.div_le_div_right (by omega)
    unfold pal
    rw [es, hpr, Tbl_base hT2 hi', nI_subI (by omega), n_div (by omega) b2 (by omega), ny]
    obtain ⟨⟨f, hf, hv⟩, hk2⟩ := pal_v ha k (i + 1) y t' _ (by omega) (by rw [← ny]; have := Nat.div_le_self (left - vl D i (j % 10) (j / 10)) (bs D i); omega) hyt hwy hmi2 hT2 hM2
    refine ⟨⟨fun q => if q = i then j else f q, ?_, fun q q1 q2 => ?_⟩, fun q hq => ?_⟩
    · unfold GW
      dsimp only
      rw [if_pos rfl]
      refine ⟨hF, y, t', e, hwy, et, GW_c k (i + 1) y t' (fun q a b => ?_) hf⟩
      rw [if_neg (by omega)]
    · dsimp only
      by_cases eq : q = i
      · rw [if_pos eq, eq, (hk2 i (by omega)).1, (hk2 i (by omega)).2, sf_s, sf_c (by omega), sf_s]
        exact ⟨rfl, rfl⟩
      · rw [if_neg eq]
        exact hv q (by omega) q2
    · have := hk2 q (by omega)
      rw [this.1, this.2, sf_k (by omega), sf_c (by omega), sf_c (by omega), sf_k (by omega), k12 _ (by omega), k12 _ (by omega)]
      exact ⟨rfl, rfl⟩
end CPL

