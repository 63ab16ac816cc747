/-! carry and clear: one row behind them on both sides. -/
section CRY
theorem cc_v {D : FD} {v : StV} {I I1 : hI} {o q S : Nat} (hq : q < D.1) (h6 : D.1 ≤ 6) (hD : DMf D I1) (hV : RV D v o (I1 o 12) I1) (h : FTr D v q I) (hS : S ≤ 40) : (costF I (nI q) (nI S) = nI 1048576 ∧ alF I1 D o q (nI S) = -1) ∨ ∃ j, j < 40 ∧ Qa D v q S j ∧ costF I (nI q) (nI S) = nI (ca D v q j) ∧ hgF I (nI q) (nI S) = nI (j / 10) ∧ lwF I (nI q) (nI S) = nI (j % 10) ∧ alF I1 D o q (nI S) = nI j := by
  have hok := (hD.2.2.2 q hq).1
  by_cases c : S < 40
  · have es := sl_n (show q < 6 by omega) c
    have eN : ¬ nI (40 * q + S) = -1 := fun z => by
      have := (fi_eq _ _).mp z
      rw [nI_toInt (by omega)] at this
      have z1 : (-1 : Int32).toInt = -1 := rfl
      omega
    have ec : costF I (nI q) (nI S) = I 5 (40 * q + S) := by
      unfold costF
      rw [es, if_neg eN, am_rdK rfl (by omega) (by decide)]
    rcases al_cell hq h6 hD hV h c with ⟨_, e5, ea⟩ | ⟨j, j4, hj, e5, e6, ea⟩
    · exact Or.inl ⟨ec.trans e5, ea⟩
    · have eh : hgF I (nI q) (nI S) = nI (j / 10) := by
        unfold hgF
        rw [es, am_rdK rfl (by omega) (by decide), e6]
      refine Or.inr ⟨j, j4, hj, ec.trans e5, eh, ?_, ea⟩
      unfold lwF
      rw [eh, am_rdK rfl (by omega) (by decide), h.2.2, show nI (j / 10) * nI (hwv (D.2.1 q)) = nI (j / 10 * hwv (D.2.1 q)) from (Int32.ofNat_mul _ _).symm]
      have e4 := hj.2.2.2
      unfold vl at e4
      rw [← e4, nI_subI (by omega)]
      congr 1
      omega
  · obtain rfl : S = 40 := by omega
    have ec : costF I (nI q) (nI 40) = nI 1048576 := by
      unfold costF slotF
      rw [if_neg (nI_pos (by decide)), if_pos (show (40 : Int32) ≤ nI 40 by decide), if_pos rfl]
      rfl
    obtain ⟨le, hA⟩ := alF_v (S := 40) hD hV hq (by decide)
    rcases hA with ⟨_, e, _⟩ | ⟨j, _, hj, _⟩
    · exact Or.inl ⟨ec, e⟩
    · have := (slv (D := D) (i := q) (by omega) hok hj.2.2.1.1 hj.2.2.1.2.1).2
      have := hj.2.2.2
      omega
theorem n_m1 {j : Nat} (h : j < 2 ^ 31) : ¬ nI j < 0 := nI_pos h
/-- carry: the same answer, one row behind -/
theorem carry_row {D : FD} {r : Nat → Int32} {a o i : Nat} {I I1 : hI} (ha : 14 ≤ a) (h6 : D.1 ≤ 6) (hD : DMf D I1) (hW : WR D r) (hi : i < D.1) (hc : ∀ j, j < 14 → Cr a I j = r j) (hm : ∀ j, j < 14 → I1 o j = r j) : (coF I D a i).1 = (caF I1 D o i).1 ∧ ((caF I1 D o i).1 = -1 ∨ 0 ≤ (caF I1 D o i).1) ∧ ∃ r', WR D r' ∧ (∀ j, j < 14 → Cr a (coF I D a i).2 j = r' j) ∧ (∀ j, j < 14 → (caF I1 D o i).2 o j = r' j) := by
  have okr := fun k hk => (hD.2.2.2 k hk).1
  have hC := CV_r h6 okr hW hc
  have hR := RV_r h6 okr hW hm
  have eX := shw_v hC hi
  have eM := M_sh_v hD hR hi
  have bX := vl_39 h6 okr hW hi
  have hb2 := (okr i hi).2.1
  have kL : ∀ c, 14 ≤ c → ldF I D a 0 c = I c := fun c hc => ldF_c (by omega) (by omega) (by omega) (by omega) (by omega) (by omega) (by omega) (by omega)
  have hcL : ∀ j, j < 14 → Cr a (ldF I D a 0) j = r j := fun j hj => by
    rw [Cr_of (kL a ha) (kL _ (by omega)) (kL _ (by omega))]
    exact hc j hj
  unfold coF caF
  by_cases c0 : D.1 ≤ i + 1
  · rw [if_pos c0]
    have el : nI i = nI D.1 - 1 := by
      rw [show D.1 = i + 1 by omega]
      exact (nI_pred i).symm
    by_cases c1 : M_sh I1 o i < nI (D.2.1 i).2.1
    · rw [if_pos c1]; exact ⟨rfl, Or.inl rfl, r, hW, hc, hm⟩
    · rw [if_neg c1, if_pos el]; exact ⟨rfl, Or.inl rfl, r, hW, hc, hm⟩
  · rw [if_neg c0]
    have hi1 : i + 1 < D.1 := by omega
    have el : ¬ nI i = nI D.1 - 1 := fun z => by
      obtain ⟨n, hn⟩ : ∃ n, D.1 = n + 1 := ⟨D.1 - 1, by omega⟩
      rw [hn, nI_pred] at z
      have := (nI_eq (by omega) (by omega)).mp z
      omega
    have eY := shw_v hC hi1
    have eN := M_sh_v hD hR hi1
    have bY := vl_39 h6 okr hW hi1
    by_cases c1 : (D.2.1 i).2.1 ≤ vl D i ((Rv r).1 i) ((Rv r).2.1 i)
    · have eL : coL I D a i = nI (vl D i ((Rv r).1 i) ((Rv r).2.1 i) - (D.2.1 i).2.1) := by unfold coL; rw [eX, nI_subI c1]
      have eR : coM I D a i = nI (vl D (i + 1) ((Rv r).1 (i + 1)) ((Rv r).2.1 (i + 1)) + 1) := by unfold coM; rw [eY, nI_1]
      have e1 : ca1 I1 D o i = alF I1 D o i (nI (vl D i ((Rv r).1 i) ((Rv r).2.1 i) - (D.2.1 i).2.1)) := by unfold ca1; rw [eM, nI_subI c1]
      have e2 : ca2 I1 D o i = alF I1 D o (i + 1) (nI (vl D (i + 1) ((Rv r).1 (i + 1)) ((Rv r).2.1 (i + 1)) + 1)) := by unfold ca2; rw [eN, nI_1]
      have hF := (ldF_v (I := I) (a := a) (by omega) h6 okr hC).1
      have A := cc_v (S := vl D i ((Rv r).1 i) ((Rv r).2.1 i) - (D.2.1 i).2.1) hi h6 hD hR (hF i hi) (by omega)
      have B := cc_v (S := vl D (i + 1) ((Rv r).1 (i + 1)) ((Rv r).2.1 (i + 1)) + 1) hi1 h6 hD hR (hF _ hi1) (by omega)
      have eT : coT I D a i = costF (ldF I D a 0) (nI i) (coL I D a i) + costF (ldF I D a 0) (nI (i + 1)) (coM I D a i) := rfl
      rw [if_pos (show nI (D.2.1 i).2.1 ≤ shw I a i (D.2.1 i) by rw [eX]; exact nI_le c1 (by omega)), if_neg (show ¬ M_sh I1 o i < nI (D.2.1 i).2.1 by rw [eM]; exact nI_nlt c1 (by omega)), if_neg el]
      rw [← e1, ← eL] at A
      rw [← e2, ← eR] at B
      have m1 : (-1 : Int32) < 0 := by decide
      have m2 : ¬ (0 : Int32) ≤ -1 := by decide
      have big : ∀ x : Nat, ¬ nI (1048576 + x) < (1048576 : Int32) ∨ ¬ x ≤ 1048576 := fun x => by
        by_cases z : x ≤ 1048576
        · exact Or.inl (nI_nlt (a := 1048576 + x) (b := 1048576) (by omega) (by omega))
        · exact Or.inr z
      rcases A with ⟨n1, g1⟩ | ⟨j, j4, hj, n1, h1, l1, g1⟩
      · have eT2 : ¬ coT I D a i < 1048576 := by
          rw [eT, n1]
          rcases B with ⟨n2, g2⟩ | ⟨j', j4', hj', n2, h2, l2, g2⟩
          · rw [n2, nI_add]; exact (big _).resolve_right (fun z => z (by omega))
          · have : ca D (Rv r) (i + 1) j' ≤ 45 := cst_le (okr _ hi1) (hR _ hi1).2.1 hj'.2.2.1
            rw [n2, nI_add]; exact (big _).resolve_right (fun z => z (by omega))
        rw [if_neg eT2, if_pos (show ca1 I1 D o i < 0 by rw [g1]; exact m1)]
        exact ⟨rfl, Or.inl rfl, r, hW, hcL, hm⟩
      · have b1 : ca D (Rv r) i j ≤ 45 := cst_le (okr _ hi) (hR _ hi).2.1 hj.2.2.1
        rw [if_neg (show ¬ ca1 I1 D o i < 0 by rw [g1]; exact nI_pos (by omega))]
        rcases B with ⟨n2, g2⟩ | ⟨k, k4, hk, n2, h2, l2, g2⟩
        · have eT2 : ¬ coT I D a i < 1048576 := by
            rw [eT, n1, n2, nI_add, Nat.add_comm]; exact (big _).resolve_right (fun z => z (by omega))
          rw [if_neg eT2, if_neg (show ¬ (0 : Int32) ≤ ca2 I1 D o i by rw [g2]; exact m2)]
          exact ⟨rfl, Or.inl rfl, r, hW, hcL, hm⟩
        · have b2 : ca D (Rv r) (i + 1) k ≤ 45 := cst_le (okr _ hi1) (hR _ hi1).2.1 hk.2.2.1
          have eTn : coT I D a i = nI (ca D (Rv r) i j + ca D (Rv r) (i + 1) k) := by rw [eT, n1, n2, nI_add]
          have dj : dL (nI j) = nI (j % 10) := n_m10 (by omega)
          have dj' : dH (nI j) = nI (j / 10) := n_div (b := 10) (by omega) (by omega) (by omega)
          have dk : dL (nI k) = nI (k % 10) := n_m10 (by omega)
          have dk' : dH (nI k) = nI (k / 10) := n_div (b := 10) (by omega) (by omega) (by omega)
          have eTm : caT I1 D o i = nI (ca D (Rv r) i j + ca D (Rv r) (i + 1) k) := by
            unfold caT
            rw [g1, g2, dj, dj', dk, dk', ch_cst hD hR hi (by omega) (by omega), ch_cst hD hR hi1 (by omega) (by omega), nI_add]
            rfl
          rw [if_pos (show coT I D a i < 1048576 by rw [eTn]; exact (nI_ltI (b := 1048576) (by omega) (by omega)).mpr (by omega)), if_pos (show (0 : Int32) ≤ ca2 I1 D o i by rw [g2]; exact nI_pos' (by omega)), eTn, eTm]
          have eP : prF (ldF I D a 0) a i (coL I D a i) = sf (sf (ldF I D a 0) (a + 2) i (nI (j / 10))) (a + 1) i (nI (j % 10)) := by
            unfold prF
            rw [h1, l1]
          have eH : hgF (sf (sf (ldF I D a 0) (a + 2) i (nI (j / 10))) (a + 1) i (nI (j % 10))) (nI (i + 1)) (coM I D a i) = nI (k / 10) := by
            rw [← h2]
            unfold hgF
            rw [sf_c (by omega), sf_c (by omega)]
          have eW : lwF (sf (sf (ldF I D a 0) (a + 2) i (nI (j / 10))) (a + 1) i (nI (j % 10))) (nI (i + 1)) (coM I D a i) = nI (k % 10) := by
            rw [← l2]
            unfold lwF
            rw [eH, h2, sf_c (by omega), sf_c (by omega)]
          have eQ : prF (prF (ldF I D a 0) a i (coL I D a i)) a (i + 1) (coM I D a i) = sf (sf (sf (sf (ldF I D a 0) (a + 2) i (nI (j / 10))) (a + 1) i (nI (j % 10))) (a + 2) (i + 1) (nI (k / 10))) (a + 1) (i + 1) (nI (k % 10)) := by
            rw [eP]
            unfold prF
            rw [eH, eW]
          rw [eQ, g1, g2]
          unfold caI
          rw [dj, dj', dk, dk']
          obtain ⟨s, hs, hs6⟩ := hW.1.1
          have i13 : I1 o 13 = nI s := (hm 13 (by omega)).trans hs
          have c13 : I a 3 = nI s := Cr_t.symm.trans ((hc 13 (by omega)).trans hs)
          obtain ⟨t, ht, ht6⟩ := cap_b (m := ca D (Rv r) i j + ca D (Rv r) (i + 1) k) hs6 (by omega)
          dsimp only
          have k13 : sf (sf (sf (sf I1 o i (nI (j % 10))) o (6 + i) (nI (j / 10))) o (i + 1) (nI (k % 10))) o (6 + i + 1) (nI (k / 10)) o 13 = nI s := by
            rw [sf_k (by omega), sf_k (by omega), sf_k (by omega), sf_k (by omega)]
            exact i13
          rw [k13, ht]
          have gL : ∀ q, q < 6 → sf (sf (sf (sf (sf I1 o i (nI (j % 10))) o (6 + i) (nI (j / 10))) o (i + 1) (nI (k % 10))) o (6 + i + 1) (nI (k / 10))) o 13 (nI t) o q = if q = i + 1 then nI (k % 10) else if q = i then nI (j % 10) else r q := fun q hq => by
            rw [sf_k (by omega), sf_k (by omega)]
            by_cases z1 : q = i + 1
            · rw [if_pos z1, z1, sf_s]
            · rw [if_neg z1, sf_k z1, sf_k (by omega)]
              by_cases z2 : q = i
              · rw [if_pos z2, z2, sf_s]
              · rw [if_neg z2, sf_k z2]; exact hm q (by omega)
          have gH : ∀ q, q < 6 → sf (sf (sf (sf (sf I1 o i (nI (j % 10))) o (6 + i) (nI (j / 10))) o (i + 1) (nI (k % 10))) o (6 + i + 1) (nI (k / 10))) o 13 (nI t) o (6 + q) = if q = i + 1 then nI (k / 10) else if q = i then nI (j / 10) else r (6 + q) := fun q hq => by
            rw [sf_k (by omega)]
            by_cases z1 : q = i + 1
            · rw [if_pos z1, z1, show 6 + (i + 1) = 6 + i + 1 by omega, sf_s]
            · rw [if_neg z1, sf_k (by omega), sf_k (by omega)]
              by_cases z2 : q = i
              · rw [if_pos z2, z2, sf_s]
              · rw [if_neg z2, sf_k (by omega), sf_k (by omega)]; exact hm (6 + q) (by omega)
          have g12 : sf (sf (sf (sf (sf I1 o i (nI (j % 10))) o (6 + i) (nI (j / 10))) o (i + 1) (nI (k % 10))) o (6 + i + 1) (nI (k / 10))) o 13 (nI t) o 12 = r 12 := by
            rw [sf_k (by omega), sf_k (by omega), sf_k (by omega), sf_k (by omega), sf_k (by omega)]
            exact hm 12 (by omega)
          refine ⟨rfl, Or.inr (nI_pos' (by omega)), _, ⟨⟨⟨t, sf_s _ _ _ _, ht6⟩, by rw [g12]; exact hW.1.2⟩, fun q hq => ⟨fun hd => ?_, fun hd => ?_⟩⟩, row14 (fun q hq => ?_) (fun q hq => ?_) ?_ ?_, fun j _ => rfl⟩
          · rw [gL q hq, gH q hq]
            by_cases z1 : q = i + 1
            · rw [if_pos z1, if_pos z1, z1]; exact ⟨_, _, rfl, rfl, hk.2.1, hk.1⟩
            · rw [if_neg z1, if_neg z1]
              by_cases z2 : q = i
              · rw [if_pos z2, if_pos z2, z2]; exact ⟨_, _, rfl, rfl, hj.2.1, hj.1⟩
              · rw [if_neg z2, if_neg z2]; exact (hW.2 q hq).1 hd
          · rw [gL q hq, gH q hq, if_neg (by omega), if_neg (by omega), if_neg (by omega), if_neg (by omega)]
            exact (hW.2 q hq).2 hd
          · rw [gL q hq, Cr_l hq]
            unfold spF
            rw [sf_c (by omega)]
            by_cases z1 : q = i + 1
            · rw [if_pos z1, z1, sf_s]
            · rw [if_neg z1, sf_k z1, sf_c (by omega)]
              by_cases z2 : q = i
              · rw [if_pos z2, z2, sf_s]
              · rw [if_neg z2, sf_k z2, sf_c (by omega), kL _ (by omega), ← hc q (by omega), Cr_l hq]
          · rw [gH q hq, Cr_h hq]
            unfold spF
            rw [sf_c (by omega), sf_c (by omega)]
            by_cases z1 : q = i + 1
            · rw [if_pos z1, z1, sf_s]
            · rw [if_neg z1, sf_k z1, sf_c (by omega)]
              by_cases z2 : q = i
              · rw [if_pos z2, z2, sf_s]
              · rw [if_neg z2, sf_k z2, kL _ (by omega), ← hc (6 + q) (by omega), Cr_h hq]
          · rw [g12, Cr_s]
            unfold spF
            rw [sf_k (by omega), sf_c (by omega), sf_c (by omega), sf_c (by omega), sf_c (by omega), kL a ha, ← hc 12 (by omega), Cr_s]
          · rw [Cr_t]
            unfold spF
            rw [sf_s, sf_s, sf_c (by omega), sf_c (by omega), sf_c (by omega), sf_c (by omega), kL a ha, c13]
            exact ht
    · rw [if_neg (show ¬ nI (D.2.1 i).2.1 ≤ shw I a i (D.2.1 i) by rw [eX]; exact nI_ge (by omega) (by omega)), if_pos (show M_sh I1 o i < nI (D.2.1 i).2.1 by rw [eM]; exact nI_lt (by omega) (by omega))]
      exact ⟨rfl, Or.inl rfl, r, hW, hc, hm⟩
/-! clear -/
def cz0 (v : StV) (q : Nat) : Nat := if v.2.2 q 0 = true then v.1 q else 0
def cz1 (v : StV) (q : Nat) : Nat := if v.2.2 q 1 = true then v.2.1 q else 0
def ct0 (D : FD) (v : StV) (q : Nat) : Nat := if v.2.2 q 0 = true then 0 else v.1 q * ltv (D.2.1 q)
def ct1 (D : FD) (v : StV) (q : Nat) : Nat := if v.2.2 q 1 = true then 0 else v.2.1 q * htv (D.2.1 q)
def mn (x : Nat) : Nat := if 1000000 < x then 1000000 else x
theorem mn_le (x : Nat) : mn x ≤ 1000000 := by unfold mn; split <;> omega
theorem mn_id {x : Nat} (h : x ≤ 1000000) : mn x = x := by unfold mn; rw [if_neg (by omega)]
theorem mn_mn (x y : Nat) : mn (mn x + y) = mn (x + y) := by unfold mn; split <;> split <;> (try split) <;> omega
theorem sp_n {x t : Nat} (ht : t ≤ 1000000) : (if (1000000 : Int32) < nI (mn x) + nI t then 1000000 else nI (mn x) + nI t) = nI (mn (x + t)) := by
  have h := mn_le x
  rw [nI_add, ← mn_mn x t]
  by_cases c : 1000000 < mn x + t
  · rw [if_pos (show (1000000 : Int32) < nI (mn x + t) from nI_lt (a := 1000000) c (by omega)), show mn (mn x + t) = 1000000 from if_pos c]
    rfl
  · rw [if_neg (show ¬ (1000000 : Int32) < nI (mn x + t) from nI_nlt (b := mn x + t) (a := 1000000) (by omega) (by omega)), show mn (mn x + t) = mn x + t from if_neg c]
theorem ct_b {D : FD} {v : StV} {q : Nat} (h : v.1 q ≤ 9 ∧ v.2.1 q ≤ 9) : ct0 D v q ≤ 18 ∧ ct1 D v q ≤ 27 := by
  have b1 := Nat.mul_le_mul h.1 (ltv_b (D.2.1 q)).2
  have b2 := Nat.mul_le_mul h.2 (htv_b (D.2.1 q)).2
  unfold ct0 ct1
  refine ⟨?_, ?_⟩
  · split <;> omega
  · split <;> omega
theorem pb_0 {D : FD} {v : StV} {I : hI} {i x : Nat} (e1 : I 23 i = nI (v.1 i)) (hv : v.1 i ≤ 9 ∧ v.2.1 i ≤ 9) (hs : I 22 2 &&& bitF (nI i) 0 = 0 ↔ ¬ v.2.2 i 0 = true) (e3 : I 22 3 = nI (mn x)) : pb1 I (D.2.1 i) i 0 23 i = nI (cz0 v i) ∧ (∀ q, q ≠ i → pb1 I (D.2.1 i) i 0 23 q = I 23 q) ∧ pb1 I (D.2.1 i) i 0 24 = I 24 ∧ pb1 I (D.2.1 i) i 0 22 2 = I 22 2 ∧ pb1 I (D.2.1 i) i 0 22 3 = nI (mn (x + ct0 D v i)) := by
  have hb := (ct_b (D := D) hv).1
  unfold pb1
  by_cases c : I 22 2 &&& bitF (nI i) 0 = 0
  · have hn := hs.mp c
    have z0 : ¬ (0 : Int32) = 1 := by decide
    rw [if_pos c, if_neg z0]
    have ecl : cz0 v i = 0 := if_neg hn
    have ect : ct0 D v i = v.1 i * ltv (D.2.1 i) := if_neg hn
    have eb : bdF I 22 i 0 * tmF (D.2.1 i) 0 = nI (ct0 D v i) := by
      unfold bdF tmF
      rw [if_neg z0, if_neg z0, ect]
      show I 23 i * _ = _
      rw [e1]
      exact (Int32.ofNat_mul _ _).symm
    refine ⟨by rw [sf_s, ecl]; rfl, fun q hq => by rw [sf_k hq]; exact congrFun (spF_c (by decide)) q, by rw [sf_c (by decide)]; exact spF_c (by decide), ?_, ?_⟩
    · rw [sf_c (by decide)]
      unfold spF
      rw [sf_k (by decide)]
    · rw [sf_c (by decide)]
      unfold spF
      rw [sf_s, eb, e3]
      exact sp_n (by omega)
  · have hst : v.2.2 i 0 = true := Classical.not_not.mp (fun z => c (hs.mpr z))
    rw [if_neg c, show cz0 v i = v.1 i from if_pos hst, show ct0 D v i = 0 from if_pos hst]
    exact ⟨e1, fun _ _ => rfl, rfl, rfl, e3⟩
theorem pb_1 {D : FD} {v : StV} {I : hI} {i x : Nat} (e1 : I 24 i = nI (v.2.1 i)) (hv : v.1 i ≤ 9 ∧ v.2.1 i ≤ 9) (hs : I 22 2 &&& bitF (nI i) 1 = 0 ↔ ¬ v.2.2 i 1 = true) (e3 : I 22 3 = nI (mn x)) : pb1 I (D.2.1 i) i 1 24 i = nI (cz1 v i) ∧ (∀ q, q ≠ i → pb1 I (D.2.1 i) i 1 24 q = I 24 q) ∧ pb1 I (D.2.1 i) i 1 23 = I 23 ∧ pb1 I (D.2.1 i) i 1 22 2 = I 22 2 ∧ pb1 I (D.2.1 i) i 1 22 3 = nI (mn (x + ct1 D v i)) := by
  have hb := (ct_b (D := D) hv).2
  unfold pb1
  by_cases c : I 22 2 &&& bitF (nI i) 1 = 0
  · have hn := hs.mp c
    have z0 : (1 : Int32) = 1 := rfl
    rw [if_pos c, if_pos z0]
    have ecl : cz1 v i = 0 := if_neg hn
    have ect : ct1 D v i = v.2.1 i * htv (D.2.1 i) := if_neg hn
    have eb : bdF I 22 i 1 * tmF (D.2.1 i) 1 = nI (ct1 D v i) := by
      unfold bdF tmF
      rw [if_pos z0, if_pos z0, ect]
      show I 24 i * _ = _
      rw [e1]
      exact (Int32.ofNat_mul _ _).symm
    refine ⟨by rw [sf_s, ecl]; rfl, fun q hq => by rw [sf_k hq]; exact congrFun (spF_c (by decide)) q, by rw [sf_c (by decide)]; exact spF_c (by decide), ?_, ?_⟩
    · rw [sf_c (by decide)]
      unfold spF
      rw [sf_k (by decide)]
    · rw [sf_c (by decide)]
      unfold spF
      rw [sf_s, eb, e3]
      exact sp_n (by omega)
  · have hst : v.2.2 i 1 = true := Classical.not_not.mp (fun z => c (hs.mpr z))
    rw [if_neg c, show cz1 v i = v.2.1 i from if_pos hst, show ct1 D v i = 0 from if_pos hst]
    exact ⟨e1, fun _ _ => rfl, rfl, rfl, e3⟩
/-- i rods are cleared -/
def PB (D : FD) (r : Nat → Int32) (s i : Nat) (I : hI) : Prop := (∀ q, q < 6 → I 23 q = (if q < i then nI (cz0 (Rv r) q) else r q) ∧ I 24 q = (if q < i then nI (cz1 (Rv r) q) else r (6 + q))) ∧ I 22 2 = r 12 ∧ I 22 3 = nI (mn (s + smn (fun q => ct0 D (Rv r) q + ct1 D (Rv r) q) i))
theorem pbl_v {D : FD} {r : Nat → Int32} {s : Nat} (h6 : D.1 ≤ 6) (okr : ∀ i, i < D.1 → okR (D.2.1 i)) (hW : WR D r) : ∀ (k i : Nat) (I : hI), i + k = D.1 → PB D r s i I → PB D r s D.1 (pbl D k i I)
  | 0, i, I, hi, h => by rw [Nat.add_zero] at hi; rw [← hi]; exact h
  | k + 1, i, I, hi, h => by
    have hid : i < D.1 := by omega
    obtain ⟨e1, e2, b1, b2⟩ := Rv_b h6 okr hW hid
    have h9 := (okr i hid).2.2.1.2
    have h3 := (okr i hid).2.2.2.1
    have hv : (Rv r).1 i ≤ 9 ∧ (Rv r).2.1 i ≤ 9 := ⟨by omega, by omega⟩
    have q1 := h.1 i (by omega)
    rw [if_neg (Nat.lt_irrefl i), if_neg (Nat.lt_irrefl i)] at q1
    have hs0 : I 22 2 &&& bitF (nI i) 0 = 0 ↔ ¬ (Rv r).2.2 i 0 = true := by
      rw [h.2.1, st_iff (p := 0) (i := i) (q := 0) (by omega) (by decide) rfl]
      exact not_congr ⟨fun z => decide_eq_true z, fun z => of_decide_eq_true z⟩
    have hs1 : I 22 2 &&& bitF (nI i) 1 = 0 ↔ ¬ (Rv r).2.2 i 1 = true := by
      rw [h.2.1, st_iff (p := 1) (i := i) (q := 1) (by omega) (by decide) rfl]
      exact not_congr ⟨fun z => decide_eq_true z, fun z => of_decide_eq_true z⟩
    unfold pbl
    obtain ⟨a1, a2, a3, a4, a5⟩ := pb_0 (D := D) (q1.1.trans e1) hv hs0 h.2.2
    generalize pb1 I (D.2.1 i) i 0 = I1 at a1 a2 a3 a4 a5 ⊢
    obtain ⟨c1, c2, c3, c4, c5⟩ := pb_1 (D := D) (I := I1) (by rw [a3]; exact q1.2.trans e2) hv (by rw [a4]; exact hs1) a5
    generalize pb1 I1 (D.2.1 i) i 1 = I2 at c1 c2 c3 c4 c5 ⊢
    refine pbl_v h6 okr hW k (i + 1) I2 (by omega) ⟨fun q hq => ?_, by rw [c4, a4]; exact h.2.1, ?_⟩
    · by_cases z : q = i
      · rw [z, if_pos (Nat.lt_succ_self i), if_pos (Nat.lt_succ_self i)]
        exact ⟨by rw [c3]; exact a1, c1⟩
      · have w := h.1 q hq
        rw [c3, a2 q z, c2 q z, a3]
        by_cases l : q < i
        · rw [if_pos (by omega), if_pos (by omega)]
          rw [if_pos l, if_pos l] at w
          exact w
        · rw [if_neg (by omega), if_neg (by omega)]
          rw [if_neg l, if_neg l] at w
          exact w
    · rw [c5]
      show nI (mn (s + smn _ i + ct0 D (Rv r) i + ct1 D (Rv r) i)) = nI (mn (s + (smn _ i + (ct0 D (Rv r) i + ct1 D (Rv r) i))))
      rw [Nat.add_assoc, Nat.add_assoc]
theorem ad_cl {l t : Nat} {b : Bool} : ad (if b = true then l else 0) l * t = if b = true then 0 else l * t := by
  unfold ad
  by_cases c : b = true
  · rw [if_pos c, if_pos c, if_neg (Nat.lt_irrefl l), Nat.sub_self, Nat.zero_mul]
  · rw [if_neg c, if_neg c]
    by_cases z : 0 < l
    · rw [if_pos z, Nat.sub_zero]
    · rw [if_neg z, show l = 0 by omega]
/-- i rods are cleared, in the reference -/
def MB (D : FD) (r : Nat → Int32) (o i : Nat) (I : hI) : Prop := (∀ q, q < 6 → I o q = (if q < i then nI (cz0 (Rv r) q) else r q) ∧ I o (6 + q) = (if q < i then nI (cz1 (Rv r) q) else r (6 + q))) ∧ I o 12 = r 12 ∧ I o 13 = r 13 ∧ DMf D I
theorem cll_v {D : FD} {r : Nat → Int32} {o : Nat} (ho : o = 78 ∨ o = 79) (h6 : D.1 ≤ 6) (okr : ∀ i, i < D.1 → okR (D.2.1 i)) (hW : WR D r) : ∀ (n k : Nat) (t : Int32) (I : hI), k + n = D.1 → MB D r o k I → t = nI (smn (fun q => ct0 D (Rv r) q + ct1 D (Rv r) q) k) → MB D r o D.1 (cll o n k t I).2 ∧ (cll o n k t I).1 = nI (smn (fun q => ct0 D (Rv r) q + ct1 D (Rv r) q) D.1)
  | 0, k, t, I, hk, h, ht => by rw [Nat.add_zero] at hk; rw [← hk]; exact ⟨h, ht⟩
  | n + 1, k, t, I, hk, h, ht => by
    have hkd : k < D.1 := by omega
    obtain ⟨e1, e2, b1, b2⟩ := Rv_b h6 okr hW hkd
    have h9 := (okr k hkd).2.2.1.2
    have h3 := (okr k hkd).2.2.2.1
    have q1 := h.1 k (by omega)
    rw [if_neg (Nat.lt_irrefl k), if_neg (Nat.lt_irrefl k), e1, e2] at q1
    have m0 : M_bit (I o 12) (nI k) 0 ↔ (Rv r).2.2 k 0 = true := by
      rw [h.2.1]
      exact ⟨fun z => decide_eq_true z, fun z => of_decide_eq_true z⟩
    have m1 : M_bit (I o 12) (nI k) 1 ↔ (Rv r).2.2 k 1 = true := by
      rw [h.2.1]
      exact ⟨fun z => decide_eq_true z, fun z => of_decide_eq_true z⟩
    have eLo : cLo I o k = nI (cz0 (Rv r) k) := by
      unfold cLo cz0
      by_cases z : (Rv r).2.2 k 0 = true
      · rw [if_pos (m0.mpr z), if_pos z]; exact q1.1
      · rw [if_neg (fun y => z (m0.mp y)), if_neg z]; rfl
    have eHi : cHi I o k = nI (cz1 (Rv r) k) := by
      unfold cHi cz1
      by_cases z : (Rv r).2.2 k 1 = true
      · rw [if_pos (m1.mpr z), if_pos z]; exact q1.2
      · rw [if_neg (fun y => z (m1.mp y)), if_neg z]; rfl
    have bl : cz0 (Rv r) k ≤ 9 := by unfold cz0; split <;> omega
    have bh : cz1 (Rv r) k ≤ 9 := by unfold cz1; split <;> omega
    have hq := h.2.2.2.2.2.2 k hkd
    have tk := tk_v hq.1.1
    have eC : M_ch I o k (cLo I o k) (cHi I o k) = nI (ct0 D (Rv r) k + ct1 D (Rv r) k) := by
      rw [eLo, eHi]
      unfold M_ch
      rw [q1.1, q1.2, show I 74 k = nI (D.2.1 k).1 from hq.2.1, tk.1, tk.2, ab_ad (by omega) (by omega), ab_ad (by omega) (by omega), ← nI_add]
      congr 1
      · rw [show nI (ad (cz0 (Rv r) k) ((Rv r).1 k)) * nI (ltv (D.2.1 k)) = nI (ad (cz0 (Rv r) k) ((Rv r).1 k) * ltv (D.2.1 k)) from (Int32.ofNat_mul _ _).symm]
        exact congrArg nI ad_cl
      · rw [show nI (ad (cz1 (Rv r) k) ((Rv r).2.1 k)) * nI (htv (D.2.1 k)) = nI (ad (cz1 (Rv r) k) ((Rv r).2.1 k) * htv (D.2.1 k)) from (Int32.ofNat_mul _ _).symm]
        exact congrArg nI ad_cl
    unfold cll
    refine cll_v ho h6 okr hW n (k + 1) _ _ (by omega) ⟨fun q hq => ?_, ?_, ?_, ?_⟩ ?_
    · unfold clI
      rw [eLo, eHi]
      by_cases z : q = k
      · rw [z, if_pos (Nat.lt_succ_self k), if_pos (Nat.lt_succ_self k), sf_k (by omega), sf_s, sf_s]
        exact ⟨rfl, rfl⟩
      · have w := h.1 q hq
        rw [sf_k (by omega), sf_k z, sf_k (by omega), sf_k (by omega)]
        by_cases l : q < k
        · rw [if_pos (by omega), if_pos (by omega)]
          rw [if_pos l, if_pos l] at w
          exact w
        · rw [if_neg (by omega), if_neg (by omega)]
          rw [if_neg l, if_neg l] at w
          exact w
    · unfold clI
      rw [sf_k (by omega), sf_k (by omega)]
      exact h.2.1
    · unfold clI
      rw [sf_k (by omega), sf_k (by omega)]
      exact h.2.2.1
    · have e : ∀ a, a < 78 → clI I o k a = I a := fun a ha => by
        unfold clI
        rw [sf_c (by omega), sf_c (by omega)]
      exact DMf_of h.2.2.2 (e _ (by decide)) (e _ (by decide)) (e _ (by decide)) (e _ (by decide)) (e _ (by decide))
    · rw [eC, ht, nI_add]
      rfl
/-- clear: one row behind -/
theorem clear_row {D : FD} {r : Nat → Int32} {o : Nat} {I I1 : hI} (ho : o = 78 ∨ o = 79) (h6 : D.1 ≤ 6) (hD : DMf D I1) (hW : WR D r) (hc : ∀ j, j < 14 → Cr 22 I j = r j) (hm : ∀ j, j < 14 → I1 o j = r j) : ∃ r', WR D r' ∧ (∀ j, j < 14 → Cr 22 (pbl D D.1 0 I) j = r' j) ∧ (∀ j, j < 14 → clF I1 o D.1 o j = r' j) := by
  have okr := fun k hk => (hD.2.2.2 k hk).1
  obtain ⟨s, hs, hs6⟩ := hW.1.1
  have hvb : ∀ i, i < D.1 → (Rv r).1 i ≤ 9 ∧ (Rv r).2.1 i ≤ 9 := fun i hi => (CV_r h6 okr hW hc i hi).2.1
  have p0 : PB D r s 0 I := by
    refine ⟨fun q hq => ?_, Cr_s.symm.trans (hc 12 (by omega)), ?_⟩
    · rw [if_neg (Nat.not_lt_zero q), if_neg (Nat.not_lt_zero q), ← hc q (by omega), ← hc (6 + q) (by omega), Cr_l hq, Cr_h hq]
      exact ⟨rfl, rfl⟩
    · show I 22 3 = nI (mn (s + 0))
      rw [Nat.add_zero, mn_id hs6, ← hs, ← hc 13 (by omega), Cr_t]
  have q0 : MB D r o 0 I1 := by
    refine ⟨fun q hq => ?_, hm 12 (by omega), hm 13 (by omega), hD⟩
    rw [if_neg (Nat.not_lt_zero q), if_neg (Nat.not_lt_zero q), hm q (by omega), hm (6 + q) (by omega)]
    exact ⟨rfl, rfl⟩
  have p1 := pbl_v h6 okr hW D.1 0 I (by omega) p0
  obtain ⟨q1, q2⟩ := cll_v ho h6 okr hW D.1 0 0 I1 (by omega) q0 rfl
  have hT : smn (fun q => ct0 D (Rv r) q + ct1 D (Rv r) q) D.1 ≤ D.1 * 45 := smn_le D.1 (fun j hj => by
    have := ct_b (D := D) (hvb j hj)
    omega)
  have e13 : clF I1 o D.1 o 13 = nI (mn (s + smn (fun q => ct0 D (Rv r) q + ct1 D (Rv r) q) D.1)) := by
    unfold clF
    rw [sf_s, q2, q1.2.2.1, hs]
    unfold cap
    have := sp_n (x := s) (t := smn (fun q => ct0 D (Rv r) q + ct1 D (Rv r) q) D.1) (by omega)
    rw [mn_id hs6] at this
    exact this
  have eo : ∀ j, j ≠ 13 → clF I1 o D.1 o j = (cll o D.1 0 0 I1).2 o j := fun j hj => by
    unfold clF
    rw [sf_k hj]
  refine ⟨fun j => clF I1 o D.1 o j, ⟨⟨⟨_, e13, mn_le _⟩, by show B12 (clF I1 o D.1 o 12); rw [eo 12 (by omega), q1.2.1]; exact hW.1.2⟩, fun i hi => ⟨fun hd => ?_, fun hd => ?_⟩⟩, row14 (fun i hi => ?_) (fun i hi => ?_) ?_ ?_, fun j _ => rfl⟩
  · obtain ⟨_, _, b1, b2⟩ := Rv_b h6 okr hW hd
    have w := q1.1 i hi
    rw [if_pos hd, if_pos hd] at w
    refine ⟨_, _, (eo i (by omega)).trans w.1, (eo _ (by omega)).trans w.2, ?_, ?_⟩
    · unfold cz0; split <;> omega
    · unfold cz1; split <;> omega
  · have w := q1.1 i hi
    rw [if_neg (by omega), if_neg (by omega)] at w
    have z := (hW.2 i hi).2 hd
    exact ⟨(eo i (by omega)).trans (w.1.trans z.1), (eo _ (by omega)).trans (w.2.trans z.2)⟩
  · rw [Cr_l hi, eo i (by omega), (q1.1 i hi).1]
    exact (p1.1 i hi).1
  · rw [Cr_h hi, eo _ (by omega), (q1.1 i hi).2]
    exact (p1.1 i hi).2
  · rw [Cr_s, eo 12 (by omega), q1.2.1]
    exact p1.2.1
  · rw [Cr_t, e13]
    exact p1.2.2
end CRY

