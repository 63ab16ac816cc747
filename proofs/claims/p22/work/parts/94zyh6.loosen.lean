section LOO
/-- the best so far: of the sets from k on -/
def IB (D : FD) (v : StV) (x S k : Nat) (b : Int32) : Prop := (b = -1 ∧ ∀ n, k ≤ n → ¬ Vd D v x S n) ∨ ∃ nb, b = nI nb ∧ k ≤ nb ∧ Vd D v x S nb ∧ ∀ n, k ≤ n → Vd D v x S n → Kn nb ≤ Kn n
theorem lsl_v {D : FD} {v : StV} {X : Int32} {x S : Nat} (hX : X.toInt64.toInt = (x : Int)) (hx : x ≤ 1000000000) (hS : S < 4096) : ∀ (k : Nat) (b : Int32) (I : hI) (J : hJ), k ≤ 4096 → DMf D I → I 78 12 = nI S → RV D v 78 (I 78 12) I → IB D v x S k b → IB D v x S 0 (lsl D X k (nI k - 1) b I J).1
  | 0, b, I, J, hk, hD, hst, hR, h => h
  | k + 1, b, I, J, hk, hD, hst, hR, h => by
    have h6 := hD.2.1
    have okr := fun k hk => (hD.2.2.2 k hk).1
    have hbp : ∀ i, i < D.1 → 0 < bs D i := fun i hi => Nat.lt_of_lt_of_le (by decide) (okr i hi).2.1.1
    have ep : nI (k + 1) - 1 = nI k := nI_pred k
    have em : nI k + Int32.ofInt (-1) = nI k - 1 := by rw [Int32.sub_eq_add_neg]; rfl
    have keep : ¬ Vd D v x S k → IB D v x S k b := fun n => by
      rcases h with ⟨e, no⟩ | ⟨nb, e, l, hv, mi⟩
      · refine Or.inl ⟨e, fun j hj => ?_⟩
        by_cases z : j = k
        · rw [z]; exact n
        · exact no j (by omega)
      · refine Or.inr ⟨nb, e, by omega, hv, fun j hj hvj => ?_⟩
        by_cases z : j = k
        · rw [z] at hvj; exact absurd hvj n
        · exact mi j (by omega) hvj
    unfold lsl
    rw [ep, if_neg (nI_pos (by omega)), em]
    have sb := sb_z (n := k) (S := S) (by omega) hS
    unfold lsM
    rw [hst]
    by_cases c1 : nI k &&& (nI S ^^^ -1) = 0
    · rw [if_pos c1]
      have k9 : ∀ a, a ≠ 82 → (isP I J D 78 (nI S &&& (nI k ^^^ -1)) X.toInt64).2.1 a = I a := fun a ha => isP_I ha
      have hRm := RV_m (n := k) h6 hst hR
      have iv := isP_v (J := J) (due := X.toInt64) (by decide) h6 hD hRm
      rw [hst, hX, Int.toNat_natCast] at iv
      have wk : (isP I J D 78 (nI S &&& (nI k ^^^ -1)) X.toInt64).1 = 0 ↔ ¬ Vd D v x S k := by
        rw [iv]
        by_cases c : 0 < cn D (vm v (dgn k)) D.1 0 x
        · rw [if_pos ⟨by omega, by omega, c⟩]
          exact ⟨fun z => absurd z (show ¬ (1 : Int32) = 0 by decide), fun z => absurd ⟨by omega, sb.mp c1, (cn_pos hbp D.1 0 x (by omega)).mp c⟩ z⟩
        · rw [if_neg (fun z => c z.2.2)]
          exact ⟨fun _ z => c ((cn_pos hbp D.1 0 x (by omega)).mpr z.2.2), fun _ => rfl⟩
      have hD1 := DMf_9 hD k9
      have hst1 : (isP I J D 78 (nI S &&& (nI k ^^^ -1)) X.toInt64).2.1 78 12 = nI S := by rw [k9 78 (by decide)]; exact hst
      have hR1 : RV D v 78 ((isP I J D 78 (nI S &&& (nI k ^^^ -1)) X.toInt64).2.1 78 12) (isP I J D 78 (nI S &&& (nI k ^^^ -1)) X.toInt64).2.1 := by
        rw [k9 78 (by decide)]
        exact RV_of hR (k9 78 (by decide))
      generalize isP I J D 78 (nI S &&& (nI k ^^^ -1)) X.toInt64 = w at wk hD1 hst1 hR1 ⊢
      have take : (∀ nb, b = nI nb → k + 1 ≤ nb → Vd D v x S nb → cn6 k ≤ cn6 nb) → IB D v x S 0 (if w.1 = 0 then lsl D X k (nI k - 1) b w.2.1 w.2.2 else lsl D X k (nI k - 1) (nI k) w.2.1 w.2.2).1 := fun le => by
        by_cases c : w.1 = 0
        · rw [if_pos c]
          exact lsl_v hX hx hS k b _ _ (by omega) hD1 hst1 hR1 (keep (wk.mp c))
        · rw [if_neg c]
          have hvk : Vd D v x S k := Classical.not_not.mp (fun z => c (wk.mpr z))
          refine lsl_v hX hx hS k (nI k) _ _ (by omega) hD1 hst1 hR1 (Or.inr ⟨k, rfl, Nat.le_refl k, hvk, fun j hj hvj => ?_⟩)
          by_cases z : j = k
          · rw [z]; exact Nat.le_refl _
          · rcases h with ⟨_, no⟩ | ⟨nb, e, l, hv, mi⟩
            · exact absurd hvj (no j (by omega))
            · have m1 := mi j (by omega) hvj
              have m2 := le nb e l hv
              have e1 := Kn_e hvk.1
              have e2 := Kn_e hv.1
              omega
      by_cases c2 : b = -1
      · rw [if_pos c2, if_neg (show ¬ (1 : Int32) = 0 by decide)]
        refine take (fun nb e _ hv => ?_)
        rw [c2] at e
        exact absurd e.symm (m1_h (by have := hv.1; omega))
      · rw [if_neg c2]
        by_cases c3 : bts b < bts (nI k)
        · rw [if_pos c3, if_pos rfl]
          refine lsl_v hX hx hS k b _ _ (by omega) hD hst hR ?_
          rcases h with ⟨e, _⟩ | ⟨nb, e, l, hv, mi⟩
          · exact absurd e c2
          · refine Or.inr ⟨nb, e, by omega, hv, fun j hj hvj => ?_⟩
            by_cases z : j = k
            · rw [e, bts_n nb hv.1, bts_n k (by omega), nI_ltI (by have := cn6_b hv.1; omega) (by have := cn6_b (n := k) (by omega); omega)] at c3
              rw [z, Kn_e hv.1, Kn_e (show k < 4096 by omega)]
              have := hv.1
              omega
            · exact mi j (by omega) hvj
        · rw [if_neg c3, if_neg (show ¬ (1 : Int32) = 0 by decide)]
          refine take (fun nb e _ hv => ?_)
          rw [e, bts_n nb hv.1, bts_n k (by omega), nI_ltI (by have := cn6_b hv.1; omega) (by have := cn6_b (n := k) (by omega); omega)] at c3
          omega
    · rw [if_neg c1, if_pos rfl]
      exact lsl_v hX hx hS k b _ _ (by omega) hD hst hR (keep (fun z => c1 (sb.mpr z.2.1)))
theorem and_12 {m : Nat} : nI m &&& 4095 = nI (m % 4096) := by
  refine zb_ext (fun i hi => ?_)
  rw [show (4095 : Int32) = nI 4095 from rfl, zb_and, zb_n hi, zb_n hi, zb_n hi, show (4096 : Nat) = 2 ^ 12 from rfl, Nat.testBit_mod_two_pow]
  have e : (4095 : Nat).testBit i = decide (i < 12) := by
    rw [show (4095 : Nat) = 2 ^ 12 - 1 from rfl, Nat.testBit_two_pow_sub_one]
  rw [e, Bool.and_comm]
theorem lo_eq {D : FD} {v : StV} {I I1 : hI} {J1 : hJ} {X : Int32} {S : Nat} (hD : DMf D I1) (hC : CV D v 22 I) (hR : RV D v 78 (I1 78 12) I1) (hS : S < 4096) (hst : I1 78 12 = nI S) : (loF I D X).1 = (loM I1 J1 D X).1 := by
  have h6 := hD.2.1
  have okr := fun k hk => (hD.2.2.2 k hk).1
  have hvb : ∀ i, i < D.1 → v.1 i ≤ 9 ∧ v.2.1 i ≤ 9 := fun i hi => (hC i hi).2.1
  unfold loF loM
  by_cases c : M_num X
  · rw [if_pos c, if_pos c]
    obtain ⟨x, hx⟩ : ∃ x : Nat, X.toInt = x := ⟨_, (Int.toNat_of_nonneg c.1).symm⟩
    have hX : X.toInt64.toInt = (x : Int) := by rw [tl_i, hx]
    have x9 : x ≤ 1000000000 := by have := c.2; omega
    have hl := ldF_vL (I := I) (a := 22) (by decide) h6 okr hC
    obtain ⟨m, b1, b2, _⟩ := leF_vL (V := X.toInt64) h6 okr hvb ldF_13 hl.1 hl.2
    rw [hX] at b2
    have b2' : isMin 1048576 (fun t => WYL D v D.1 0 x t) m := min_c b2 (fun t => ⟨fun z => ⟨by omega, by rw [Int.toNat_natCast]; exact z⟩, fun z => by have := z.2; rw [Int.toNat_natCast] at this; exact this⟩)
    have dS : ∀ i, i < D.1 → (v.2.2 i 0 = true → dgn S i % 2 = 1) ∧ (v.2.2 i 1 = true → dgn S i / 2 = 1) := fun i hi => by
      obtain ⟨_, _, k0, k1⟩ := hR i hi
      obtain ⟨t0, t1⟩ := tb_d (n := S) (j := i) (by omega)
      rw [hst] at k0 k1
      refine ⟨fun z => ?_, fun z => ?_⟩
      · have := (mb_z (x := nI S) (i := i) (q := 0) (by omega) (by decide)).mp (k0.mpr z)
        rw [zb_n (by omega), Nat.add_zero] at this
        exact t0.mp this
      · have := (mb_z (x := nI S) (i := i) (q := 1) (by omega) (by decide)).mp (k1.mpr z)
        rw [zb_n (by omega)] at this
        exact t1.mp this
    have lm := lo_min h6 hS dS b2'
    have fu : ((I1 78 12).toInt + 1).toNat = S + 1 := by rw [hst, nI_toInt (by omega)]; omega
    have es : I1 78 12 = nI (S + 1) - 1 := hst.trans (nI_pred S).symm
    have big : ∀ n, S + 1 ≤ n → ¬ Vd D v x S n := fun n hn hv => by
      have := sub_le hv.1 hS hv.2.1
      omega
    have lv := lsl_v hX x9 hS (S + 1) (-1) I1 J1 (by omega) hD hst hR (Or.inl ⟨rfl, big⟩)
    rw [fu]
    have ea : lsl D X (S + 1) (I1 78 12) (-1) I1 J1 = lsl D X (S + 1) (nI (S + 1) - 1) (-1) I1 J1 := by rw [← es]
    rw [ea]
    unfold lcF
    dsimp only
    rw [b1]
    rcases lm with ⟨e, no⟩ | ⟨n, hv, e, mi⟩
    · rw [e, if_neg (show ¬ nI 1048576 < (1048576 : Int32) by decide), if_pos rfl]
      rcases lv with ⟨g, _⟩ | ⟨nb, _, _, hb, _⟩
      · exact g.symm
      · exact absurd hb (no nb)
    · rcases lv with ⟨_, no⟩ | ⟨nb, g, _, hb, mb⟩
      · exact absurd hv (no n (Nat.zero_le n))
      · have eK : Kn n = Kn nb := Nat.le_antisymm (mi nb hb) (mb n (Nat.zero_le n) hv)
        have en := Kn_u hv.1 hb.1 eK
        have e1 := Kn_e hv.1
        have c6 := cn6_b hv.1
        have hn := hv.1
        rw [g, ← en]
        have lt : m < 1048576 := by omega
        rw [if_pos (show nI m < (1048576 : Int32) from (nI_ltI (b := 1048576) (by omega) (by omega)).mpr lt), if_neg (m1_h (by omega)), and_12]
        congr 1
        omega
  · rw [if_neg c, if_neg c]
variable {sc : Nat × (Nat → Int32)} {d1 d2 : Nat} {I : hI} {J : hJ} {R : hR} {T : am_H}
theorem p_loosenV {v : Int32} (h : LI I R T) : Ze sc (d1 + 13) 111 [.ref 0, .int v] (HH I J R T) (PI True sc (d2 + 7) 218 [.ref 73, .int v] T) := by
  obtain ⟨tx, c, D, m, sn, s, hC, hM, hW, hS⟩ := h
  have k1 : kQ I (loF I D v).2 := fun a ha => by
    unfold loF
    split
    · exact lc_Q a ha
    · rfl
  have hM1 := MX_Q hM k1
  have k2 : kR (loF I D v).2 (loM (loF I D v).2 J D v).2.1 := fun a _ h9 _ => by
    unfold loM
    split
    · exact lsl_I h9 _ _ _ _ _
    · rfl
  obtain ⟨S, hS4, eS⟩ := B12_n hW.1.1.2
  exact pq_i hC hM hW hS (cs_loosen hC.1) (c_loosen hC.1.2.1 hC.1.2.2.2.1.1) k1 (fun z => ms_loosen z) (m_loosen hM1.1.2.1) k2 (fun _ => lo_eq hM1.1.2.1 (CV_s hC hW) (RV_s hM1 hW) hS4 ((hM1.2.1 12 (by omega)).trans eS))
end LOO

