/-! The reference's choice is the first of the best. -/
section MDU
def BsK (D : FD) (v : StV) (k r : Nat) (z : Int) (m j : Nat) : Prop := j / 10 ≤ (D.2.1 r).2.2.2 ∧ j % 10 ≤ (D.2.1 r).2.2.1 ∧ Cd D v k r z (j % 10) (j / 10) m
def isF (P : Nat → Prop) (j : Nat) : Prop := P j ∧ ∀ i, i < j → ¬ P i
theorem isF_u {P : Nat → Prop} {i j : Nat} (h : isF P i) (h' : isF P j) : i = j := by
  rcases Nat.lt_trichotomy i j with a | a | a
  · exact absurd h.1 (h'.2 i a)
  · exact a
  · exact absurd h'.1 (h.2 j a)
/-- f is the first of the best ways -/
def GW (D : FD) (v : StV) : Nat → Nat → Nat → Nat → (Nat → Nat) → Prop
  | 0, _, _, _, _ => True
  | k + 1, i, x, m, f => isF (BsK D v k i x m) (f i) ∧ ∃ y t, x = vl D i (f i % 10) (f i / 10) + y * bs D i ∧ WY D v k (i + 1) y t ∧ m = cst D v i (f i % 10) (f i / 10) + t ∧ GW D v k (i + 1) y t f
theorem GW_c {D : FD} {v : StV} {f g : Nat → Nat} : ∀ (k i x m : Nat), (∀ j, i ≤ j → j < i + k → f j = g j) → GW D v k i x m f → GW D v k i x m g
  | 0, i, x, m, e, h => trivial
  | k + 1, i, x, m, e, h => by
    have e0 := e i (Nat.le_refl i) (by omega)
    obtain ⟨h1, y, t, h2, h3, h4, h5⟩ := h
    rw [e0] at h1 h2 h4
    exact ⟨h1, y, t, h2, h3, h4, GW_c k (i + 1) y t (fun j a b => e j (by omega) (by omega)) h5⟩
theorem GW_u {D : FD} {v : StV} {f g : Nat → Nat} (hb : ∀ i, i < D.1 → 0 < bs D i) : ∀ (k i x m : Nat), i + k ≤ D.1 → GW D v k i x m f → GW D v k i x m g → ∀ j, i ≤ j → j < i + k → f j = g j
  | 0, i, x, m, hi, h, h', j, a, b => by omega
  | k + 1, i, x, m, hi, h, h', j, a, b => by
    obtain ⟨h1, y, t, h2, h3, h4, h5⟩ := h
    obtain ⟨g1, y', t', g2, g3, g4, g5⟩ := h'
    have e := isF_u h1 g1
    by_cases ej : j = i
    · rw [ej]; exact e
    · rw [e] at h2 h4
      have ey : y = y' := by
        have := hb i (by omega)
        refine Nat.eq_of_mul_eq_mul_right this ?_
        omega
      have et : t = t' := by omega
      subst ey et
      exact GW_u hb k (i + 1) y t (by omega) h5 g5 j (by omega) (by omega)
theorem cK_n {r c : Nat} (hr : r < 6) (hc : c ≤ 63) : cK r (nI c) = 64 * r + c := by
  unfold cK
  rw [show (64 * nI r : Int32) = nI (64 * r) from (Int32.ofNat_mul 64 r).symm, nI_add, nI_clamp (by omega)]
theorem duS_v {D : FD} {v : StV} {I : hI} {J : hJ} {o r c m j : Nat} {st b : Int32} (h6 : D.1 ≤ 6) (hD : DMf D I) (hU : DU J D) (hV : RV D v o st I) (hr : r < D.1) (hc : c ≤ 63) (hW : RW D v (r + 1) I J) (hm : I 82 (64 * r + c) = nI m) (hmi : ∀ t, WYz D v (D.1 - r) r ((J 80 r).toInt - c) t → m ≤ t) (hmb : m < 1000000) (hj : j < 40) :
    (BsK D v (D.1 - (r + 1)) r ((J 80 r).toInt - c) m j → duS I J D o st r (nI c) j b = nI j) ∧ (¬ BsK D v (D.1 - (r + 1)) r ((J 80 r).toInt - c) m j → duS I J D o st r (nI c) j b = b) := by
  have okr := fun k hk => (hD.2.2.2 k hk).1
  have hvb : ∀ i, i < D.1 → v.1 i ≤ 9 ∧ v.2.1 i ≤ 9 := fun i hi => (hV i hi).2.1
  have hq := okr r hr
  have h3 := hq.2.2.2.1
  have h9 := hq.2.2.1.2
  have hbp : 0 < bs D r := Nat.lt_of_lt_of_le (by decide) hq.2.1.1
  unfold duS
  by_cases c1 : nI (D.2.1 r).2.2.2 < nI (j / 10)
  · rw [if_pos c1]
    rw [nI_ltI (by omega) (by omega)] at c1
    exact ⟨fun z => by have := z.1; omega, fun _ => rfl⟩
  · rw [if_neg c1]
    rw [nI_ltI (by omega) (by omega)] at c1
    by_cases c2 : nI (D.2.1 r).2.2.1 < nI (j % 10)
    · rw [if_pos c2]
      rw [nI_ltI (by omega) (by omega)] at c2
      exact ⟨fun z => by have := z.2.1; omega, fun _ => rfl⟩
    · rw [if_neg c2]
      rw [nI_ltI (by omega) (by omega)] at c2
      have hl : j % 10 ≤ (D.2.1 r).2.2.1 := by omega
      have hh : j / 10 ≤ (D.2.1 r).2.2.2 := by omega
      have ma := may_alw hV hr hq hl hh
      by_cases c3 : M_may I o st r (nI (j % 10)) (nI (j / 10))
      · have ha := ma.mp c3
        have hcst := cst_le hq (hvb r hr) ha
        rw [if_pos c3, shF_n]
        rcases onF_v hU okr hr hc (wv40 hq hl hh) with ⟨n1, n2⟩ | ⟨y, k, hk, ek, ez, ey⟩
        · rw [if_pos n1]
          exact ⟨fun ⟨_, _, _, y, t', e, _, _⟩ => absurd e (n2 y), fun _ => rfl⟩
        · rw [ek, if_neg (nI_pos (by omega)), cK_n (by omega) hc, hm]
          have eK : lyK r (nI k) = 64 * (r + 1) + k := by unfold lyK; rw [nI_clamp (by omega)]
          obtain ⟨w1, m1, w2, w3, w4⟩ := hW k hk
          rw [ey] at w4
          have eM : lyM I o r (nI k) (nI (j % 10)) (nI (j / 10)) = nI (cst D v r (j % 10) (j / 10) + m1) := by
            unfold lyM
            rw [eK, w2, ch_cst hD hV hr (by omega) (by omega), nI_add, Nat.add_comm]
          rw [eM]
          have eq := nI_eq (a := cst D v r (j % 10) (j / 10) + m1) (b := m) (by omega) (by omega)
          have hR : isMin 1000000000 (fun t => WY D v (D.1 - (r + 1)) (r + 1) y t) m1 := min_c w4 (fun t => ⟨fun z => ⟨by omega, by rw [Int.toNat_natCast]; exact z⟩, fun z => by have := z.2; rw [Int.toNat_natCast] at this; exact this⟩)
          have up : ∀ t', WY D v (D.1 - (r + 1)) (r + 1) y t' → m ≤ cst D v r (j % 10) (j / 10) + t' := fun t' hw => hmi _ (by
            rw [show D.1 - r = D.1 - (r + 1) + 1 by omega, WYz_s]
            exact ⟨j / 10, j % 10, hh, hl, ha, y, t', by rw [ez]; simp [vl], hw, rfl⟩)
          by_cases c4 : cst D v r (j % 10) (j / 10) + m1 = m
          · rw [if_pos (eq.mpr c4)]
            refine ⟨fun _ => rfl, fun z => absurd ⟨hh, hl, ha, y, m1, by rw [ez]; simp [vl], ?_, c4.symm⟩ z⟩
            rcases hR.2 with a | ⟨a, _⟩
            · exact a
            · omega
          · rw [if_neg (fun w => c4 (eq.mp w))]
            refine ⟨fun ⟨_, _, _, y', t', e, hw, et⟩ => absurd ?_ c4, fun _ => rfl⟩
            have e5 : (y' : Int) * (bs D r : Int) = (y : Int) * (bs D r : Int) := by
              rw [ez] at e
              have : (vl D r (j % 10) (j / 10) : Int) = ((j % 10 + j / 10 * hwv (D.2.1 r) : Nat) : Int) := rfl
              omega
            have e6 : (y' : Int) = y := Int.eq_of_mul_eq_mul_right (by omega) e5
            have e7 : y' = y := by omega
            rw [e7] at hw
            have l1 := hR.1 t' hw
            rcases hR.2 with a | ⟨_, a⟩
            · have := up m1 a
              omega
            · exact absurd hw (a t')
      · rw [if_neg c3]
        exact ⟨fun z => absurd (ma.mpr z.2.2.1) c3, fun _ => rfl⟩
theorem dul_p {I : hI} {J : hJ} {D : FD} {o r : Nat} {st c b : Int32} (h : 0 ≤ b) : ∀ (n k : Nat), dul I J D o st r c n k b = b
  | 0, k => rfl
  | n + 1, k => by unfold dul; rw [if_pos h]
theorem dul_v {D : FD} {v : StV} {I : hI} {J : hJ} {o r c m : Nat} {st : Int32} (h6 : D.1 ≤ 6) (hD : DMf D I) (hU : DU J D) (hV : RV D v o st I) (hr : r < D.1) (hc : c ≤ 63) (hW : RW D v (r + 1) I J) (hm : I 82 (64 * r + c) = nI m) (hmi : ∀ t, WYz D v (D.1 - r) r ((J 80 r).toInt - c) t → m ≤ t) (hmb : m < 1000000) : ∀ (n k : Nat), k + n ≤ 40 → (∀ i, i < k → ¬ BsK D v (D.1 - (r + 1)) r ((J 80 r).toInt - c) m i) →
    (∃ j, j < 40 ∧ isF (BsK D v (D.1 - (r + 1)) r ((J 80 r).toInt - c) m) j ∧ dul I J D o st r (nI c) n k (-1) = nI j) ∨ (∀ i, i < k + n → ¬ BsK D v (D.1 - (r + 1)) r ((J 80 r).toInt - c) m i)
  | 0, k, hk, hp => Or.inr hp
  | n + 1, k, hk, hp => by
    have hs := duS_v (b := -1) (j := k) h6 hD hU hV hr hc hW hm hmi hmb (by omega)
    unfold dul
    rw [if_neg (by decide)]
    by_cases c1 : BsK D v (D.1 - (r + 1)) r ((J 80 r).toInt - c) m k
    · rw [hs.1 c1, dul_p (show (0 : Int32) ≤ nI k by rw [fi_le, nI_toInt (by omega)]; have z0 : (0 : Int32).toInt = 0 := rfl; omega)]
      exact Or.inl ⟨k, by omega, ⟨c1, hp⟩, rfl⟩
    · rw [hs.2 c1]
      rw [show k + (n + 1) = k + 1 + n by omega]
      exact dul_v h6 hD hU hV hr hc hW hm hmi hmb n (k + 1) (by omega) (fun i hi => by
        by_cases e : i = k
        · rw [e]; exact c1
        · exact hp i (by omega))
/-- the rods from r on -/
theorem duF_w {D : FD} {v : StV} {J : hJ} {o : Nat} {st : Int32} (ho : o ≠ 83) (h6 : D.1 ≤ 6) (hU : DU J D) : ∀ (n r c x m : Nat) (I : hI), r + n = D.1 → c ≤ 63 → DMf D I → RV D v o st I → (∀ q, q ≤ D.1 → RW D v q I J) → (J 80 r).toInt - c = x → WY D v n r x m → (∀ t, WY D v n r x t → m ≤ t) →
    (∃ f, GW D v n r x m f ∧ ∀ i, r ≤ i → i < D.1 → f i < 40 ∧ duF J D o st n r (nI c) I 83 i = nI (f i % 10) ∧ duF J D o st n r (nI c) I 83 (6 + i) = nI (f i / 10)) ∧ ∀ i, i < r → duF J D o st n r (nI c) I 83 i = I 83 i ∧ duF J D o st n r (nI c) I 83 (6 + i) = I 83 (6 + i)
  | 0, r, c, x, m, I, hr, hc, hD, hV, hW, ex, hw, hmi => ⟨⟨fun _ => 0, trivial, fun i a b => by omega⟩, fun i _ => ⟨rfl, rfl⟩⟩
  | n + 1, r, c, x, m, I, hr, hc, hD, hV, hW, ex, hw, hmi => by
    have okr := fun k hk => (hD.2.2.2 k hk).1
    have hvb : ∀ i, i < D.1 → v.1 i ≤ 9 ∧ v.2.1 i ≤ 9 := fun i hi => (hV i hi).2.1
    have hr' : r < D.1 := by omega
    have hbp : 0 < bs D r := Nat.lt_of_lt_of_le (by decide) (okr r hr').2.1.1
    have hmb := WY_le okr hvb _ _ _ _ (by omega) hw
    have en : D.1 - r = n + 1 := by omega
    have en1 : D.1 - (r + 1) = n := by omega
    have hz : ∀ t, WYz D v (D.1 - r) r ((J 80 r).toInt - c) t ↔ WY D v (n + 1) r x t := fun t => by
      rw [en, ex]
      unfold WYz
      rw [Int.toNat_natCast]
      exact ⟨fun z => z.2, fun z => ⟨by omega, z⟩⟩
    obtain ⟨_, m1, w2, w3, w4⟩ := hW r (by omega) c hc
    have e1 : m1 = m := min_u w4 ⟨fun t ht => hmi t ((hz t).mp ht), Or.inl ((hz m).mpr hw)⟩
    rw [e1] at w2
    have hmi' : ∀ t, WYz D v (D.1 - r) r ((J 80 r).toInt - c) t → m ≤ t := fun t ht => hmi t ((hz t).mp ht)
    have hB : ∃ j, j < 40 ∧ isF (BsK D v n r x m) j ∧ duB I J D o st r (nI c) = nI j := by
      rcases dul_v h6 hD hU hV hr' hc (hW (r + 1) (by omega)) w2 hmi' (by omega) 40 0 (by omega) (fun i hi => absurd hi (Nat.not_lt_zero i)) with h | h
      · rw [en1, ex] at h
        exact h
      · rw [en1, ex] at h
        obtain ⟨l, hh, y, t', ha, e, hy, et⟩ := hw
        have h3 := (okr r hr').2.2.2.1
        have h9 := (okr r hr').2.2.1.2
        have a1 := ha.1
        have a2 := ha.2.1
        refine absurd (show BsK D v n r x m (hh * 10 + l) from ?_) (h (hh * 10 + l) (by omega))
        unfold BsK
        rw [show (hh * 10 + l) / 10 = hh by omega, show (hh * 10 + l) % 10 = l by omega]
        exact ⟨a2, a1, ha, y, t', by rw [e]; simp, hy, et⟩
    obtain ⟨j, hj, hF, eB⟩ := hB
    obtain ⟨b1, b2, ha, y, t', e, hy, et⟩ := hF.1
    have e' : x = vl D r (j % 10) (j / 10) + y * bs D r := by
      have : ((x : Nat) : Int) = ((vl D r (j % 10) (j / 10) + y * bs D r : Nat) : Int) := by rw [e]; simp
      exact Int.ofNat_inj.mp this
    have eL : dL (nI j) = nI (j % 10) := n_m10 (by omega)
    have eH : dH (nI j) = nI (j / 10) := n_d10 (by omega)
    have hmi2 : ∀ t, WY D v n (r + 1) y t → t' ≤ t := fun t ht => by
      have := hmi (cst D v r (j % 10) (j / 10) + t) ⟨j % 10, j / 10, y, t, ha, e', ht, rfl⟩
      omega
    unfold duF
    rw [eB, eL, eH, shF_n]
    rcases onF_v hU okr hr' hc (wv40 (okr r hr') b2 b1) with ⟨n1, n2⟩ | ⟨y2, k, hk, ek, ez, ey⟩
    · exact absurd (ex.trans (e.trans (by simp [vl]))) (n2 y)
    · have ey2 : y2 = y := by
        have e5 : (y2 : Int) * (bs D r : Int) = (y : Int) * (bs D r : Int) := by
          rw [ex, e] at ez
          have : (vl D r (j % 10) (j / 10) : Int) = ((j % 10 + j / 10 * hwv (D.2.1 r) : Nat) : Int) := rfl
          omega
        have e6 : (y2 : Int) = y := Int.eq_of_mul_eq_mul_right (by omega) e5
        omega
      rw [ey2] at ey
      rw [ek]
      have h10 : ∀ a, a ≠ 83 → duI I r (nI j) a = I a := fun a ha => duI_c ha
      have hD2 : DMf D (duI I r (nI j)) := DMf_of hD (h10 _ (by decide)) (h10 _ (by decide)) (h10 _ (by decide)) (h10 _ (by decide)) (h10 _ (by decide))
      have hW2 : ∀ q, q ≤ D.1 → RW D v q (duI I r (nI j)) J := fun q hq => RW_of (hW q hq) (fun _ _ => rfl) (fun _ _ => by rw [h10 _ (by decide)]) rfl
      obtain ⟨⟨f, hf, hv⟩, hk2⟩ := duF_w ho h6 hU n (r + 1) k y t' (duI I r (nI j)) (by omega) hk hD2 (RV_of hV (h10 _ ho)) hW2 ey hy hmi2
      refine ⟨⟨fun i => if i = r then j else f i, ?_, fun i i1 i2 => ?_⟩, fun i hi => ?_⟩
      · unfold GW
        dsimp only
        rw [if_pos rfl]
        refine ⟨hF, y, t', e', hy, et, GW_c n (r + 1) y t' (fun i a b => ?_) hf⟩
        rw [if_neg (by omega)]
      · dsimp only
        by_cases ei : i = r
        · rw [if_pos ei, ei]
          refine ⟨hj, ?_, ?_⟩
          · rw [(hk2 r (by omega)).1]
            unfold duI
            rw [sf_k (by omega), sf_s, eL]
          · rw [(hk2 r (by omega)).2]
            unfold duI
            rw [sf_s, eH]
        · rw [if_neg ei]
          exact hv i (by omega) i2
      · have := hk2 i (by omega)
        rw [this.1, this.2]
        unfold duI
        rw [sf_k (by omega), sf_k (by omega), sf_k (by omega), sf_k (by omega)]
        exact ⟨rfl, rfl⟩
end MDU

