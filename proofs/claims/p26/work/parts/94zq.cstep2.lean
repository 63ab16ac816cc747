/-! The class: what each call leaves (2). -/
section CS2T
variable {sc : Nat × (Nat → Int32)} {d : Nat} {I : hI} {J : hJ} {R : hR} {T : am_H} {Q : Option Value → am_H → Prop} {tx : Nat → Nat} {c : Nat} {D : FD} {m : Nat} {sn : Nat → Nat → Int32}
abbrev CSi (tx : Nat → Nat) (c : Nat) (D : FD) (m : Nat) (sn : Nat → Nat → Int32) (I : hI) (T : am_H) : Option Value → am_H → Prop := CSq tx c D m sn (fun v => ∃ x, v = .int x) I T
abbrev CSl (tx : Nat → Nat) (c : Nat) (D : FD) (m : Nat) (sn : Nat → Nat → Int32) (I : hI) (T : am_H) : Option Value → am_H → Prop := CSq tx c D m sn (fun v => ∃ x, v = .long x) I T
theorem CS_r (x : Int32) (I' : hI) (J' : hJ) (R' : hR) (k : ∀ a, 73 ≤ a → I' a = I a) (h : CI tx c D m sn I' R' T) : CSi tx c D m sn I T (some (.int x)) (HH I' J' R' T) := ⟨_, I', J', R', T, rfl, ⟨x, rfl⟩, rfl, MP_k k, TX_w (TX_0 T) (by omega), h⟩
theorem CS_p (x : Int32) (I' : hI) (J' : hJ) (R' : hR) (k : MP I I') (h : CI tx c D m sn I' R' T) : CSi tx c D m sn I T (some (.int x)) (HH I' J' R' T) := ⟨_, I', J', R', T, rfl, ⟨x, rfl⟩, rfl, k, TX_w (TX_0 T) (by omega), h⟩
theorem CS_q {M : Nat} {as : List Value} {v : Int32} {I' : hI} {J' : hJ} (e : am_E sc d M as (HH I J R T) (some (.int v)) (HH I' J' R T)) (h : CI tx c D m sn I R T) (k : ∀ a, a < 4 ∨ (17 < a ∧ a < 25) ∨ 37 < a → I' a = I a) (w : WK I') : Ze sc d M as (HH I J R T) (CSi tx c D m sn I T) := CS_E e ⟨v, rfl⟩ (fun a ha => k a (by omega)) (CI_q h k w)
theorem cs_rod {x w : Int32} (h : CI tx c D m sn I R T) : Ze sc (d + 4) 96 [.ref 0, .int x, .int w] (HH I J R T) (CSi tx c D m sn I T) := by
  refine Ze_mono (c_rod h.2.1) (fun r h' q => ?_)
  obtain ⟨rfl, ⟨_, rfl⟩ | ⟨k, _, _, rfl⟩⟩ := q
  · exact CS_r _ I J R (fun _ _ => rfl) h
  · exact CS_r _ I J R (fun _ _ => rfl) h
theorem cs_number (h : CI tx c D m sn I R T) : Ze sc (d + 5) 97 [.ref 0] (HH I J R T) (CSl tx c D m sn I T) := CS_E (c_number h.2.1) ⟨_, rfl⟩ (fun _ _ => rfl) h
theorem cs_as {x k : Int32} (h : CI tx c D m sn I R T) : Ze sc (d + 3) 98 [.ref 0, .int x, .int k] (HH I J R T) (CSq tx c D m sn (fun v => v = .int (asv D x k)) I T) := CS_E (c_as h.2.1) rfl (fun _ _ => rfl) h
theorem cs_count {w : Int32} (h : CI tx c D m sn I R T) : Ze sc (d + 5) 117 [.ref 0, .int w] (HH I J R T) (CSi tx c D m sn I T) := CS_E (c_count h.2.1) ⟨_, rfl⟩ (fun _ _ => rfl) h
theorem cs_forget (h : CI tx c D m sn I R T) : Ze sc (d + 1) 114 [.ref 0] (HH I J R T) (CSq tx c D 0 sn (fun v => v = .int (nI m)) I T) := by
  refine CS_E c_forget (by rw [h.2.2.1.1]) (fun a ha => sf_c (by omega)) (CI_e h (CT_of h.1 (by rw [sf_c (by decide)]) (sf_c (by decide))) ⟨sf_s _ _ _ _, Nat.zero_le 6, fun k hk => absurd hk (Nat.not_lt_zero k)⟩ (by rw [sf_k (by decide)]) (fun a x y => sf_c (by omega)))
theorem cs_seen {x v t : Int32} (h : CI tx c D m sn I R T) : Ze sc (d + 2) 113 [.ref 0, .int x, .int v, .int t] (HH I J R T) (if snP D m x v t then CSq tx c D (m + 1) (snA sn m x v t) (fun z => z = .int (snV D m x v t)) I T else CSq tx c D m sn (fun z => z = .int (snV D m x v t)) I T) := by
  have e := c_seen (sc := sc) (d := d) (J := J) (x := x) (v := v) (t := t) h.2.1 h.2.2.1.1 h.2.2.1.2.1
  have h6 := h.2.2.1.2.1
  by_cases hs : snP D m x v t
  · rw [if_pos hs]
    rw [if_pos (show M_rod D.1 x ∧ seenOk v t ∧ m ≠ 6 from hs)] at e
    have hm := hs.2.2
    refine CS_E e rfl (fun a ha => by rw [sf_c (by omega), sf_c (by omega), sf_c (by omega), sf_c (by omega)]) (CI_e h (CT_of h.1 (by rw [sf_c (by decide), sf_c (by decide), sf_c (by decide), sf_c (by decide)]) (by rw [sf_c (by decide), sf_c (by decide), sf_c (by decide), sf_c (by decide)])) ⟨sf_s _ _ _ _, by omega, fun k hk => ?_⟩ (by rw [sf_k (by decide), sf_c (by decide), sf_c (by decide), sf_c (by decide)]) (fun a x y => by rw [sf_c (by omega), sf_c (by omega), sf_c (by omega), sf_c (by omega)]))
    unfold snA
    by_cases ek : k = m
    · subst ek
      rw [if_pos rfl, if_pos rfl, if_pos rfl, if_pos rfl, if_neg (by decide), if_pos rfl, if_neg (by decide), if_neg (by decide)]
      rw [sf_c (show 70 ≠ 0 by decide), sf_c (show 70 ≠ 72 by decide), sf_c (show 70 ≠ 71 by decide), sf_s, sf_c (show 71 ≠ 0 by decide), sf_c (show 71 ≠ 72 by decide), sf_s, sf_c (show 72 ≠ 0 by decide), sf_s]
      exact ⟨rfl, rfl, rfl⟩
    · rw [if_neg ek, if_neg ek, if_neg ek]
      rw [sf_c (show 70 ≠ 0 by decide), sf_c (show 70 ≠ 72 by decide), sf_c (show 70 ≠ 71 by decide), sf_k ek, sf_c (show 71 ≠ 0 by decide), sf_c (show 71 ≠ 72 by decide), sf_k ek, sf_c (show 71 ≠ 70 by decide), sf_c (show 72 ≠ 0 by decide), sf_k ek, sf_c (show 72 ≠ 71 by decide), sf_c (show 72 ≠ 70 by decide)]
      exact h.2.2.1.2.2 k (by omega)
  · rw [if_neg hs]
    rw [if_neg (show ¬ (M_rod D.1 x ∧ seenOk v t ∧ m ≠ 6) from hs)] at e
    exact CS_E e rfl (fun _ _ => rfl) h
theorem cs_ways {v : Int32} (h : CI tx c D m sn I R T) : Ze sc (d + 12) 106 [.ref 0, .int v] (HH I J R T) (CSi tx c D m sn I T) := by
  have ho := DC_ok h.2.1
  have e := c_ways (sc := sc) (d := d) (J := J) (v := v) h.2.1 h.2.2.2.1.1
  refine CS_q e h (fun a ha => ?_) ?_
  · unfold wyF
    split
    · rw [hoF_c (by omega) (by omega), ldF_c (by omega) (by omega) (by omega) (by omega) (by omega) (by omega) (by omega) (by omega)]
    · rfl
  · unfold wyF
    split
    · exact hoF_WK (ldF_WK ho h.2.2.2.1)
    · exact h.2.2.2.1
theorem lcF_q {v lo : Int32} (h : CI tx c D m sn I R T) : (∀ a, a < 4 ∨ (17 < a ∧ a < 25) ∨ 37 < a → (lcF I D v lo).2 a = I a) ∧ WK (lcF I D v lo).2 := by
  have ho := DC_ok h.2.1
  unfold lcF
  refine ⟨fun a ha => ?_, leF_WK (ldF_WK ho h.2.2.2.1)⟩
  dsimp only
  rw [leF_c (by omega) (by omega), ldF_c (by omega) (by omega) (by omega) (by omega) (by omega) (by omega) (by omega) (by omega)]
theorem cs_time {v : Int32} (h : CI tx c D m sn I R T) : Ze sc (d + 13) 107 [.ref 0, .int v] (HH I J R T) (CSi tx c D m sn I T) := by
  have e := c_time (sc := sc) (d := d) (J := J) (v := v) h.2.1 h.2.2.2.1.1
  have k := lcF_q (v := v) (lo := 0) h
  refine CS_q e h (fun a ha => ?_) ?_
  · unfold tiF
    split
    · exact k.1 a ha
    · rfl
  · unfold tiF
    split
    · exact k.2
    · exact h.2.2.2.1
theorem cs_loosen {v : Int32} (h : CI tx c D m sn I R T) : Ze sc (d + 13) 111 [.ref 0, .int v] (HH I J R T) (CSi tx c D m sn I T) := by
  have e := c_loosen (sc := sc) (d := d) (J := J) (v := v) h.2.1 h.2.2.2.1.1
  have k := lcF_q (v := v) (lo := 1) h
  refine CS_q e h (fun a ha => ?_) ?_
  · unfold loF
    split
    · exact k.1 a ha
    · rfl
  · unfold loF
    split
    · exact k.2
    · exact h.2.2.2.1
theorem sit_a {I : hI} {n a : Nat} {fr up : Int32} (ha : a < 4 ∨ (17 < a ∧ a < 25) ∨ 37 < a) : sitF I n fr up a = I a := sitF_c (by omega) (by omega) (by omega) (by omega)
theorem ld_a {I : hI} {D : FD} {s a : Nat} {lo : Int32} (ha : a < 4 ∨ (17 < a ∧ a < 25) ∨ 37 < a) : ldF I D s lo a = I a := ldF_c (by omega) (by omega) (by omega) (by omega) (by omega) (by omega) (by omega) (by omega)
theorem cs_span {w : Int32} (h : CI tx c D m sn I R T) : Ze sc (d + 8) 109 [.ref 0, .int w] (HH I J R T) (CSl tx c D m sn I T) := by
  have ho := DC_ok h.2.1
  have hw := h.2.2.2.1
  have e := c_span (sc := sc) (d := d) (J := J) (w := w) h.2.1 hw.1 hw.2.2.2
  have hf := ldF_few (I := I) (a := 22) (lo := 0) h.2.1.2.1 ho
  have z1 : (1 : Int32).toInt = 1 := rfl
  have k : (∀ a, a < 4 ∨ (17 < a ∧ a < 25) ∨ 37 < a → (spaF I D w).2 a = I a) ∧ WK (spaF I D w).2 := by
    unfold spaF
    split
    · exact ⟨fun _ _ => rfl, hw⟩
    · split
      · split
        · exact ⟨fun a ha => ld_a ha, ldF_WK ho hw⟩
        · split
          · exact ⟨fun a ha => ld_a ha, ldF_WK ho hw⟩
          · refine ⟨fun a ha => ?_, ?_⟩
            · show sitF _ _ _ _ a = I a
              rw [sit_a ha, ld_a ha]
            · exact sitF_WK h.2.1.2.1 (by rw [ti_add (by omega) (by omega)]; omega) (ldF_WK ho hw)
      · exact ⟨fun _ _ => rfl, hw⟩
  exact CS_E e ⟨_, rfl⟩ (fun a ha => k.1 a (by omega)) (CI_q h k.1 k.2)
theorem cs_nearest {v : Int32} (h : CI tx c D m sn I R T) : Ze sc (d + 12) 110 [.ref 0, .int v] (HH I J R T) (CSi tx c D m sn I T) := by
  have ho := DC_ok h.2.1
  have hw := h.2.2.2.1
  have e := c_nearest (sc := sc) (d := d) (J := J) (v := v) h.2.1 hw.1 hw.2.2.2
  have hf := ldF_few (I := I) (a := 22) (lo := 0) h.2.1.2.1 ho
  have z5 : (500 : Int32).toInt = 500 := rfl
  have k : (∀ a, a < 4 ∨ (17 < a ∧ a < 25) ∨ 37 < a → (neF I D v).2 a = I a) ∧ WK (neF I D v).2 := by
    unfold neF
    split
    · rename_i hv
      have hfr : (nFr (ldF I D 22 0) v).toInt ≤ 1500000000 := by
        have e : (v - 500).toInt = v.toInt - 500 := by rw [ti_sub] <;> omega
        unfold nFr
        split <;> omega
      unfold nsF
      split
      · split
        · refine ⟨fun a ha => ?_, sitF_WK h.2.1.2.1 hfr (leF_WK (ldF_WK ho hw))⟩
          show sitF _ _ _ _ a = I a
          rw [sit_a ha, leF_c (by omega) (by omega), ld_a ha]
        · refine ⟨fun a ha => ?_, leF_WK (ldF_WK ho hw)⟩
          show (leF _ _ _).2 a = I a
          rw [leF_c (by omega) (by omega), ld_a ha]
      · exact ⟨fun a ha => ld_a ha, ldF_WK ho hw⟩
    · exact ⟨fun _ _ => rfl, hw⟩
  exact CS_q e h k.1 k.2
theorem cs_slips {x q v p : Int32} (h : CI tx c D m sn I R T) : Ze sc (d + 4) 116 [.ref 0, .int x, .int q, .int v, .int p] (HH I J R T) (CSl tx c D m sn I T) := by
  have hb : ∀ k, k < 6 → (I 23 k).toInt < 2147483647 ∧ (I 24 k).toInt < 2147483647 := fun k hk => by
    have := h.2.2.2.2.2.2.2.2 22 (by decide) k hk
    have h1 : (I 23 k).toInt ≤ 100 := this.1.2
    have h2 : (I 24 k).toInt ≤ 100 := this.2.2
    exact ⟨by omega, by omega⟩
  refine Ze_mono (c_slips h.2.1 hb) (fun r h' q => ?_)
  obtain ⟨v, rfl, rfl⟩ := q
  exact ⟨_, I, J, R, T, rfl, ⟨v, rfl⟩, rfl, MP_k (fun _ _ => rfl), TX_w (TX_0 T) (by omega), h⟩
theorem cs_kinds {x : Int32} (h : CI tx c D m sn I R T) : Ze sc (d + 5) 115 [.ref 0, .int x] (HH I J R T) (CSq tx c D m sn (fun v => (¬ M_rod D.1 x ∧ v = .int (-2)) ∨ ∃ k, k < D.1 ∧ x = nI k ∧ v = .int (kdF I (D.2.1 k) x m)) I T) := by
  by_cases hr : M_rod D.1 x
  · obtain ⟨k, hk, hx⟩ := rod_n hr
    subst hx
    refine Ze_E (c_kinds h.2.1 hk h.2.2.1.1 h.2.2.1.2.1) ?_
    have x4 : TX 4 T (kT4 T (D.2.1 k)) := ⟨[rodC (0, (D.2.1 k).2.1, (D.2.1 k).2.2.1, 0), rodC (1, (D.2.1 k).2.1, (D.2.1 k).2.2.1, (D.2.1 k).2.2.2), rodC (2, (D.2.1 k).2.1, (D.2.1 k).2.2.1, (D.2.1 k).2.2.2), rodC (3, (D.2.1 k).2.1, (D.2.1 k).2.2.1, (D.2.1 k).2.2.2)], by unfold kT4 kT3 kT2 kT1; simp, Nat.le_of_eq rfl, Nat.le_of_eq rfl⟩
    exact ⟨_, I, J, R, _, rfl, Or.inr ⟨k, hk, rfl, rfl⟩, rfl, MP_k (fun _ _ => rfl), TX_w x4 (by omega), CI_T h x4⟩
  · have e : am_E sc (d + 5) 115 [.ref 0, .int x] (HH I J R T) (some (.int (-2))) (HH I J R T) := by
      refine E_Z (Ze_of (Nat.le_of_ble_eq_true rfl) ?_)
      refine Z_jump 3 rfl ?_
      show Zs _ _ (am_P 115).2 (5, [(0, .ref 0), (1, .int x)], [.int x, .ref 18]) (HH I J R T) _
      refine Z_c1 rfl rfl rfl (c_rodAt18n h.2.1 hr) ?_
      show Zs _ _ (am_P 115).2 (8, [(0, .ref 0), (1, .int x)], [.null]) (HH I J R T) _
      refine Z_jump 4 rfl ?_
      show Zs _ _ (am_P 115).2 (15, [(0, .ref 0), (1, .int x), (2, .null)], [.int (-2 : Int32)]) (HH I J R T) _
      refine Z_rI rfl (by first | exact am_nw0 _ | exact am_nw01 | rfl | assumption) ?_
      exact ⟨rfl, rfl⟩
    exact CS_E e (Or.inl ⟨hr, rfl⟩) (fun _ _ => rfl) h
theorem cs_pushed {v x p : Int32} (h : CI tx c D m sn I R T) : Ze sc (d + 14) 108 [.ref 0, .int v, .int x, .int p] (HH I J R T) (CSi tx c D m sn I T) := by
  have ho := DC_ok h.2.1
  refine Ze_mono (c_pushed h.2.1 h.2.2.2.1.1) (fun r h' q => ?_)
  rcases q with ⟨_, rfl, rfl⟩ | ⟨_, _, rfl, rfl⟩ | ⟨i, _, _, _, _, I1, hC, rfl, rfl⟩
  · exact CS_r _ I J R (fun _ _ => rfl) h
  · exact CS_r _ I J R (fun _ _ => rfl) h
  · have e : ∀ a, a < 4 ∨ (17 < a ∧ a < 25) ∨ 37 < a → (stF I1 D 25 v.toInt64).2 a = I a := fun a ha => by
      rw [stF_c (by omega) (by omega) (by omega) (by omega)]; exact hC.1 a (by omega) (by omega) (by omega)
    exact CS_r _ _ J R (fun a ha => e a (by omega)) (CI_q h e (stF_WK (by omega) ho (WK_of h.2.2.2.1 (fun c x y => hC.1 c (by omega) (by omega) (by omega)))))
theorem gK_q {I I' : hI} (h : gK I I') : ∀ a, a < 4 ∨ (17 < a ∧ a < 25) ∨ 37 < a → I' a = I a := fun a ha => h a (by omega)
theorem cs_stick {x p : Int32} (h : CI tx c D m sn I R T) : Ze sc (d + 4) 100 [.ref 0, .int x, .int p] (HH I J R T) (CSi tx c D m sn I T) := by
  obtain ⟨pp, hp, hp8⟩ := h.2.2.2.2.1
  refine Ze_mono (c_stick h.2.1 hp hp8 h.2.2.2.2.2.1) (fun r h' q => ?_)
  rcases q with ⟨_, rfl, rfl⟩ | ⟨_, rfl, I1, R1, q1, q2, rfl⟩
  · exact CS_r _ I J R (fun _ _ => rfl) h
  · have h1 := CI_rm h q1
    exact CS_p _ _ J R1 (MP_t (RM_p q1) (MP_k (fun a ha => sf_c (by omega)))) (CI_n h1 (fun a x1 x2 x3 => sf_c x1) (SBd_of (h1.2.2.2.2.2.2.2.2 22 (by decide)) (sf_c (by decide)) (sf_c (by decide))))
theorem cs_push {x p t : Int32} (h : CI tx c D m sn I R T) : Ze sc (d + 4) 99 [.ref 0, .int x, .int p, .int t] (HH I J R T) (CSi tx c D m sn I T) := by
  obtain ⟨pp, hp, hp8⟩ := h.2.2.2.2.1
  have h6 := h.2.1.2.1
  refine Ze_mono (c_push h.2.1 hp hp8 h.2.2.2.2.2.1) (fun r h' q => ?_)
  rcases q with ⟨_, rfl, rfl⟩ | ⟨k, hk, hx, hb, ⟨_, rfl, rfl⟩ | ⟨ht, ⟨_, rfl, rfl⟩ | ⟨_, I1, R1, q1, _, _, _, rfl, rfl⟩⟩⟩
  · exact CS_r _ I J R (fun _ _ => rfl) h
  · exact CS_r _ I J R (fun _ _ => rfl) h
  · exact CS_r _ I J R (fun _ _ => rfl) h
  · have h1 := CI_rm h q1
    have hq := DC_ok h.2.1 k hk
    have z0 : (0 : Int32).toInt = 0 := rfl
    have ht2 : b100 t := by
      have a1 := ht.1
      have a2 := ht.2
      have e1 := hq.2.2.1
      have e2 := hq.2.2.2.1
      unfold bdC at a2
      rw [fi_lt] at a1
      rw [fi_le] at a2
      by_cases z : p = 1
      · rw [if_pos z, nI_toInt (by omega)] at a2; exact ⟨by omega, by omega⟩
      · rw [if_neg z, nI_toInt (by omega)] at a2; exact ⟨by omega, by omega⟩
    have s1 := h1.2.2.2.2.2.2.2.2 22 (by decide)
    refine CS_p _ _ J R1 (MP_t (RM_p q1) (MP_k (fun a ha => by rw [sf_c (by omega)]; split <;> exact sf_c (by omega)))) (CI_n h1 (fun a x1 x2 x3 => by rw [sf_c x1]; split; exact sf_c x3; exact sf_c x2) (fun i hi => ?_))
    rw [sf_c (show 22 + 1 ≠ 22 by decide), sf_c (show 22 + 2 ≠ 22 by decide)]
    by_cases z : p = 1
    · rw [if_pos z]
      refine ⟨by rw [sf_c (by decide)]; exact (s1 i hi).1, ?_⟩
      by_cases e : i = k
      · rw [e]; show b100 (sf I1 24 k t 24 k); rw [sf_s]; exact ht2
      · rw [show 22 + 2 = 24 from rfl, sf_k e]; exact (s1 i hi).2
    · rw [if_neg z]
      refine ⟨?_, by rw [sf_c (by decide)]; exact (s1 i hi).2⟩
      by_cases e : i = k
      · rw [e]; show b100 (sf I1 23 k t 23 k); rw [sf_s]; exact ht2
      · rw [show 22 + 1 = 23 from rfl, sf_k e]; exact (s1 i hi).1
theorem CI_cp {D : FD} {m b : Nat} {sn : Nat → Nat → Int32} {I' : hI} (h : CI tx c D m sn I R T) (s : SBd b I) (q : CP 22 b I I') : CI tx c D m sn I' R T := CI_n h (fun a x1 x2 x3 => q.1 a x1 x2 x3) (CP_SB q s)
theorem cs_dbT {w : Int32 × hI} {p : Nat} {r : Option Value} {h' : am_H} (h : CI tx c D m sn w.2 R T) (s : SBd 25 w.2) (k : MP I w.2) (q : dbT p w J R T r h') : CSi tx c D m sn I T r h' := by
  rcases q with ⟨_, rfl, rfl⟩ | ⟨_, rfl, I2, R2, I3, q1, q2, rfl⟩
  · exact CS_p _ _ J R k h
  · have h1 := CI_rm h q1
    have s2 : SBd 25 I2 := by
      obtain ⟨_, I', R', a, e, b1, b2, b3, b4, b5, b6, b7⟩ := q1
      have hst := past_st b6
      exact SBd_of s ((inj_a e (st_1 (by decide)) (st_1 (by decide))).trans (b7.1 26 (by omega) (by omega) (by omega) (by omega))) ((inj_a e (st_2 (by decide)) (st_2 (by decide))).trans (b7.1 27 (by omega) (by omega) (by omega) (by omega)))
    exact CS_p _ _ J R2 (MP_t k (MP_t (RM_p q1) (MP_k (fun a ha => q2.1 a (by omega) (by omega) (by omega))))) (CI_cp h1 s2 q2)
theorem cs_set {v : Int32} (h : CI tx c D m sn I R T) : Ze sc (d + 14) 101 [.ref 0, .int v] (HH I J R T) (CSi tx c D m sn I T) := by
  obtain ⟨pp, hp, hp8⟩ := h.2.2.2.2.1
  have ho := DC_ok h.2.1
  refine Ze_mono (c_set h.2.1 h.2.2.2.1.1 hp hp8 h.2.2.2.2.2.1) (fun r h' q => ?_)
  rcases q with ⟨_, rfl, rfl⟩ | ⟨_, I1, hC, q⟩
  · exact CS_r _ I J R (fun _ _ => rfl) h
  · have e1 : ∀ a, a < 25 ∨ 27 < a → I1 a = I a := fun a ha => hC.1 a (by omega) (by omega) (by omega)
    have w1 : WK I1 := WK_of h.2.2.2.1 (fun c x y => e1 c (by omega))
    have e : ∀ a, a < 4 ∨ (17 < a ∧ a < 25) ∨ 37 < a → (stF I1 D 25 v.toInt64).2 a = I a := fun a ha => by
      rw [stF_c (by omega) (by omega) (by omega) (by omega)]; exact e1 a (by omega)
    exact cs_dbT (CI_q h e (stF_WK (by omega) ho w1)) (stF_SB (by omega) ho w1.1 w1.2.1 w1.2.2.1 (CP_SB hC (h.2.2.2.2.2.2.2.2 22 (by decide)))) (MP_k (fun a ha => e a (by omega))) q
theorem cs_carry {x : Int32} (h : CI tx c D m sn I R T) : Ze sc (d + 8) 102 [.ref 0, .int x] (HH I J R T) (CSi tx c D m sn I T) := by
  obtain ⟨pp, hp, hp8⟩ := h.2.2.2.2.1
  have ho := DC_ok h.2.1
  refine Ze_mono (c_carry h.2.1 hp hp8 h.2.2.2.2.2.1) (fun r h' q => ?_)
  rcases q with ⟨_, rfl, rfl⟩ | ⟨k, _, _, I1, hC, q⟩
  · exact CS_r _ I J R (fun _ _ => rfl) h
  · have e1 : ∀ a, a < 25 ∨ 27 < a → I1 a = I a := fun a ha => hC.1 a (by omega) (by omega) (by omega)
    have w1 : WK I1 := WK_of h.2.2.2.1 (fun c x y => e1 c (by omega))
    have e : ∀ a, a < 4 ∨ (17 < a ∧ a < 25) ∨ 37 < a → (coF I1 D 25 k).2 a = I a := fun a ha => by
      rw [coF_c (by omega) (by omega) (by omega) (by omega)]; exact e1 a (by omega)
    exact cs_dbT (CI_q h e (coF_WK (by omega) ho w1)) (coF_SB (by omega) h.2.1.2.1 ho w1.2.1 w1.2.2.1 (CP_SB hC (h.2.2.2.2.2.2.2.2 22 (by decide)))) (MP_k (fun a ha => e a (by omega))) q
theorem CI_9 {v : Int32} {p : Nat} (h : CI tx c D m sn I R T) (hv : v = nI p) (hp : p ≤ 8) : CI tx c D m sn (sf I 0 9 v) R T := by
  obtain ⟨a1, a2, a3, a4, a5, a6, a7, a8, a9⟩ := h
  refine ⟨CT_of a1 (by rw [sf_c (by decide)]) (sf_c (by decide)), DC_of a2 (sf_c (by decide)) rfl, ⟨by rw [sf_k (by decide)]; exact a3.1, a3.2.1, fun k hk => by rw [sf_c (by decide), sf_c (by decide), sf_c (by decide)]; exact a3.2.2 k hk⟩, WK_of a4 (fun c x y => sf_c (by omega)), ⟨p, by rw [sf_s]; exact hv, hp⟩, a6, a7, a8, fun a ha => ?_⟩
  have hs := isSB_s ha
  exact SBd_of (a9 a ha) (sf_c (by omega)) (sf_c (by omega))
theorem CI_11 {v : Int32} (h : CI tx c D m sn I R T) : CI tx c D m sn (sf I 0 11 v) R T := by
  obtain ⟨a1, a2, a3, a4, a5, a6, a7, a8, a9⟩ := h
  refine ⟨CT_of a1 (by rw [sf_c (by decide)]) (sf_c (by decide)), DC_of a2 (sf_c (by decide)) rfl, ⟨by rw [sf_k (by decide)]; exact a3.1, a3.2.1, fun k hk => by rw [sf_c (by decide), sf_c (by decide), sf_c (by decide)]; exact a3.2.2 k hk⟩, WK_of a4 (fun c x y => sf_c (by omega)), by rw [sf_k (by decide)]; exact a5, a6, a7, a8, fun a ha => ?_⟩
  have hs := isSB_s ha
  exact SBd_of (a9 a ha) (sf_c (by omega)) (sf_c (by omega))
theorem cs_undo (h : CI tx c D m sn I R T) : Ze sc (d + 3) 103 [.ref 0] (HH I J R T) (CSi tx c D m sn I T) := by
  obtain ⟨pp, hp, hp8⟩ := h.2.2.2.2.1
  refine Ze_mono (c_undo hp hp8 h.2.2.2.2.2.1) (fun r h' q => ?_)
  rcases q with ⟨_, rfl, rfl⟩ | ⟨_, rfl, a, I1, _, ha, rfl, hC⟩
  · exact CS_r _ I J R (fun _ _ => rfl) h
  · have h9 := CI_9 (p := pp - 1) h rfl (by omega)
    have hsb : isSB a := by rcases past_c ha with rfl | rfl | rfl | rfl | rfl | rfl | rfl | rfl <;> decide
    exact CS_r _ _ J R (fun b hb => by rw [hC.1 b (by omega) (by omega) (by omega), sf_c (by omega)]) (CI_cp h9 (h9.2.2.2.2.2.2.2.2 a hsb) hC)
theorem cs_back {k : Int32} (h : CI tx c D m sn I R T) : Ze sc (d + 4) 105 [.ref 0, .int k] (HH I J R T) (CSi tx c D m sn I T) := by
  refine Ze_mono (c_back h.2.2.2.2.2.2.1.1 h.2.2.2.2.2.2.1.2) (fun r h' q => ?_)
  rcases q with ⟨_, rfl, rfl⟩ | ⟨_, _, rfl, rfl⟩ | ⟨cc, a, ha, _, _, I1, rfl, rfl, hC⟩
  · exact CS_r _ I J R (fun _ _ => rfl) h
  · exact CS_r _ I J R (fun _ _ => rfl) h
  · have hsb : isSB a := by rcases ha with ⟨_, rfl⟩ | ⟨_, rfl⟩ <;> decide
    exact CS_r _ _ J R (fun b hb => by rw [sf_c (by omega)]; exact hC.1 b (by omega) (by omega) (by omega)) (CI_9 (p := 0) (CI_cp h (h.2.2.2.2.2.2.2.2 a hsb) hC) rfl (by omega))
theorem cs_keep {k : Int32} (h : CI tx c D m sn I R T) : Ze sc (d + 4) 104 [.ref 0, .int k] (HH I J R T) (CSi tx c D m sn I T) := by
  refine Ze_mono (c_keep h.2.2.2.2.2.2.1.1 h.2.2.2.2.2.2.1.2) (fun r h' q => ?_)
  rcases q with ⟨_, rfl, rfl⟩ | ⟨cc, a, ha, _, rfl, I1, rfl, hC⟩
  · exact CS_r _ I J R (fun _ _ => rfl) h
  · have hst : isSt a ∧ 64 ≤ a ∧ a ≤ 67 := by rcases ha with ⟨_, rfl⟩ | ⟨_, rfl⟩ <;> decide
    refine CS_r _ _ J R (fun b hb => by rw [sf_c (by omega)]; exact hC.1 b (by omega) (by omega) (by omega)) (CI_11 ?_)
    obtain ⟨a1, a2, a3, a4, a5, a6, a7, a8, a9⟩ := h
    have e : ∀ b, b < 64 ∨ 69 < b → I1 b = I b := fun b hb => hC.1 b (by omega) (by omega) (by omega)
    refine ⟨CT_of a1 (congrFun (e 1 (by omega)) 1) (e 2 (by omega)), DC_of a2 (e 18 (by omega)) rfl, ⟨by rw [e 0 (by omega)]; exact a3.1, a3.2.1, fun k hk => by rw [e 70 (by omega), e 71 (by omega), e 72 (by omega)]; exact a3.2.2 k hk⟩, WK_of a4 (fun c x y => e c (by omega)), by rw [e 0 (by omega)]; exact a5, a6, a7, a8, fun b hb => ?_⟩
    by_cases e1 : b = a
    · subst e1
      exact CP_SB hC (a9 22 (by decide))
    · have dd := st_dis a hst.1 b (isSB_s hb).1 (Ne.symm e1)
      exact SBd_of (a9 b hb) (hC.1 _ dd.2.1.1 dd.2.1.2.1 dd.2.1.2.2) (hC.1 _ dd.2.2.1 dd.2.2.2.1 dd.2.2.2.2)
theorem CI_ag {I' : hI} (h : CI tx c D m sn I R T) (u : AG I I') (C : CT tx c I') : CI tx c D m sn I' R T := CI_e h C ⟨by rw [u 0 (by decide) (by decide)]; exact h.2.2.1.1, h.2.2.1.2.1, fun k hk => by rw [u 70 (by decide) (by decide), u 71 (by decide) (by decide), u 72 (by decide) (by decide)]; exact h.2.2.1.2.2 k hk⟩ (by rw [u 0 (by decide) (by decide)]) (fun a x y => u a (by omega) (by omega))
theorem cs_run (h : CI tx c D m sn I R T) : Ze sc (d + 522) 95 [.ref 0] (HH I J R T) (CSi tx (rnC tx c D) D m sn I T) := by
  obtain ⟨pp, hp, hp8⟩ := h.2.2.2.2.1
  have ho := DC_ok h.2.1
  refine Ze_mono (c_run h.1 h.2.1 h.2.2.2.1.1 hp hp8 h.2.2.2.2.2.1) (fun r h' q => ?_)
  unfold rnC
  rcases q with ⟨p, I1, J1, hs, u1, _, C1, rfl, rfl⟩ | ⟨nn, I1, J1, I2, R2, I3, jj, If, Jf, hs, u1, _, q1, u2, hr, _, _, rfl, rfl⟩
  · rw [hs]
    exact CS_r _ I1 J1 R (fun a ha => u1 a (by omega) (by omega)) (CI_ag h u1 C1)
  · rw [hs]
    have c1 : CI tx 0 D m sn (sf I1 1 1 0) R T := CI_e h ⟨sf_s _ _ _ _, Nat.zero_le _, fun k hk => absurd hk (Nat.not_lt_zero k), fun k hk => absurd hk (Nat.not_lt_zero k)⟩ ⟨by rw [sf_c (by decide), u1 0 (by decide) (by decide)]; exact h.2.2.1.1, h.2.2.1.2.1, fun k hk => by rw [sf_c (by decide), sf_c (by decide), sf_c (by decide), u1 70 (by decide) (by decide), u1 71 (by decide) (by decide), u1 72 (by decide) (by decide)]; exact h.2.2.1.2.2 k hk⟩ (by rw [sf_c (by decide), u1 0 (by decide) (by decide)]) (fun a x y => by rw [sf_c (by omega)]; exact u1 a (by omega) (by omega))
    have u1' : AG I I1 := u1
    -- what is remembered
    have hI2 : ∃ I' R', HH I2 J1 R2 T = HH I' J1 R' T ∧ CI tx 0 D m sn (sf I' 1 1 0) R' T ∧ (∀ b, 62 < b → I' b = I1 b) := by
      obtain ⟨_, I', R', a, e, b1, b2, b3, b4, b5, b6, b7⟩ := q1
      have hst := past_st b6
      refine ⟨I', R', e, ?_, fun b hb => b7.1 b (by omega) (by omega) (by omega) (by omega)⟩
      refine CI_rm (J := J1) (p := pp) c1 ⟨rfl, sf I' 1 1 0, R', a, rfl, by rw [sf_c (by decide)]; exact b1, b2, b3, b4, b5, b6, fun b h0 h1 h2 h3 => ?_, fun k hk => ?_, fun k hk => ?_, ?_, ?_⟩
      · by_cases e1 : b = 1
        · subst e1
          funext j
          by_cases e2 : j = 1
          · rw [e2, sf_s, sf_s]
          · rw [sf_k e2, sf_k e2, b7.1 1 (by omega) (by omega) (by omega) (by omega)]
        · rw [sf_c e1, sf_c e1]; exact b7.1 b h0 h1 h2 h3
      · rw [sf_c (by decide), sf_c (by decide)]; exact b7.2.1 k hk
      · rw [sf_c (show a + 1 ≠ 1 by omega), sf_c (show a + 2 ≠ 1 by omega), sf_c (show 23 ≠ 1 by decide), sf_c (show 24 ≠ 1 by decide)]; exact b7.2.2.1 k hk
      · rw [sf_c (show a ≠ 1 by omega), sf_c (show 22 ≠ 1 by decide)]; exact b7.2.2.2.1
      · rw [sf_c (show a ≠ 1 by omega), sf_c (show 22 ≠ 1 by decide)]; exact b7.2.2.2.2
    obtain ⟨I', R', e, c2, km⟩ := hI2
    have c2' : CI tx 0 D m sn (sf I2 1 1 0) R2 T := by
      refine CI_h (J := J1) (J' := J1) ?_ c2
      have s1 : HH (sf I2 1 1 0) J1 R2 T = (HH I2 J1 R2 T).set 1 (.inr (7, [.ref 2, .int 0, .int (I2 1 2), .int (I2 1 3), .int (I2 1 4), .int (I2 1 5)])) := rfl
      have s2 : HH (sf I' 1 1 0) J1 R' T = (HH I' J1 R' T).set 1 (.inr (7, [.ref 2, .int 0, .int (I' 1 2), .int (I' 1 3), .int (I' 1 4), .int (I' 1 5)])) := rfl
      rw [s1, s2, e, inj_f (k := 1) (j := 2) e rfl rfl rfl rfl, inj_f (k := 1) (j := 3) e rfl rfl rfl rfl, inj_f (k := 1) (j := 4) e rfl rfl rfl rfl, inj_f (k := 1) (j := 5) e rfl rfl rfl rfl]
    have k2 : MP I I2 := fun tx c D m sn x => MI_h e (MI_k x (fun b hb => (km b (by omega)).trans (u1 b (by omega) (by omega))))
    have w3 : WK I3 := WK_of (I := sf I2 1 1 0) c2'.2.2.2.1 (fun c x y => by rw [sf_c (by omega)]; exact u2 c (by omega))
    have s3 : SBd 22 I3 := SBd_of (I := sf I2 1 1 0) (c2'.2.2.2.2.2.2.2.2 22 (by decide)) (by rw [sf_c (by decide)]; exact u2 23 (by decide)) (by rw [sf_c (by decide)]; exact u2 24 (by decide))
    obtain ⟨wf, sf22⟩ := RN_k h.2.1.2.1 ho _ _ _ _ _ _ w3 s3 hr
    have ef : ∀ a, a = 0 ∨ a = 2 ∨ (17 < a ∧ a < 22) ∨ 24 < a → If a = I2 a := fun a ha => (RN_c ha _ _ _ _ _ _ hr).trans (u2 a (by omega))
    obtain ⟨a1, a2, a3, a4, a5, a6, a7, a8, a9⟩ := c2'
    refine CS_p _ _ Jf R2 (MP_t k2 (MP_k (fun a ha => by rw [sf_c (by omega)]; exact ef a (by omega)))) ⟨⟨sf_s _ _ _ _, Nat.zero_le _, fun k hk => absurd hk (Nat.not_lt_zero k), fun k hk => absurd hk (Nat.not_lt_zero k)⟩, DC_of a2 (by rw [sf_c (by decide), sf_c (by decide)]; exact ef 18 (by omega)) rfl, ⟨?_, a3.2.1, fun k hk => ?_⟩, WK_of wf (fun c x y => sf_c (by omega)), ?_, a6, a7, a8, fun b hb => ?_⟩
    · rw [sf_c (by decide), ef 0 (by omega)]; have := a3.1; rw [sf_c (by decide)] at this; exact this
    · have := a3.2.2 k hk
      rw [sf_c (by decide), sf_c (by decide), sf_c (by decide)] at this
      rw [sf_c (by decide), sf_c (by decide), sf_c (by decide), ef 70 (by omega), ef 71 (by omega), ef 72 (by omega)]
      exact this
    · rw [sf_c (by decide), ef 0 (by omega)]; rw [sf_c (by decide)] at a5; exact a5
    · have hs := isSB_s hb
      by_cases e1 : b = 22
      · subst e1
        exact SBd_of sf22 (sf_c (by decide)) (sf_c (by decide))
      · exact SBd_of (a9 b hb) (by rw [sf_c (by omega), sf_c (by omega)]; exact ef _ (by omega)) (by rw [sf_c (by omega), sf_c (by omega)]; exact ef _ (by omega))
end CS2T

