/-! The reference: what each call leaves. -/
section MST
variable {sc : Nat × (Nat → Int32)} {d : Nat} {I : hI} {J : hJ} {R : hR} {T : am_H} {Q : Option Value → am_H → Prop} {tx : Nat → Nat} {c : Nat} {D : FD} {m : Nat} {sn : Nat → Nat → Int32}
/-- behind a call of the reference -/
def MSq2 (tx : Nat → Nat) (c : Nat) (D : FD) (m : Nat) (sn : Nat → Nat → Int32) (V : Value → Prop) (I : hI) (R : hR) (T : am_H) (r : Option Value) (h : am_H) : Prop := ∃ v I' J', r = some v ∧ V v ∧ h = HH I' J' R T ∧ (∀ a, a < 73 → I' a = I a) ∧ MI tx c D m sn I'
abbrev MSi (tx : Nat → Nat) (c : Nat) (D : FD) (m : Nat) (sn : Nat → Nat → Int32) (I : hI) (R : hR) (T : am_H) : Option Value → am_H → Prop := MSq2 tx c D m sn (fun v => ∃ x, v = .int x) I R T
abbrev MSl (tx : Nat → Nat) (c : Nat) (D : FD) (m : Nat) (sn : Nat → Nat → Int32) (I : hI) (R : hR) (T : am_H) : Option Value → am_H → Prop := MSq2 tx c D m sn (fun v => ∃ x, v = .long x) I R T
theorem MS_E {M : Nat} {as : List Value} {v : Value} {I' : hI} {J' : hJ} {V : Value → Prop} (e : am_E sc d M as (HH I J R T) (some v) (HH I' J' R T)) (hv : V v) (k : ∀ a, a < 73 → I' a = I a) (h : MI tx c D m sn I') : Ze sc d M as (HH I J R T) (MSq2 tx c D m sn V I R T) := Ze_E e ⟨v, I', J', rfl, hv, rfl, k, h⟩
theorem MS_r (x : Int32) (I' : hI) (J' : hJ) (k : ∀ a, a < 73 → I' a = I a) (h : MI tx c D m sn I') : MSi tx c D m sn I R T (some (.int x)) (HH I' J' R T) := ⟨_, I', J', rfl, ⟨x, rfl⟩, rfl, k, h⟩
theorem MI_9 {I' : hI} (h : MI tx c D m sn I) (e : ∀ a, a ≠ 82 → I' a = I a) : MI tx c D m sn I' := MI_q h (fun a _ _ _ x4 _ _ _ _ _ _ _ => e a x4) (fun k _ => congrFun (e 73 (by decide)) k)
theorem ms_write {v : Int32} (h : MI tx c D m sn I) : Ze sc (d + 2) 174 [.ref 73, .int v] (HH I J R T) (if aWc c v then MSq2 (wTx tx c v) (c + 1) D m sn (fun x => x = .int (wrV c v)) I R T else MSq2 tx c D m sn (fun x => x = .int (wrV c v)) I R T) := by
  have e := m_write (sc := sc) (d := d) (J := J) (R := R) (T := T) (v := v) h.1.1 h.1.2.1
  by_cases hw : aWc c v
  · rw [if_pos hw]
    rw [if_pos (show M_let v ∧ c ≠ 160 from hw)] at e
    have hl : 0 ≤ v.toInt ∧ v.toInt ≤ 255 := hw.1
    obtain ⟨t, ht, et⟩ := nI_of (x := v) (by rw [fi_lt]; have z0 : (0 : Int32).toInt = 0 := rfl; omega)
    have h255 : t ≤ 255 := by rw [et, nI_toInt ht] at hl; omega
    have ec : v.toNatClampNeg = t := by rw [et, nI_clamp ht]
    obtain ⟨a1, a2, a3, a4, a5, a6, a7, a8⟩ := h
    have h160 := hw.2
    have hc := a1.2.1
    have k0 : ∀ k, k ≠ 12 → va_up (va_up I 84 (upd (I 84) c v)) 73 (va_up (I 73) 12 (nI (c + 1))) 73 k = I 73 k := fun k hk => by rw [up_same, up_ne hk]
    have ka : ∀ a, a ≠ 73 → a ≠ 84 → va_up (va_up I 84 (upd (I 84) c v)) 73 (va_up (I 73) 12 (nI (c + 1))) a = I a := fun a x y => by rw [up_ne x, up_ne y]
    refine MS_E e rfl (fun a ha => ka a (by omega) (by omega)) ⟨⟨by rw [up_same, up_same], by omega, fun k hk => ?_, fun k hk => ?_⟩, ⟨by rw [k0 0 (by decide)]; exact a2.1, a2.2.1, by rw [k0 7 (by decide)]; exact a2.2.2.1, fun k hk => ?_⟩, ⟨by rw [k0 40 (by decide)]; exact a3.1, a3.2.1, fun k hk => by rw [ka 96 (by decide) (by decide), ka 97 (by decide) (by decide), ka 98 (by decide) (by decide)]; exact a3.2.2 k hk⟩, by rw [k0 36 (by decide)]; exact a4, by rw [k0 35 (by decide)]; exact a5, BR_of a6 (ka _ (by decide) (by decide)), fun j h1 h2 => by rw [ka 93 (by decide) (by decide)]; exact a7 j h1 h2, fun j h1 h2 => by rw [ka 95 (by decide) (by decide)]; exact a8 j h1 h2⟩
    · rw [up_ne (show 84 ≠ 73 by decide), up_same]
      unfold wTx upd
      by_cases e2 : k = c
      · rw [e2, if_pos rfl, up_same, ec, et]
      · rw [if_neg e2, up_ne e2]; exact a1.2.2.1 k (by omega)
    · unfold wTx
      by_cases e2 : k = c
      · rw [e2, up_same, ec]; exact h255
      · rw [up_ne e2]; exact a1.2.2.2 k (by omega)
    · have q := a2.2.2.2 k hk
      exact ⟨q.1, by rw [ka 74 (by decide) (by decide)]; exact q.2.1, (congrFun (ka 75 (by decide) (by decide)) k).trans q.2.2.1, (congrFun (ka 76 (by decide) (by decide)) k).trans q.2.2.2.1, (congrFun (ka 77 (by decide) (by decide)) k).trans q.2.2.2.2⟩
  · rw [if_neg hw]
    rw [if_neg (show ¬ (M_let v ∧ c ≠ 160) from hw)] at e
    exact MS_E e rfl (fun _ _ => rfl) h
theorem MI_0 {I' : hI} {k0 m' c' : Nat} (h : MI tx c D m sn I) (ea : ∀ a, 73 ≤ a → a ≠ 73 → I' a = I a) (e0 : ∀ k, k ≠ k0 → I' 73 k = I 73 k) (hk : k0 = 12 ∨ k0 = 40) (h12 : k0 = 12 → I' 73 12 = nI c' ∧ c' = 0 ∧ m' = m) (h40 : k0 = 40 → I' 73 40 = nI m' ∧ m' = 0 ∧ c' = c) : MI tx c' D m' sn I' := by
  obtain ⟨a1, a2, a3, a4, a5, a6, a7, a8⟩ := h
  refine ⟨?_, ⟨by rw [e0 0 (by omega)]; exact a2.1, a2.2.1, by rw [e0 7 (by omega)]; exact a2.2.2.1, fun k hk => ?_⟩, ?_, by rw [e0 36 (by omega)]; exact a4, by rw [e0 35 (by omega)]; exact a5, BR_of a6 (ea _ (by decide) (by decide)), fun j h1 h2 => by rw [ea 93 (by decide) (by decide)]; exact a7 j h1 h2, fun j h1 h2 => by rw [ea 95 (by decide) (by decide)]; exact a8 j h1 h2⟩
  · rcases hk with z | z
    · obtain ⟨x1, x2, x3⟩ := h12 z
      subst x2
      exact ⟨x1, Nat.zero_le _, fun k hk => absurd hk (Nat.not_lt_zero k), fun k hk => absurd hk (Nat.not_lt_zero k)⟩
    · obtain ⟨x1, x2, x3⟩ := h40 z
      subst x3
      exact MT_of a1 (e0 12 (by omega)) (ea _ (by decide) (by decide))
  · have q := a2.2.2.2 k hk
    exact ⟨q.1, by rw [ea 74 (by decide) (by decide)]; exact q.2.1, (congrFun (ea 75 (by decide) (by decide)) k).trans q.2.2.1, (congrFun (ea 76 (by decide) (by decide)) k).trans q.2.2.2.1, (congrFun (ea 77 (by decide) (by decide)) k).trans q.2.2.2.2⟩
  · rcases hk with z | z
    · obtain ⟨x1, x2, x3⟩ := h12 z
      subst x3
      exact ⟨by rw [e0 40 (by omega)]; exact a3.1, a3.2.1, fun k hk => by rw [ea 96 (by decide) (by decide), ea 97 (by decide) (by decide), ea 98 (by decide) (by decide)]; exact a3.2.2 k hk⟩
    · obtain ⟨x1, x2, x3⟩ := h40 z
      subst x2
      exact ⟨x1, Nat.zero_le 6, fun k hk => absurd hk (Nat.not_lt_zero k)⟩
theorem ms_erase (h : MI tx c D m sn I) : Ze sc (d + 1) 175 [.ref 73] (HH I J R T) (MSq2 tx 0 D m sn (fun x => x = .int (nI c)) I R T) := MS_E m_erase (by rw [h.1.1]) (fun a ha => up_ne (by omega)) (MI_0 (k0 := 12) (m' := m) (c' := 0) h (fun a _ x => up_ne x) (fun k hk => by rw [up_same, up_ne hk]) (Or.inl rfl) (fun _ => ⟨by rw [up_same, up_same]; rfl, rfl, rfl⟩) (fun z => absurd z (by decide)))
theorem ms_forget (h : MI tx c D m sn I) : Ze sc (d + 1) 222 [.ref 73] (HH I J R T) (MSq2 tx c D 0 sn (fun x => x = .int (nI m)) I R T) := MS_E m_forget (by rw [h.2.2.1.1]) (fun a ha => up_ne (by omega)) (MI_0 (k0 := 40) (m' := 0) (c' := c) h (fun a _ x => up_ne x) (fun k hk => by rw [up_same, up_ne hk]) (Or.inr rfl) (fun z => absurd z (by decide)) (fun _ => ⟨by rw [up_same, up_same]; rfl, rfl, rfl⟩))
theorem m_faultO {w : Int32} (h0 : ¬ w = 0) (h1 : ¬ w = 1) : am_E sc (d + 2) 197 [.ref 73, .int w] (HH I J R T) (some (.int (-3))) (HH I J R T) := by
  refine E_Z (Ze_of (Nat.le_of_ble_eq_true rfl) ?_)
  have hn : ¬ (0 ≤ w.toInt ∧ w.toInt ≤ 1) := fun z => by
    obtain ⟨k, hk, e⟩ := nI_of (x := w) (by rw [fi_lt]; have z0 : (0 : Int32).toInt = 0 := rfl; omega)
    rw [e, nI_toInt hk] at z
    rcases (show k = 0 ∨ k = 1 by omega) with rfl | rfl
    · exact h0 e
    · exact h1 e
  refine Z_jump 4 rfl ?_
  show Zs _ _ (am_P 197).2 (4, [(0, .ref 73), (1, .int w)], [.long (1 : Int64), .long (0 : Int64), .long (Int32.toInt64 w)]) (HH I J R T) _
  refine Z_c1 rfl rfl rfl (E_neg (m_inI (a := 0) (b := 1) rfl rfl) hn) ?_
  show Zs _ _ (am_P 197).2 (7, [(0, .ref 73), (1, .int w)], [.int (0 : Int32)]) (HH I J R T) _
  refine Z_jump 2 rfl ?_
  show Zs _ _ (am_P 197).2 (12, [(0, .ref 73), (1, .int w)], [.int (-3 : Int32)]) (HH I J R T) _
  refine Z_rI rfl (by first | exact am_nw0 _ | exact am_nw01 | rfl | assumption) ?_
  exact ⟨rfl, rfl⟩
theorem MI_um {I' : hI} {J' : hJ} (h : MI tx c D m sn I) (u : UM I J I' J') : MI tx c D m sn I' := MI_q h (fun a _ x0 _ _ _ x12 x13 x14 x15 _ _ => u.1 a x0 x12 x13 x14 x15) (fun k hk => u.2.1 k (by omega) (by omega) (by omega) (by omega) (by omega) (by omega) (by omega) (by omega))
theorem MI_uc {I' : hI} {J' : hJ} (h : MI tx c D m sn I) (u : UC I J I' J') : MI tx c D m sn I' := MI_q h (fun a _ x0 _ _ _ _ _ _ _ x18 x19 => u.1 a x0 x18 x19) (fun k hk => u.2.1 k (by omega) (by omega) (by omega) (by omega) (by omega) (by omega) (by omega) (by omega) (by omega))
theorem ms_fault {w : Int32} (h : MI tx c D m sn I) : Ze sc (d + 9) 197 [.ref 73, .int w] (HH I J R T) (MSq2 tx c D m sn (fun x => x = .int (flV tx c D w)) I R T) := by
  by_cases h0 : w = 0
  · subst h0
    refine Ze_mono (m_faultF h.1 h.2.1) (fun r h' q => ?_)
    obtain ⟨I', J', rfl, u, rfl⟩ := q
    exact ⟨_, I', J', rfl, rfl, rfl, fun a ha => u.1 a (by omega) (by omega) (by omega) (by omega) (by omega), MI_um h u⟩
  · by_cases h1 : w = 1
    · subst h1
      refine Ze_deep (d := d + 8) (by omega) (Ze_mono (m_faultS h.1 h.2.1.1 h.2.1.2.1) (fun r h' q => ?_))
      obtain ⟨I', J', rfl, u, rfl⟩ := q
      exact ⟨_, I', J', rfl, rfl, rfl, fun a ha => u.1 a (by omega) (by omega) (by omega), MI_uc h u⟩
    · refine Ze_deep (d := d + 2) (by omega) (MS_E (m_faultO (d := d) h0 h1) ?_ (fun _ _ => rfl) h)
      show Value.int (-3) = Value.int (flV tx c D w)
      unfold flV
      rw [if_neg h0, if_neg h1]
theorem ms_frame (h : MI tx c D m sn I) : Ze sc (d + 9) 198 [.ref 73] (HH I J R T) (MSq2 tx (frC tx c D) (frD tx c D) (frM tx c D m) sn (fun x => x = .int (frV tx c D)) I R T) := by
  refine Ze_mono (m_frame h.1 h.2.1) (fun r h' q => ?_)
  obtain ⟨I', J', rfl, _, hq⟩ := q
  unfold frC frD frM frV
  rcases hf : fRead tx c 12 0 (tS tx c 0) D with p | ⟨n, D'⟩
  · rw [hf] at hq
    obtain ⟨rfl, u⟩ := hq
    exact ⟨_, I', J', rfl, rfl, rfl, fun a ha => u.1 a (by omega) (by omega) (by omega) (by omega) (by omega), MI_um h u⟩
  · rw [hf] at hq
    obtain ⟨rfl, M1, D1, e40, e35, e36, z, _, _, _, e⟩ := hq
    obtain ⟨a1, a2, a3, a4, a5, a6, a7, a8⟩ := h
    refine ⟨_, I', J', rfl, rfl, rfl, fun a ha => e a (by omega), M1, D1, ⟨e40, Nat.zero_le 6, fun k hk => absurd hk (Nat.not_lt_zero k)⟩, by rw [e36]; exact a4, ⟨0, e35, by omega⟩, fun k hk => ?_, fun j h1 h2 => by rw [e 93 (by omega)]; exact a7 j h1 h2, fun j h1 h2 => by rw [e 95 (by omega)]; exact a8 j h1 h2⟩
    rw [z k (by omega) (by omega)]
    exact ⟨by decide, by decide⟩
theorem MI_uw {I' : hI} {J' : hJ} (h : MI tx c D m sn I) (u : UW I J I' J') : MI tx c D m sn I' := MI_n h (fun a _ x0 x5 _ x9 x10 _ _ _ _ x18 x19 => u.1 a x0 x5 x9 x10 x18 x19) (fun k hk => u.2.1 k (by omega) (by omega) (by omega) (by omega) (by omega) (by omega) (by omega) (by omega) (by omega)) (u.2.2 h.2.2.2.2.2.1)
theorem ms_run (h : MI tx c D m sn I) : Ze sc (d + 10) 199 [.ref 73] (HH I J R T) (MSi tx (rnC tx c D) D m sn I R T) := by
  obtain ⟨u, hu, hu8⟩ := h.2.2.2.1
  obtain ⟨w, hw, hw8⟩ := h.2.2.2.2.1
  refine Ze_mono (m_run h.1 h.2.1 hu hu8 hw hw8) (fun r h' q => ?_)
  unfold rnC
  rcases q with ⟨p, I1, J1, hs, u1, rfl, rfl⟩ | ⟨nn, I1, J1, I2, I3, J3, v, hs, u1, q1, u3, rfl, rfl⟩
  · rw [hs]
    exact MS_r _ I1 J1 (fun a ha => u1.1 a (by omega) (by omega) (by omega)) (MI_uc h u1)
  · rw [hs]
    have h3 := MI_uw (MI_rm hu8 (MI_uc h u1) q1) u3
    refine MS_r _ _ J3 (fun a ha => ?_) (MI_0 (k0 := 12) (m' := m) (c' := 0) h3 (fun a _ x => sf_c x) (fun k hk => sf_k hk) (Or.inl rfl) (fun _ => ⟨sf_s _ _ _ _, rfl, rfl⟩) (fun z => absurd z (by decide)))
    rw [sf_c (by omega), u3.1 a (by omega) (by omega) (by omega) (by omega) (by omega) (by omega), q1.1 a (by omega) (by omega), u1.1 a (by omega) (by omega) (by omega)]
theorem ms_rod {x w : Int32} (h : MI tx c D m sn I) : Ze sc (d + 4) 161 [.ref 73, .int x, .int w] (HH I J R T) (MSi tx c D m sn I R T) := by
  refine Ze_mono (m_rod h.2.1.1 h.2.1.2.1) (fun r h' q => ?_)
  obtain ⟨rfl, ⟨_, rfl⟩ | ⟨k, _, _, rfl⟩⟩ := q
  · exact MS_r _ I J (fun _ _ => rfl) h
  · exact MS_r _ I J (fun _ _ => rfl) h
theorem ms_number (h : MI tx c D m sn I) : Ze sc (d + 5) 160 [.ref 73] (HH I J R T) (MSl tx c D m sn I R T) := MS_E (m_number h.2.1.1 h.2.1.2.1) ⟨_, rfl⟩ (fun _ _ => rfl) h
theorem ms_as {x k : Int32} (h : MI tx c D m sn I) : Ze sc (d + 3) 162 [.ref 73, .int x, .int k] (HH I J R T) (MSq2 tx c D m sn (fun v => v = .int (asv D x k)) I R T) := MS_E (m_as h.2.1) rfl (fun _ _ => rfl) h
theorem ms_count {w : Int32} (h : MI tx c D m sn I) : Ze sc (d + 4) 228 [.ref 73, .int w] (HH I J R T) (MSi tx c D m sn I R T) := MS_E (m_count h.2.1.1 h.2.1.2.1) ⟨_, rfl⟩ (fun _ _ => rfl) h
theorem ms_seen {x v t : Int32} (h : MI tx c D m sn I) : Ze sc (d + 3) 221 [.ref 73, .int x, .int v, .int t] (HH I J R T) (if snP D m x v t then MSq2 tx c D (m + 1) (snA sn m x v t) (fun z => z = .int (snV D m x v t)) I R T else MSq2 tx c D m sn (fun z => z = .int (snV D m x v t)) I R T) := by
  have e := m_seen (sc := sc) (d := d) (J := J) (R := R) (T := T) (x := x) (v := v) (t := t) h.2.1.1 h.2.1.2.1 h.2.2.1.1 h.2.2.1.2.1
  by_cases hs : snP D m x v t
  · rw [if_pos hs]
    rw [if_pos (show M_rod D.1 x ∧ seenOk v t ∧ m ≠ 6 from hs)] at e
    have hm := hs.2.2
    obtain ⟨a1, a2, a3, a4, a5, a6, a7, a8⟩ := h
    have h6 := a3.2.1
    have ka : ∀ a, a ≠ 73 → a < 96 → sf (sf (sf (sf I 96 m x) 97 m v) 98 m t) 73 40 (nI (m + 1)) a = I a := fun a x y => by rw [sf_c x, sf_c (by omega), sf_c (by omega), sf_c (by omega)]
    have k0 : ∀ k, k ≠ 40 → sf (sf (sf (sf I 96 m x) 97 m v) 98 m t) 73 40 (nI (m + 1)) 73 k = I 73 k := fun k hk => by rw [sf_k hk, sf_c (by decide), sf_c (by decide), sf_c (by decide)]
    refine MS_E e rfl (fun a ha => ka a (by omega) (by omega)) ⟨MT_of a1 (k0 12 (by decide)) (ka _ (by decide) (by decide)), ⟨by rw [k0 0 (by decide)]; exact a2.1, a2.2.1, by rw [k0 7 (by decide)]; exact a2.2.2.1, fun k hk => ?_⟩, ⟨sf_s _ _ _ _, by omega, fun k hk => ?_⟩, by rw [k0 36 (by decide)]; exact a4, by rw [k0 35 (by decide)]; exact a5, BR_of a6 (ka _ (by decide) (by decide)), fun j h1 h2 => by rw [ka 93 (by decide) (by decide)]; exact a7 j h1 h2, fun j h1 h2 => by rw [ka 95 (by decide) (by decide)]; exact a8 j h1 h2⟩
    · have q := a2.2.2.2 k hk
      exact ⟨q.1, by rw [ka 74 (by decide) (by decide)]; exact q.2.1, (congrFun (ka 75 (by decide) (by decide)) k).trans q.2.2.1, (congrFun (ka 76 (by decide) (by decide)) k).trans q.2.2.2.1, (congrFun (ka 77 (by decide) (by decide)) k).trans q.2.2.2.2⟩
    · unfold snA
      by_cases ek : k = m
      · subst ek
        rw [if_pos rfl, if_pos rfl, if_pos rfl, if_pos rfl, if_neg (by decide), if_pos rfl, if_neg (by decide), if_neg (by decide)]
        rw [sf_c (show 96 ≠ 73 by decide), sf_c (show 96 ≠ 98 by decide), sf_c (show 96 ≠ 97 by decide), sf_s, sf_c (show 97 ≠ 73 by decide), sf_c (show 97 ≠ 98 by decide), sf_s, sf_c (show 98 ≠ 73 by decide), sf_s]
        exact ⟨rfl, rfl, rfl⟩
      · rw [if_neg ek, if_neg ek, if_neg ek]
        rw [sf_c (show 96 ≠ 73 by decide), sf_c (show 96 ≠ 98 by decide), sf_c (show 96 ≠ 97 by decide), sf_k ek, sf_c (show 97 ≠ 73 by decide), sf_c (show 97 ≠ 98 by decide), sf_k ek, sf_c (show 97 ≠ 96 by decide), sf_c (show 98 ≠ 73 by decide), sf_k ek, sf_c (show 98 ≠ 97 by decide), sf_c (show 98 ≠ 96 by decide)]
        exact a3.2.2 k (by omega)
  · rw [if_neg hs]
    rw [if_neg (show ¬ (M_rod D.1 x ∧ seenOk v t ∧ m ≠ 6) from hs)] at e
    exact MS_E e rfl (fun _ _ => rfl) h
end MST

