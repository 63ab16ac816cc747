/-! The class: what each call leaves. -/
abbrev aWc (c : Nat) (v : Int32) : Prop := M_let v ∧ c ≠ 160
abbrev wTx (tx : Nat → Nat) (c : Nat) (v : Int32) : Nat → Nat := va_up tx c v.toNatClampNeg
def wrV (c : Nat) (v : Int32) : Int32 := if M_let v then (if c = 160 then -5 else nI (c + 1)) else -3
def fV (tx : Nat → Nat) (c : Nat) (D : FD) : Int32 := match fRead tx c 12 0 (tS tx c 0) D with
  | .inl p => nI p
  | .inr _ => -1
def flV (tx : Nat → Nat) (c : Nat) (D : FD) (w : Int32) : Int32 := if w = 0 then fV tx c D else if w = 1 then fq (sQ tx c D.1 12 0 (tS tx c 0)) else -3
def frV (tx : Nat → Nat) (c : Nat) (D : FD) : Int32 := match fRead tx c 12 0 (tS tx c 0) D with
  | .inl _ => -4
  | .inr q => nI q.1
def frC (tx : Nat → Nat) (c : Nat) (D : FD) : Nat := match fRead tx c 12 0 (tS tx c 0) D with
  | .inl _ => c
  | .inr _ => 0
def frD (tx : Nat → Nat) (c : Nat) (D : FD) : FD := match fRead tx c 12 0 (tS tx c 0) D with
  | .inl _ => D
  | .inr q => q.2
def frM (tx : Nat → Nat) (c : Nat) (D : FD) (m : Nat) : Nat := match fRead tx c 12 0 (tS tx c 0) D with
  | .inl _ => m
  | .inr _ => 0
def rnC (tx : Nat → Nat) (c : Nat) (D : FD) : Nat := match sQ tx c D.1 12 0 (tS tx c 0) with
  | .inl _ => c
  | .inr _ => 0
abbrev snP (D : FD) (m : Nat) (x v t : Int32) : Prop := M_rod D.1 x ∧ seenOk v t ∧ m ≠ 6
def snV (D : FD) (m : Nat) (x v t : Int32) : Int32 := if ¬ M_rod D.1 x then -2 else if ¬ seenOk v t then -3 else if m = 6 then -5 else nI (m + 1)
def snA (sn : Nat → Nat → Int32) (m : Nat) (x v t : Int32) : Nat → Nat → Int32 := fun i k => if k = m then (if i = 0 then x else if i = 1 then v else t) else sn i k
theorem CT_w {tx : Nat → Nat} {c : Nat} {I : hI} {v : Int32} (h : CT tx c I) (hw : aWc c v) : CT (wTx tx c v) (c + 1) (sf (sf I 2 c v) 1 1 (nI (c + 1))) := by
  have hl : 0 ≤ v.toInt ∧ v.toInt ≤ 255 := hw.1
  obtain ⟨t, ht, e⟩ := nI_of (x := v) (by rw [fi_lt]; have z0 : (0 : Int32).toInt = 0 := rfl; omega)
  have h255 : t ≤ 255 := by rw [e, nI_toInt ht] at hl; omega
  have ec : v.toNatClampNeg = t := by rw [e, nI_clamp ht]
  have h160 := hw.2
  have hc := h.2.1
  refine ⟨sf_s _ _ _ _, by omega, fun k hk => ?_, fun k hk => ?_⟩
  · rw [sf_c (by decide)]
    unfold wTx
    by_cases e2 : k = c
    · rw [e2, sf_s, up_same, ec, e]
    · rw [sf_k e2, up_ne e2]; exact h.2.2.1 k (by omega)
  · unfold wTx
    by_cases e2 : k = c
    · rw [e2, up_same, ec]; exact h255
    · rw [up_ne e2]; exact h.2.2.2 k (by omega)
section CST
variable {sc : Nat × (Nat → Int32)} {d : Nat} {I : hI} {J : hJ} {R : hR} {T : am_H} {Q : Option Value → am_H → Prop} {tx : Nat → Nat} {c : Nat} {D : FD} {m : Nat} {sn : Nat → Nat → Int32}
/-- behind a call of the class -/
def CSq (tx : Nat → Nat) (c : Nat) (D : FD) (m : Nat) (sn : Nat → Nat → Int32) (V : Value → Prop) (I : hI) (T : am_H) (r : Option Value) (h : am_H) : Prop := ∃ v I' J' R' T', r = some v ∧ V v ∧ h = HH I' J' R' T' ∧ MP I I' ∧ TX 16 T T' ∧ CI tx c D m sn I' R' T'
theorem CS_E {M : Nat} {as : List Value} {v : Value} {I' : hI} {J' : hJ} {V : Value → Prop} (e : am_E sc d M as (HH I J R T) (some v) (HH I' J' R T)) (hv : V v) (k : ∀ a, 73 ≤ a → I' a = I a) (h : CI tx c D m sn I' R T) : Ze sc d M as (HH I J R T) (CSq tx c D m sn V I T) := Ze_E e ⟨v, I', J', R, T, rfl, hv, rfl, MP_k k, TX_w (TX_0 T) (by omega), h⟩
theorem cs_write {v : Int32} (h : CI tx c D m sn I R T) : Ze sc (d + 3) 91 [.ref 0, .int v] (HH I J R T) (if aWc c v then CSq (wTx tx c v) (c + 1) D m sn (fun x => x = .int (wrV c v)) I T else CSq tx c D m sn (fun x => x = .int (wrV c v)) I T) := by
  have e := c_write (sc := sc) (d := d) (J := J) (R := R) (T := T) (v := v) h.1.1 h.1.2.1
  by_cases hw : aWc c v
  · rw [if_pos hw]
    rw [if_pos (show M_let v ∧ c ≠ 160 from hw)] at e
    refine CS_E e rfl (fun a ha => by rw [sf_c (by omega), sf_c (by omega)]) (CI_e h (CT_w h.1 hw) ⟨?_, h.2.2.1.2.1, fun k hk => ?_⟩ ?_ (fun a x y => by rw [sf_c (by omega), sf_c (by omega)]))
    · rw [sf_c (by decide), sf_c (by decide)]; exact h.2.2.1.1
    · rw [sf_c (by decide), sf_c (by decide), sf_c (by decide), sf_c (by decide), sf_c (by decide), sf_c (by decide)]; exact h.2.2.1.2.2 k hk
    · rw [sf_c (by decide), sf_c (by decide)]
  · rw [if_neg hw]
    rw [if_neg (show ¬ (M_let v ∧ c ≠ 160) from hw)] at e
    exact CS_E e rfl (fun _ _ => rfl) h
theorem CI_c0 (h : CI tx c D m sn I R T) : CI tx 0 D m sn (sf I 1 1 0) R T := CI_e h ⟨sf_s _ _ _ _, Nat.zero_le _, fun k hk => absurd hk (Nat.not_lt_zero k), fun k hk => absurd hk (Nat.not_lt_zero k)⟩ ⟨by rw [sf_c (by decide)]; exact h.2.2.1.1, h.2.2.1.2.1, fun k hk => by rw [sf_c (by decide), sf_c (by decide), sf_c (by decide)]; exact h.2.2.1.2.2 k hk⟩ (by rw [sf_c (by decide)]) (fun a x y => sf_c (by omega))
theorem cs_erase (h : CI tx c D m sn I R T) : Ze sc (d + 1) 92 [.ref 0] (HH I J R T) (CSq tx 0 D m sn (fun x => x = .int (nI c)) I T) := CS_E c_erase (by rw [h.1.1]) (fun a ha => sf_c (by omega)) (CI_c0 h)
theorem c_faultO {w : Int32} (h0 : ¬ w = 0) (h1 : ¬ w = 1) : am_E sc (d + 1) 93 [.ref 0, .int w] (HH I J R T) (some (.int (-3))) (HH I J R T) := by
  refine E_Z (Ze_of (Nat.le_of_ble_eq_true rfl) ?_)
  refine Z_jump 2 rfl ?_
  refine Z_bn (fun c1 => ?_) (fun c1 => absurd c1 (h0))
  refine Z_jump 3 rfl ?_
  refine Z_bn (fun c19 => ?_) (fun c19 => absurd c19 (h1))
  refine Z_jump 1 rfl ?_
  show Zs _ _ (am_P 93).2 (45, [(0, .ref 0), (1, .int w)], [.int (-3 : Int32)]) (HH I J R T) _
  refine Z_rI rfl (by first | exact am_nw0 _ | exact am_nw01 | rfl | assumption) ?_
  exact ⟨rfl, rfl⟩
theorem cs_fault {w : Int32} (h : CI tx c D m sn I R T) : Ze sc (d + 522) 93 [.ref 0, .int w] (HH I J R T) (CSq tx c D m sn (fun x => x = .int (flV tx c D w)) I T) := by
  by_cases h0 : w = 0
  · subst h0
    refine Ze_deep (d := 12) (by omega) (Ze_mono (c_faultF (d := 0) h.1 h.2.1) (fun r h' q => ?_))
    obtain ⟨I', R', T', rfl, u, w1, x1, C1, rfl⟩ := q
    refine ⟨_, I', J, R', T', rfl, rfl, rfl, MP_k (fun a ha => u a (by omega) (by omega)), TX_w x1 (by omega), CI_T (T := T) ?_ x1⟩
    obtain ⟨a1, a2, a3, a4, a5, a6, a7, a8, a9⟩ := h
    have e : ∀ a, a ≠ 1 → a ≠ 20 → I' a = I a := u
    refine ⟨C1, DC_of a2 (e 18 (by decide) (by decide)) (w1 19 (by decide)), ⟨by rw [e 0 (by decide) (by decide)]; exact a3.1, a3.2.1, fun k hk => by rw [e 70 (by decide) (by decide), e 71 (by decide) (by decide), e 72 (by decide) (by decide)]; exact a3.2.2 k hk⟩, WK_of a4 (fun c x y => e c (by omega) (by omega)), by rw [e 0 (by decide) (by decide)]; exact a5, ?_, by rw [w1 63 (by decide)]; exact a7, ?_, fun a ha => ?_⟩
    · unfold PR at a6 ⊢; rw [w1 38 (by decide)]; exact a6
    · unfold P28 at a8 ⊢; rw [w1 28 (by decide)]; exact a8
    · have hs := isSB_s ha
      exact SBd_of (a9 a ha) (e _ (by omega) (by omega)) (e _ (by omega) (by omega))
  · by_cases h1 : w = 1
    · subst h1
      refine Ze_mono (c_faultS h.1 h.2.1) (fun r h' q => ?_)
      obtain ⟨I', J', rfl, u, w1, C1, rfl⟩ := q
      refine ⟨_, I', J', R, T, rfl, rfl, rfl, MP_k (fun a ha => u a (by omega) (by omega)), TX_w (TX_0 T) (by omega), CI_e h C1 ?_ (by rw [u 0 (by decide) (by decide)]) (fun a x y => u a (by omega) (by omega))⟩
      exact ⟨by rw [u 0 (by decide) (by decide)]; exact h.2.2.1.1, h.2.2.1.2.1, fun k hk => by rw [u 70 (by decide) (by decide), u 71 (by decide) (by decide), u 72 (by decide) (by decide)]; exact h.2.2.1.2.2 k hk⟩
    · refine Ze_deep (d := 1) (by omega) (CS_E (c_faultO (d := 0) h0 h1) ?_ (fun _ _ => rfl) h)
      show Value.int (-3) = Value.int (flV tx c D w)
      unfold flV
      rw [if_neg h0, if_neg h1]
theorem cs_frame (h : CI tx c D m sn I R T) : Ze sc (d + 12) 94 [.ref 0] (HH I J R T) (CSq tx (frC tx c D) (frD tx c D) (frM tx c D m) sn (fun x => x = .int (frV tx c D)) I T) := by
  refine Ze_mono (c_frameW h.1 h.2.1) (fun r h' q => ?_)
  obtain ⟨I', R', T', rfl, u, w1, x1, hq⟩ := q
  unfold frC frD frM frV
  obtain ⟨a1, a2, a3, a4, a5, a6, a7, a8, a9⟩ := h
  have hP : PR R' := by unfold PR at a6 ⊢; rw [w1 38 (by decide) (by decide)]; exact a6
  have hP2 : P28 R' := by unfold P28 at a8 ⊢; rw [w1 28 (by decide) (by decide)]; exact a8
  have h63 : R' 63 0 = some 64 ∧ R' 63 1 = some 67 := by rw [w1 63 (by decide) (by decide)]; exact a7
  have hW : WK I' := WK_of a4 (fun c x y => u c (by omega))
  rcases hf : fRead tx c 12 0 (tS tx c 0) D with p | ⟨n, D'⟩
  · rw [hf] at hq
    obtain ⟨rfl, C1, D1, e0, e22, e23, e24⟩ := hq
    refine ⟨_, I', J, R', T', rfl, rfl, rfl, MP_k (fun a ha => u a (by omega)), TX_w x1 (by omega), C1, D1, ⟨by rw [e0]; exact a3.1, a3.2.1, fun k hk => by rw [u 70 (by omega), u 71 (by omega), u 72 (by omega)]; exact a3.2.2 k hk⟩, hW, by rw [e0]; exact a5, hP, h63, hP2, fun a ha => ?_⟩
    by_cases e1 : a = 22
    · subst e1
      exact SBd_of (a9 22 ha) e23 e24
    · have hs := isSB_s ha
      exact SBd_of (a9 a ha) (u _ (by omega)) (u _ (by omega))
  · rw [hf] at hq
    obtain ⟨rfl, C1, D1, e9, e11, e15, z, _, _⟩ := hq
    refine ⟨_, I', J, R', T', rfl, rfl, rfl, MP_k (fun a ha => u a (by omega)), TX_w x1 (by omega), C1, D1, ⟨e15, Nat.zero_le 6, fun k hk => absurd hk (Nat.not_lt_zero k)⟩, hW, ⟨0, e9, by omega⟩, hP, h63, hP2, fun a ha => ?_⟩
    by_cases e1 : a = 22
    · subst e1
      intro i hi
      show b100 (I' 23 i) ∧ b100 (I' 24 i)
      rw [(z i hi).1, (z i hi).2]
      exact ⟨⟨by decide, by decide⟩, ⟨by decide, by decide⟩⟩
    · have hs := isSB_s ha
      exact SBd_of (a9 a ha) (u _ (by omega)) (u _ (by omega))
end CST

