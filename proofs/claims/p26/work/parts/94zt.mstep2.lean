/-! The reference: what each call leaves (2). -/
section MS2T
variable {sc : Nat × (Nat → Int32)} {d : Nat} {I : hI} {J : hJ} {R : hR} {T : am_H} {Q : Option Value → am_H → Prop} {tx : Nat → Nat} {c : Nat} {D : FD} {m : Nat} {sn : Nat → Nat → Int32}
theorem ms_ways {v : Int32} (h : MI tx c D m sn I) : Ze sc (d + 7) 212 [.ref 73, .int v] (HH I J R T) (MSi tx c D m sn I R T) := by
  have k : ∀ a, a ≠ 82 → (wyM I J D v).2.1 a = I a := fun a ha => by
    unfold wyM
    split
    · exact isP_I ha
    · rfl
  exact MS_E (m_ways h.2.1) ⟨_, rfl⟩ (fun a ha => k a (by omega)) (MI_9 h k)
theorem ms_time {v : Int32} (h : MI tx c D m sn I) : Ze sc (d + 7) 213 [.ref 73, .int v] (HH I J R T) (MSi tx c D m sn I R T) := by
  have k : ∀ a, a ≠ 82 → (tiM I J D v).2.1 a = I a := fun a ha => by
    unfold tiM
    split
    · exact isP_I ha
    · rfl
  exact MS_E (m_time h.2.1) ⟨_, rfl⟩ (fun a ha => k a (by omega)) (MI_9 h k)
theorem ms_span {w : Int32} (h : MI tx c D m sn I) : Ze sc (d + 7) 216 [.ref 73, .int w] (HH I J R T) (MSl tx c D m sn I R T) := by
  have k : ∀ a, a ≠ 82 → (spM I J D w).2.1 a = I a := fun a ha => by
    unfold spM
    split
    · split
      · exact spn_I ha _ _ _ _
      · split <;> rfl
    · rfl
  exact MS_E (m_span h.2.1) ⟨_, rfl⟩ (fun a ha => k a (by omega)) (MI_9 h k)
theorem ms_nearest {v : Int32} (h : MI tx c D m sn I) : Ze sc (d + 7) 217 [.ref 73, .int v] (HH I J R T) (MSi tx c D m sn I R T) := by
  have k : ∀ a, a ≠ 82 → (neM I J D v).2.1 a = I a := fun a ha => by
    unfold neM
    split
    · exact ner_I ha _ _ _ _
    · rfl
  exact MS_E (m_nearest h.2.1) ⟨_, rfl⟩ (fun a ha => k a (by omega)) (MI_9 h k)
theorem ms_loosen {v : Int32} (h : MI tx c D m sn I) : Ze sc (d + 7) 218 [.ref 73, .int v] (HH I J R T) (MSi tx c D m sn I R T) := by
  have k : ∀ a, a ≠ 82 → (loM I J D v).2.1 a = I a := fun a ha => by
    unfold loM
    split
    · exact lsl_I ha _ _ _ _ _
    · rfl
  exact MS_E (m_loosen h.2.1) ⟨_, rfl⟩ (fun a ha => k a (by omega)) (MI_9 h k)
theorem ms_pushed {v x p : Int32} (h : MI tx c D m sn I) : Ze sc (d + 7) 214 [.ref 73, .int v, .int x, .int p] (HH I J R T) (MSi tx c D m sn I R T) := by
  refine Ze_mono (m_pushed h.2.1) (fun r h' q => ?_)
  have k1 : ∀ a, a ≠ 82 → (isP I J D 78 (I 78 12) v.toInt64).2.1 a = I a := fun a ha => isP_I ha
  rcases q with ⟨_, rfl, rfl⟩ | ⟨_, _, rfl, rfl⟩ | ⟨k, _, _, _, _, _, rfl, rfl⟩ | ⟨k, _, _, _, _, _, rfl, rfl⟩
  · exact MS_r _ I J (fun _ _ => rfl) h
  · exact MS_r _ I J (fun _ _ => rfl) h
  · exact MS_r _ _ _ (fun a ha => k1 a (by omega)) (MI_9 h k1)
  · have k2 : ∀ a, a ≠ 82 → a ≠ 83 → puW (isP I J D 78 (I 78 12) v.toInt64).2.2 D (isP I J D 78 (I 78 12) v.toInt64).2.1 a = I a := fun a h9 h10 => by
      unfold puW
      rw [duF_c h10]; exact k1 a h9
    exact MS_r _ _ _ (fun a ha => k2 a (by omega) (by omega)) (MI_q h (fun a _ _ _ x9 x10 _ _ _ _ _ _ => k2 a x9 x10) (fun k _ => congrFun (k2 73 (by decide) (by decide)) k))
def tkC (K : hI → hJ → Int32 → Int32 → trT) : Prop := ∀ I J le be, trK I (K I J le be).2.1
theorem trN_t {x y z o : Int32} {K : hI → hJ → Int32 → Int32 → trT} (hK : tkC K) : tkC (trN D x y z o K) := fun I J le be => by
  unfold trN
  split
  · split
    · exact trK_t tr3_c (hK _ _ _ _)
    · exact trK_t tr3_c (hK _ _ _ _)
  · exact tr3_c
theorem tourM_t {a b e w : Int32} : trK I (tourM I J D a b e w).2.1 := by
  have r : trK I I := fun _ _ _ _ => rfl
  have h6 : tkC (tm6 D a b e) := fun I J lt lo => fun _ _ _ _ => rfl
  have h5 : tkC (tm5 D a b e) := trN_t h6
  have h4 : tkC (tm4 D a b e) := trN_t h5
  have h3 : tkC (tm3 D a b e) := trN_t h4
  have h2 : tkC (tm2 D a b e) := trN_t h3
  have h1 : tkC (tm1 D a b e) := trN_t h2
  have h0 : tkC (tm0 D a b e) := trN_t h1
  have h0' := h0 I J 1000000000 (-1)
  clear h0 h1 h2 h3 h4 h5 h6
  unfold tourM
  generalize tm0 D a b e I J 1000000000 (-1) = x at h0' ⊢
  split
  · split
    · split
      · split
        · exact h0'
        · exact r
      · exact r
    · exact r
  · exact r
theorem ms_tour {a b e w : Int32} (h : MI tx c D m sn I) : Ze sc (d + 8) 220 [.ref 73, .int a, .int b, .int e, .int w] (HH I J R T) (MSi tx c D m sn I R T) := by
  have k := tourM_t (I := I) (J := J) (D := D) (a := a) (b := b) (e := e) (w := w)
  exact MS_E (m_tour h.2.1) ⟨_, rfl⟩ (fun a ha => k a (by omega) (by omega) (by omega)) (MI_q h (fun a _ _ x6 x9 x10 _ _ _ _ _ _ => k a x9 x10 x6) (fun j _ => congrFun (k 73 (by decide) (by decide) (by decide)) j))
theorem ms_kinds {x : Int32} (h : MI tx c D m sn I) : Ze sc (d + 4) 224 [.ref 73, .int x] (HH I J R T) (MSq2 tx c D m sn (fun v => (¬ M_rod D.1 x ∧ v = .int (-2)) ∨ ∃ k, k < D.1 ∧ x = nI k ∧ v = .int (kdM I (D.2.1 k) x m)) I R T) := by
  refine Ze_mono (m_kinds h.2.1 h.2.2.1.1 h.2.2.1.2.1) (fun r h' q => ?_)
  obtain ⟨rfl, ⟨hr, rfl⟩ | ⟨k, hk, hx, rfl⟩⟩ := q
  · exact ⟨_, I, J, rfl, Or.inl ⟨hr, rfl⟩, rfl, fun _ _ => rfl, h⟩
  · exact ⟨_, I, J, rfl, Or.inr ⟨k, hk, hx, rfl⟩, rfl, fun _ _ => rfl, h⟩
theorem ms_slips {x q v p : Int32} (h : MI tx c D m sn I) : Ze sc (d + 4) 227 [.ref 73, .int x, .int q, .int v, .int p] (HH I J R T) (MSl tx c D m sn I R T) := by
  have hb : ∀ k, k < 6 → (I 78 k).toInt ≤ 9 ∧ (I 78 (6 + k)).toInt ≤ 9 ∧ -9 ≤ (I 78 k).toInt ∧ -9 ≤ (I 78 (6 + k)).toInt := fun k hk => by
    have b1 := h.2.2.2.2.2.1 k (by omega)
    have b2 := h.2.2.2.2.2.1 (6 + k) (by omega)
    exact ⟨b1.2, b2.2, b1.1, b2.1⟩
  refine Ze_mono (m_slips h.2.1 hb) (fun r h' q => ?_)
  obtain ⟨v, rfl, rfl⟩ := q
  exact ⟨_, I, J, rfl, ⟨v, rfl⟩, rfl, fun _ _ => rfl, h⟩
/-- a row of now's beads that one of them was set -/
theorem BR_up {o j : Nat} {v : Int32} (h : BR o I) (hv : b9 v) : BR o (sf I o j v) := fun k hk => by
  by_cases e : k = j
  · rw [e, sf_s]; exact hv
  · rw [sf_k e]; exact h k hk
theorem BR_12 {o j : Nat} {v : Int32} (h : BR o I) (hj : 12 ≤ j) : BR o (sf I o j v) := fun k hk => by rw [sf_k (by omega)]; exact h k hk
theorem MI_5 {I' : hI} (h : MI tx c D m sn I) (e : ∀ a, a ≠ 78 → I' a = I a) (hb : BR 78 I') : MI tx c D m sn I' := MI_n h (fun a _ _ x5 _ _ _ _ _ _ _ _ _ => e a x5) (fun k _ => congrFun (e 73 (by decide)) k) hb
theorem ms_push {x p t : Int32} (h : MI tx c D m sn I) : Ze sc (d + 4) 202 [.ref 73, .int x, .int p, .int t] (HH I J R T) (MSi tx c D m sn I R T) := by
  obtain ⟨u, hu, hu8⟩ := h.2.2.2.1
  obtain ⟨w, hw, hw8⟩ := h.2.2.2.2.1
  refine Ze_mono (m_push h.2.1.1 h.2.1.2.1 hu hu8 hw hw8) (fun r h' q => ?_)
  rcases q with ⟨_, rfl, rfl⟩ | ⟨k, hk, hx, hb, ⟨_, rfl, rfl⟩ | ⟨ht, ⟨_, rfl, rfl⟩ | ⟨_, I1, q1, rfl, rfl⟩⟩⟩
  · exact MS_r _ I J (fun _ _ => rfl) h
  · exact MS_r _ I J (fun _ _ => rfl) h
  · exact MS_r _ I J (fun _ _ => rfl) h
  · have h1 := MI_rm hu8 h q1
    have hq := h.2.1.2.2.2 k hk
    have e3 : I 76 k = nI (D.2.1 k).2.2.1 := hq.2.2.2.1
    have e4 : I 77 k = nI (D.2.1 k).2.2.2 := hq.2.2.2.2
    have ht2 : b9 t := by
      have a2 := ht.2
      have x1 := hq.1.2.2.1
      have x2 := hq.1.2.2.2.1
      unfold bdM at a2
      by_cases z : p = 0
      · rw [if_pos z, e3, nI_toInt (by omega)] at a2; exact ⟨by omega, by omega⟩
      · rw [if_neg z, e4, nI_toInt (by omega)] at a2; exact ⟨by omega, by omega⟩
    refine MS_r _ _ J (fun a ha => ?_) (MI_5 h1 (fun a ha => by rw [sf_c ha, sf_c ha]) (BR_12 (BR_up h1.2.2.2.2.2.1 ht2) (by omega)))
    rw [sf_c (by omega), sf_c (by omega), q1.1 a (by omega) (by omega)]
theorem ms_stick {x p : Int32} (h : MI tx c D m sn I) : Ze sc (d + 4) 203 [.ref 73, .int x, .int p] (HH I J R T) (MSi tx c D m sn I R T) := by
  obtain ⟨u, hu, hu8⟩ := h.2.2.2.1
  obtain ⟨w, hw, hw8⟩ := h.2.2.2.2.1
  refine Ze_mono (m_stick h.2.1.1 h.2.1.2.1 hu hu8 hw hw8) (fun r h' q => ?_)
  rcases q with ⟨_, rfl, rfl⟩ | ⟨_, rfl, I1, q1, rfl⟩
  · exact MS_r _ I J (fun _ _ => rfl) h
  · have h1 := MI_rm hu8 h q1
    exact MS_r _ _ J (fun a ha => by rw [sf_c (by omega)]; exact q1.1 a (by omega) (by omega)) (MI_5 h1 (fun a ha => sf_c ha) (BR_12 h1.2.2.2.2.2.1 (by omega)))
theorem MI_se {to : Int64} (h : MI tx c D m sn I) : MI tx c D m sn (seF I J D 78 to).2.1 := MI_uw h (UW_se h.2.1)
theorem ms_set {v : Int32} (h : MI tx c D m sn I) : Ze sc (d + 8) 205 [.ref 73, .int v] (HH I J R T) (MSi tx c D m sn I R T) := by
  obtain ⟨u, hu, hu8⟩ := h.2.2.2.1
  obtain ⟨w, hw, hw8⟩ := h.2.2.2.2.1
  refine Ze_mono (m_set h.2.1 hu hu8 hw hw8) (fun r h' q => ?_)
  have k1 : ∀ a, a ≠ 82 → (isP I J D 78 (I 78 12) v.toInt64).2.1 a = I a := fun a ha => isP_I ha
  rcases q with ⟨_, rfl, rfl⟩ | ⟨_, _, rfl, rfl⟩ | ⟨_, _, I2, q1, rfl, rfl⟩
  · exact MS_r _ I J (fun _ _ => rfl) h
  · exact MS_r _ _ _ (fun a ha => k1 a (by omega)) (MI_9 h k1)
  · have h1 := MI_rm hu8 (MI_9 h k1) q1
    exact MS_r _ _ _ (fun a ha => by rw [seF_c (by omega) (by omega) (by omega), q1.1 a (by omega) (by omega)]; exact k1 a (by omega)) (MI_se h1)
theorem ms_carry {x : Int32} (h : MI tx c D m sn I) : Ze sc (d + 6) 207 [.ref 73, .int x] (HH I J R T) (MSi tx c D m sn I R T) := by
  obtain ⟨u, hu, hu8⟩ := h.2.2.2.1
  obtain ⟨w, hw, hw8⟩ := h.2.2.2.2.1
  refine Ze_mono (m_carry h.2.1 hu hu8 hw hw8) (fun r h' q => ?_)
  have k1 : ∀ k a, a ≠ 79 → (caF (cpN I) D 79 k).2 a = I a := fun k a ha => by rw [caF_c ha]; exact up_ne ha
  have h6 : ∀ k, MI tx c D m sn (caF (cpN I) D 79 k).2 := fun k => MI_q h (fun a _ _ x6 _ _ _ _ _ _ _ _ => k1 k a x6) (fun j _ => congrFun (k1 k 73 (by decide)) j)
  rcases q with ⟨_, rfl, rfl⟩ | ⟨k, _, _, _, rfl, rfl⟩ | ⟨k, _, _, _, I2, q1, rfl, rfl⟩
  · exact MS_r _ I J (fun _ _ => rfl) h
  · exact MS_r _ _ J (fun a ha => k1 k a (by omega)) (h6 k)
  · have h1 := MI_rm hu8 (h6 k) q1
    exact MS_r _ _ J (fun a ha => by rw [caF_c (by omega), q1.1 a (by omega) (by omega)]; exact k1 k a (by omega)) (MI_uw (J := J) (J' := J) h1 UW_ca)
/-- now is brought back from a row -/
theorem BW_BR {src off : Nat} {I0 I1 : hI} (q : BW src off I0 14 I1) (hb : ∀ j, j < 12 → b9 (I0 src (off + j))) : BR 78 I1 := fun k hk => by
  rw [q.2 k, if_pos (by omega)]; exact hb k hk
theorem ms_undo (h : MI tx c D m sn I) : Ze sc (d + 1) 208 [.ref 73] (HH I J R T) (MSi tx c D m sn I R T) := by
  obtain ⟨u, hu, hu8⟩ := h.2.2.2.1
  obtain ⟨w, hw, hw8⟩ := h.2.2.2.2.1
  refine Ze_mono (m_undo hu hu8 hw hw8) (fun r h' q => ?_)
  rcases q with ⟨_, rfl, rfl⟩ | ⟨_, rfl, I1, rfl, q⟩
  · exact MS_r _ I J (fun _ _ => rfl) h
  · obtain ⟨a1, a2, a3, a4, a5, a6, a7, a8⟩ := h
    have e0 : ∀ a, a ≠ 73 → sf (sf I 73 36 (nI ((u + 7) % 8))) 73 35 (nI (w - 1)) a = I a := fun a ha => by rw [sf_c ha, sf_c ha]
    have e1 : ∀ a, a ≠ 73 → a ≠ 78 → I1 a = I a := fun a h0 h5 => (q.1 a h5).trans (e0 a h0)
    have k0 : ∀ k, I1 73 k = sf (sf I 73 36 (nI ((u + 7) % 8))) 73 35 (nI (w - 1)) 73 k := fun k => congrFun (q.1 73 (by decide)) k
    have kk : ∀ k, k ≠ 35 → k ≠ 36 → I1 73 k = I 73 k := fun k x y => by rw [k0, sf_k x, sf_k y]
    refine MS_r _ _ J (fun a ha => e1 a (by omega) (by omega)) ⟨MT_of a1 (kk 12 (by decide) (by decide)) (e1 _ (by decide) (by decide)), ⟨by rw [kk 0 (by decide) (by decide)]; exact a2.1, a2.2.1, by rw [kk 7 (by decide) (by decide)]; exact a2.2.2.1, fun k hk => ?_⟩, ⟨by rw [kk 40 (by decide) (by decide)]; exact a3.1, a3.2.1, fun k hk => by rw [e1 96 (by decide) (by decide), e1 97 (by decide) (by decide), e1 98 (by decide) (by decide)]; exact a3.2.2 k hk⟩, ⟨_, by rw [k0, sf_k (by decide), sf_s], by omega⟩, ⟨w - 1, by rw [k0, sf_s], by omega⟩, BW_BR q (fun j hj => by rw [e0 93 (by decide)]; exact a7 _ (by omega) (by omega)), fun j h1 h2 => by rw [e1 93 (by decide) (by decide)]; exact a7 j h1 h2, fun j h1 h2 => by rw [e1 95 (by decide) (by decide)]; exact a8 j h1 h2⟩
    have q4 := a2.2.2.2 k hk
    exact ⟨q4.1, by rw [e1 74 (by decide) (by decide)]; exact q4.2.1, (congrFun (e1 75 (by decide) (by decide)) k).trans q4.2.2.1, (congrFun (e1 76 (by decide) (by decide)) k).trans q4.2.2.2.1, (congrFun (e1 77 (by decide) (by decide)) k).trans q4.2.2.2.2⟩
theorem ms_back {k : Int32} (h : MI tx c D m sn I) : Ze sc (d + 2) 211 [.ref 73, .int k] (HH I J R T) (MSi tx c D m sn I R T) := by
  refine Ze_mono (m_back h.2.1.1 h.2.1.2.1) (fun r h' q => ?_)
  rcases q with ⟨_, rfl, rfl⟩ | ⟨cc, hc2, _, ⟨_, rfl, rfl⟩ | ⟨_, I1, rfl, rfl, q⟩⟩
  · exact MS_r _ I J (fun _ _ => rfl) h
  · exact MS_r _ I J (fun _ _ => rfl) h
  · obtain ⟨a1, a2, a3, a4, a5, a6, a7, a8⟩ := h
    have e0 : ∀ a, a ≠ 73 → sf I 73 35 0 a = I a := fun a ha => sf_c ha
    have e1 : ∀ a, a ≠ 73 → a ≠ 78 → I1 a = I a := fun a h0 h5 => (q.1 a h5).trans (e0 a h0)
    have k0 : ∀ k, I1 73 k = sf I 73 35 0 73 k := fun k => congrFun (q.1 73 (by decide)) k
    have kk : ∀ k, k ≠ 35 → I1 73 k = I 73 k := fun k x => by rw [k0, sf_k x]
    refine MS_r _ _ J (fun a ha => e1 a (by omega) (by omega)) ⟨MT_of a1 (kk 12 (by decide)) (e1 _ (by decide) (by decide)), ⟨by rw [kk 0 (by decide)]; exact a2.1, a2.2.1, by rw [kk 7 (by decide)]; exact a2.2.2.1, fun k hk => ?_⟩, ⟨by rw [kk 40 (by decide)]; exact a3.1, a3.2.1, fun k hk => by rw [e1 96 (by decide) (by decide), e1 97 (by decide) (by decide), e1 98 (by decide) (by decide)]; exact a3.2.2 k hk⟩, by rw [kk 36 (by decide)]; exact a4, ⟨0, by rw [k0, sf_s]; rfl, by omega⟩, BW_BR q (fun j hj => by rw [e0 95 (by decide)]; exact a8 _ (by omega) (by omega)), fun j h1 h2 => by rw [e1 93 (by decide) (by decide)]; exact a7 j h1 h2, fun j h1 h2 => by rw [e1 95 (by decide) (by decide)]; exact a8 j h1 h2⟩
    have q4 := a2.2.2.2 k hk
    exact ⟨q4.1, by rw [e1 74 (by decide) (by decide)]; exact q4.2.1, (congrFun (e1 75 (by decide) (by decide)) k).trans q4.2.2.1, (congrFun (e1 76 (by decide) (by decide)) k).trans q4.2.2.2.1, (congrFun (e1 77 (by decide) (by decide)) k).trans q4.2.2.2.2⟩
theorem ms_keep {k : Int32} (h : MI tx c D m sn I) : Ze sc (d + 2) 210 [.ref 73, .int k] (HH I J R T) (MSi tx c D m sn I R T) := by
  refine Ze_mono (m_keep h.2.1.1 h.2.1.2.1) (fun r h' q => ?_)
  rcases q with ⟨_, rfl, rfl⟩ | ⟨cc, hc2, _, rfl, I1, rfl, q⟩
  · exact MS_r _ I J (fun _ _ => rfl) h
  · obtain ⟨a1, a2, a3, a4, a5, a6, a7, a8⟩ := h
    have e1 : ∀ a, a ≠ 94 → a ≠ 95 → I1 a = I a := fun a h1 h2 => (q.1 a h2).trans (sf_c h1)
    have e0 := e1 73 (by decide) (by decide)
    refine MS_r _ _ J (fun a ha => e1 a (by omega) (by omega)) ⟨MT_of a1 (congrFun e0 _) (e1 _ (by decide) (by decide)), DMf_of a2 e0 (e1 _ (by decide) (by decide)) (e1 _ (by decide) (by decide)) (e1 _ (by decide) (by decide)) (e1 _ (by decide) (by decide)), ⟨by rw [e0]; exact a3.1, a3.2.1, fun k hk => by rw [e1 96 (by decide) (by decide), e1 97 (by decide) (by decide), e1 98 (by decide) (by decide)]; exact a3.2.2 k hk⟩, by rw [e0]; exact a4, by rw [e0]; exact a5, BR_of a6 (e1 _ (by decide) (by decide)), fun j h1 h2 => by rw [e1 93 (by decide) (by decide)]; exact a7 j h1 h2, fun j h1 h2 => ?_⟩
    rw [q.2 j]
    split
    · rw [sf_c (show 78 ≠ 94 by decide)]; exact a6 _ (by omega)
    · rw [sf_c (show 95 ≠ 94 by decide)]; exact a8 j h1 h2
end MS2T

