/-! The class's sieve: which numbers can be shown. -/
section SVE
def SHw (D : FD) (v : StV) (k i x : Nat) : Prop := ∃ t, WY D v k i x t
/-- what the sieve needs of the tables -/
def TBL (D : FD) (v : StV) (I : hI) : Prop := I 4 13 = nI D.1 ∧ (∀ q, q < D.1 → FTr D v q I) ∧ ∀ q, q ≤ D.1 → BD D v q I
theorem TBL_of {D : FD} {v : StV} {I I' : hI} (h : TBL D v I) (e : ∀ c, c < 12 → I' c = I c) : TBL D v I' := ⟨by rw [e 4 (by omega)]; exact h.1, fun q hq => FTr_of (h.2.1 q hq) (fun s _ c hc => by rw [e c (by omega)]) (by rw [e 8 (by omega)]) (by rw [e 9 (by omega)]), fun q hq => BD_of (h.2.2 q hq) (by rw [e 10 (by omega)]) (by rw [e 11 (by omega)])⟩
/-- the sieve of the rods from i on is right within its window -/
def SVr (D : FD) (v : StV) (i lo hi : Nat) (I : hI) : Prop := I 14 i = nI lo ∧ I 15 i = nI hi ∧ hi < lo + 1024 ∧ lo ≤ 1500000000 ∧ ∀ x, lo ≤ x → x ≤ hi → (I (svO i) (x - lo) = 1 ↔ SHw D v (D.1 - i) i x)
theorem isf_v {D : FD} {v : StV} {i lo hi x : Nat} {I : hI} (hi7 : i < 7) (h : SVr D v i lo hi I) (hx : x < 2000000000) : isfP I i (nI x) ↔ lo ≤ x ∧ x ≤ hi ∧ SHw D v (D.1 - i) i x := by
  obtain ⟨h1, h2, h3, h4, h5⟩ := h
  unfold isfP
  rw [rd_7 hi7, rd_7 hi7, h1, h2, nI_ltI (by omega) (by omega), nI_ltI (by omega) (by omega)]
  by_cases a : lo ≤ x
  · by_cases b : x ≤ hi
    · rw [nI_subI a, am_rdK rfl (by omega) (by decide), h5 x a b]
      exact ⟨fun z => ⟨a, b, z.2.2⟩, fun z => ⟨by omega, by omega, z.2.2⟩⟩
    · exact ⟨fun z => absurd z.2.1 (by omega), fun z => absurd z.2.1 b⟩
  · exact ⟨fun z => absurd z.1 (by omega), fun z => absurd z.1 a⟩
theorem cost_v {D : FD} {v : StV} {I : hI} {i s : Nat} (hi : i < D.1) (h6 : D.1 ≤ 6) (hq : okR (D.2.1 i)) (hv : v.1 i ≤ 9 ∧ v.2.1 i ≤ 9) (h : FTr D v i I) (hs : s < 40) : ¬ 1048576 ≤ costF I (nI i) (nI s) ↔ ∃ l g, alw D v i l g ∧ vl D i l g = s := by
  have es := sl_n (show i < 6 by omega) hs
  have eN : ¬ nI (40 * i + s) = -1 := fun z => by
    have := (fi_eq _ _).mp z
    rw [nI_toInt (by omega)] at this
    have z1 : (-1 : Int32).toInt = -1 := rfl
    omega
  have ec : costF I (nI i) (nI s) = I 5 (40 * i + s) := by
    unfold costF
    rw [es, if_neg eN, am_rdK rfl (by omega) (by decide)]
  rw [ec]
  rcases cell_v hi h6 hq hv h hs with ⟨n1, e5⟩ | ⟨j, j4, hj, _, e5, _⟩
  · rw [e5]
    refine ⟨fun z => absurd (show (1048576 : Int32) ≤ nI 1048576 by decide) z, fun ⟨l, g, ha, hl⟩ => ?_⟩
    have := ha.1
    have h9 := hq.2.2.1.2
    refine absurd ?_ (n1 (10 * g + l))
    unfold Qa
    rw [show (10 * g + l) / 10 = g by omega, show (10 * g + l) % 10 = l by omega]
    exact ⟨ha.2.1, ha.1, ha, hl⟩
  · have b : ca D v i j ≤ 45 := cst_le hq hv hj.2.2.1
    rw [e5]
    exact ⟨fun _ => ⟨_, _, hj.2.2.1, hj.2.2.2⟩, fun _ => nI_ge (b := 1048576) (by omega) (by omega)⟩
theorem stp {a b s : Nat} (h : s < a) (e : a % b = s % b) : s + b ≤ a := by
  have z : (a - s) % b = 0 := Nat.sub_mod_eq_zero_of_mod_eq e
  have := Nat.le_of_dvd (by omega) (Nat.dvd_of_mod_eq_zero z)
  omega
theorem csl_v {D : FD} {v : StV} {I : hI} {i x lo hi : Nat} (hid : i < D.1) (h6 : D.1 ≤ 6) (hq : okR (D.2.1 i)) (hv : v.1 i ≤ 9 ∧ v.2.1 i ≤ 9) (hF : FTr D v i I) (hS : SVr D v (i + 1) lo hi I) (hx : x < 2000000000) (hw : ∀ s, s < 40 → s ≤ x → lo ≤ (x - s) / bs D i ∧ (x - s) / bs D i ≤ hi) : ∀ (m s : Nat), 40 ≤ s + 2 * m → s < 60 → (s ≤ x → s % bs D i = x % bs D i) → (csl I i (nI x) (nI (bs D i)) m (nI s) = 0 ∨ csl I i (nI x) (nI (bs D i)) m (nI s) = 1) ∧ (csl I i (nI x) (nI (bs D i)) m (nI s) = 1 ↔ ∃ s', s ≤ s' ∧ s' < 40 ∧ s' ≤ x ∧ s' % bs D i = x % bs D i ∧ (∃ l g, alw D v i l g ∧ vl D i l g = s') ∧ SHw D v (D.1 - (i + 1)) (i + 1) ((x - s') / bs D i))
  | 0, s, hm, h60, hs => ⟨Or.inl rfl, fun z => absurd z (show ¬ (0 : Int32) = 1 by decide), fun ⟨s', a, b, _⟩ => by omega⟩
  | m + 1, s, hm, h60, hs => by
    have b2 : 2 ≤ bs D i := hq.2.1.1
    have b16 : bs D i ≤ 16 := hq.2.1.2
    have z01 : ¬ (0 : Int32) = 1 := by decide
    unfold csl
    by_cases c1 : x < s
    · rw [if_pos (nI_lt c1 (by omega))]
      exact ⟨Or.inl rfl, fun z => absurd z z01, fun ⟨s', a, b, c, _⟩ => by omega⟩
    · rw [if_neg (nI_nlt (by omega) (by omega))]
      by_cases c2 : 40 ≤ s
      · rw [if_pos (show (40 : Int32) ≤ nI s from nI_le (a := 40) c2 (by omega))]
        exact ⟨Or.inl rfl, fun z => absurd z z01, fun ⟨s', a, b, _⟩ => by omega⟩
      · rw [if_neg (show ¬ (40 : Int32) ≤ nI s from nI_ge (b := 40) (by omega) (by omega))]
        have hse := hs (by omega)
        have ih := csl_v hid h6 hq hv hF hS hx hw m (s + bs D i) (by omega) (by omega) (fun _ => by rw [Nat.add_mod_right]; exact hse)
        have en : nI s + nI (bs D i) = nI (s + bs D i) := nI_add _ _
        have cv := cost_v hid h6 hq hv hF (show s < 40 by omega)
        have skip : (∀ z : (∃ l g, alw D v i l g ∧ vl D i l g = s), ¬ SHw D v (D.1 - (i + 1)) (i + 1) ((x - s) / bs D i)) → ((∃ s', s + bs D i ≤ s' ∧ s' < 40 ∧ s' ≤ x ∧ s' % bs D i = x % bs D i ∧ (∃ l g, alw D v i l g ∧ vl D i l g = s') ∧ SHw D v (D.1 - (i + 1)) (i + 1) ((x - s') / bs D i)) ↔ ∃ s', s ≤ s' ∧ s' < 40 ∧ s' ≤ x ∧ s' % bs D i = x % bs D i ∧ (∃ l g, alw D v i l g ∧ vl D i l g = s') ∧ SHw D v (D.1 - (i + 1)) (i + 1) ((x - s') / bs D i)) := fun no => by
          constructor
          · intro ⟨s', a, r⟩
            exact ⟨s', by omega, r⟩
          · intro ⟨s', a, b, c, e, g, sh⟩
            by_cases es : s' = s
            · subst es
              exact absurd sh (no g)
            · exact ⟨s', stp (by omega) (e.trans hse.symm), b, c, e, g, sh⟩
        by_cases c3 : 1048576 ≤ costF I (nI i) (nI s)
        · rw [if_pos c3, en]
          exact ⟨ih.1, ih.2.trans (skip (fun z => absurd c3 (cv.mpr z)))⟩
        · rw [if_neg c3, nI_subI (by omega), n_div (by omega) b2 (by omega)]
          have wv := hw s (by omega) (by omega)
          have dl := Nat.div_le_self (x - s) (bs D i)
          have fv := isf_v (x := (x - s) / bs D i) (by omega) hS (by omega)
          by_cases c4 : isfP I (i + 1) (nI ((x - s) / bs D i))
          · rw [if_pos c4]
            exact ⟨Or.inr rfl, fun _ => ⟨s, Nat.le_refl s, by omega, by omega, hse, cv.mp c3, (fv.mp c4).2.2⟩, fun _ => rfl⟩
          · rw [if_neg c4, en]
            exact ⟨ih.1, ih.2.trans (skip (fun _ z => c4 (fv.mpr ⟨wv.1, wv.2, z⟩)))⟩
theorem base_v {D : FD} {v : StV} {I : hI} {i : Nat} (hi : i < D.1) (h6 : D.1 ≤ 6) (hq : okR (D.2.1 i)) (h : FTr D v i I) : baseF I (nI i) = nI (bs D i) := by
  unfold baseF
  rw [am_rdK rfl (by omega) (by decide), h.2.1, if_neg]
  exact fun z => by
    have z2 := (nI_ltI (b := 2) (by have := hq.2.1.2; omega) (by omega)).mp z
    have := hq.2.1.1
    omega
/-- one number of the sieve -/
theorem cnF_v {D : FD} {v : StV} {I : hI} {i x lo hi : Nat} (hid : i ≤ D.1) (h6 : D.1 ≤ 6) (okr : ∀ i, i < D.1 → okR (D.2.1 i)) (hvb : ∀ i, i < D.1 → v.1 i ≤ 9 ∧ v.2.1 i ≤ 9) (hT : TBL D v I) (hS : i < D.1 → SVr D v (i + 1) lo hi I) (hx : x < 2000000000) (hw : i < D.1 → ∀ s, s < 40 → s ≤ x → lo ≤ (x - s) / bs D i ∧ (x - s) / bs D i ≤ hi) : (cnF I i (nI x) = 1 ↔ SHw D v (D.1 - i) i x) := by
  unfold cnF
  rw [hT.1]
  by_cases ci : i < D.1
  · rw [if_pos (nI_lt ci (by omega))]
    have hq := okr i ci
    have b2 : 2 ≤ bs D i := hq.2.1.1
    have b16 : bs D i ≤ 16 := hq.2.1.2
    obtain ⟨f, M, e1, e2, l1, l2, hb⟩ := hT.2.2 i hid
    have p := p16 (k := D.1 - i) (by omega)
    have ek : D.1 - i = D.1 - (i + 1) + 1 := by omega
    unfold csF
    have inr : inR I (nI i) (nI x) ↔ f ≤ x ∧ x ≤ M := by
      unfold inR
      rw [rd_7 (by omega), rd_7 (by omega), e1, e2, nI_ltI (by omega) (by omega), nI_ltI (by omega) (by omega)]
      omega
    by_cases c1 : inR I (nI i) (nI x)
    · rw [if_pos c1, base_v ci h6 hq (hT.2.1 i ci), n_mod (by omega) b2 (by omega)]
      have hml := Nat.mod_lt x (show 0 < bs D i by omega)
      rw [(csl_v ci h6 hq (hvb i ci) (hT.2.1 i ci) (hS ci) hx (hw ci) 60 (x % bs D i) (by omega) (by omega) (fun _ => Nat.mod_mod _ _)).2]
      constructor
      · intro ⟨s', _, _, c, e, ⟨l, g, ha, hl⟩, t, ht⟩
        rw [ek]
        refine ⟨_, l, g, (x - s') / bs D i, t, ha, ?_, ht, rfl⟩
        have z := Nat.sub_mod_eq_zero_of_mod_eq e.symm
        have dm := Nat.div_add_mod (x - s') (bs D i)
        rw [z, Nat.mul_comm] at dm
        rw [hl]
        omega
      · intro ⟨t, ht⟩
        rw [ek] at ht
        obtain ⟨l, g, y, t', ha, e, hwy, _⟩ := ht
        have h40 := (slv (D := D) (i := i) (by omega) hq ha.1 ha.2.1).2
        have em : vl D i l g % bs D i = x % bs D i := by rw [e, Nat.add_mul_mod_self_right]
        refine ⟨vl D i l g, ?_, h40, by omega, em, ⟨l, g, ha, rfl⟩, t', ?_⟩
        · rw [← em]; exact Nat.mod_le _ _
        · rw [e, Nat.add_sub_cancel_left, Nat.mul_div_cancel _ (by omega)]
          exact hwy
    · rw [if_neg c1]
      refine ⟨fun z => absurd z (show ¬ (0 : Int32) = 1 by decide), fun ⟨t, ht⟩ => absurd (inr.mpr (hb x t ht)) c1⟩
  · have e : i = D.1 := by omega
    rw [if_neg (nI_nlt (by omega) (by omega)), e, Nat.sub_self]
    by_cases z : x = 0
    · rw [z, if_pos (show nI 0 = (0 : Int32) from rfl)]
      exact ⟨fun _ => ⟨0, rfl, rfl⟩, fun _ => rfl⟩
    · rw [if_neg (show ¬ nI x = (0 : Int32) from fun y => z ((nI_eq (b := 0) (by omega) (by omega)).mp y))]
      exact ⟨fun y => absurd y (show ¬ (0 : Int32) = 1 by decide), fun ⟨t, ht, _⟩ => absurd ht z⟩
theorem sv_pp (i : Nat) : svO (i + 1) ≠ svO i ∧ (svO i = 16 ∨ svO i = 17) := by
  unfold svO
  rcases Nat.mod_two_eq_zero_or_one i with e | e
  · rw [if_pos e, if_neg (show ¬ (i + 1) % 2 = 0 by omega)]; exact ⟨by decide, Or.inl rfl⟩
  · rw [if_neg (show ¬ i % 2 = 0 by omega), if_pos (show (i + 1) % 2 = 0 by omega)]; exact ⟨by decide, Or.inr rfl⟩
/-- the numbers from x on -/
theorem sfl_v {D : FD} {v : StV} {i lo hi lo' hi' : Nat} (hid : i ≤ D.1) (h6 : D.1 ≤ 6) (okr : ∀ i, i < D.1 → okR (D.2.1 i)) (hvb : ∀ i, i < D.1 → v.1 i ≤ 9 ∧ v.2.1 i ≤ 9) (hlo : lo ≤ 1500000000) (hh : hi < lo + 1024) (hw : i < D.1 → ∀ x, lo ≤ x → x ≤ hi → ∀ s, s < 40 → s ≤ x → lo' ≤ (x - s) / bs D i ∧ (x - s) / bs D i ≤ hi') : ∀ (k x : Nat) (I : hI), x + k = lo + 1024 → lo ≤ x → TBL D v I → (i < D.1 → SVr D v (i + 1) lo' hi' I) → (∀ y, lo ≤ y → y < x → (I (svO i) (y - lo) = 1 ↔ SHw D v (D.1 - i) i y)) → ∀ y, lo ≤ y → y ≤ hi → (sfl i (nI lo) (nI hi) k (nI x) I (svO i) (y - lo) = 1 ↔ SHw D v (D.1 - i) i y)
  | 0, x, I, hk, hx, hT, hS, hp => fun y y1 y2 => hp y y1 (by omega)
  | k + 1, x, I, hk, hx, hT, hS, hp => by
    unfold sfl
    by_cases c : hi < x
    · rw [if_pos (nI_lt c (by omega))]
      exact fun y y1 y2 => hp y y1 (by omega)
    · rw [if_neg (nI_nlt (by omega) (by omega)), nI_subI hx, wI_n (show x - lo < 1024 by omega) (by decide), nI_1]
      have sp := sv_pp i
      have cn := cnF_v (lo := lo') (hi := hi') hid h6 okr hvb hT hS (show x < 2000000000 by omega) (fun z => hw z x hx (by omega))
      have kc : ∀ c, c ≠ svO i → sf I (svO i) (x - lo) (cnF I i (nI x)) c = I c := fun c hc => sf_c hc
      refine sfl_v hid h6 okr hvb hlo hh hw k (x + 1) _ (by omega) (by omega) (TBL_of hT (fun c hc => kc c (by omega))) (fun z => ?_) (fun y y1 y2 => ?_)
      · obtain ⟨a1, a2, a3, a4, a5⟩ := hS z
        refine ⟨by rw [kc 14 (by omega)]; exact a1, by rw [kc 15 (by omega)]; exact a2, a3, a4, fun y y1 y2 => ?_⟩
        rw [kc _ sp.1]
        exact a5 y y1 y2
      · by_cases e : y = x
        · rw [e, sf_s]; exact cn
        · rw [sf_k (by omega)]; exact hp y y1 (by omega)
/-- the windows -/
def wl (D : FD) (lo : Nat) : Nat → Nat
  | 0 => lo
  | i + 1 => (wl D lo i - 39) / bs D i
def wh (D : FD) (hi : Nat) : Nat → Nat
  | 0 => hi
  | i + 1 => wh D hi i / bs D i
theorem wlh {D : FD} {lo hi : Nat} (okr : ∀ i, i < D.1 → okR (D.2.1 i)) (h : hi ≤ lo + 1000) : ∀ i, i ≤ D.1 → wl D lo i ≤ lo ∧ wh D hi i ≤ hi ∧ wh D hi i ≤ wl D lo i + 1000
  | 0, hi' => ⟨Nat.le_refl _, Nat.le_refl _, h⟩
  | i + 1, hi' => by
    obtain ⟨a, b, c⟩ := wlh okr h i (by omega)
    have b2 : 2 ≤ bs D i := (okr i (by omega)).2.1.1
    have d1 := Nat.div_le_self (wl D lo i - 39) (bs D i)
    have d2 := Nat.div_le_self (wh D hi i) (bs D i)
    refine ⟨show (wl D lo i - 39) / bs D i ≤ lo by omega, show wh D hi i / bs D i ≤ hi by omega, ?_⟩
    show wh D hi i / bs D i ≤ (wl D lo i - 39) / bs D i + 1000
    have e1 : wh D hi i / bs D i ≤ (wl D lo i - 39 + 1039) / bs D i := Nat.div_le_div_right (by omega)
    have e2 : (wl D lo i - 39 + 1039) / bs D i ≤ (wl D lo i - 39 + 1000 * bs D i) / bs D i := Nat.div_le_div_right (by omega)
    rw [Nat.add_mul_div_right _ _ (by omega)] at e2
    omega
theorem wwin {D : FD} {lo hi i x s : Nat} (hb : 0 < bs D i) (h1 : wl D lo i ≤ x) (h2 : x ≤ wh D hi i) (hs : s < 40) (hx : s ≤ x) : wl D lo (i + 1) ≤ (x - s) / bs D i ∧ (x - s) / bs D i ≤ wh D hi (i + 1) := ⟨Nat.div_le_div_right (by omega), Nat.div_le_div_right (by omega)⟩
theorem ls_n {lo : Nat} (h : lo ≤ 1500000000) : (if nI lo - 39 < 0 then 0 else nI lo - 39) = nI (lo - 39) := by
  have z0 : (0 : Int32).toInt = 0 := rfl
  have z9 : (39 : Int32).toInt = 39 := rfl
  have e : (nI lo).toInt = lo := nI_toInt (by omega)
  have es : (nI lo - 39).toInt = (lo : Int) - 39 := by rw [ti_sub (by omega) (by omega), e, z9]
  by_cases c : lo < 39
  · rw [if_pos (by rw [fi_lt, es]; omega), show lo - 39 = 0 by omega]; rfl
  · rw [if_neg (by rw [fi_lt, es]; omega), fi_eq, es, nI_toInt (by omega)]; omega
theorem sl1_v {D : FD} {v : StV} {lo hi : Nat} (h6 : D.1 ≤ 6) (okr : ∀ i, i < D.1 → okR (D.2.1 i)) (hlo : lo ≤ 1500000000) (hh : hi ≤ lo + 1000) : ∀ (k i : Nat) (I : hI), i + k = D.1 → TBL D v I → (∀ j, j ≤ i → I 14 j = nI (wl D lo j) ∧ I 15 j = nI (wh D hi j)) → ∀ j, j ≤ D.1 → sl1 k i I 14 j = nI (wl D lo j) ∧ sl1 k i I 15 j = nI (wh D hi j)
  | 0, i, I, hk, hT, hp => fun j hj => hp j (by omega)
  | k + 1, i, I, hk, hT, hp => by
    have hq := okr i (by omega)
    have b2 : 2 ≤ bs D i := hq.2.1.1
    have b16 : bs D i ≤ 16 := hq.2.1.2
    have w := wlh okr hh i (by omega)
    have e := hp i (Nat.le_refl i)
    have eb := base_v (show i < D.1 by omega) h6 hq (hT.2.1 i (by omega))
    have e1 : lsF I i / baseF I (nI i) = nI (wl D lo (i + 1)) := by
      unfold lsF
      rw [rd_7 (by omega), e.1, ls_n (by omega), eb, n_div (by omega) b2 (by omega)]
      rfl
    have e2 : am_rd 7 (I 15) (nI i) / baseF I (nI i) = nI (wh D hi (i + 1)) := by
      rw [rd_7 (by omega), e.2, eb, n_div (by omega) b2 (by omega)]
      rfl
    unfold sl1
    refine sl1_v h6 okr hlo hh k (i + 1) _ (by omega) (TBL_of hT (fun c hc => s1F_c (by omega) (by omega))) (fun j hj => ?_)
    unfold s1F
    rw [e1, e2]
    by_cases z : j = i + 1
    · rw [z, sf_c (by decide), sf_s, sf_s]; exact ⟨rfl, rfl⟩
    · rw [sf_c (by decide), sf_k z, sf_k z, sf_c (by decide)]; exact hp j (by omega)
theorem sl2_v {D : FD} {v : StV} {lo hi : Nat} (h6 : D.1 ≤ 6) (okr : ∀ i, i < D.1 → okR (D.2.1 i)) (hvb : ∀ i, i < D.1 → v.1 i ≤ 9 ∧ v.2.1 i ≤ 9) (hlo : lo ≤ 1500000000) (hh : hi ≤ lo + 1000) : ∀ (i : Nat) (I : hI), i ≤ D.1 + 1 → TBL D v I → (∀ j, j ≤ D.1 → I 14 j = nI (wl D lo j) ∧ I 15 j = nI (wh D hi j)) → (i ≤ D.1 → SVr D v i (wl D lo i) (wh D hi i) I) → SVr D v 0 lo hi (sl2 i I)
  | 0, I, hi', hT, hp, hS => hS (Nat.zero_le _)
  | i + 1, I, hi', hT, hp, hS => by
    have w := wlh okr hh i (by omega)
    have e := hp i (by omega)
    have kc : ∀ c, c ≠ 16 → c ≠ 17 → sifF I i c = I c := fun c a b => sifF_c a b
    have eu : upF I i = nI (wh D hi i) := by
      unfold upF
      rw [rd_7 (by omega), rd_7 (by omega), e.1, e.2, show nI (wl D lo i) + 1024 = nI (wl D lo i + 1024) from nI_add _ 1024, show nI (wl D lo i + 1024) - 1 = nI (wl D lo i + 1023) from nI_pred (wl D lo i + 1023), if_neg (nI_nlt (by omega) (by omega))]
    unfold sl2
    refine sl2_v h6 okr hvb hlo hh i _ (by omega) (TBL_of hT (fun c hc => kc c (by omega) (by omega))) (fun j hj => by rw [kc 14 (by decide) (by decide), kc 15 (by decide) (by decide)]; exact hp j hj) (fun hid => ⟨by rw [kc 14 (by decide) (by decide)]; exact e.1, by rw [kc 15 (by decide) (by decide)]; exact e.2, by omega, by omega, ?_⟩)
    unfold sifF
    rw [eu, rd_7 (by omega), e.1]
    exact sfl_v (lo' := wl D lo (i + 1)) (hi' := wh D hi (i + 1)) hid h6 okr hvb (by omega) (by omega) (fun z x x1 x2 s s1 s2 => wwin (Nat.lt_of_lt_of_le (by decide) (okr i z).2.1.1) x1 x2 s1 s2) 1024 (wl D lo i) I rfl (Nat.le_refl _) hT (fun z => hS (by omega)) (fun y y1 y2 => by omega)
/-- the sieve is right -/
theorem sit_v {D : FD} {v : StV} {I : hI} {lo hi : Nat} {fr up : Int32} (h6 : D.1 ≤ 6) (okr : ∀ i, i < D.1 → okR (D.2.1 i)) (hvb : ∀ i, i < D.1 → v.1 i ≤ 9 ∧ v.2.1 i ≤ 9) (hlo : lo ≤ 1500000000) (hh : hi ≤ lo + 1000) (hT : TBL D v I) (ef : (if fr < 0 then 0 else fr) = nI lo) (eu : up = nI hi) : SVr D v 0 lo hi (sitF I D.1 fr up) := by
  unfold sitF
  rw [ef, eu]
  have hT1 : TBL D v (sf (sf I 14 0 (nI lo)) 15 0 (nI hi)) := TBL_of hT (fun c hc => by rw [sf_c (by omega), sf_c (by omega)])
  have w1 := sl1_v (v := v) h6 okr hlo hh D.1 0 _ (by omega) hT1 (fun j hj => by
    rw [show j = 0 by omega, sf_c (by decide), sf_s, sf_s]
    exact ⟨rfl, rfl⟩)
  exact sl2_v h6 okr hvb hlo hh (D.1 + 1) _ (Nat.le_refl _) (TBL_of hT1 (fun c hc => sl1_c (by omega) (by omega) _ _ _)) w1 (fun z => absurd z (by omega))
end SVE

