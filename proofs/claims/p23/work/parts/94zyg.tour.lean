/-! tour: both sides answer alike. -/
section TOU
/-- set from v: how it stands then, and its time -/
def SetV (D : FD) (v : StV) (V : Int64) (v' : StV) (t : Nat) : Prop := ∃ x f, V.toInt = ((x : Nat) : Int) ∧ WY D v D.1 0 x t ∧ (∀ t', WY D v D.1 0 x t' → t ≤ t') ∧ GW D v D.1 0 x t f ∧ v' = (fun q => if q < D.1 then f q % 10 else 0, fun q => if q < D.1 then f q / 10 else 0, v.2.2)
theorem SetV_u {D : FD} {v v1 v2 : StV} {V : Int64} {t1 t2 : Nat} (hbp : ∀ i, i < D.1 → 0 < bs D i) (h1 : SetV D v V v1 t1) (h2 : SetV D v V v2 t2) : v1 = v2 ∧ t1 = t2 := by
  obtain ⟨x, f, e, w, mi, g, rfl⟩ := h1
  obtain ⟨y, f', e', w', mi', g', rfl⟩ := h2
  have exy : x = y := by omega
  subst exy
  have et : t1 = t2 := Nat.le_antisymm (mi t2 w') (mi' t1 w)
  subst et
  have ef := GW_u hbp D.1 0 x t1 (by omega) g g'
  refine ⟨?_, rfl⟩
  have a1 : (fun q => if q < D.1 then f q % 10 else 0) = fun q => if q < D.1 then f' q % 10 else 0 := funext (fun q => by
    by_cases z : q < D.1
    · rw [if_pos z, if_pos z, ef q (Nat.zero_le q) (by omega)]
    · rw [if_neg z, if_neg z])
  have a2 : (fun q => if q < D.1 then f q / 10 else 0) = fun q => if q < D.1 then f' q / 10 else 0 := funext (fun q => by
    by_cases z : q < D.1
    · rw [if_pos z, if_pos z, ef q (Nat.zero_le q) (by omega)]
    · rw [if_neg z, if_neg z])
  rw [a1, a2]
theorem SetV_t {D : FD} {v v' : StV} {V : Int64} {t : Nat} (okr : ∀ i, i < D.1 → okR (D.2.1 i)) (hvb : ∀ i, i < D.1 → v.1 i ≤ 9 ∧ v.2.1 i ≤ 9) (h : SetV D v V v' t) : t ≤ 45 * D.1 := by
  obtain ⟨x, f, e, w, _⟩ := h
  exact WY_le okr hvb D.1 0 x t (by omega) w
theorem m1_n {t : Nat} (h : t < 2 ^ 31) : ¬ nI t = -1 := fun z => by
  have := (fi_eq _ _).mp z
  rw [nI_toInt h] at this
  have z1 : (-1 : Int32).toInt = -1 := rfl
  omega
theorem set_C {D : FD} {v : StV} {a : Nat} {I : hI} {V : Int64} (ha : 14 ≤ a) (h6 : D.1 ≤ 6) (okr : ∀ i, i < D.1 → okR (D.2.1 i)) (hC : CV D v a I) : ((∀ v' t, ¬ SetV D v V v' t) ∧ (stF I D a V).1 = -1) ∨ ∃ v' t, SetV D v V v' t ∧ (stF I D a V).1 = nI t ∧ CV D v' a (stF I D a V).2 ∧ (stF I D a V).2 a 3 = (if (1000000 : Int32) < I a 3 + nI t then 1000000 else I a 3 + nI t) := by
  rcases stF_w (V := V) ha h6 okr hC with ⟨n1, e1, _⟩ | ⟨x, m, f, ex, hw, hmi, hf, e1, hv, e2, e3⟩
  · refine Or.inl ⟨fun v' t ⟨x, f, e, w, _⟩ => n1 t ⟨by rw [e]; omega, ?_⟩, e1⟩
    rw [e, Int.toNat_natCast]
    exact w
  · refine Or.inr ⟨_, m, ⟨x, f, ex, hw, hmi, hf, rfl⟩, e1, fun i hi => ?_, e3⟩
    have al := GW_al D.1 0 x m hf i (Nat.zero_le i) (by omega)
    have h9 := (okr i hi).2.2.1.2
    have h3 := (okr i hi).2.2.2.1
    rw [e2]
    refine ⟨?_, ?_, (hC i hi).2.2⟩
    · dsimp only
      rw [if_pos hi, if_pos hi]
      exact hv i hi
    · dsimp only
      rw [if_pos hi, if_pos hi]
      exact ⟨by omega, by omega⟩
theorem set_M {D : FD} {v : StV} {o : Nat} {I : hI} {J : hJ} {V : Int64} (ho : o = 78 ∨ o = 79) (hD : DMf D I) (hR : RV D v o (I o 12) I) : ((∀ v' t, ¬ SetV D v V v' t) ∧ (seF I J D o V).1 = -1) ∨ ∃ v' t, SetV D v V v' t ∧ (seF I J D o V).1 = nI t ∧ RV D v' o ((seF I J D o V).2.1 o 12) (seF I J D o V).2.1 := by
  have h6 := hD.2.1
  have okr := fun k hk => (hD.2.2.2 k hk).1
  rcases seF_w (J := J) (V := V) ho h6 hD hR with ⟨n1, e1, _⟩ | ⟨x, m, f, ex, hw, hmi, hf, e1, hv, e2, e3⟩
  · refine Or.inl ⟨fun v' t ⟨x, f, e, w, _⟩ => n1 t ⟨by rw [e]; omega, ?_⟩, e1⟩
    rw [e, Int.toNat_natCast]
    exact w
  · refine Or.inr ⟨_, m, ⟨x, f, ex, hw, hmi, hf, rfl⟩, e1, fun i hi => ?_⟩
    have al := GW_al D.1 0 x m hf i (Nat.zero_le i) (by omega)
    have h9 := (okr i hi).2.2.1.2
    have h3 := (okr i hi).2.2.2.1
    rw [e2]
    refine ⟨?_, ?_, (hR i hi).2.2⟩
    · dsimp only
      rw [if_pos hi, if_pos hi]
      exact hv i hi
    · dsimp only
      rw [if_pos hi, if_pos hi]
      exact ⟨by omega, by omega⟩
/-- three numbers one behind another -/
def ORs (D : FD) (v : StV) (x y z : Int32) (T : Nat) : Prop := ∃ v1 t1 v2 t2 v3 t3, SetV D v x.toInt64 v1 t1 ∧ SetV D v1 y.toInt64 v2 t2 ∧ SetV D v2 z.toInt64 v3 t3 ∧ T = t1 + t2 + t3 ∧ T ≤ 810
def ORn (D : FD) (v : StV) (x y z : Int32) : Prop := (∀ v' t, ¬ SetV D v x.toInt64 v' t) ∨ ∃ v1 t1, SetV D v x.toInt64 v1 t1 ∧ ((∀ v' t, ¬ SetV D v1 y.toInt64 v' t) ∨ ∃ v2 t2, SetV D v1 y.toInt64 v2 t2 ∧ ∀ v' t, ¬ SetV D v2 z.toInt64 v' t)
theorem OR_u {D : FD} {v : StV} {x y z : Int32} {T T' : Nat} (hbp : ∀ i, i < D.1 → 0 < bs D i) (h : ORs D v x y z T) (h' : ORs D v x y z T') : T = T' := by
  obtain ⟨v1, t1, v2, t2, v3, t3, a1, a2, a3, e, _⟩ := h
  obtain ⟨w1, s1, w2, s2, w3, s3, b1, b2, b3, e', _⟩ := h'
  obtain ⟨rfl, rfl⟩ := SetV_u hbp a1 b1
  obtain ⟨rfl, rfl⟩ := SetV_u hbp a2 b2
  obtain ⟨rfl, rfl⟩ := SetV_u hbp a3 b3
  rw [e, e']
theorem OR_x {D : FD} {v : StV} {x y z : Int32} {T : Nat} (hbp : ∀ i, i < D.1 → 0 < bs D i) (h : ORs D v x y z T) (h' : ORn D v x y z) : False := by
  obtain ⟨v1, t1, v2, t2, v3, t3, a1, a2, a3, _⟩ := h
  rcases h' with n | ⟨w1, s1, b1, n | ⟨w2, s2, b2, n⟩⟩
  · exact n _ _ a1
  · obtain ⟨rfl, rfl⟩ := SetV_u hbp a1 b1
    exact n _ _ a2
  · obtain ⟨rfl, rfl⟩ := SetV_u hbp a1 b1
    obtain ⟨rfl, rfl⟩ := SetV_u hbp a2 b2
    exact n _ _ a3
def TRl (D : FD) (v : StV) : List (Int32 × Int32 × Int32 × Int32) → Int32 → Int32 → Option (Int32 × Int32) → Prop
  | [], lt, lo, r => r = some (lt, lo)
  | p :: L, lt, lo, r => (ORn D v p.1 p.2.1 p.2.2.1 ∧ r = none) ∨ ∃ T, ORs D v p.1 p.2.1 p.2.2.1 T ∧ ((lt ≤ nI T ∧ TRl D v L lt lo r) ∨ (¬ lt ≤ nI T ∧ TRl D v L (nI T) p.2.2.2 r))
theorem TRl_u {D : FD} {v : StV} (hbp : ∀ i, i < D.1 → 0 < bs D i) : ∀ (L : List (Int32 × Int32 × Int32 × Int32)) (lt lo : Int32) (r r' : Option (Int32 × Int32)), TRl D v L lt lo r → TRl D v L lt lo r' → r = r'
  | [], lt, lo, r, r', h, h' => by
    have a : r = some (lt, lo) := h
    have b : r' = some (lt, lo) := h'
    rw [a, b]
  | p :: L, lt, lo, r, r', h, h' => by
    rcases h with ⟨n, e⟩ | ⟨T, s, k⟩
    · rcases h' with ⟨n', e'⟩ | ⟨T', s', k'⟩
      · rw [e, e']
      · exact (OR_x hbp s' n).elim
    · rcases h' with ⟨n', e'⟩ | ⟨T', s', k'⟩
      · exact (OR_x hbp s n').elim
      · have := OR_u hbp s s'
        subst this
        rcases k with ⟨c, k⟩ | ⟨c, k⟩
        · rcases k' with ⟨c', k'⟩ | ⟨c', k'⟩
          · exact TRl_u hbp L _ _ _ _ k k'
          · exact absurd c c'
        · rcases k' with ⟨c', k'⟩ | ⟨c', k'⟩
          · exact absurd c' c
          · exact TRl_u hbp L _ _ _ _ k k'
/-- two beginnings that are both too great -/
theorem TRl_2 {D : FD} {v : StV} {p : Int32 × Int32 × Int32 × Int32} {L : List (Int32 × Int32 × Int32 × Int32)} {lt lt' lo : Int32} {r : Option (Int32 × Int32)} (h1 : 1000 ≤ lt.toInt) (h2 : 1000 ≤ lt'.toInt) (h : TRl D v (p :: L) lt lo r) : TRl D v (p :: L) lt' lo r := by
  rcases h with n | ⟨T, s, k⟩
  · exact Or.inl n
  · have hT : T ≤ 810 := by
      obtain ⟨_, _, _, _, _, _, _, _, _, _, q⟩ := s
      exact q
    have c1 : ¬ lt ≤ nI T := by rw [fi_le, nI_toInt (by omega)]; omega
    have c2 : ¬ lt' ≤ nI T := by rw [fi_le, nI_toInt (by omega)]; omega
    rcases k with ⟨c, k⟩ | ⟨c, k⟩
    · exact absurd c c1
    · exact Or.inr ⟨T, s, Or.inr ⟨c2, k⟩⟩
theorem CV_cp {D : FD} {v : StV} {a b : Nat} {I I1 : hI} (h6 : D.1 ≤ 6) (q : CP a b I I1) (h : CV D v b I) : CV D v a I1 := fun i hi => by
  have w := q.2.1 i (by omega)
  rw [w.1, w.2, q.2.2.1]
  exact h i hi
theorem CV_3 {D : FD} {v : StV} {a : Nat} {I : hI} {x : Int32} (h : CV D v a I) : CV D v a (sf I a 3 x) := fun i hi => by
  rw [sf_c (by omega), sf_c (by omega), sf_k (by decide)]
  exact h i hi
/-- the class: x stands at 29 -/
def P29 (D : FD) (v : StV) (x : Int32) (I : hI) : Prop := ∃ v1 t1, SetV D v x.toInt64 v1 t1 ∧ CV D v1 29 I ∧ I 29 3 = nI t1
theorem toM_v {D : FD} {v : StV} {x y z o : Int32} {L : List (Int32 × Int32 × Int32 × Int32)} {K : hI → Int32 → Int32 → Option (Int32 × Int32) × hI} (h6 : D.1 ≤ 6) (okr : ∀ i, i < D.1 → okR (D.2.1 i)) (hvb : ∀ i, i < D.1 → v.1 i ≤ 9 ∧ v.2.1 i ≤ 9) (hK : ∀ I lt lo, CV D v 22 I → P29 D v x I → TRl D v L lt lo (K I lt lo).1) (I : hI) (lt lo : Int32) (h22 : CV D v 22 I) (h29 : P29 D v x I) : TRl D v ((x, y, z, o) :: L) lt lo (toM D y z o K I lt lo).1 := by
  obtain ⟨v1, t1, s1, c1, e1⟩ := h29
  have l1 := SetV_t okr hvb s1
  have q1 : CP 32 29 I (cpF I 32 29) := cpF_CP (by decide) (by decide) (by decide)
  have d1 : CV D v1 32 (cpF I 32 29) := CV_cp h6 q1 c1
  have x1 : cpF I 32 29 32 3 = nI t1 := q1.2.2.2.trans e1
  unfold toM
  rcases set_C (V := y.toInt64) (by decide) h6 okr d1 with ⟨n, e⟩ | ⟨v2, t2, s2, e, c2, x2⟩
  · have e' : (gS1 I D y).1 = -1 := e
    rw [if_pos e']
    exact Or.inl ⟨Or.inr ⟨v1, t1, s1, Or.inl n⟩, rfl⟩
  · have l2 := SetV_t okr (fun i hi => (d1 i hi).2.1) s2
    have e' : (gS1 I D y).1 = nI t2 := e
    have c2' : CV D v2 32 (gS1 I D y).2 := c2
    have x2' : (gS1 I D y).2 32 3 = nI (t1 + t2) := by
      refine x2.trans ?_
      rw [x1, nI_add, if_neg (show ¬ (1000000 : Int32) < nI (t1 + t2) from nI_nlt (b := t1 + t2) (a := 1000000) (by omega) (by omega))]
    rw [if_neg (by rw [e']; exact m1_n (by omega))]
    have q2 : CP 35 32 (gS1 I D y).2 (cpF (gS1 I D y).2 35 32) := cpF_CP (by decide) (by decide) (by decide)
    have d2 : CV D v2 35 (cpF (gS1 I D y).2 35 32) := CV_cp h6 q2 c2'
    have y1 : cpF (gS1 I D y).2 35 32 35 3 = nI (t1 + t2) := q2.2.2.2.trans x2'
    rcases set_C (V := z.toInt64) (by decide) h6 okr d2 with ⟨n, f⟩ | ⟨v3, t3, s3, f, c3, x3⟩
    · have f' : (gS2 (gS1 I D y).2 D z).1 = -1 := f
      rw [if_pos f']
      exact Or.inl ⟨Or.inr ⟨v1, t1, s1, Or.inr ⟨v2, t2, s2, n⟩⟩, rfl⟩
    · have l3 := SetV_t okr (fun i hi => (d2 i hi).2.1) s3
      have f' : (gS2 (gS1 I D y).2 D z).1 = nI t3 := f
      have x3' : (gS2 (gS1 I D y).2 D z).2 35 3 = nI (t1 + t2 + t3) := by
        refine x3.trans ?_
        rw [y1, nI_add, if_neg (show ¬ (1000000 : Int32) < nI (t1 + t2 + t3) from nI_nlt (b := t1 + t2 + t3) (a := 1000000) (by omega) (by omega))]
      rw [if_neg (by rw [f']; exact m1_n (by omega)), x3']
      have kk : ∀ c, c < 4 ∨ (17 < c ∧ c < 32) ∨ 37 < c → (gS2 (gS1 I D y).2 D z).2 c = I c := fun c hc => by
        have a1 : (gS2 (gS1 I D y).2 D z).2 c = (gS1 I D y).2 c := by
          unfold gS2
          rw [stF_c (by omega) (by omega) (by omega) (by omega)]
          exact q2.1 c (by omega) (by omega) (by omega)
        have a2 : (gS1 I D y).2 c = I c := by
          unfold gS1
          rw [stF_c (by omega) (by omega) (by omega) (by omega)]
          exact q1.1 c (by omega) (by omega) (by omega)
        exact a1.trans a2
      have hb : CV D v 22 (gS2 (gS1 I D y).2 D z).2 := CV_of h22 (kk _ (by omega)) (kk _ (by omega)) (kk _ (by omega))
      have hp : P29 D v x (gS2 (gS1 I D y).2 D z).2 := ⟨v1, t1, s1, CV_of c1 (kk _ (by omega)) (kk _ (by omega)) (kk _ (by omega)), by rw [kk 29 (by omega)]; exact e1⟩
      refine Or.inr ⟨t1 + t2 + t3, ⟨v1, t1, v2, t2, v3, t3, s1, s2, s3, rfl, by omega⟩, ?_⟩
      by_cases cc : lt ≤ nI (t1 + t2 + t3)
      · rw [if_pos cc]
        exact Or.inl ⟨cc, hK _ _ _ hb hp⟩
      · rw [if_neg cc]
        exact Or.inr ⟨cc, hK _ _ _ hb hp⟩
theorem toN_v {D : FD} {v : StV} {x y z o : Int32} {L : List (Int32 × Int32 × Int32 × Int32)} {K : hI → Int32 → Int32 → Option (Int32 × Int32) × hI} (h6 : D.1 ≤ 6) (okr : ∀ i, i < D.1 → okR (D.2.1 i)) (hvb : ∀ i, i < D.1 → v.1 i ≤ 9 ∧ v.2.1 i ≤ 9) (hK : ∀ I lt lo, CV D v 22 I → P29 D v x I → TRl D v L lt lo (K I lt lo).1) (I : hI) (lt lo : Int32) (h22 : CV D v 22 I) : TRl D v ((x, y, z, o) :: L) lt lo (toN D x y z o K I lt lo).1 := by
  have q1 : CP 29 22 I (cpF I 29 22) := cpF_CP (by decide) (by decide) (by decide)
  have d1 : CV D v 29 (sf (cpF I 29 22) 29 3 0) := CV_3 (CV_cp h6 q1 h22)
  unfold toN
  rcases set_C (V := x.toInt64) (by decide) h6 okr d1 with ⟨n, e⟩ | ⟨v1, t1, s1, e, c1, x1⟩
  · have e' : (gS0 I D x).1 = -1 := e
    rw [if_pos e']
    exact Or.inl ⟨Or.inl n, rfl⟩
  · have l1 := SetV_t okr hvb s1
    have e' : (gS0 I D x).1 = nI t1 := e
    have c1' : CV D v1 29 (gS0 I D x).2 := c1
    have x1' : (gS0 I D x).2 29 3 = nI t1 := by
      refine x1.trans ?_
      rw [sf_s, Int32.zero_add, if_neg (show ¬ (1000000 : Int32) < nI t1 from nI_nlt (b := t1) (a := 1000000) (by omega) (by omega))]
    rw [if_neg (by rw [e']; exact m1_n (by omega))]
    refine toM_v h6 okr hvb hK _ lt lo (CV_of h22 ?_ ?_ ?_) ⟨v1, t1, s1, c1', x1'⟩
    · exact gS0_c 22 (by omega)
    · exact gS0_c 23 (by omega)
    · exact gS0_c 24 (by omega)
/-- the reference: three numbers one behind another -/
theorem trS_v {D : FD} {v : StV} {y s : Int32} {I : hI} {J : hJ} {S : Nat} (hD : DMf D I) (hR : RV D v 79 (I 79 12) I) (hs : s = nI S) (hS : S ≤ 600) : ((∀ v' t, ¬ SetV D v y.toInt64 v' t) ∧ (trS D y s I J).1 < 0) ∨ ∃ v' t, SetV D v y.toInt64 v' t ∧ ¬ (trS D y s I J).1 < 0 ∧ (trS D y s I J).1 = nI (S + t) ∧ t ≤ 45 * D.1 ∧ DMf D (trS D y s I J).2.1 ∧ RV D v' 79 ((trS D y s I J).2.1 79 12) (trS D y s I J).2.1 := by
  have h6 := hD.2.1
  have okr := fun k hk => (hD.2.2.2 k hk).1
  unfold trS
  dsimp only
  rcases set_M (J := J) (V := y.toInt64) (Or.inr rfl) hD hR with ⟨n, e⟩ | ⟨v', t, s1, e, r1⟩
  · refine Or.inl ⟨n, ?_⟩
    rw [e, if_neg (show ¬ (0 : Int32) ≤ -1 by decide)]
    decide
  · have l1 := SetV_t okr (fun i hi => (hR i hi).2.1) s1
    refine Or.inr ⟨v', t, s1, ?_, ?_, l1, DMf_of hD (seF_c (by decide) (by decide) (by decide)) (seF_c (by decide) (by decide) (by decide)) (seF_c (by decide) (by decide) (by decide)) (seF_c (by decide) (by decide) (by decide)) (seF_c (by decide) (by decide) (by decide)), r1⟩
    · rw [e, if_pos (nI_pos' (by omega)), hs, nI_add]
      exact nI_pos (by omega)
    · rw [e, if_pos (nI_pos' (by omega)), hs, nI_add]
theorem tr3_v {D : FD} {v : StV} {x y z : Int32} {I : hI} {J : hJ} (hD : DMf D I) (hR : RV D v 78 (I 78 12) I) : (ORn D v x y z ∧ ¬ 0 ≤ (tr3 D x y z I J).1) ∨ ∃ T, ORs D v x y z T ∧ (tr3 D x y z I J).1 = nI T := by
  have h6 := hD.2.1
  have hD0 : DMf D (cpN I) := DMf_of hD (up_ne (by decide)) (up_ne (by decide)) (up_ne (by decide)) (up_ne (by decide)) (up_ne (by decide))
  have c6 : ∀ j, j < 14 → cpN I 79 j = I 78 j := fun j hj => by unfold cpN; rw [up_same, if_pos hj]
  have hR0 : RV D v 79 (cpN I 79 12) (cpN I) := fun i hi => by
    rw [c6 12 (by omega), c6 i (by omega), c6 (6 + i) (by omega)]
    exact hR i hi
  have neg : ∀ w : Int32, w < 0 → ¬ 0 ≤ w := fun w h z => by
    rw [fi_lt] at h
    rw [fi_le] at z
    have z0 : (0 : Int32).toInt = 0 := rfl
    omega
  unfold tr3
  rcases trS_v (y := x) (s := 0) (J := J) (S := 0) hD0 hR0 rfl (by omega) with ⟨n, e⟩ | ⟨v1, t1, s1, p1, e1, l1, D1, R1⟩
  · rw [if_pos e]
    exact Or.inl ⟨Or.inl n, neg _ e⟩
  · rw [if_neg p1]
    generalize trS D x 0 (cpN I) J = w at e1 D1 R1 ⊢
    rcases trS_v (y := y) (s := w.1) (J := w.2.2) (S := 0 + t1) D1 R1 e1 (by omega) with ⟨n, e⟩ | ⟨v2, t2, s2, p2, e2, l2, D2, R2⟩
    · rw [if_pos e]
      exact Or.inl ⟨Or.inr ⟨v1, t1, s1, Or.inl n⟩, neg _ e⟩
    · rw [if_neg p2]
      generalize trS D y w.1 w.2.1 w.2.2 = u at e2 D2 R2 ⊢
      rcases trS_v (y := z) (s := u.1) (J := u.2.2) (S := 0 + t1 + t2) D2 R2 e2 (by omega) with ⟨n, e⟩ | ⟨v3, t3, s3, p3, e3, l3, D3, R3⟩
      · exact Or.inl ⟨Or.inr ⟨v1, t1, s1, Or.inr ⟨v2, t2, s2, n⟩⟩, neg _ e⟩
      · exact Or.inr ⟨t1 + t2 + t3, ⟨v1, t1, v2, t2, v3, t3, s1, s2, s3, rfl, by omega⟩, by rw [e3]; congr 1; omega⟩
theorem trN_v {D : FD} {v : StV} {x y z o : Int32} {L : List (Int32 × Int32 × Int32 × Int32)} {K : hI → hJ → Int32 → Int32 → trT} (hK : ∀ I J lt lo, DMf D I → RV D v 78 (I 78 12) I → TRl D v L lt lo (K I J lt lo).1) (I : hI) (J : hJ) (lt lo : Int32) (hD : DMf D I) (hR : RV D v 78 (I 78 12) I) : TRl D v ((x, y, z, o) :: L) lt lo (trN D x y z o K I J lt lo).1 := by
  have k := tr3_c (D := D) (x := x) (y := y) (z := z) (I := I) (J := J)
  have hD1 : DMf D (tr3 D x y z I J).2.1 := DMf_of hD (k _ (by decide) (by decide) (by decide)) (k _ (by decide) (by decide) (by decide)) (k _ (by decide) (by decide) (by decide)) (k _ (by decide) (by decide) (by decide)) (k _ (by decide) (by decide) (by decide))
  have hR1 : RV D v 78 ((tr3 D x y z I J).2.1 78 12) (tr3 D x y z I J).2.1 := by
    rw [k 78 (by decide) (by decide) (by decide)]
    exact RV_of hR (k 78 (by decide) (by decide) (by decide))
  unfold trN
  rcases tr3_v (x := x) (y := y) (z := z) (J := J) hD hR with ⟨n, e⟩ | ⟨T, s, e⟩
  · rw [if_neg e]
    exact Or.inl ⟨n, rfl⟩
  · have hT : T ≤ 810 := by
      obtain ⟨_, _, _, _, _, _, _, _, _, _, q⟩ := s
      exact q
    rw [if_pos (by rw [e]; exact nI_pos' (by omega))]
    refine Or.inr ⟨T, s, ?_⟩
    rw [e]
    by_cases c : lt ≤ nI T
    · rw [if_pos c]
      exact Or.inl ⟨c, hK _ _ _ _ hD1 hR1⟩
    · rw [if_neg c]
      exact Or.inr ⟨c, hK _ _ _ _ hD1 hR1⟩
theorem tour_eq {D : FD} {v : StV} {I I1 : hI} {J1 : hJ} {a b c w : Int32} (hD : DMf D I1) (hC : CV D v 22 I) (hR : RV D v 78 (I1 78 12) I1) : (tourF I D a b c w).1 = (tourM I1 J1 D a b c w).1 := by
  have h6 := hD.2.1
  have okr := fun k hk => (hD.2.2.2 k hk).1
  have hbp : ∀ i, i < D.1 → 0 < bs D i := fun i hi => Nat.lt_of_lt_of_le (by decide) (okr i hi).2.1.1
  have hvb : ∀ i, i < D.1 → v.1 i ≤ 9 ∧ v.2.1 i ≤ 9 := fun i hi => (hC i hi).2.1
  have C6 : ∀ I lt lo, CV D v 22 I → P29 D v c I → TRl D v [] lt lo (to6 D a b c I lt lo).1 := fun I lt lo _ _ => rfl
  have C5 : ∀ I lt lo, CV D v 22 I → P29 D v c I → TRl D v [(c, b, a, 5)] lt lo (to5 D a b c I lt lo).1 := fun I lt lo p q => toM_v h6 okr hvb C6 I lt lo p q
  have C4 : ∀ I lt lo, CV D v 22 I → P29 D v b I → TRl D v [(c, a, b, 4), (c, b, a, 5)] lt lo (to4 D a b c I lt lo).1 := fun I lt lo p _ => toN_v h6 okr hvb C5 I lt lo p
  have C3 : ∀ I lt lo, CV D v 22 I → P29 D v b I → TRl D v [(b, c, a, 3), (c, a, b, 4), (c, b, a, 5)] lt lo (to3 D a b c I lt lo).1 := fun I lt lo p q => toM_v h6 okr hvb C4 I lt lo p q
  have C2 : ∀ I lt lo, CV D v 22 I → P29 D v a I → TRl D v [(b, a, c, 2), (b, c, a, 3), (c, a, b, 4), (c, b, a, 5)] lt lo (to2 D a b c I lt lo).1 := fun I lt lo p _ => toN_v h6 okr hvb C3 I lt lo p
  have C1 : ∀ I lt lo, CV D v 22 I → P29 D v a I → TRl D v [(a, c, b, 1), (b, a, c, 2), (b, c, a, 3), (c, a, b, 4), (c, b, a, 5)] lt lo (to1 D a b c I lt lo).1 := fun I lt lo p q => toM_v h6 okr hvb C2 I lt lo p q
  have C0 := toN_v (x := a) (y := b) (z := c) (o := 0) h6 okr hvb C1 I 1048576 (-1) hC
  have T6 : ∀ I J lt lo, DMf D I → RV D v 78 (I 78 12) I → TRl D v [] lt lo (tm6 D a b c I J lt lo).1 := fun I J lt lo _ _ => rfl
  have T5 : ∀ I J lt lo, DMf D I → RV D v 78 (I 78 12) I → TRl D v [(c, b, a, 5)] lt lo (tm5 D a b c I J lt lo).1 := fun I J lt lo p q => trN_v T6 I J lt lo p q
  have T4 : ∀ I J lt lo, DMf D I → RV D v 78 (I 78 12) I → TRl D v [(c, a, b, 4), (c, b, a, 5)] lt lo (tm4 D a b c I J lt lo).1 := fun I J lt lo p q => trN_v T5 I J lt lo p q
  have T3 : ∀ I J lt lo, DMf D I → RV D v 78 (I 78 12) I → TRl D v [(b, c, a, 3), (c, a, b, 4), (c, b, a, 5)] lt lo (tm3 D a b c I J lt lo).1 := fun I J lt lo p q => trN_v T4 I J lt lo p q
  have T2 : ∀ I J lt lo, DMf D I → RV D v 78 (I 78 12) I → TRl D v [(b, a, c, 2), (b, c, a, 3), (c, a, b, 4), (c, b, a, 5)] lt lo (tm2 D a b c I J lt lo).1 := fun I J lt lo p q => trN_v T3 I J lt lo p q
  have T1 : ∀ I J lt lo, DMf D I → RV D v 78 (I 78 12) I → TRl D v [(a, c, b, 1), (b, a, c, 2), (b, c, a, 3), (c, a, b, 4), (c, b, a, 5)] lt lo (tm1 D a b c I J lt lo).1 := fun I J lt lo p q => trN_v T2 I J lt lo p q
  have T0 := trN_v (x := a) (y := b) (z := c) (o := 0) T1 I1 J1 1000000000 (-1) hD hR
  have e0 : (to0 D a b c I 1048576 (-1)).1 = (tm0 D a b c I1 J1 1000000000 (-1)).1 := TRl_u hbp _ _ _ _ _ (TRl_2 (lt := 1048576) (lt' := 1000000000) (by decide) (by decide) C0) T0
  have z0 : (0 : Int32).toInt = 0 := rfl
  have z1 : (1 : Int32).toInt = 1 := rfl
  unfold tourF tourM
  by_cases c1 : M_mil a
  · rw [if_pos c1, if_pos c1]
    by_cases c2 : M_mil b
    · rw [if_pos c2, if_pos c2]
      by_cases c3 : M_mil c
      · rw [if_pos c3, if_pos c3]
        by_cases c4 : 0 ≤ w.toInt ∧ w.toInt ≤ 1
        · rw [if_neg (show ¬ w < 0 by rw [fi_lt]; omega), if_pos (show w ≤ 1 by rw [fi_le]; omega), if_pos c4]
          exact congrArg some e0
        · by_cases c5 : w < 0
          · rw [if_pos c5, if_neg c4]
          · rw [if_neg c5, if_neg (show ¬ w ≤ 1 by rw [fi_le]; rw [fi_lt] at c5; omega), if_neg c4]
      · rw [if_neg c3, if_neg c3]
    · rw [if_neg c2, if_neg c2]
  · rw [if_neg c1, if_neg c1]
variable {sc : Nat × (Nat → Int32)} {d1 d2 : Nat} {I : hI} {J : hJ} {R : hR} {T : am_H}
theorem p_tourV {a b e w : Int32} (h : LI I R T) : Ze sc (d1 + 14) 112 [.ref 0, .int a, .int b, .int e, .int w] (HH I J R T) (PI True sc (d2 + 8) 220 [.ref 73, .int a, .int b, .int e, .int w] T) := by
  obtain ⟨tx, c, D, m, sn, s, hC, hM, hW, hS⟩ := h
  have t := tourF_t (I := I) (a := a) (b := b) (e := e) (w := w) (DC_ok hC.1.2.1)
  have k1 : kQ I (tourF I D a b e w).2 := fun x hx => gK_q t.1 x (by omega)
  have hM1 := MX_Q hM k1
  have k2 : kR (tourF I D a b e w).2 (tourM (tourF I D a b e w).2 J D a b e w).2.1 := fun x h6 h9 h10 => tourM_t x h9 h10 h6
  refine pq_i hC hM hW hS (cs_tour hC.1) (c_tour hC.1.2.2.2.2.2.2.2.1 hC.1.2.1 hC.1.2.2.2.1.1) k1 (fun z => ms_tour z) (m_tour hM1.1.2.1) k2 (fun _ => ?_)
  rw [tour_eq (J1 := J) hM1.1.2.1 (CV_s hC hW) (RV_s hM1 hW)]
  generalize (tourM (tourF I D a b e w).2 J D a b e w).1 = z
  rcases z with _ | _ | p
  · rfl
  · rfl
  · rfl
end TOU

