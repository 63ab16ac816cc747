/-! The reference's readsExpr with its values: they are the class's. -/
section EXV
def LBd (v : Int64) : Prop := -1000000000000 ≤ v.toInt ∧ v.toInt ≤ 1000000000000
theorem LBd_in {v : Int64} : ¬ (BB < v ∨ v < -BB) ↔ LBd v := by
  have z1 : (-BB).toInt = -1000000000000 := rfl
  have z2 : BB.toInt = 1000000000000 := rfl
  unfold LBd
  rw [fi_ltL, fi_ltL]
  omega
theorem bd_v {x : Int64} : (bd x 1 = (0, 0) ∧ mbo x 0 = (0, 1)) ∨ (LBd x ∧ bd x 1 = (x, 1) ∧ mbo x 0 = (x, 0)) := by
  unfold bd mbo
  by_cases c : BB < x ∨ x < -BB
  · exact Or.inl ⟨if_pos c, if_pos (Or.inr c)⟩
  · exact Or.inr ⟨LBd_in.mp c, if_neg c, if_neg (fun z => z.elim (by decide) c)⟩
theorem tl_neg {x : Int64} (h : -9223372036854775808 < x.toInt) : (-x).toInt = -x.toInt := by
  have := tl_hi x
  rw [Int64.toInt_neg, bm64 (by omega) (by omega)]
theorem absL_v {x : Int64} (h : LBd x) : (absL x).toInt = (x.toInt.natAbs : Int) := by
  have z0 : (0 : Int64).toInt = 0 := rfl
  have h1 := h.1
  unfold absL
  by_cases c : 0 < x
  · rw [if_pos c]
    rw [fi_ltL, z0] at c
    omega
  · rw [if_neg c]
    rw [fi_ltL, z0] at c
    rw [tl_neg (by omega)]
    omega
theorem msz_v {x : Int64} (h : LBd x) : (msz x).toInt = (x.toInt.natAbs : Int) := by
  have z0 : (0 : Int64).toInt = 0 := rfl
  have h1 := h.1
  unfold msz
  by_cases c : x < 0
  · rw [if_pos c]
    rw [fi_ltL, z0] at c
    rw [tl_neg (by omega)]
    omega
  · rw [if_neg c]
    rw [fi_ltL, z0] at c
    omega
theorem dvq {x y : Int64} {X Y : Nat} (hx : x.toInt = (X : Int)) (hy : y.toInt = (Y : Int)) (h0 : 0 < X) : BB / x < y ↔ 1000000000000 < X * Y := by
  have hne : x ≠ -1 := fun z => by
    have : x.toInt = -1 := by rw [z]; rfl
    omega
  have e : (BB / x).toInt = (1000000000000 : Int) / (X : Int) := by
    rw [Int64.toInt_div_of_ne_right BB x hne, hx]
    exact Int.tdiv_eq_ediv_of_nonneg (by decide)
  rw [fi_ltL, e, hy, Int.ediv_lt_iff_lt_mul (by omega), Int.mul_comm]
  constructor
  · intro h
    have : ((1000000000000 : Nat) : Int) < ((X * Y : Nat) : Int) := by rw [Int.natCast_mul]; exact h
    exact Int.ofNat_lt.mp this
  · intro h
    have : ((1000000000000 : Nat) : Int) < ((X * Y : Nat) : Int) := Int.ofNat_lt.mpr h
    rw [Int.natCast_mul] at this
    exact this
theorem n0_L {b : Int64} (z : ¬ b = 0) : 0 < b.toInt.natAbs := by
  have : b.toInt ≠ 0 := fun w => z (by rw [fi_eqL]; exact w)
  omega
theorem mul_v {a b : Int64} (ha : LBd a) (hb : LBd b) : (mbo (mpr a b 0).1 (mpr a b 0).2 = (0, 1) ∧ mu a b 1 = (0, 0)) ∨ (mbo (mpr a b 0).1 (mpr a b 0).2 = (a * b, 0) ∧ mu a b 1 = (a * b, 1) ∧ LBd (a * b)) := by
  have hz : (a.toInt * b.toInt).natAbs = a.toInt.natAbs * b.toInt.natAbs := Int.natAbs_mul _ _
  have c1 : (b ≠ 0 ∧ BB / absL b < absL a) ↔ 1000000000000 < a.toInt.natAbs * b.toInt.natAbs := by
    by_cases z : b = 0
    · refine ⟨fun w => absurd z w.1, fun w => ?_⟩
      rw [z, show (0 : Int64).toInt.natAbs = 0 from rfl, Nat.mul_zero] at w
      exact absurd w (by decide)
    · have := dvq (absL_v hb) (absL_v ha) (n0_L z)
      rw [Nat.mul_comm]
      exact ⟨fun w => this.mp w.2, fun w => ⟨z, this.mpr w⟩⟩
  have c2 : (a ≠ 0 ∧ BB / msz a < msz b) ↔ 1000000000000 < a.toInt.natAbs * b.toInt.natAbs := by
    by_cases z : a = 0
    · refine ⟨fun w => absurd z w.1, fun w => ?_⟩
      rw [z, show (0 : Int64).toInt.natAbs = 0 from rfl, Nat.zero_mul] at w
      exact absurd w (by decide)
    · have := dvq (msz_v ha) (msz_v hb) (n0_L z)
      exact ⟨fun w => this.mp w.2, fun w => ⟨z, this.mpr w⟩⟩
  by_cases c : 1000000000000 < a.toInt.natAbs * b.toInt.natAbs
  · have e : mpr a b 0 = (0, 1) := if_pos (c2.mpr c)
    rw [e]
    exact Or.inl ⟨if_pos (Or.inl rfl), if_pos (c1.mpr c)⟩
  · have e : mpr a b 0 = (a * b, 0) := if_neg (fun w => c (c2.mp w))
    have hL : LBd (a * b) := by
      rw [← hz] at c
      unfold LBd
      have hm : (a * b).toInt = a.toInt * b.toInt := by
        generalize hw : a.toInt * b.toInt = w at c
        rw [← hw]
        exact tl_mul (by rw [hw]; omega) (by rw [hw]; omega)
      rw [hm]
      generalize a.toInt * b.toInt = w at c
      omega
    rw [e]
    exact Or.inr ⟨if_neg (fun w => w.elim (show ¬ (0 : Int32) = 1 by decide) (LBd_in.mpr hL)), if_neg (fun w => c (c1.mp w)), hL⟩
theorem div_v {a b : Int64} (ha : LBd a) : LBd (a / b) := by
  have h1 : (a.toInt.tdiv b.toInt).natAbs ≤ a.toInt.natAbs := by
    rw [Int.natAbs_tdiv]
    exact Nat.div_le_self _ _
  have h2 := ha.1
  have h3 := ha.2
  unfold LBd
  rw [Int64.toInt_div, bm64 (by omega) (by omega)]
  omega
theorem mpt_1 (sg : Int32) (tm v : Int64) : mpt 1 1 sg tm v = (v, 1) := if_pos (Or.inr rfl)
theorem mpt_0 (tm v : Int64) : mpt 1 0 0 tm v = (v, 0) := by
  unfold mpt
  rw [if_neg (by decide), if_neg (by decide), if_neg (by decide)]
theorem mpt_42 (tm v : Int64) : mpt 1 0 42 tm v = mbo (mpr tm v 0).1 (mpr tm v 0).2 := by
  unfold mpt
  rw [if_neg (by decide), if_pos rfl]
theorem mpt_47 (tm v : Int64) : mpt 1 0 47 tm v = if v = 0 then (0, 1) else (tm / v, 0) := by
  unfold mpt
  rw [if_neg (by decide), if_neg (by decide), if_pos rfl]
theorem mu_0 {a b : Int64} : (mu a b 0).2 = 0 := by unfold mu; split <;> rfl
theorem dv_0 {a b : Int64} : (dv a b 0).2 = 0 := by unfold dv; split <;> rfl
theorem bd_0 {x : Int64} : (bd x 0).2 = 0 := by unfold bd; split <;> rfl
/-- impossible stays impossible -/
theorem sx_0 {tx : Nat → Nat} {c : Nat} {num : Int64} : ∀ (k m s dd : Nat) (a : Int64 × Int32 × Int64) (q : Nat × Int64 × Int32), sx tx c num k m s dd a 0 = .inr q → q.2.2 = 0
  | 0, m, s, dd, a, q, h => by cases h
  | k + 1, 0, s, dd, a, q, h => by
    unfold sx at h
    split at h
    · cases h; rfl
    · split at h
      · split at h
        · cases h
        · split at h
          · cases h
          · rename_i s2 v f2 h0
            split at h
            · have e : f2 = 0 := sx_0 k 1 _ _ _ (s2, v, f2) h0
              cases h
              exact e
            · cases h
      · split at h
        · cases h; rfl
        · cases h
  | k + 1, 1, s, dd, a, q, h => by
    unfold sx at h
    split at h
    · cases h
    · rename_i s2 v f2 h0
      have e : f2 = 0 := sx_0 k 0 _ _ _ _ h0
      subst e
      exact sx_0 k 2 _ _ _ _ h
  | k + 1, m + 2, s, dd, a, q, h => by
    unfold sx at h
    split at h
    · split at h
      · cases h
      · rename_i s2 v f2 h0
        have e : f2 = 0 := sx_0 k 0 _ _ _ _ h0
        subst e
        rw [mu_0] at h
        exact sx_0 k 2 _ _ _ _ h
    · split at h
      · split at h
        · cases h
        · rename_i s2 v f2 h0
          have e : f2 = 0 := sx_0 k 0 _ _ _ _ h0
          subst e
          rw [dv_0] at h
          exact sx_0 k 2 _ _ _ _ h
      · split at h
        · split at h
          · cases h
          · rename_i s2 v f2 h0
            rw [bd_0] at h0
            have e : f2 = 0 := sx_0 k 0 _ _ _ _ h0
            subst e
            exact sx_0 k 2 _ _ _ _ h
        · cases h
          exact bd_0
/-- a value of the reference and the class's: both impossible, or the same -/
def VT2 (t f : Int32) (w v : Int64) : Prop := (t = 1 ∧ f = 0) ∨ (t = 0 ∧ f = 1 ∧ w = v ∧ LBd v)
def VT (t f : Int32) : Prop := (t = 1 ∧ f = 0) ∨ (t = 0 ∧ f = 1)
/-- what stands at depth dd: sum, sign, term -/
def VS (a : Int64 × Int32 × Int64) (f : Int32) (I : hI) (J : hJ) (dd : Nat) : Prop := (I 73 28 = 1 ∧ f = 0) ∨ (I 73 28 = 0 ∧ f = 1 ∧ J 89 dd = a.1 ∧ I 91 dd = (if a.2.1 = 0 then 43 else 45) ∧ J 90 dd = a.2.2 ∧ LBd a.1 ∧ LBd a.2.2)
theorem VS_t {a : Int64 × Int32 × Int64} {f : Int32} {I : hI} {J : hJ} {dd : Nat} (h : VS a f I J dd) : VT (I 73 28) f := h.elim (fun z => Or.inl z) (fun z => Or.inr ⟨z.1, z.2.1⟩)
/-- a term is closed -/
theorem cl_v {a : Int64 × Int32 × Int64} {f : Int32} {I : hI} {J : hJ} {dd : Nat} (h : VS a f I J dd) : VT2 (mcl 1 (I 73 28) (I 91 dd) (J 89 dd) (J 90 dd)).2 (bd (sm a.2.1 a.1 a.2.2) f).2 (mcl 1 (I 73 28) (I 91 dd) (J 89 dd) (J 90 dd)).1 (bd (sm a.2.1 a.1 a.2.2) f).1 := by
  rcases h with ⟨e1, e2⟩ | ⟨e1, e2, e3, e4, e5, b1, b2⟩
  · rw [e1, e2]
    refine Or.inl ⟨?_, bd_0⟩
    have e : mcl 1 1 (I 91 dd) (J 89 dd) (J 90 dd) = (J 89 dd, 1) := if_pos (Or.inr rfl)
    rw [e]
  · rw [e1, e2, e3, e4, e5]
    have em : mcl 1 0 (if a.2.1 = 0 then 43 else 45) a.1 a.2.2 = mbo (sm a.2.1 a.1 a.2.2) 0 := by
      unfold mcl sm
      rw [if_neg (by decide)]
      by_cases c : a.2.1 = 0
      · rw [if_pos c, if_pos rfl, if_pos c]
      · rw [if_neg c, if_neg (by decide), if_neg c]
    rw [em]
    rcases bd_v (x := sm a.2.1 a.1 a.2.2) with ⟨z1, z2⟩ | ⟨z0, z1, z2⟩
    · rw [z1, z2]; exact Or.inl ⟨rfl, rfl⟩
    · rw [z1, z2]; exact Or.inr ⟨rfl, rfl, rfl, z0⟩
/-- depths below dd are as they were -/
def UDp (dd : Nat) (I : hI) (J : hJ) (I' : hI) (J' : hJ) : Prop := ∀ k, k < dd → J' 89 k = J 89 k ∧ J' 90 k = J 90 k ∧ I' 91 k = I 91 k ∧ I' 92 k = I 92 k
theorem UD_0 (dd : Nat) (I : hI) (J : hJ) : UDp dd I J I J := fun _ _ => ⟨rfl, rfl, rfl, rfl⟩
theorem UD_t {dd : Nat} {I I1 I2 : hI} {J J1 J2 : hJ} (h : UDp dd I J I1 J1) (g : UDp dd I1 J1 I2 J2) : UDp dd I J I2 J2 := fun k hk => ⟨(g k hk).1.trans (h k hk).1, (g k hk).2.1.trans (h k hk).2.1, (g k hk).2.2.1.trans (h k hk).2.2.1, (g k hk).2.2.2.trans (h k hk).2.2.2⟩
theorem UD_w {dd dd' : Nat} {I I1 : hI} {J J1 : hJ} (h : UDp dd' I J I1 J1) (hd : dd ≤ dd') : UDp dd I J I1 J1 := fun k hk => h k (by omega)
theorem UD_R {dd : Nat} {I I1 : hI} {J J1 : hJ} (u : UR I J I1 J1) : UDp dd I J I1 J1 := fun k _ => ⟨congrFun (u.2.2.1 89 (by decide)) k, congrFun (u.2.2.1 90 (by decide)) k, congrFun (u.1 91 (by decide)) k, congrFun (u.1 92 (by decide)) k⟩
theorem UD_28 {dd : Nat} {t : Int32} {I I1 : hI} {J : hJ} (u : U28 t I I1) : UDp dd I J I1 J := fun k _ => ⟨rfl, rfl, congrFun (u.1 91 (by decide)) k, congrFun (u.1 92 (by decide)) k⟩
theorem UD_i {dd a k : Nat} {v : Int32} {I : hI} {J : hJ} (hk : dd ≤ k) : UDp dd I J (sf I a k v) J := fun j hj => by
  refine ⟨rfl, rfl, ?_, ?_⟩
  · by_cases e : 91 = a
    · subst e; exact sf_k (by omega)
    · rw [sf_c e]
  · by_cases e : 92 = a
    · subst e; exact sf_k (by omega)
    · rw [sf_c e]
theorem UD_f {dd k : Nat} {v : Int32} {I : hI} {J : hJ} : UDp dd I J (sf I 73 k v) J := fun j _ => ⟨rfl, rfl, congrFun (sf_c (by decide)) j, congrFun (sf_c (by decide)) j⟩
theorem UD_l {dd a k : Nat} {v : Int64} {I : hI} {J : hJ} (hk : dd ≤ k) : UDp dd I J I (sl J a k v) := fun j hj => by
  refine ⟨?_, ?_, rfl, rfl⟩
  · by_cases e : 89 = a
    · subst e; exact sl_k (by omega)
    · rw [sl_c e]
  · by_cases e : 90 = a
    · subst e; exact sl_k (by omega)
    · rw [sl_c e]
theorem UD_16 {dd : Nat} {I : hI} {J J' : hJ} (h : ∀ a, a ≠ 89 → J' a = J a) (h2 : ∀ k, k ≠ dd → J' 89 k = J 89 k) : UDp dd I J I J' := fun j hj => ⟨h2 j (by omega), congrFun (h 90 (by decide)) j, rfl, rfl⟩
theorem M_nl_c {I I' : hI} {o : Nat} (e0 : I' o = I o) (e1 : I' 74 = I 74) (e2 : I' 75 = I 75) (e3 : I' 76 = I 76) : ∀ r s, M_nl I' o r s = M_nl I o r s
  | 0, s => rfl
  | r + 1, s => by
    unfold M_nl M_sh M_wo M_wb
    rw [e0, e1, e2, e3]
    exact M_nl_c e0 e1 e2 e3 r _
variable {sc : Nat × (Nat → Int32)} {d : Nat} {R : hR} {T : am_H} {Q : Option Value → am_H → Prop} {tx : Nat → Nat} {c : Nat} {num : Int64}
/-- behind an operand at depth dd -/
def K0 (sc : Nat × (Nat → Int32)) (d : Nat) (tx : Nat → Nat) (c o : Nat) (I0 : hI) (J0 : hJ) (R : hR) (T : am_H) (Q : Option Value → am_H → Prop) (dd : Nat) (I : hI) (J : hJ) (s2 : Nat) (v : Int64) (f2 : Int32) : Prop := ∀ (I' : hI) (J' : hJ) (w : Int64) (t2 : Int32), UE I0 J0 I' J' → XD dd I' → TK tx c s2 I' J' → UDp dd I J I' J' → J' 89 dd = J 89 dd → I' 91 dd = I 91 dd → VT2 t2 f2 w v → J' 90 dd = (mpt 1 t2 (I 92 dd) (J 90 dd) w).1 → I' 73 28 = (mpt 1 t2 (I 92 dd) (J 90 dd) w).2 → Zs sc d (am_P 194).2 (101, [(0, .ref 73), (1, .ref o)], []) (HH I' J' R T) Q
def V0 (sc : Nat × (Nat → Int32)) (d : Nat) (tx : Nat → Nat) (c o : Nat) (num : Int64) (I0 : hI) (J0 : hJ) (R : hR) (T : am_H) (Q : Option Value → am_H → Prop) (k : Nat) : Prop := ∀ (s dd i : Nat) (I : hI) (J : hJ) (fl : Int32) (s2 : Nat) (v : Int64) (f2 : Int32), 3 * (c - s) + 1 < k → i ≤ c → tS tx c i = s → UE I0 J0 I J → XD dd I → I 73 14 = nI i → VT (I 73 28) fl → sx tx c num k 0 s dd (0, 0, 0) fl = .inr (s2, v, f2) → K0 sc d tx c o I0 J0 R T Q dd I J s2 v f2 → Zs sc d (am_P 194).2 (9, [(0, .ref 73), (1, .ref o)], []) (HH I J R T) Q
def V2 (sc : Nat × (Nat → Int32)) (d : Nat) (tx : Nat → Nat) (c o : Nat) (num : Int64) (I0 : hI) (J0 : hJ) (R : hR) (T : am_H) (Q : Option Value → am_H → Prop) (k : Nat) : Prop := ∀ (s dd : Nat) (I : hI) (J : hJ) (a : Int64 × Int32 × Int64) (fl : Int32) (s2 : Nat) (v : Int64) (f2 : Int32), 3 * (c - s) + 1 < k → UE I0 J0 I J → XD dd I → TK tx c s I J → VS a fl I J dd → sx tx c num k 2 s dd a fl = .inr (s2, v, f2) → (∀ (I' : hI) (J' : hJ) (a' : Int64 × Int32 × Int64) (fl' : Int32), UE I0 J0 I' J' → XD dd I' → TK tx c s2 I' J' → ¬ opr tx c s2 → UDp dd I J I' J' → VS a' fl' I' J' dd → bd (sm a'.2.1 a'.1 a'.2.2) fl' = (v, f2) → Zs sc d (am_P 194).2 (101, [(0, .ref 73), (1, .ref o)], []) (HH I' J' R T) Q) → Zs sc d (am_P 194).2 (101, [(0, .ref 73), (1, .ref o)], []) (HH I J R T) Q
theorem n10 : ¬ (1 : Int32) = 0 := by decide
theorem v2_step {o k : Nat} {I0 : hI} {J0 : hJ} (hM0 : MT tx c I0) (h27 : I0 73 27 = 1) (x0 : V0 sc (d + 4) tx c o num I0 J0 R T Q k) (x2 : V2 sc (d + 4) tx c o num I0 J0 R T Q k) : V2 sc (d + 4) tx c o num I0 J0 R T Q (k + 1) := by
  intro s dd I J a fl s2 v f2 hk hU hX hT hV hx hE
  obtain ⟨hs, h15, h14, hK⟩ := id hT
  have h255 := hM0.2.2.2
  have k41 := RD_c (t := 41) h255 hK (by omega) (by omega) (by omega)
  have k42 := RD_c (t := 42) h255 hK (by omega) (by omega) (by omega)
  have k43 := RD_c (t := 43) h255 hK (by omega) (by omega) (by omega)
  have k45 := RD_c (t := 45) h255 hK (by omega) (by omega) (by omega)
  have k47 := RD_c (t := 47) h255 hK (by omega) (by omega) (by omega)
  have hd := hX.1
  have hd6 := hX.2.1
  have hi27 : I 73 27 = 1 := (hU.2.1 27 (by decide) (by decide) (by decide) (by decide) (by decide) (by decide) (by decide)).trans h27
  simp only [sx] at hx
  by_cases hop : opr tx c s
  · have hn := nx_lt (tx := tx) hop.1
    have hE' := tE_c (tx := tx) hs
    have n41 : ¬ I 73 16 = 41 := fun z => by have := (k41.mp z).2; have := hop.2; omega
    by_cases h42 : tx s = 42
    · rw [if_pos (show s < c ∧ tx s = 42 from ⟨hop.1, h42⟩)] at hx
      rcases hm : sx tx c num k 0 (nx tx c s) dd (0, 0, 0) fl with p | ⟨s3, v3, f3⟩
      · rw [hm] at hx; cases hx
      · rw [hm] at hx
        dsimp only at hx
        have hadv := (sx_adv (tx := tx) (c := c) (num := num) k 0 (nx tx c s) dd (0, 0, 0) fl hn.2).2 _ hm
        have h3 := hadv.2.2 (by omega)
        have hop16 : sf I 92 dd (I 73 16) 92 dd = 42 := (sf_s _ _ _ _).trans (k42.mpr ⟨hop.1, h42⟩)
        refine Z_jump 4 rfl ?_
        refine Z_bn (fun c107 => ?_) (fun c107 => absurd c107 (n41))
        refine Z_jump 4 rfl ?_
        refine Z_bd (fun c159 => ?_) (fun c159 => absurd ((k42.mpr ⟨hop.1, h42⟩)) c159)
        refine Z_jump 6 rfl ?_
        show Zs _ _ (am_P 194).2 (183, [(0, .ref 73), (1, .ref o)], [.int (I 73 16), .int (I 73 29), .ref 92]) (HH I J R T) _
        refine Z_iasK (dd) rfl rfl (hd) (by omega) (by decide) ?_
        show Zs _ _ (am_P 194).2 (184, [(0, .ref 73), (1, .ref o)], []) (HH (sf I 92 dd (I 73 16)) J R T) _
        refine Z_jump 1 rfl ?_
        show Zs _ _ (am_P 194).2 (9, [(0, .ref 73), (1, .ref o)], []) (HH (sf I 92 dd (I 73 16)) J R T) _
        refine x0 (nx tx c s) dd (tE tx c s) _ J fl s3 v3 f3 (by omega) hE'.2 rfl (UE_t hU (UE_a (by omega))) ⟨hd, hd6, hX.2.2⟩ h14 (VS_t hV) hm (fun I2 J2 w t2 u2 d2 t2' ud e16 e18 hv2 e17 e28 => ?_)
        rw [hop16] at e17 e28
        refine x2 s3 dd I2 J2 _ _ s2 v f2 (by have := hadv.1; dsimp only at h3 this; omega) u2 d2 t2' ?_ hx (fun I3 J3 a' fl' u3 d3 t3 hno ud3 hv3 he3 => hE I3 J3 a' fl' u3 d3 t3 hno (UD_t (UD_i (Nat.le_refl dd)) (UD_t ud ud3)) hv3 he3)
        rcases hv2 with ⟨rfl, rfl⟩ | ⟨rfl, rfl, rfl, lb⟩
        · rw [mpt_1] at e28
          exact Or.inl ⟨e28, mu_0⟩
        · rcases hV with ⟨g28, rfl⟩ | ⟨g28, gf, g16, g18, g17, la, lt⟩
          · exact absurd (sx_0 k 0 _ _ _ _ hm) n10
          · rw [mpt_42, g17] at e17 e28
            rcases mul_v lt lb with ⟨z1, z2⟩ | ⟨z1, z2, z3⟩
            · rw [z1] at e28
              rw [z2]
              exact Or.inl ⟨e28, rfl⟩
            · rw [z1] at e17 e28
              rw [z2]
              exact Or.inr ⟨e28, rfl, e16.trans g16, e18.trans g18, e17, la, z3⟩
    · rw [if_neg (fun z : s < c ∧ tx s = 42 => h42 z.2)] at hx
      by_cases h47 : tx s = 47
      · rw [if_pos (show s < c ∧ tx s = 47 from ⟨hop.1, h47⟩)] at hx
        rcases hm : sx tx c num k 0 (nx tx c s) dd (0, 0, 0) fl with p | ⟨s3, v3, f3⟩
        · rw [hm] at hx; cases hx
        · rw [hm] at hx
          dsimp only at hx
          have hadv := (sx_adv (tx := tx) (c := c) (num := num) k 0 (nx tx c s) dd (0, 0, 0) fl hn.2).2 _ hm
          have h3 := hadv.2.2 (by omega)
          have hop16 : sf I 92 dd (I 73 16) 92 dd = 47 := (sf_s _ _ _ _).trans (k47.mpr ⟨hop.1, h47⟩)
          refine Z_jump 4 rfl ?_
          refine Z_bn (fun c107 => ?_) (fun c107 => absurd c107 (n41))
          refine Z_jump 4 rfl ?_
          refine Z_bd (fun c159 => absurd c159 ((fun z => h42 (k42.mp z).2))) (fun c159 => ?_)
          refine Z_jump 4 rfl ?_
          refine Z_bn (fun c168 => absurd ((k47.mpr ⟨hop.1, h47⟩)) c168) (fun c168 => ?_)
          refine Z_jump 6 rfl ?_
          show Zs _ _ (am_P 194).2 (183, [(0, .ref 73), (1, .ref o)], [.int (I 73 16), .int (I 73 29), .ref 92]) (HH I J R T) _
          refine Z_iasK (dd) rfl rfl (hd) (by omega) (by decide) ?_
          show Zs _ _ (am_P 194).2 (184, [(0, .ref 73), (1, .ref o)], []) (HH (sf I 92 dd (I 73 16)) J R T) _
          refine Z_jump 1 rfl ?_
          show Zs _ _ (am_P 194).2 (9, [(0, .ref 73), (1, .ref o)], []) (HH (sf I 92 dd (I 73 16)) J R T) _
          refine x0 (nx tx c s) dd (tE tx c s) _ J fl s3 v3 f3 (by omega) hE'.2 rfl (UE_t hU (UE_a (by omega))) ⟨hd, hd6, hX.2.2⟩ h14 (VS_t hV) hm (fun I2 J2 w t2 u2 d2 t2' ud e16 e18 hv2 e17 e28 => ?_)
          rw [hop16] at e17 e28
          refine x2 s3 dd I2 J2 _ _ s2 v f2 (by have := hadv.1; dsimp only at h3 this; omega) u2 d2 t2' ?_ hx (fun I3 J3 a' fl' u3 d3 t3 hno ud3 hv3 he3 => hE I3 J3 a' fl' u3 d3 t3 hno (UD_t (UD_i (Nat.le_refl dd)) (UD_t ud ud3)) hv3 he3)
          rcases hv2 with ⟨rfl, rfl⟩ | ⟨rfl, rfl, rfl, lb⟩
          · rw [mpt_1] at e28
            exact Or.inl ⟨e28, dv_0⟩
          · rcases hV with ⟨g28, rfl⟩ | ⟨g28, gf, g16, g18, g17, la, lt⟩
            · exact absurd (sx_0 k 0 _ _ _ _ hm) n10
            · rw [mpt_47, g17] at e17 e28
              by_cases z : w = 0
              · rw [if_pos z] at e28
                rw [show dv a.2.2 w 1 = (0, 0) from if_pos z]
                exact Or.inl ⟨e28, rfl⟩
              · rw [if_neg z] at e17 e28
                rw [show dv a.2.2 w 1 = (a.2.2 / w, 1) from if_neg z]
                exact Or.inr ⟨e28, rfl, e16.trans g16, e18.trans g18, e17, la, div_v lt⟩
      · rw [if_neg (fun z : s < c ∧ tx s = 47 => h47 z.2)] at hx
        have h4 : tx s = 43 ∨ tx s = 45 := by have := hop.2; omega
        rw [if_pos (show s < c ∧ (tx s = 43 ∨ tx s = 45) from ⟨hop.1, h4⟩)] at hx
        rcases hm : sx tx c num k 0 (nx tx c s) dd (0, 0, 0) (bd (sm a.2.1 a.1 a.2.2) fl).2 with p | ⟨s3, v3, f3⟩
        · rw [hm] at hx; cases hx
        · rw [hm] at hx
          dsimp only at hx
          have hadv := (sx_adv (tx := tx) (c := c) (num := num) k 0 (nx tx c s) dd (0, 0, 0) (bd (sm a.2.1 a.1 a.2.2) fl).2 hn.2).2 _ hm
          have h3 := hadv.2.2 (by omega)
          have hcl := cl_v hV
          have go : ∀ (I1 : hI) (J1 : hJ), I1 73 29 = nI dd → TB I1 → (∀ b, b ≠ 89 → J1 b = J b) → (∀ j, j ≠ dd → J1 89 j = J 89 j) → J1 89 dd = (mcl (I 73 27) (I 73 28) (I 91 dd) (J 89 dd) (J 90 dd)).1 → U28 (mcl (I 73 27) (I 73 28) (I 91 dd) (J 89 dd) (J 90 dd)).2 I I1 → Zs sc (d + 4) (am_P 194).2 (9, [(0, .ref 73), (1, .ref o)], []) (HH (sf (sf I1 91 dd (I1 73 16)) 92 dd (0 : Int32)) J1 R T) Q := fun I1 J1 hd1 ht1 a1 a2 a3 u1 => by
            rw [hi27] at a3 u1
            have e16 : I1 73 16 = I 73 16 := u1.2.1 16 (by decide)
            have sg : (I 73 16 : Int32) = (if (if tx s = 45 then (1 : Int32) else 0) = 0 then 43 else 45) := by
              by_cases z : tx s = 45
              · rw [if_pos z, if_neg n10]; exact k45.mpr ⟨hop.1, z⟩
              · rw [if_neg z, if_pos rfl]; exact k43.mpr ⟨hop.1, by omega⟩
            refine x0 (nx tx c s) dd (tE tx c s) _ J1 _ s3 v3 f3 (by omega) hE'.2 rfl (UE_t (UE_t hU (UE_t (UE_28 u1) (UE_16 a1))) (UE_t (UE_a (by omega)) (UE_a (by omega)))) ⟨hd1, hd6, ht1⟩ ((u1.2.1 14 (by decide)).trans h14) ?_ hm (fun I2 J2 w t2 u2 d2 t2' ud f16 f18 hv2 f17 f28 => ?_)
            · show VT (I1 73 28) _
              rw [u1.2.2]
              exact hcl.elim (fun z => Or.inl z) (fun z => Or.inr ⟨z.1, z.2.1⟩)
            · rw [sf_s] at f17 f28
              have f18' : I2 91 dd = I 73 16 := f18.trans (by rw [sf_c (by decide), sf_s, e16])
              have ud' : UDp dd I J I2 J2 := UD_t (UD_t (UD_28 (J := J) u1) (UD_16 a1 a2)) (UD_t (UD_t (UD_i (Nat.le_refl dd)) (UD_i (Nat.le_refl dd))) ud)
              refine x2 s3 dd I2 J2 _ _ s2 v f2 (by have := hadv.1; dsimp only at h3 this; omega) u2 d2 t2' ?_ hx (fun I3 J3 a' fl' u3 d3 t3 hno ud3 hv3 he3 => hE I3 J3 a' fl' u3 d3 t3 hno (UD_t ud' ud3) hv3 he3)
              rcases hv2 with ⟨rfl, rfl⟩ | ⟨rfl, rfl, rfl, lb⟩
              · rw [mpt_1] at f28
                exact Or.inl ⟨f28, rfl⟩
              · rw [mpt_0] at f17 f28
                rcases hcl with ⟨_, g2⟩ | ⟨_, g2, g3, g4⟩
                · rw [g2] at hm
                  exact absurd (sx_0 k 0 _ _ _ _ hm) n10
                · exact Or.inr ⟨f28, rfl, f16.trans (a3.trans g3), f18'.trans sg, f17, g4, lb⟩
          rcases h4 with h | h
          · refine Z_jump 4 rfl ?_
            refine Z_bn (fun c107 => ?_) (fun c107 => absurd c107 (n41))
            refine Z_jump 4 rfl ?_
            refine Z_bd (fun c159 => absurd c159 ((fun z => h42 (k42.mp z).2))) (fun c159 => ?_)
            refine Z_jump 4 rfl ?_
            refine Z_bn (fun c168 => ?_) (fun c168 => absurd c168 ((fun z => h47 (k47.mp z).2)))
            refine Z_jump 4 rfl ?_
            refine Z_bd (fun c193 => ?_) (fun c193 => absurd ((k43.mpr ⟨hop.1, h⟩)) c193)
            refine Z_jump 1 rfl ?_
            show Zs _ _ (am_P 194).2 (206, [(0, .ref 73), (1, .ref o)], [.ref 73]) (HH I J R T) _
            refine Z_cQ rfl rfl rfl (m_closesTerm (d := d + 1) hd (by omega) hX.2.2.1) (fun v h1 hq => ?_)
            obtain ⟨rfl, I1, J1, rfl, a1, a2, a3, u1⟩ := hq
            have hd1 : I1 73 29 = nI dd := (u1.2.1 29 (by decide)).trans hd
            have ht1 : TB I1 := TB_cl hX.2.2 u1
            show Zs _ _ (am_P 194).2 (209, [(0, .ref 73), (1, .ref o)], []) (HH I1 J1 R T) _
            refine Z_jump 6 rfl ?_
            show Zs _ _ (am_P 194).2 (221, [(0, .ref 73), (1, .ref o)], [.int (I1 73 16), .int (I1 73 29), .ref 91]) (HH I1 J1 R T) _
            refine Z_iasK (dd) rfl rfl (hd1) (by omega) (by decide) ?_
            show Zs _ _ (am_P 194).2 (222, [(0, .ref 73), (1, .ref o)], []) (HH (sf I1 91 dd (I1 73 16)) J1 R T) _
            refine Z_jump 5 rfl ?_
            show Zs _ _ (am_P 194).2 (231, [(0, .ref 73), (1, .ref o)], [.int (0 : Int32), .int (I1 73 29), .ref 92]) (HH (sf I1 91 dd (I1 73 16)) J1 R T) _
            refine Z_iasK (dd) rfl rfl (hd1) (by omega) (by decide) ?_
            show Zs _ _ (am_P 194).2 (232, [(0, .ref 73), (1, .ref o)], []) (HH (sf (sf I1 91 dd (I1 73 16)) 92 dd (0 : Int32)) J1 R T) _
            refine Z_jump 1 rfl ?_
            show Zs _ _ (am_P 194).2 (9, [(0, .ref 73), (1, .ref o)], []) (HH (sf (sf I1 91 dd (I1 73 16)) 92 dd (0 : Int32)) J1 R T) _
            exact go I1 J1 hd1 ht1 a1 a2 a3 u1
          · refine Z_jump 4 rfl ?_
            refine Z_bn (fun c107 => ?_) (fun c107 => absurd c107 (n41))
            refine Z_jump 4 rfl ?_
            refine Z_bd (fun c159 => absurd c159 ((fun z => h42 (k42.mp z).2))) (fun c159 => ?_)
            refine Z_jump 4 rfl ?_
            refine Z_bn (fun c168 => ?_) (fun c168 => absurd c168 ((fun z => h47 (k47.mp z).2)))
            refine Z_jump 4 rfl ?_
            refine Z_bd (fun c193 => absurd c193 ((fun z => by have := (k43.mp z).2; omega))) (fun c193 => ?_)
            refine Z_jump 4 rfl ?_
            refine Z_bn (fun c202 => absurd ((k45.mpr ⟨hop.1, h⟩)) c202) (fun c202 => ?_)
            refine Z_jump 1 rfl ?_
            show Zs _ _ (am_P 194).2 (206, [(0, .ref 73), (1, .ref o)], [.ref 73]) (HH I J R T) _
            refine Z_cQ rfl rfl rfl (m_closesTerm (d := d + 1) hd (by omega) hX.2.2.1) (fun v h1 hq => ?_)
            obtain ⟨rfl, I1, J1, rfl, a1, a2, a3, u1⟩ := hq
            have hd1 : I1 73 29 = nI dd := (u1.2.1 29 (by decide)).trans hd
            have ht1 : TB I1 := TB_cl hX.2.2 u1
            show Zs _ _ (am_P 194).2 (209, [(0, .ref 73), (1, .ref o)], []) (HH I1 J1 R T) _
            refine Z_jump 6 rfl ?_
            show Zs _ _ (am_P 194).2 (221, [(0, .ref 73), (1, .ref o)], [.int (I1 73 16), .int (I1 73 29), .ref 91]) (HH I1 J1 R T) _
            refine Z_iasK (dd) rfl rfl (hd1) (by omega) (by decide) ?_
            show Zs _ _ (am_P 194).2 (222, [(0, .ref 73), (1, .ref o)], []) (HH (sf I1 91 dd (I1 73 16)) J1 R T) _
            refine Z_jump 5 rfl ?_
            show Zs _ _ (am_P 194).2 (231, [(0, .ref 73), (1, .ref o)], [.int (0 : Int32), .int (I1 73 29), .ref 92]) (HH (sf I1 91 dd (I1 73 16)) J1 R T) _
            refine Z_iasK (dd) rfl rfl (hd1) (by omega) (by decide) ?_
            show Zs _ _ (am_P 194).2 (232, [(0, .ref 73), (1, .ref o)], []) (HH (sf (sf I1 91 dd (I1 73 16)) 92 dd (0 : Int32)) J1 R T) _
            refine Z_jump 1 rfl ?_
            show Zs _ _ (am_P 194).2 (9, [(0, .ref 73), (1, .ref o)], []) (HH (sf (sf I1 91 dd (I1 73 16)) 92 dd (0 : Int32)) J1 R T) _
            exact go I1 J1 hd1 ht1 a1 a2 a3 u1
  · rw [if_neg (fun z : s < c ∧ tx s = 42 => hop ⟨z.1, Or.inl z.2⟩), if_neg (fun z : s < c ∧ tx s = 47 => hop ⟨z.1, Or.inr (Or.inl z.2)⟩), if_neg (fun z : s < c ∧ (tx s = 43 ∨ tx s = 45) => hop ⟨z.1, Or.inr (Or.inr z.2)⟩)] at hx
    cases hx
    exact hE I J a fl hU hX hT hop (UD_0 dd I J) hV rfl
end EXV

