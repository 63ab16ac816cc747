/-! Rows: both sides hold a standing as the same fourteen numbers. -/
section ROW
def zb (x : Int32) (i : Nat) : Bool := x.toBitVec.getLsbD i
theorem zb_ext {x y : Int32} (h : ∀ i, i < 32 → zb x i = zb y i) : x = y := Int32.toBitVec_inj.mp (BitVec.eq_of_getLsbD_eq (fun i hi => h i hi))
theorem zb_and (x y : Int32) (i : Nat) : zb (x &&& y) i = (zb x i && zb y i) := by unfold zb; rw [Int32.toBitVec_and, BitVec.getLsbD_and]
theorem zb_or (x y : Int32) (i : Nat) : zb (x ||| y) i = (zb x i || zb y i) := by unfold zb; rw [Int32.toBitVec_or, BitVec.getLsbD_or]
theorem zb_xor (x y : Int32) (i : Nat) : zb (x ^^^ y) i = (zb x i ^^ zb y i) := by unfold zb; rw [Int32.toBitVec_xor, BitVec.getLsbD_xor]
theorem zb_0 (i : Nat) : zb 0 i = false := BitVec.getLsbD_zero
theorem zb_1 : ∀ i, i < 32 → zb 1 i = decide (i = 0) := by decide +kernel
theorem zs_l : ∀ n, n < 32 → ((nI n &&& 31).toBitVec.smod 32).toNat = n := by decide +kernel
theorem zb_shl (n : Nat) (hn : n < 32) (x : Int32) {i : Nat} (hi : i < 32) : zb (x <<< (nI n &&& 31)) i = (decide (n ≤ i) && zb x (i - n)) := by
  unfold zb
  rw [Int32.toBitVec_shiftLeft]
  show (x.toBitVec <<< ((nI n &&& 31).toBitVec.smod 32).toNat).getLsbD i = _
  rw [zs_l n hn, BitVec.getLsbD_shiftLeft]
  rcases Nat.lt_or_ge i n with h | h
  · simp [h, Nat.not_le.mpr h]
  · simp [hi, h, Nat.not_lt.mpr h]
theorem zb_sshr (n : Nat) (hn : n < 32) (x : Int32) {i : Nat} (hi : i < 32) : zb (x >>> (nI n &&& 31)) i = if n + i < 32 then zb x (n + i) else zb x 31 := by
  unfold zb
  rw [Int32.toBitVec_shiftRight]
  show (x.toBitVec.sshiftRight ((nI n &&& 31).toBitVec.smod 32).toNat).getLsbD i = _
  rw [zs_l n hn, BitVec.getLsbD_sshiftRight, BitVec.msb_eq_getLsbD_last]
  simp [hi]
theorem zb_and1 {x : Int32} : x &&& 1 = 1 ↔ zb x 0 = true := by
  constructor
  · intro h
    have : zb (x &&& 1) 0 = zb 1 0 := congrArg (fun y => zb y 0) h
    rw [zb_and, zb_1 0 (by decide)] at this
    simpa using this
  · intro h
    refine zb_ext (fun i hi => ?_)
    rw [zb_and, zb_1 i hi]
    by_cases e : i = 0
    · subst e; rw [h]; rfl
    · simp [e]
theorem zb_shl0 {s : Int32} {n : Nat} (hn : n < 32) : s &&& (1 <<< (nI n &&& 31)) = 0 ↔ zb s n = false := by
  constructor
  · intro h
    have : zb (s &&& (1 <<< (nI n &&& 31))) n = zb 0 n := congrArg (fun y => zb y n) h
    rw [zb_and, zb_shl n hn 1 hn, zb_0, Nat.sub_self, zb_1 0 (by decide)] at this
    simpa using this
  · intro h
    refine zb_ext (fun i hi => ?_)
    rw [zb_and, zb_shl n hn 1 hi, zb_0]
    by_cases e : i = n
    · subst e; rw [h]; rfl
    · by_cases l : n ≤ i
      · rw [zb_1 (i - n) (by omega), decide_eq_false (show ¬ i - n = 0 by omega)]; simp
      · rw [decide_eq_false l]; simp
theorem bit_iff {s : Int32} {n : Nat} (hn : n < 32) : s &&& (1 <<< (nI n &&& 31)) = 0 ↔ ¬ (s >>> (nI n &&& 31)) &&& 1 = 1 := by
  rw [zb_shl0 hn, zb_and1, zb_sshr n hn s (by decide), if_pos (by omega), Nat.add_zero]
  cases zb s n <;> simp
theorem two_n (i p : Nat) : (2 : Int32) * nI i + nI p = nI (2 * i + p) := by
  rw [show (2 : Int32) = nI 2 from rfl, show nI 2 * nI i = nI (2 * i) from (Int32.ofNat_mul _ _).symm, nI_add]
theorem st_iff {s p : Int32} {i q : Nat} (hi : i < 6) (hq : q < 2) (hp : p = nI q) : s &&& bitF (nI i) p = 0 ↔ ¬ M_bit s (nI i) p := by
  subst hp
  show s &&& (1 <<< ((2 * nI i + nI q) &&& 31)) = 0 ↔ ¬ (s >>> ((2 * nI i + nI q) &&& 31)) &&& 1 = 1
  rw [two_n]
  exact bit_iff (by omega)
/-- the class's standing at a as a row -/
def Cr (a : Nat) (I : hI) (j : Nat) : Int32 := if j < 6 then I (a + 1) j else if j < 12 then I (a + 2) (j - 6) else if j = 12 then I a 2 else I a 3
theorem Cr_l {a i : Nat} {I : hI} (h : i < 6) : Cr a I i = I (a + 1) i := if_pos h
theorem Cr_h {a i : Nat} {I : hI} (h : i < 6) : Cr a I (6 + i) = I (a + 2) i := by
  unfold Cr
  rw [if_neg (by omega), if_pos (by omega), Nat.add_sub_cancel_left]
theorem Cr_s {a : Nat} {I : hI} : Cr a I 12 = I a 2 := by
  unfold Cr
  rw [if_neg (by omega), if_neg (by omega), if_pos rfl]
theorem Cr_t {a : Nat} {I : hI} : Cr a I 13 = I a 3 := by
  unfold Cr
  rw [if_neg (by omega), if_neg (by omega), if_neg (by omega)]
theorem Cr_of {a : Nat} {I I' : hI} (e0 : I' a = I a) (e1 : I' (a + 1) = I (a + 1)) (e2 : I' (a + 2) = I (a + 2)) (j : Nat) : Cr a I' j = Cr a I j := by
  unfold Cr
  rw [e0, e1, e2]
/-- two rows told place by place -/
theorem row14 {f g : Nat → Int32} (h1 : ∀ i, i < 6 → f i = g i) (h2 : ∀ i, i < 6 → f (6 + i) = g (6 + i)) (h3 : f 12 = g 12) (h4 : f 13 = g 13) : ∀ j, j < 14 → f j = g j := fun j hj => by
  by_cases c1 : j < 6
  · exact h1 j c1
  · by_cases c2 : j < 12
    · have := h2 (j - 6) (by omega)
      rw [show 6 + (j - 6) = j by omega] at this
      exact this
    · rcases (show j = 12 ∨ j = 13 by omega) with rfl | rfl
      · exact h3
      · exact h4
/-- of the bits that tell what sticks only twelve are used -/
def B12 (x : Int32) : Prop := ∀ i, 12 ≤ i → i < 32 → zb x i = false
theorem B12_0 : B12 0 := fun i _ _ => zb_0 i
theorem B12_bit {n : Nat} (hn : n < 12) : B12 (1 <<< (nI n &&& 31)) := fun i h1 h2 => by
  rw [zb_shl n (by omega) 1 h2, zb_1 (i - n) (by omega), decide_eq_false (show ¬ i - n = 0 by omega)]
  simp
theorem B12_or {x y : Int32} (h : B12 x) (g : B12 y) : B12 (x ||| y) := fun i h1 h2 => by rw [zb_or, h i h1 h2, g i h1 h2]; rfl
theorem B12_xor {x y : Int32} (h : B12 x) (g : B12 y) : B12 (x ^^^ y) := fun i h1 h2 => by rw [zb_xor, h i h1 h2, g i h1 h2]; rfl
/-- a row within its rods -/
def WR (D : FD) (r : Nat → Int32) : Prop := ((∃ s, r 13 = nI s ∧ s ≤ 1000000) ∧ B12 (r 12)) ∧ ∀ i, i < 6 → (i < D.1 → ∃ l h, r i = nI l ∧ r (6 + i) = nI h ∧ l ≤ (D.2.1 i).2.2.1 ∧ h ≤ (D.2.1 i).2.2.2) ∧ (D.1 ≤ i → r i = 0 ∧ r (6 + i) = 0)
theorem WR_of {D : FD} {r r' : Nat → Int32} (h : WR D r) (e : ∀ j, j < 14 → r' j = r j) : WR D r' := by
  refine ⟨by rw [e 13 (by omega), e 12 (by omega)]; exact h.1, fun i hi => ?_⟩
  rw [e i (by omega), e (6 + i) (by omega)]
  exact h.2 i hi
def Rv (r : Nat → Int32) : StV := (fun i => (r i).toNatClampNeg, fun i => (r (6 + i)).toNatClampNeg, fun i p => decide (M_bit (r 12) (nI i) (nI p)))
theorem Rv_b {D : FD} {r : Nat → Int32} {i : Nat} (h6 : D.1 ≤ 6) (okr : ∀ i, i < D.1 → okR (D.2.1 i)) (hW : WR D r) (hi : i < D.1) : r i = nI ((Rv r).1 i) ∧ r (6 + i) = nI ((Rv r).2.1 i) ∧ (Rv r).1 i ≤ (D.2.1 i).2.2.1 ∧ (Rv r).2.1 i ≤ (D.2.1 i).2.2.2 := by
  obtain ⟨l, g, e1, e2, b1, b2⟩ := (hW.2 i (by omega)).1 hi
  have hq := okr i hi
  have h9 := hq.2.2.1.2
  have h3 := hq.2.2.2.1
  have c1 : (Rv r).1 i = l := by
    show (r i).toNatClampNeg = l
    rw [e1, nI_clamp (by omega)]
  have c2 : (Rv r).2.1 i = g := by
    show (r (6 + i)).toNatClampNeg = g
    rw [e2, nI_clamp (by omega)]
  rw [c1, c2]
  exact ⟨e1, e2, b1, b2⟩
theorem CV_r {D : FD} {r : Nat → Int32} {a : Nat} {I : hI} (h6 : D.1 ≤ 6) (okr : ∀ i, i < D.1 → okR (D.2.1 i)) (hW : WR D r) (h : ∀ j, j < 14 → Cr a I j = r j) : CV D (Rv r) a I := fun i hi => by
  obtain ⟨e1, e2, b1, b2⟩ := Rv_b h6 okr hW hi
  have hq := okr i hi
  have h9 := hq.2.2.1.2
  have h3 := hq.2.2.2.1
  have a1 : I (a + 1) i = r i := (Cr_l (by omega)).symm.trans (h i (by omega))
  have a2 : I (a + 2) i = r (6 + i) := (Cr_h (by omega)).symm.trans (h (6 + i) (by omega))
  have a3 : I a 2 = r 12 := Cr_s.symm.trans (h 12 (by omega))
  refine ⟨⟨a1.trans e1, a2.trans e2⟩, ⟨by omega, by omega⟩, ?_, ?_⟩
  · rw [a3, st_iff (p := 0) (i := i) (q := 0) (by omega) (by decide) rfl]
    exact not_congr ⟨fun z => decide_eq_true z, fun z => of_decide_eq_true z⟩
  · rw [a3, st_iff (p := 1) (i := i) (q := 1) (by omega) (by decide) rfl]
    exact not_congr ⟨fun z => decide_eq_true z, fun z => of_decide_eq_true z⟩
theorem RV_r {D : FD} {r : Nat → Int32} {o : Nat} {I : hI} (h6 : D.1 ≤ 6) (okr : ∀ i, i < D.1 → okR (D.2.1 i)) (hW : WR D r) (h : ∀ j, j < 14 → I o j = r j) : RV D (Rv r) o (I o 12) I := fun i hi => by
  obtain ⟨e1, e2, b1, b2⟩ := Rv_b h6 okr hW hi
  have hq := okr i hi
  have h9 := hq.2.2.1.2
  have h3 := hq.2.2.2.1
  rw [h 12 (by omega)]
  exact ⟨⟨(h i (by omega)).trans e1, (h (6 + i) (by omega)).trans e2⟩, ⟨by omega, by omega⟩, ⟨fun z => decide_eq_true z, fun z => of_decide_eq_true z⟩, ⟨fun z => decide_eq_true z, fun z => of_decide_eq_true z⟩⟩
/-- what a high bead is worth, in the reference -/
theorem M_wo_v {D : FD} {I : hI} {j : Nat} (hD : DMf D I) (hj : j < D.1) : M_wo I j = nI (hwv (D.2.1 j)) := by
  have h6 := hD.2.1
  obtain ⟨ok, k1, k2, k3, k4⟩ := hD.2.2.2 j hj
  unfold M_wo M_wb hwv
  rw [nI_clamp (by omega), k1, show I 76 j = nI (D.2.1 j).2.2.1 from k3]
  have a0 : nI (D.2.1 j).1 = 0 ↔ (D.2.1 j).1 = 0 := nI_eq (b := 0) (by have := ok.1; omega) (by omega)
  have a3 : nI (D.2.1 j).1 = 3 ↔ (D.2.1 j).1 = 3 := nI_eq (b := 3) (by have := ok.1; omega) (by omega)
  by_cases z0 : (D.2.1 j).1 = 0
  · rw [if_pos (a0.mpr z0), if_pos z0]; rfl
  · rw [if_neg (fun y => z0 (a0.mp y)), if_neg z0]
    by_cases z3 : (D.2.1 j).1 = 3
    · rw [if_pos (a3.mpr z3), if_pos z3]; exact nI_1 _
    · rw [if_neg (fun y => z3 (a3.mp y)), if_neg z3]; rfl
theorem shw_v {D : FD} {v : StV} {a i : Nat} {I : hI} (hC : CV D v a I) (hi : i < D.1) : shw I a i (D.2.1 i) = nI (vl D i (v.1 i) (v.2.1 i)) := by
  obtain ⟨⟨e1, e2⟩, _⟩ := hC i hi
  unfold shw vl
  rw [e1, e2, show nI (v.2.1 i) * nI (hwv (D.2.1 i)) = nI (v.2.1 i * hwv (D.2.1 i)) from (Int32.ofNat_mul _ _).symm, nI_add]
theorem M_sh_v {D : FD} {v : StV} {o i : Nat} {st : Int32} {I : hI} (hD : DMf D I) (hR : RV D v o st I) (hi : i < D.1) : M_sh I o i = nI (vl D i (v.1 i) (v.2.1 i)) := by
  obtain ⟨⟨e1, e2⟩, _⟩ := hR i hi
  unfold M_sh vl
  rw [e1, e2, M_wo_v hD hi, show nI (v.2.1 i) * nI (hwv (D.2.1 i)) = nI (v.2.1 i * hwv (D.2.1 i)) from (Int32.ofNat_mul _ _).symm, nI_add]
/-- the number shown -/
def nbr (D : FD) (v : StV) : Nat → Nat → Nat
  | 0, _ => 0
  | k + 1, i => vl D i (v.1 i) (v.2.1 i) + bs D i * nbr D v k (i + 1)
def hor (D : FD) (v : StV) : Nat → Nat → Nat
  | 0, s => s
  | r + 1, s => hor D v r (s * bs D r + vl D r (v.1 r) (v.2.1 r))
theorem hor_n {D : FD} {v : StV} : ∀ r k, hor D v r (nbr D v k r) = nbr D v (k + r) 0
  | 0, k => rfl
  | r + 1, k => by
    unfold hor
    rw [show nbr D v k (r + 1) * bs D r + vl D r (v.1 r) (v.2.1 r) = nbr D v (k + 1) r by show _ = vl D r (v.1 r) (v.2.1 r) + bs D r * nbr D v k (r + 1); rw [Nat.mul_comm, Nat.add_comm], hor_n r (k + 1)]
    congr 1
    omega
theorem vl_39 {D : FD} {r : Nat → Int32} {i : Nat} (h6 : D.1 ≤ 6) (okr : ∀ i, i < D.1 → okR (D.2.1 i)) (hW : WR D r) (hi : i < D.1) : vl D i ((Rv r).1 i) ((Rv r).2.1 i) ≤ 39 := by
  have h := Rv_b h6 okr hW hi
  exact wv40 (okr i hi) h.2.2.1 h.2.2.2
theorem nbr_b {D : FD} {r : Nat → Int32} (h6 : D.1 ≤ 6) (okr : ∀ i, i < D.1 → okR (D.2.1 i)) (hW : WR D r) : ∀ k i, i + k ≤ D.1 → nbr D (Rv r) k i + 3 ≤ 3 * 16 ^ k
  | 0, i, hi => by unfold nbr; decide
  | k + 1, i, hi => by
    have h1 := vl_39 h6 okr hW (show i < D.1 by omega)
    have h2 := nbr_b h6 okr hW k (i + 1) (by omega)
    have h3 : bs D i * nbr D (Rv r) k (i + 1) ≤ 16 * nbr D (Rv r) k (i + 1) := Nat.mul_le_mul_right _ (okr i (by omega)).2.1.2
    unfold nbr
    rw [Nat.pow_succ]
    omega
theorem cnl_v {D : FD} {v : StV} {I : hI} (hC : CV D v 22 I) (hb : ∀ i, i < D.1 → vl D i (v.1 i) (v.2.1 i) ≤ 39 ∧ bs D i ≤ 16) : ∀ k i s p, i + k = D.1 → cnl I D k i (lN s) (lN p) = lN (s + p * nbr D v k i)
  | 0, i, s, p, hi => by unfold cnl nbr; rw [Nat.mul_zero, Nat.add_zero]
  | k + 1, i, s, p, hi => by
    have h := hb i (by omega)
    unfold cnl nbr
    rw [shw_v hC (show i < D.1 by omega), nI_l (by omega), nI_l (show (D.2.1 i).2.1 < 2 ^ 31 from Nat.lt_of_le_of_lt h.2 (by decide)), lN_mul, lN_mul, lN_add, cnl_v hC hb k (i + 1) _ _ (by omega)]
    congr 1
    rw [Nat.mul_add, Nat.mul_assoc, Nat.add_assoc]
theorem M_nl_v {D : FD} {v : StV} {o : Nat} {st : Int32} {I : hI} (hD : DMf D I) (hR : RV D v o st I) (hb : ∀ i, i < D.1 → vl D i (v.1 i) (v.2.1 i) ≤ 39 ∧ bs D i ≤ 16) : ∀ r s, r ≤ D.1 → M_nl I o r (lN s) = lN (hor D v r s)
  | 0, s, hr => by unfold M_nl hor; rfl
  | r + 1, s, hr => by
    have h := hb r (by omega)
    have e2 : I 75 r = nI (bs D r) := (hD.2.2.2 r (by omega)).2.2.1
    unfold M_nl hor
    rw [M_sh_v hD hR (show r < D.1 by omega), e2, nI_l (by omega), nI_l (by omega), lN_mul, lN_add, M_nl_v hD hR hb r _ (by omega)]
/-- both sides show the same number -/
theorem num_eq {D : FD} {r : Nat → Int32} {o : Nat} {I I1 : hI} (h6 : D.1 ≤ 6) (hD : DMf D I1) (hW : WR D r) (hc : ∀ j, j < 14 → Cr 22 I j = r j) (hm : ∀ j, j < 14 → I1 o j = r j) : cnl I D D.1 0 0 1 = lN (nbr D (Rv r) D.1 0) ∧ M_nl I1 o D.1 0 = lN (nbr D (Rv r) D.1 0) ∧ nbr D (Rv r) D.1 0 < 50331648 := by
  have okr := fun k hk => (hD.2.2.2 k hk).1
  have hC := CV_r h6 okr hW hc
  have hR := RV_r h6 okr hW hm
  have hb : ∀ i, i < D.1 → vl D i ((Rv r).1 i) ((Rv r).2.1 i) ≤ 39 ∧ bs D i ≤ 16 := fun i hi => ⟨vl_39 h6 okr hW hi, (okr i hi).2.1.2⟩
  have e1 := cnl_v hC hb D.1 0 0 1 (by omega)
  have e2 := M_nl_v hD hR hb D.1 0 (Nat.le_refl _)
  have e3 := hor_n (D := D) (v := Rv r) D.1 0
  have e4 := nbr_b h6 okr hW D.1 0 (by omega)
  have e5 := p16 h6
  rw [Nat.zero_add, Nat.one_mul] at e1
  rw [Nat.zero_add] at e3
  exact ⟨e1, e2.trans (congrArg lN e3), by omega⟩
/-- behind a set the rods beyond the frame are as they were -/
theorem pal_hi {a : Nat} (ha : 14 ≤ a) : ∀ (k i q : Nat) (left : Int32) (I : hI), i + k ≤ q → pal a k i left I (a + 1) q = I (a + 1) q ∧ pal a k i left I (a + 2) q = I (a + 2) q
  | 0, i, q, left, I, h => ⟨rfl, rfl⟩
  | k + 1, i, q, left, I, h => by
    have ih := fun l I => pal_hi ha k (i + 1) q l I (by omega)
    unfold pal
    rw [(ih _ _).1, (ih _ _).2]
    unfold prF
    refine ⟨?_, ?_⟩
    · rw [sf_k (by omega), sf_c (by omega), sbF_c (by omega)]
    · rw [sf_c (by omega), sf_k (by omega), sbF_c (by omega)]
theorem stF_hi {D : FD} {a q : Nat} {I : hI} {V : Int64} (ha : 14 ≤ a) (hq : D.1 ≤ q) : (stF I D a V).2 (a + 1) q = I (a + 1) q ∧ (stF I D a V).2 (a + 2) q = I (a + 2) q := by
  have kL : ∀ c, 14 ≤ c → (leF (ldF I D a 0) D.1 V).2 c = I c := fun c hc => by
    rw [leF_cc (by omega) (by omega), ldF_c (by omega) (by omega) (by omega) (by omega) (by omega) (by omega) (by omega) (by omega)]
  unfold stF
  split
  · have h := fun l I => pal_hi (a := a) ha D.1 0 q l I (by omega)
    dsimp only
    unfold spF paF
    rw [sf_c (by omega), sf_c (by omega), (h _ _).1, (h _ _).2, kL _ (by omega), kL _ (by omega)]
    exact ⟨rfl, rfl⟩
  · dsimp only
    rw [kL _ (by omega), kL _ (by omega)]
    exact ⟨rfl, rfl⟩
theorem seF_hi {D : FD} {o q : Nat} {I : hI} {J : hJ} {V : Int64} (h6 : D.1 ≤ 6) (ho : o = 78 ∨ o = 79) (hq : D.1 ≤ q) (hq6 : q < 6) : (seF I J D o V).2.1 o q = I o q ∧ (seF I J D o V).2.1 o (6 + q) = I o (6 + q) := by
  have o9 : o ≠ 82 := by rcases ho with rfl | rfl <;> decide
  have o10 : o ≠ 83 := by rcases ho with rfl | rfl <;> decide
  unfold seF
  split
  · dsimp only
    rw [isP_I o9]
    exact ⟨rfl, rfl⟩
  · have hs := fun I => (sel_w o10 D.1 0 I (by omega)).2
    dsimp only
    rw [sf_k (by omega), sf_k (by omega), hs _ q (by omega), hs _ (6 + q) (by omega), duF_c o10, isP_I o9]
    exact ⟨rfl, rfl⟩
theorem GW_al {D : FD} {v : StV} {f : Nat → Nat} : ∀ (k i x m : Nat), GW D v k i x m f → ∀ q, i ≤ q → q < i + k → f q % 10 ≤ (D.2.1 q).2.2.1 ∧ f q / 10 ≤ (D.2.1 q).2.2.2
  | 0, i, x, m, h, q, a, b => by omega
  | k + 1, i, x, m, h, q, a, b => by
    obtain ⟨h1, y, t, _, _, _, h5⟩ := h
    by_cases e : q = i
    · rw [e]; exact ⟨h1.1.2.1, h1.1.1⟩
    · exact GW_al k (i + 1) y t h5 q (by omega) (by omega)
theorem cap_b {s m : Nat} (hs : s ≤ 1000000) (hm : m ≤ 1000000) : ∃ t, cap (nI s + nI m) = nI t ∧ t ≤ 1000000 := by
  unfold cap
  rw [nI_add]
  by_cases c : 1000000 < s + m
  · rw [if_pos (show (1000000 : Int32) < nI (s + m) from nI_lt (a := 1000000) c (by omega))]
    exact ⟨1000000, rfl, Nat.le_refl _⟩
  · rw [if_neg (show ¬ (1000000 : Int32) < nI (s + m) from nI_nlt (b := s + m) (a := 1000000) (by omega) (by omega))]
    exact ⟨s + m, rfl, by omega⟩
/-- set: the same answer, one row behind -/
theorem set_row {D : FD} {r : Nat → Int32} {a o : Nat} {I I1 : hI} {J1 : hJ} {V : Int64} (ha : 14 ≤ a) (ho : o = 78 ∨ o = 79) (h6 : D.1 ≤ 6) (hD : DMf D I1) (hW : WR D r) (hc : ∀ j, j < 14 → Cr a I j = r j) (hm : ∀ j, j < 14 → I1 o j = r j) : (stF I D a V).1 = (seF I1 J1 D o V).1 ∧ ((seF I1 J1 D o V).1 = -1 ∨ 0 ≤ (seF I1 J1 D o V).1) ∧ ∃ r', WR D r' ∧ (∀ j, j < 14 → Cr a (stF I D a V).2 j = r' j) ∧ (∀ j, j < 14 → (seF I1 J1 D o V).2.1 o j = r' j) := by
  have okr := fun k hk => (hD.2.2.2 k hk).1
  have hbp : ∀ i, i < D.1 → 0 < bs D i := fun i hi => Nat.lt_of_lt_of_le (by decide) (okr i hi).2.1.1
  have hC := CV_r h6 okr hW hc
  have hR := RV_r h6 okr hW hm
  have hvb : ∀ i, i < D.1 → (Rv r).1 i ≤ 9 ∧ (Rv r).2.1 i ≤ 9 := fun i hi => (hC i hi).2.1
  rcases stF_w (V := V) ha h6 okr hC with ⟨n1, e1, p0, p1, p2⟩ | ⟨x, m, f, ex, hw, hmi, hf, e1, hv, e2, e3⟩
  · rcases seF_w (J := J1) (V := V) ho h6 hD hR with ⟨_, g1, g2⟩ | ⟨y, m', f', ey, hw', _⟩
    · refine ⟨by rw [e1, g1], Or.inl g1, r, hW, fun j hj => ?_, fun j hj => ?_⟩
      · rw [Cr_of p0 p1 p2]; exact hc j hj
      · rw [g2]; exact hm j hj
    · refine absurd ⟨by rw [ey]; omega, ?_⟩ (n1 m')
      rw [ey, Int.toNat_natCast]
      exact hw'
  · rcases seF_w (J := J1) (V := V) ho h6 hD hR with ⟨n1, _, _⟩ | ⟨y, m', f', ey, hw', hmi', hf', g1, hv', g2, g3⟩
    · refine absurd ⟨by rw [ex]; omega, ?_⟩ (n1 m)
      rw [ex, Int.toNat_natCast]
      exact hw
    · have exy : x = y := by omega
      subst exy
      have em : m = m' := Nat.le_antisymm (hmi m' hw') (hmi' m hw)
      subst em
      have ef := GW_u hbp D.1 0 x m (by omega) hf hf'
      have hal := GW_al D.1 0 x m hf'
      have hm45 := WY_le okr hvb D.1 0 x m (by omega) hw
      obtain ⟨s, hs, hs6⟩ := hW.1.1
      have i13 : I1 o 13 = nI s := (hm 13 (by omega)).trans hs
      have c13 : I a 3 = nI s := Cr_t.symm.trans ((hc 13 (by omega)).trans hs)
      obtain ⟨t, ht, ht6⟩ := cap_b (m := m) hs6 (by omega)
      have k13 : (seF I1 J1 D o V).2.1 o 13 = nI t := by rw [g3, i13, ht]
      refine ⟨by rw [e1, g1], Or.inr (by rw [g1]; exact nI_pos' (by omega)), fun j => (seF I1 J1 D o V).2.1 o j, ⟨⟨⟨t, k13, ht6⟩, by show B12 ((seF I1 J1 D o V).2.1 o 12); rw [g2, hm 12 (by omega)]; exact hW.1.2⟩, fun i hi => ⟨fun hd => ?_, fun hd => ?_⟩⟩, row14 (fun i hi => ?_) (fun i hi => ?_) ?_ ?_, fun j _ => rfl⟩
      · have := hal i (Nat.zero_le i) (by omega)
        exact ⟨_, _, (hv' i hd).1, (hv' i hd).2, this.1, this.2⟩
      · have w := (hW.2 i hi).2 hd
        have z := seF_hi (J := J1) (I := I1) (V := V) h6 ho hd hi
        refine ⟨z.1.trans ((hm i (by omega)).trans w.1), z.2.trans ((hm (6 + i) (by omega)).trans w.2)⟩
      · rw [Cr_l hi]
        by_cases hd : i < D.1
        · rw [(hv i hd).1, (hv' i hd).1, ef i (Nat.zero_le i) (by omega)]
        · rw [(stF_hi (I := I) (V := V) ha (by omega)).1, (seF_hi (J := J1) (I := I1) (V := V) h6 ho (by omega) hi).1, hm i (by omega), ← hc i (by omega), Cr_l hi]
      · rw [Cr_h hi]
        by_cases hd : i < D.1
        · rw [(hv i hd).2, (hv' i hd).2, ef i (Nat.zero_le i) (by omega)]
        · rw [(stF_hi (I := I) (V := V) ha (by omega)).2, (seF_hi (J := J1) (I := I1) (V := V) h6 ho (by omega) hi).2, hm (6 + i) (by omega), ← hc (6 + i) (by omega), Cr_h hi]
      · rw [Cr_s, e2, g2, hm 12 (by omega), ← hc 12 (by omega), Cr_s]
      · rw [Cr_t, k13, e3, c13]
        exact ht
end ROW

