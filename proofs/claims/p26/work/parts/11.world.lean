/-! What the small machine's lists are on the machine: values, locals, cells. B: where the new cells begin; X: where what was there before lies; cA: the array classes. -/
def am_v (B : Nat) (X : Nat → Option Nat) (v : Value) : Value := match v with
  | .ref i => .ref (B + i)
  | .retAddr k => va_rf (X k)
  | w => w
theorem am_v_cat (B : Nat) (X : Nat → Option Nat) (v : Value) : (am_v B X v).category = v.category := by
  cases v with
  | retAddr k =>
    show (va_rf (X k)).category = 1
    cases X k <;> rfl
  | _ => rfl
def am_vs (B : Nat) (X : Nat → Option Nat) (st : List Value) : List Value := st.map (am_v B X)
def am_lm (B : Nat) (X : Nat → Option Nat) (l : am_L) : am_L := l.map (fun q => (q.1, am_v B X q.2))
theorem am_vs_sum (B : Nat) (X : Nat → Option Nat) (st : List Value) : ((am_vs B X st).map fun v => v.category).sum = (st.map fun v => v.category).sum := by
  unfold am_vs
  rw [List.map_map]
  congr 1
  exact List.map_congr_left (fun v _ => am_v_cat B X v)
theorem am_lm_filter (B : Nat) (X : Nat → Option Nat) (l : am_L) (f : Nat → Nat → Bool) : am_lm B X (l.filter (fun q => f q.1 q.2.category)) = (am_lm B X l).filter (fun q => f q.1 q.2.category) := by
  unfold am_lm
  rw [List.filter_map]
  congr 1
  refine List.filter_congr (fun q _ => ?_)
  show f q.1 q.2.category = f q.1 (am_v B X q.2).category
  rw [am_v_cat]
theorem am_insr_mem {i : Nat} {v : Value} {q : Nat × Value} : ∀ {l : am_L}, q ∈ am_insr i v l → q = (i, v) ∨ q ∈ l
  | [], h => Or.inl (List.mem_singleton.mp h)
  | x :: r, h => by
    unfold am_insr at h
    cases hb : Nat.blt i x.1 with
    | true =>
      rw [hb] at h
      rcases List.mem_cons.mp h with h | h
      · exact Or.inl h
      · exact Or.inr h
    | false =>
      rw [hb] at h
      rcases List.mem_cons.mp h with h | h
      · exact Or.inr (h ▸ List.mem_cons_self)
      · rcases am_insr_mem h with h | h
        · exact Or.inl h
        · exact Or.inr (List.mem_cons_of_mem _ h)
theorem am_lm_ins {B : Nat} {X : Nat → Option Nat} {ls : Array Slot} {nL i : Nat} {v : Value} {l : am_L} (h : lv_has ls nL ((i, am_v B X v) :: am_lm B X l)) : lv_has ls nL (am_lm B X (am_insr i v l)) := by
  refine ⟨h.1, h.2.1, fun q hq => h.2.2 q ?_⟩
  obtain ⟨y, hy, rfl⟩ := List.mem_map.mp hq
  rcases am_insr_mem hy with h | h
  · rw [h]; exact List.mem_cons_self
  · exact List.mem_cons_of_mem _ (List.mem_map.mpr ⟨y, h, rfl⟩)
theorem am_lm_s1 {B : Nat} {X : Nat → Option Nat} {l : am_L} {i nL : Nat} {v : Value} {ls : Array Slot} (hh : lv_has ls nL ((i, am_v B X v) :: (am_lm B X l).filter (fun q => !(q.1 == i) && !(q.1 + 1 == i && q.2.category == 2)))) : lv_has ls nL (am_lm B X (am_s1 l i v)) := by
  have h := am_lm_filter B X l (fun a c => !(a == i) && !(a + 1 == i && c == 2))
  refine am_lm_ins ?_
  rw [h]
  exact hh
theorem am_lm_s2 {B : Nat} {X : Nat → Option Nat} {l : am_L} {i nL : Nat} {v : Value} {ls : Array Slot} (hh : lv_has ls nL ((i, am_v B X v) :: (am_lm B X l).filter (fun q => !(q.1 == i) && (!(q.1 == i + 1) && !(q.1 + 1 == i && q.2.category == 2))))) : lv_has ls nL (am_lm B X (am_s2 l i v)) := by
  have h := am_lm_filter B X l (fun a c => !(a == i) && (!(a == i + 1) && !(a + 1 == i && c == 2)))
  refine am_lm_ins ?_
  rw [h]
  exact hh
theorem am_lg_mem {B : Nat} {X : Nat → Option Nat} {l : am_L} {i : Nat} {v : Value} (h : am_lg l i = some v) : ∃ k : Nat, (am_lm B X l)[k]? = some (i, am_v B X v) := by
  unfold am_lg at h
  cases hf : l.find? (fun q => q.1 == i) with
  | none => rw [hf] at h; cases h
  | some q =>
    rw [hf] at h
    have h1 : q.1 = i := by simpa using List.find?_some hf
    have h2 : q.2 = v := Option.some.inj h
    have h3 : (q.1, am_v B X q.2) ∈ am_lm B X l := List.mem_map.mpr ⟨q, List.mem_of_find?_eq_some hf, rfl⟩
    rw [h1, h2] at h3
    exact List.getElem?_of_mem h3
theorem am_lg_at {B : Nat} {X : Nat → Option Nat} {ls : Array Slot} {nL : Nat} {l : am_L} {i : Nat} {v : Value} (hl : lv_has ls nL (am_lm B X l)) (h : am_lg l i = some v) : ls[i]? = some (.val (am_v B X v)) := by
  obtain ⟨k, hk⟩ := am_lg_mem (B := B) (X := X) h
  exact lv_at hl k hk
theorem am_lm_args (B : Nat) (X : Nat → Option Nat) : ∀ (i : Nat) (vs : List Value), lv_args i (am_vs B X vs) = am_lm B X (lv_args i vs)
  | _, [] => rfl
  | i, v :: vs => by
    show (i, am_v B X v) :: lv_args (if (am_v B X v).category = 2 then i + 2 else i + 1) (am_vs B X vs) = (i, am_v B X v) :: am_lm B X (lv_args (if v.category = 2 then i + 2 else i + 1) vs)
    rw [am_v_cat, am_lm_args B X _ vs]
def am_e (B : Nat) (X : Nat → Option Nat) (cA : Nat → Nat) (x : va_E) : va_E := match x with
  | .inl (t, n, .inl f) => .inl (cA t, n, .inl f)
  | .inl (t, n, .inr (.inl f)) => .inl (cA t, n, .inr (.inl f))
  | .inl (t, n, .inr (.inr (.inl f))) => .inl (cA t, n, .inr (.inr (.inl f)))
  | .inl (t, n, .inr (.inr (.inr (.inl f)))) => .inl (cA t, n, .inr (.inr (.inr (.inl f))))
  | .inl (t, n, .inr (.inr (.inr (.inr f)))) => .inl (cA t, n, .inr (.inr (.inr (.inr (fun j => (f j).map (fun i => B + i))))))
  | .inr (ci, fs) => .inr (ci, fs.map (am_v B X))
theorem am_e_arr (B : Nat) (X : Nat → Option Nat) (cA : Nat → Nat) (t : Nat) (x : vp_A) : ∃ y : vp_A, y.1 = x.1 ∧ am_e B X cA (.inl (t, x)) = .inl (cA t, y) := by
  obtain ⟨n, y⟩ := x
  rcases y with f | f | f | f | f
  · exact ⟨(n, .inl f), rfl, rfl⟩
  · exact ⟨(n, .inr (.inl f)), rfl, rfl⟩
  · exact ⟨(n, .inr (.inr (.inl f))), rfl, rfl⟩
  · exact ⟨(n, .inr (.inr (.inr (.inl f)))), rfl, rfl⟩
  · exact ⟨(n, .inr (.inr (.inr (.inr (fun j => (f j).map (fun i => B + i)))))), rfl, rfl⟩
def am_w (B : Nat) (X : Nat → Option Nat) (cA : Nat → Nat) (h : am_H) : va_W := h.mapIdx (fun i x => (B + i, am_e B X cA x))
theorem am_w_at {B : Nat} {X : Nat → Option Nat} {cA : Nat → Nat} {h : am_H} {a : Nat} {x : va_E} (hh : h[a]? = some x) : (am_w B X cA h)[a]? = some (B + a, am_e B X cA x) := by
  unfold am_w
  rw [List.getElem?_mapIdx, hh]
  rfl
theorem am_w_of {B : Nat} {X : Nat → Option Nat} {cA : Nat → Nat} {h : am_H} {a : Nat} {q : Nat × va_E} (hh : (am_w B X cA h)[a]? = some q) : ∃ x, h[a]? = some x ∧ q = (B + a, am_e B X cA x) := by
  unfold am_w at hh
  rw [List.getElem?_mapIdx] at hh
  cases hx : h[a]? with
  | none => rw [hx] at hh; cases hh
  | some x =>
    rw [hx] at hh
    exact ⟨x, rfl, (Option.some.inj hh).symm⟩
theorem am_w_set (B : Nat) (X : Nat → Option Nat) (cA : Nat → Nat) (h : am_H) (a : Nat) (x : va_E) : (am_w B X cA h).set a (B + a, am_e B X cA x) = am_w B X cA (h.set a x) := by
  refine List.ext_getElem? (fun i => ?_)
  unfold am_w
  rw [List.getElem?_mapIdx, List.getElem?_set, List.getElem?_set, List.length_mapIdx, List.getElem?_mapIdx]
  by_cases hi : a = i
  · subst hi
    rw [if_pos rfl, if_pos rfl]
    by_cases hl : a < h.length
    · rw [if_pos hl, if_pos hl]; rfl
    · rw [if_neg hl, if_neg hl]; rfl
  · rw [if_neg hi, if_neg hi]
theorem am_w_app (B : Nat) (X : Nat → Option Nat) (cA : Nat → Nat) (h : am_H) (x : va_E) : am_w B X cA (h ++ [x]) = am_w B X cA h ++ [(B + h.length, am_e B X cA x)] := by
  unfold am_w
  rw [List.mapIdx_append]
  simp
def am_A (B : Nat) : Nat → Prop := fun q => B ≤ q
theorem am_D (B : Nat) (X : Nat → Option Nat) (cA : Nat → Nat) (h : am_H) : va_D (am_A B) (am_w B X cA h) := by
  refine ⟨fun i j x y hi hj e => ?_, fun k q hk => ?_⟩
  · obtain ⟨_, -, rfl⟩ := am_w_of hi
    obtain ⟨_, -, rfl⟩ := am_w_of hj
    have e2 : B + i = B + j := e
    omega
  · obtain ⟨_, -, rfl⟩ := am_w_of hk
    exact Nat.le_add_right B k
/-- the heap holds the small machine's cells, and they are its last ones -/
def am_R (B : Nat) (X : Nat → Option Nat) (D : va_G) (cA : Nat → Nat) (h : am_H) (H : Heap) : Prop := H.size = B + h.length ∧ va_P D vwCl (am_w B X cA h) H
theorem am_R.put {B : Nat} {X : Nat → Option Nat} {D : va_G} {cA : Nat → Nat} {h : am_H} {H H1 : Heap} {a : Nat} {x0 x : va_E} (hR : am_R B X D cA h H) (h0 : h[a]? = some x0) (z : H1.size = H.size) (oq : ∀ q : Nat, q ≠ B + a → H1[q]? = H[q]?) (he : va_at D vwCl (B + a, am_e B X cA x) H1) : am_R B X D cA (h.set a x) H1 := by
  refine ⟨by rw [z, List.length_set]; exact hR.1, ?_⟩
  rw [← am_w_set]
  exact hR.2.set (am_D B X cA h) (am_w_at h0) he oq
theorem am_R.push {B : Nat} {X : Nat → Option Nat} {D : va_G} {cA : Nat → Nat} {h : am_H} {H H1 : Heap} {x : va_E} (hR : am_R B X D cA h H) (z : H1.size = H.size + 1) (oq : ∀ q : Nat, q < H.size → H1[q]? = H[q]?) (he : va_at D vwCl (B + h.length, am_e B X cA x) H1) : am_R B X D cA (h ++ [x]) H1 := by
  refine ⟨by rw [z, hR.1, List.length_append]; rfl, ?_⟩
  rw [am_w_app]
  refine va_P.app (hR.2.kept (fun k q hq => oq q.1 ((hR.2 k q hq).lt))) (fun k q hq => ?_)
  have hz : k < 1 := (List.getElem?_eq_some_iff.mp hq).1
  rw [show k = 0 by omega] at hq
  cases hq
  exact he
theorem am_S.push {B : Nat} {H0 H H1 : Heap} {locs : List Loc} (hS : va_S (am_A B) H0 H locs) (z : H1.size = H.size + 1) (oq : ∀ q : Nat, q < H.size → H1[q]? = H[q]?) : va_S (am_A B) H0 H1 locs :=
  ⟨Nat.le_trans hS.1 (by omega), fun x h1 h2 => (oq x (Nat.lt_of_lt_of_le h1 hS.1)).trans (hS.2.1 x h1 h2), hS.2.2⟩
/-- the words that every method may use -/
def am_tb : List Cond := lw_tbl.filter goodWord
theorem am_tb_good : GoodIn am_tb am_tb := fun w h => ⟨h, good_of_word (List.mem_filter.mp h).2⟩
/-- the words that no reader of steady words carries -/
def am_isx (w : Cond) : Bool := match w with
  | .castable _ _ => true
  | .methodLinkNest _ _ _ _ => true
  | .declares _ => true
  | _ => false
def am_xw : List Cond := lw_tbl.filter am_isx
theorem am_xw_warm {s U : State} (hW : s.WarmedH U.vm) {w : Cond} (hw : w ∈ am_xw) (h : va_Nw w s) : va_Nw w U := by
  have h1 := (List.mem_filter.mp hw).2
  cases w with
  | castable a b => exact h.warmC hW
  | methodLinkNest a b c d => exact h.warmM hW
  | declares a => exact h.warmD hW
  | _ => cases h1
theorem am_xw_same {s U : State} (hv : U.vm = s.vm) {w : Cond} (hw : w ∈ am_xw) (h : va_Nw w s) : va_Nw w U := by
  have h1 := (List.mem_filter.mp hw).2
  cases w with
  | castable a b => exact h.same rfl hv.symm
  | methodLinkNest a b c d => exact h.same rfl hv.symm
  | declares a => exact h.same rfl hv.symm
  | _ => cases h1
def am_ty (cA : Nat → Nat) : List (ClassId × FieldType) := [(cA 0, .int), (cA 1, .long), (cA 2, .boolean), (cA 3, .object "RodBeads$Rod"), (cA 4, .object "RodBeads$Standing")]
