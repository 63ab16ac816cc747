/-! Rows that write cells, over the small machine's lists. -/
theorem am_map_set (f : Value → Value) (fs : List Value) (k : Nat) (v : Value) : (fs.set k v).map f = (fs.map f).set k (f v) := by
  refine List.ext_getElem? (fun i => ?_)
  rw [List.getElem?_map, List.getElem?_set, List.getElem?_set, List.length_map, List.getElem?_map]
  by_cases hi : k = i
  · subst hi
    rw [if_pos rfl, if_pos rfl]
    by_cases hl : k < fs.length
    · rw [if_pos hl, if_pos hl]; rfl
    · rw [if_neg hl, if_neg hl]; rfl
  · rw [if_neg hi, if_neg hi]
theorem am_rf (B : Nat) (X : Nat → Option Nat) (y : Option Nat) : am_v B X (va_rf y) = va_rf (y.map (fun i => B + i)) := by cases y <;> rfl
theorem am_fit_ok {B : Nat} {X : Nat → Option Nat} {c : Nat} {v : Value} {ty : FieldType} (hf : am_fit c v = true) (ht : am_tyc c ty) : narrow ty (am_v B X v) = am_v B X v ∧ fits ty (am_v B X v) = true := by
  rcases ht with ⟨rfl, rfl⟩ | ⟨rfl, rfl⟩ | ⟨rfl, rfl⟩ | ⟨rfl, ht⟩
  · cases v with
    | int x => exact ⟨rfl, rfl⟩
    | _ => simp [am_fit] at hf
  · cases v with
    | long x => exact ⟨rfl, rfl⟩
    | _ => simp [am_fit] at hf
  · cases v with
    | int x =>
      have h2 : x = 0 ∨ x = 1 := by simpa [am_fit] using hf
      rcases h2 with rfl | rfl
      · exact ⟨show narrow .boolean (.int 0) = .int 0 by decide, show fits .boolean (.int 0) = true by decide⟩
      · exact ⟨show narrow .boolean (.int 1) = .int 1 by decide, show fits .boolean (.int 1) = true by decide⟩
    | _ => simp [am_fit] at hf
  · cases v with
    | null => rcases ht with ⟨n, rfl⟩ | ⟨t, rfl⟩ <;> exact ⟨rfl, rfl⟩
    | ref x => rcases ht with ⟨n, rfl⟩ | ⟨t, rfl⟩ <;> exact ⟨rfl, rfl⟩
    | _ => simp [am_fit] at hf
section AMS
variable {p : Program} {l : Launch} {e : Env} {R : Room} {s : State} {m : MethodId} {args : Array Value} {below : List Frame} {meth : Method} {c : Code} {H : Heap} {locs : List Loc} {cells slots : Nat} {Q : State → Prop}
variable {cc : ByteArray} {pc : Nat} {ls : Array Slot} {rest : List Value} {B : Nat} {X : Nat → Option Nat} {D : va_G} {cA : Nat → Nat} {h : am_H} {H0 : Heap} {tys : List (ClassId × FieldType)}
theorem am_put (hexec : p.tables.exec = Jvm.exec) (hb : c.code = cc) {own ref C : String} {T : u_T} {N ci index : Nat} {ty0 : Nat → FieldType} (hts : ∀ w ∈ am_tb, w.before args s = true) (hcl : am_cl C T N ty0 ci) (hown : s.vm.findClass own = some m.cls) (hK : va_K D vwCl tys s) (hR : am_R B X D cA h H) (hS0 : va_S (am_A B) H0 H locs) {a : Nat} {fs : List Value} (he : h[a]? = some (.inr (ci, fs))) (k : Nat) (hk : k < N) (hlink : (Cond.fieldLink own index ref (T k).2.1 (T k).2.2.1).before args s = true) (hsame : ∀ x, s.fieldFound? (T k).1 (T k).2.1 (T k).2.2.1 = some x → s.fieldFound? ref (T k).2.1 (T k).2.2.1 = some x) (hfin : (T k).2.2.2 = false ∨ ((T k).2.2.2 = true ∧ meth.name = "<init>" ∧ (T k).1 = own)) {v : Value} (hnf : narrow (ty0 k) (am_v B X v) = am_v B X v ∧ fits (ty0 k) (am_v B X v) = true) (hl : k < fs.length)
    (hdg : decode cc pc = .ok (.putfield index, 3)) (kk : ∀ (H1 : Heap) (locs1 : List Loc), am_R B X D cA (h.set a (.inr (ci, fs.set k v))) H1 → va_S (am_A B) H0 H1 locs1 → W p l e R s m args below meth c H1 locs1 cells slots Q (F0 m (pc + 3) ls rest)) : W p l e R s m args below meth c H locs cells slots Q (F0 m pc ls (am_v B X v :: .ref (B + a) :: rest)) := by
  obtain ⟨hc, hin, hty, hnm⟩ := hcl
  have hap := va_apart (own := own) hts hin ty0 hty hnm hK hc
  obtain ⟨r, h1, cell, q1, q2, q3, q4⟩ := hR.2 a _ (am_w_at he)
  have hr : r = (C, T, N) := Option.some.inj (h1.symm.trans hc)
  subst hr
  obtain ⟨hS, hfc, kC, hkC, hkind⟩ := hK.1 ci _ hc
  obtain ⟨cf, kf, fi, f, hi, hsl⟩ := hS k hk
  have hlay := hts _ (hin _ (u_in_lay hk))
  have hst := (u_facts hfc hkC (u_lays hts hin hk) hi).1
  have hl2 : k < (fs.map (am_v B X)).length := by rw [List.length_map]; exact hl
  have fin : ∀ (H1 : Heap), H1[B + a]? = some (cell.setSlot ((D.2 ci) k) (am_v B X v)) → H1.size = H.size → (∀ q, q ≠ B + a → H1[q]? = H[q]?) → W p l e R s m args below meth c H1 (locs ++ [⟨B + a, (D.2 ci) k⟩]) cells slots Q (F0 m (pc + 3) ls rest) := by
    intro H1 e1 e2 e3
    refine kk H1 _ (hR.put he e2 e3 ⟨_, hc, ?_⟩) (hS0.put e2 e3 (Nat.le_add_right B a))
    show t_OB (B + a) _ _ _ H1 (vp_V ((fs.set k v).map (am_v B X)))
    rw [am_map_set]
    exact t_OB.to (V := updV (vp_V (fs.map (am_v B X))) k (am_v B X v)) ⟨_, e1, q2, q3, t_set q4 hap hk (am_v B X v)⟩ (fun j _ => vp_updV_set hl2 (am_v B X v) j)
  rcases hfin with hfin | ⟨hfin, hin2, hdecl⟩
  · unfold u_lay at hlay
    rw [if_neg (by rw [hfin]; decide)] at hlay
    have h6 := u_store hfc hkC hkind hlay hi (hty k hk) hnf.1 hnf.2
    refine W.putK hexec hb (f := f) ⟨hown, hlink, ⟨_, _, _, hsame _ hi⟩, hst⟩ (by rw [q2]; exact h6) q1 q3 (by rw [hsl]; exact k2_hasslot (q4 k hk)) rfl rfl hdg fun H1 e1 e2 e3 => ?_
    rw [hsl] at e1 ⊢
    exact fin H1 e1 e2 e3
  · unfold u_lay at hlay
    rw [if_pos hfin] at hlay
    have hcf : m.cls = cf := by
      obtain ⟨_, _, c', _, _, _, -, -, hf', -, -, -, hown2, -⟩ := Cond.laysFinal_spec hlay
      have e1 : c' = cf := by have := hi.symm.trans hf'; simp at this; exact this.1.symm
      rw [hdecl] at hown2
      rw [← e1]; exact Option.some.inj (hown.symm.trans hown2)
    have h6 := u_fits hfc hkC hkind (Or.inr hlay) hi (hty k hk) hnf.1 hnf.2
    refine W.putFinK hexec hb hown hlink (hsame _ hi) hst hcf hin2 (by rw [q2]; exact h6) q1 q3 (by rw [hsl]; exact k2_hasslot (q4 k hk)) rfl rfl hdg fun H1 e1 e2 e3 => ?_
    rw [hsl] at e1 ⊢
    exact fin H1 e1 e2 e3
theorem am_iast (hexec : p.tables.exec = Jvm.exec) (hb : c.code = cc) (hK : va_K D vwCl (am_ty cA) s) (hR : am_R B X D cA h H) (hS : va_S (am_A B) H0 H locs) {a n : Nat} {f : Nat → Int32} (ha : h[a]? = some (.inl (0, n, .inl f))) {i x : Int32} (hin : vp_in i n) (hdg : decode cc pc = .ok (.iastore, 1))
    (kk : ∀ (H1 : Heap) (locs1 : List Loc), am_R B X D cA (h.set a (.inl (0, n, .inl (upd f i.toNatClampNeg x)))) H1 → va_S (am_A B) H0 H1 locs1 → W p l e R s m args below meth c H1 locs1 cells slots Q (F0 m (pc + 1) ls rest)) : W p l e R s m args below meth c H locs cells slots Q (F0 m pc ls (.int x :: .int i :: .ref (B + a) :: rest)) := by
  have hcell : H[B + a]? = some (arrV (cA 0) n (fun j => .int (f j))) := hR.2 a _ (am_w_at ha)
  refine W.iast hexec hb hcell ((hK.2 0 _ rfl).1 n (fun j => .int (f j))) (fun q => by cases q) (by rw [arrV_size]; exact hin) rfl rfl hdg fun H1 e1 z oq => ?_
  refine kk H1 _ (hR.put ha z oq ?_) (hS.put z oq (Nat.le_add_right B a))
  show H1[B + a]? = some (arrV (cA 0) n (fun j => .int (upd f i.toNatClampNeg x j)))
  rw [e1, arrV_store]
  congr 2
  funext q
  by_cases hq : q = i.toNatClampNeg
  · simp [updV, upd, hq]
  · simp [updV, upd, hq]
theorem am_last (hexec : p.tables.exec = Jvm.exec) (hb : c.code = cc) (hK : va_K D vwCl (am_ty cA) s) (hR : am_R B X D cA h H) (hS : va_S (am_A B) H0 H locs) {a n : Nat} {f : Nat → Int64} (ha : h[a]? = some (.inl (1, n, .inr (.inl f)))) {i : Int32} {x : Int64} (hin : vp_in i n) (hdg : decode cc pc = .ok (.lastore, 1))
    (kk : ∀ (H1 : Heap) (locs1 : List Loc), am_R B X D cA (h.set a (.inl (1, n, .inr (.inl (vp_updL f i.toNatClampNeg x))))) H1 → va_S (am_A B) H0 H1 locs1 → W p l e R s m args below meth c H1 locs1 cells slots Q (F0 m (pc + 1) ls rest)) : W p l e R s m args below meth c H locs cells slots Q (F0 m pc ls (.long x :: .int i :: .ref (B + a) :: rest)) := by
  have hcell : H[B + a]? = some (arrV (cA 1) n (fun j => .long (f j))) := hR.2 a _ (am_w_at ha)
  refine W.last hexec hb hcell ((hK.2 1 _ rfl).1 n (fun j => .long (f j))) (fun q => by cases q) (by rw [arrV_size]; exact hin) rfl rfl hdg fun H1 e1 z oq => ?_
  refine kk H1 _ (hR.put ha z oq ?_) (hS.put z oq (Nat.le_add_right B a))
  show H1[B + a]? = some (arrV (cA 1) n (fun j => .long (vp_updL f i.toNatClampNeg x j)))
  rw [e1, arrV_store]
  congr 2
  funext q
  by_cases hq : q = i.toNatClampNeg
  · simp [updV, vp_updL, hq]
  · simp [updV, vp_updL, hq]
theorem am_zast (hexec : p.tables.exec = Jvm.exec) (hb : c.code = cc) (hK : va_K D vwCl (am_ty cA) s) (hR : am_R B X D cA h H) (hS : va_S (am_A B) H0 H locs) {a n : Nat} {f : Nat → Int32} (ha : h[a]? = some (.inl (2, n, .inl f))) {i x : Int32} (hin : vp_in i n) (hx1 : x = 0 ∨ x = 1) (hdg : decode cc pc = .ok (.bastore, 1))
    (kk : ∀ (H1 : Heap) (locs1 : List Loc), am_R B X D cA (h.set a (.inl (2, n, .inl (upd f i.toNatClampNeg x)))) H1 → va_S (am_A B) H0 H1 locs1 → W p l e R s m args below meth c H1 locs1 cells slots Q (F0 m (pc + 1) ls rest)) : W p l e R s m args below meth c H locs cells slots Q (F0 m pc ls (.int x :: .int i :: .ref (B + a) :: rest)) := by
  have hcell : H[B + a]? = some (arrV (cA 2) n (fun j => .int (f j))) := hR.2 a _ (am_w_at ha)
  have hnr : narrow .boolean (.int x) = .int x := by rcases hx1 with rfl | rfl <;> decide
  refine W.zast hexec hb hcell ((hK.2 2 _ rfl).1 n (fun j => .int (f j))) (fun q => by cases q) (by rw [arrV_size]; exact hin) rfl rfl hdg fun H1 e1 z oq => ?_
  refine kk H1 _ (hR.put ha z oq ?_) (hS.put z oq (Nat.le_add_right B a))
  show H1[B + a]? = some (arrV (cA 2) n (fun j => .int (upd f i.toNatClampNeg x j)))
  rw [e1, arrV_store, hnr]
  congr 2
  funext q
  by_cases hq : q = i.toNatClampNeg
  · simp [updV, upd, hq]
  · simp [updV, upd, hq]
theorem am_aastN (hexec : p.tables.exec = Jvm.exec) (hb : c.code = cc) (hK : va_K D vwCl (am_ty cA) s) (hR : am_R B X D cA h H) (hS : va_S (am_A B) H0 H locs) {a t n : Nat} {f : Nat → Option Nat} (ha : h[a]? = some (.inl (t, n, .inr (.inr (.inr (.inr f)))))) (ht : t = 3 ∨ t = 4) {i : Int32} (hin : vp_in i n) (hdg : decode cc pc = .ok (.aastore, 1))
    (kk : ∀ (H1 : Heap) (locs1 : List Loc), am_R B X D cA (h.set a (.inl (t, n, .inr (.inr (.inr (.inr (va_up f i.toNatClampNeg none))))))) H1 → va_S (am_A B) H0 H1 locs1 → W p l e R s m args below meth c H1 locs1 cells slots Q (F0 m (pc + 1) ls rest)) : W p l e R s m args below meth c H locs cells slots Q (F0 m pc ls (.null :: .int i :: .ref (B + a) :: rest)) := by
  have hcell : H[B + a]? = some (arrV (cA t) n (fun j => va_rf ((f j).map (fun i => B + i)))) := hR.2 a _ (am_w_at ha)
  have hty : ∃ C, (am_ty cA)[t]? = some (cA t, .object C) := by rcases ht with rfl | rfl <;> exact ⟨_, rfl⟩
  obtain ⟨C, hty⟩ := hty
  refine va_WaastN hexec hb hcell ((hK.2 t _ hty).1 n (fun j => va_rf ((f j).map (fun i => B + i)))) (fun q => by cases q) (by rw [arrV_size]; exact hin) rfl rfl hdg fun H1 e1 z oq => ?_
  refine kk H1 _ (hR.put ha z oq ?_) (hS.put z oq (Nat.le_add_right B a))
  show H1[B + a]? = some (arrV (cA t) n (fun j => va_rf ((va_up f i.toNatClampNeg none j).map (fun i => B + i))))
  rw [e1, arrV_store]
  congr 2
  funext q
  by_cases hq : q = i.toNatClampNeg
  · simp [updV, va_up, hq, va_rf]
  · simp [updV, va_up, hq]
theorem am_aast (hexec : p.tables.exec = Jvm.exec) (hb : c.code = cc) (hts : ∀ w ∈ am_tb, w.before args s = true) (hK : va_K D vwCl (am_ty cA) s) (hR : am_R B X D cA h H) (hS : va_S (am_A B) H0 H locs) {a v t n ci : Nat} {fs : List Value} {f : Nat → Option Nat} (ha : h[a]? = some (.inl (t, n, .inr (.inr (.inr (.inr f)))))) (hv : h[v]? = some (.inr (ci, fs))) {E : String} {r : vw_C} (hty : (am_ty cA)[t]? = some (cA t, .object E)) (hc : vwCl[ci]? = some r) (hca : r.1 = E ∨ va_Nw (.castable r.1 E) s) {i : Int32} (hin : vp_in i n) (hdg : decode cc pc = .ok (.aastore, 1))
    (kk : ∀ (H1 : Heap) (locs1 : List Loc), am_R B X D cA (h.set a (.inl (t, n, .inr (.inr (.inr (.inr (va_up f i.toNatClampNeg (some v)))))))) H1 → va_S (am_A B) H0 H1 locs1 → W p l e R s m args below meth c H1 locs1 cells slots Q (F0 m (pc + 1) ls rest)) : W p l e R s m args below meth c H locs cells slots Q (F0 m pc ls (.ref (B + v) :: .int i :: .ref (B + a) :: rest)) := by
  have hcell : H[B + a]? = some (arrV (cA t) n (fun j => va_rf ((f j).map (fun i => B + i)))) := hR.2 a _ (am_w_at ha)
  have hlt : i.toNatClampNeg < n := Nat.not_le.mp fun q => hin (Or.inr q)
  have h0 : ¬ i < 0 := fun q => hin (Or.inl q)
  obtain ⟨r', hr', cellV, g1, g2, g3, -⟩ := hR.2 v _ (am_w_at hv)
  have hcls := (hK.1 ci r hc).2
  obtain ⟨kC, hkC, -⟩ := hcls.2
  obtain ⟨kA, comp, k1, k2, k3, -⟩ := (hK.2 t _ hty).2
  have hasg : s.vm.assignable (D.1 ci) comp = true ∧ ∃ kc, s.vm.classes[comp]? = some kc := by
    rcases hca with he | he
    · have hcomp : comp = D.1 ci := by
        have h2 : s.vm.findClass E = some (D.1 ci) := by rw [← he]; exact hcls.1
        exact Option.some.inj (k3.symm.trans h2)
      rw [hcomp]
      exact ⟨va_assign hcls, kC, hkC⟩
    · obtain ⟨c1, c2, f1, f2, f3⟩ := Cond.castable_spec (va_Nw.use (A := args) rfl he)
      have e1 : c1 = D.1 ci := Option.some.inj (f1.symm.trans hcls.1)
      have e2 : c2 = comp := Option.some.inj (f2.symm.trans k3)
      subst e1; subst e2
      obtain ⟨kE, hkE, -⟩ := Vm.findClass_spec k3
      exact ⟨f3, kE, hkE⟩
  obtain ⟨hasg, kc, hkc⟩ := hasg
  refine W.aast hexec hb hcell (fun q h => by cases h) (fun h => by cases h) k1 k2 rfl hkc ⟨h0, by rw [arrV_size]; exact hlt⟩ g1 (fun q h => by rw [g3] at h; cases h) (by rw [g2]; exact hkC) (by rw [g2]; exact hasg) rfl rfl hdg fun H1 e1 z oq => ?_
  refine kk H1 _ (hR.put ha z oq ?_) (hS.put z oq (Nat.le_add_right B a))
  show H1[B + a]? = some (arrV (cA t) n (fun j => va_rf ((va_up f i.toNatClampNeg (some v) j).map (fun i => B + i))))
  rw [e1, arrV_store]
  congr 2
  funext q
  by_cases hq : q = i.toNatClampNeg
  · simp [updV, va_up, hq, va_rf]
  · simp [updV, va_up, hq]
end AMS
theorem am_plain {B : Nat} {X : Nat → Option Nat} {fs : List Value} (h : ∀ v ∈ fs, (∀ i, v ≠ .ref i) ∧ ∀ i, v ≠ .retAddr i) : fs.map (am_v B X) = fs := by
  refine (List.map_congr_left (fun v hv => ?_)).trans (List.map_id fs)
  have h1 := h v hv
  cases v with
  | ref i => exact absurd rfl (h1.1 i)
  | retAddr i => exact absurd rfl (h1.2 i)
  | _ => rfl
theorem am_born {B : Nat} {X : Nat → Option Nat} {D : va_G} {cA : Nat → Nat} {s : State} {H1 : Heap} {t : ArrayType} {n q : Nat} {c1 : ClassId} (hK : va_K D vwCl (am_ty cA) s) (htag : am_tag t ≠ 9) (hNm : s.vm.findClass ("[" ++ (newarray.typeOf t).toString) = some c1) (e1 : H1[q]? = some (arrV c1 n (fun _ => defaultValue (newarray.typeOf t)))) : va_at D vwCl (q, am_e B X cA (.inl (am_tag t, n, am_zero (am_tag t)))) H1 := by
  cases t with
  | int =>
    have e2 : s.vm.findClass ("[" ++ FieldType.int.toString) = some (cA 0) := (hK.2 0 _ rfl).2
    cases hNm.symm.trans e2
    exact e1
  | long =>
    have e2 : s.vm.findClass ("[" ++ FieldType.long.toString) = some (cA 1) := (hK.2 1 _ rfl).2
    cases hNm.symm.trans e2
    exact e1
  | boolean =>
    have e2 : s.vm.findClass ("[" ++ FieldType.boolean.toString) = some (cA 2) := (hK.2 2 _ rfl).2
    cases hNm.symm.trans e2
    exact e1
  | _ => exact absurd rfl htag
theorem am_may_ok {cA : Nat → Nat} {t ci : Nat} (h : am_may t ci = true) : ∃ (E : String) (r : vw_C), (am_ty cA)[t]? = some (cA t, .object E) ∧ vwCl[ci]? = some r ∧ (r.1 = E ∨ Cond.castable r.1 E ∈ am_xw) := by
  have h2 : (t = 4 ∧ ci = 5) ∨ (t = 3 ∧ (ci = 0 ∨ ci = 2 ∨ ci = 3 ∨ ci = 4)) := by
    simp only [am_may, Bool.or_eq_true, Bool.and_eq_true, beq_iff_eq] at h
    omega
  rcases h2 with ⟨rfl, rfl⟩ | ⟨rfl, rfl | rfl | rfl | rfl⟩
  · exact ⟨_, _, rfl, rfl, Or.inl rfl⟩
  · exact ⟨_, _, rfl, rfl, Or.inr (List.mem_filter.mpr ⟨by decide +kernel, rfl⟩)⟩
  · exact ⟨_, _, rfl, rfl, Or.inr (List.mem_filter.mpr ⟨by decide +kernel, rfl⟩)⟩
  · exact ⟨_, _, rfl, rfl, Or.inr (List.mem_filter.mpr ⟨by decide +kernel, rfl⟩)⟩
  · exact ⟨_, _, rfl, rfl, Or.inr (List.mem_filter.mpr ⟨by decide +kernel, rfl⟩)⟩
theorem am_call_inv {M : Nat} {as r : List Value} {o : am_O} (h : am_call M as r = some o) : (r.map fun v => v.category).sum ≤ 8 ∧ o = .inr (.inr (M, as, r)) := by
  unfold am_call at h
  split at h
  · rename_i hc
    exact ⟨hc, (Option.some.inj h).symm⟩
  · cases h
theorem am_spc_inv {rs : List Nat} {pc : Nat} {l : am_L} {st : List Value} {h : am_H} {f' : am_F} {h' : am_H} (hd : am_spc rs pc l st h = some (.inl (f', h'))) : rs = [] ∧ ∃ (a : Nat) (r : List Value), st = .ref a :: r ∧ (r.map fun v => v.category).sum ≤ 8 ∧ (Sum.inl (f', h') : am_O) = .inl ((pc + 3, l, r), h) := by
  unfold am_spc at hd
  split at hd
  · split at hd
    · split at hd
      · rename_i hc
        exact ⟨rfl, _, _, rfl, hc, (Option.some.inj hd).symm⟩
      · cases hd
    · cases hd
  · split at hd
    · have := (am_call_inv hd).2
      cases this
    · cases hd
  · cases hd
theorem am_ret_inv {t : Nat} {st : List Value} {o : am_O} (hd : am_ret t st = some o) : ∃ x : Int32, st = [.int x] ∧ am_nw t x = true ∧ o = .inr (.inl (some (.int x))) := by
  unfold am_ret at hd
  split at hd
  · split at hd
    · rename_i hc
      exact ⟨_, rfl, hc, (Option.some.inj hd).symm⟩
    · cases hd
  · cases hd
theorem am_retL_inv {st : List Value} {o : am_O} (hd : am_retL st = some o) : ∃ x : Int64, st = [.long x] ∧ o = .inr (.inl (some (.long x))) := by
  unfold am_retL at hd
  split at hd
  · exact ⟨_, rfl, (Option.some.inj hd).symm⟩
  · cases hd
theorem am_retA_inv {st : List Value} {o : am_O} (hd : am_retA st = some o) : ∃ v : Value, st = [v] ∧ (v = .null ∨ ∃ a, v = .ref a) ∧ o = .inr (.inl (some v)) := by
  unfold am_retA at hd
  split at hd
  · exact ⟨_, rfl, Or.inr ⟨_, rfl⟩, (Option.some.inj hd).symm⟩
  · exact ⟨_, rfl, Or.inl rfl, (Option.some.inj hd).symm⟩
  · cases hd
theorem am_retV_inv {st : List Value} {o : am_O} (hd : am_retV st = some o) : st = [] ∧ o = .inr (.inl none) := by
  unfold am_retV at hd
  split at hd
  · exact ⟨rfl, (Option.some.inj hd).symm⟩
  · cases hd
theorem am_sta_inv {rs : List Nat} {st : List Value} {o : am_O} (hd : am_sta rs st = some o) : ∃ (n M : Nat) (as r : List Value), rs = [n, M] ∧ am_pop n st = some (as, r) ∧ (r.map fun v => v.category).sum ≤ 8 ∧ o = .inr (.inr (M, as, r)) := by
  unfold am_sta at hd
  split at hd
  · split at hd
    · rename_i hp
      exact ⟨_, _, _, _, rfl, hp, (am_call_inv hd).1, (am_call_inv hd).2⟩
    · cases hd
  · cases hd
theorem am_inv_inv {rs : List Nat} {st : List Value} {h : am_H} {o : am_O} (hd : am_inv rs st h = some o) : ∃ (n : Nat) (ds : List Nat) (as : List Value) (v : Value) (r : List Value) (ci M : Nat), rs = n :: ds ∧ am_pop n st = some (as, v :: r) ∧ am_rec h v = some ci ∧ am_dis ds ci = some M ∧ (r.map fun v => v.category).sum ≤ 8 ∧ o = .inr (.inr (M, v :: as, r)) := by
  unfold am_inv at hd
  split at hd
  · split at hd
    · rename_i hp
      split at hd
      · rename_i hr
        split at hd
        · rename_i hm
          exact ⟨_, _, _, _, _, _, _, rfl, hp, hr, hm, (am_call_inv hd).1, (am_call_inv hd).2⟩
        · cases hd
      · cases hd
    · cases hd
  · cases hd
theorem am_spc_inv2 {rs : List Nat} {pc : Nat} {l : am_L} {st : List Value} {h : am_H} {o : Option Value ⊕ (Nat × List Value × List Value)} (hd : am_spc rs pc l st h = some (.inr o)) : ∃ (n M : Nat) (as : List Value) (a : Nat) (r : List Value), rs = [n, M] ∧ am_pop n st = some (as, .ref a :: r) ∧ (r.map fun v => v.category).sum ≤ 8 ∧ o = .inr (M, .ref a :: as, r) := by
  unfold am_spc at hd
  split at hd
  · split at hd
    · split at hd
      · cases hd
      · cases hd
    · cases hd
  · split at hd
    · rename_i hp
      exact ⟨_, _, _, _, _, rfl, hp, (am_call_inv hd).1, Sum.inr.inj (am_call_inv hd).2⟩
    · cases hd
  · cases hd
theorem am_pop_inv {n : Nat} {st as r : List Value} (h : am_pop n st = some (as, r)) : st = as.reverse ++ r ∧ as.length = n := by
  unfold am_pop at h
  split at h
  · rename_i hn
    cases h
    refine ⟨?_, ?_⟩
    · rw [List.reverse_reverse, List.take_append_drop]
    · rw [List.length_reverse, List.length_take]
      omega
  · cases h
