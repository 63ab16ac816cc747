/-! Each instruction of the small machine that goes on is the machine's own. -/
theorem am_inl {f f' : am_F} {h h' : am_H} (e : (Sum.inl (f', h') : am_O) = Sum.inl (f, h)) : f' = f ∧ h' = h := by
  cases e
  exact ⟨rfl, rfl⟩
theorem am_bt {P : Bool} {a b : Nat} (h : P = true) : a = bif P then a else b := by rw [h]; rfl
theorem am_bf {P : Bool} {a b : Nat} (h : P = false) : b = bif P then a else b := by rw [h]; rfl
theorem am_len_tx (i : Nat) : (am_tx.map List.length).getD i 0 = (am_tx.getD i []).length := by
  rw [List.getD_eq_getElem?_getD, List.getD_eq_getElem?_getD, List.getElem?_map]
  cases am_tx[i]? <;> rfl
section AMG
variable {p : Program} {l : Launch} {e : Env} {R : Room} {s : State} {m : MethodId} {args : Array Value} {below : List Frame} {meth : Method} {c : Code} {H : Heap} {locs : List Loc} {cells slots : Nat} {Q : State → Prop}
variable {cc : ByteArray} {pc : Nat} {ls : Array Slot} {rest : List Value}
theorem am_aloadq (hx : p.tables.exec = Jvm.exec) (hb : c.code = cc) {i : Nat} {y : Option Nat} (hd : decode cc pc = .ok (.aload i, 2)) (hl : ls[i]? = some (.val (va_rf y))) (k : W p l e R s m args below meth c H locs cells slots Q (F0 m (pc + 2) ls (va_rf y :: rest))) : W p l e R s m args below meth c H locs cells slots Q (F0 m pc ls rest) := by
  cases y with
  | none => exact lv_aloadN hx hb hd hl k
  | some a => exact lv_aload hx hb hd hl k
theorem am_aload_nq (hx : p.tables.exec = Jvm.exec) (hb : c.code = cc) {i : Fin 4} {y : Option Nat} (hd : decode cc pc = .ok (.aload_n i, 1)) (hl : ls[(i : Nat)]? = some (.val (va_rf y))) (k : W p l e R s m args below meth c H locs cells slots Q (F0 m (pc + 1) ls (va_rf y :: rest))) : W p l e R s m args below meth c H locs cells slots Q (F0 m pc ls rest) := by
  cases y with
  | none => exact lv_aload_nN hx hb hd rfl hl k
  | some a => exact lv_aload_n hx hb hd rfl hl k
theorem am_astoreq (hx : p.tables.exec = Jvm.exec) (hb : c.code = cc) {i nL : Nat} {y : Option Nat} {lv lv' : List (Nat × Value)} (hd : decode cc pc = .ok (.astore i, 2)) (h : lv_has ls nL lv) (hn : i < nL) (hl : (i, va_rf y) :: lv.filter (fun q => !(q.1 == i) && !(q.1 + 1 == i && q.2.category == 2)) = lv') (kk : ∀ ls' : Array Slot, lv_has ls' nL lv' → W p l e R s m args below meth c H locs cells slots Q (F0 m (pc + 2) ls' rest)) : W p l e R s m args below meth c H locs cells slots Q (F0 m pc ls (va_rf y :: rest)) := by
  cases y with
  | none => exact lv_astoreN hx hb hd h hn hl kk
  | some a => exact lv_astore hx hb hd h hn hl kk
theorem am_astore_nq (hx : p.tables.exec = Jvm.exec) (hb : c.code = cc) {i : Fin 4} {nL : Nat} {y : Option Nat} {lv lv' : List (Nat × Value)} (hd : decode cc pc = .ok (.astore_n i, 1)) (h : lv_has ls nL lv) (hn : (i : Nat) < nL) (hl : ((i : Nat), va_rf y) :: lv.filter (fun q => !(q.1 == (i : Nat)) && !(q.1 + 1 == (i : Nat) && q.2.category == 2)) = lv') (kk : ∀ ls' : Array Slot, lv_has ls' nL lv' → W p l e R s m args below meth c H locs cells slots Q (F0 m (pc + 1) ls' rest)) : W p l e R s m args below meth c H locs cells slots Q (F0 m pc ls (va_rf y :: rest)) := by
  cases y with
  | none => exact lv_astore_nN hx hb hd rfl h hn hl kk
  | some a => exact lv_astore_n hx hb hd rfl h hn hl kk
end AMG
set_option maxHeartbeats 4000000 in
theorem am_snd {B : Nat} {X : Nat → Option Nat} {D : va_G} {cA : Nat → Nat} {sc : Nat × (Nat → Int32)} {own nm : String} {cc : ByteArray} {nL : Nat} {ret : Option FieldType} {df : Nat → List Value}
    {p : Program} {l : Launch} {e : Env} {R : Room} {s : State} {m : MethodId} {args : Array Value} {below : List Frame} {meth : Method} {c : Code} {H : Heap} {locs : List Loc} {cells slots : Nat} {Q : State → Prop} {ls : Array Slot}
    (hC : am_C B X D cA sc own nm cc nL ret p s m args meth c) (hF : 1 ≤ R.frames ∧ 21 ≤ R.locals) {q : am_I} (hd : decode cc q.1 = .ok (q.2.1, q.2.2.1)) (hok : am_okP df own nm nL ret q) {l0 : am_L} {st : List Value} {h : am_H} (hl : lv_has ls nL (am_lm B X l0)) (hR : am_R B X D cA h H) (hS : va_S (am_A B) s.heap H locs)
    {f' : am_F} {h' : am_H} (hdo : am_do df sc q l0 st h = some (.inl (f', h'))) (hc : cells + (h'.length - h.length) ≤ R.cells) (hs : slots + (am_sl h' - am_sl h) ≤ R.slots)
    (k : ∀ (ls' : Array Slot) (H' : Heap) (locs' : List Loc), lv_has ls' nL (am_lm B X f'.2.1) → am_R B X D cA h' H' → va_S (am_A B) s.heap H' locs' → W p l e R s m args below meth c H' locs' (cells + (h'.length - h.length)) (slots + (am_sl h' - am_sl h)) Q (F0 m f'.1 ls' (am_vs B X f'.2.2))) :
    W p l e R s m args below meth c H locs cells slots Q (F0 m q.1 ls (am_vs B X st)) := by
  obtain ⟨hx, hb, hml, hown, hts, hret, hlocks, hnm, hG⟩ := hC
  obtain ⟨pc, ins, len, rs, cv⟩ := q
  obtain ⟨hK, ⟨b0, hb0, hbB, hX0⟩, hBs, ⟨adK, adV, hst, hvk, hvr⟩, hnc, hz, hfm, hao1, hao2, hxw⟩ := id hG
  cases ins with
  | iconst n =>
    have hok : len = 1 := hok
    subst hok
    have e1 := (Option.some.inj (show some _ = some _ from hdo)).symm
    obtain ⟨rfl, e2⟩ := am_inl e1
    subst e2
    simp only [Nat.sub_self, Nat.add_zero] at k
    exact lv_iconst hx hb hd rfl (k ls H locs hl hR hS)
  | bipush n =>
    have hok : len = 2 := hok
    subst hok
    have e1 := (Option.some.inj (show some _ = some _ from hdo)).symm
    obtain ⟨rfl, e2⟩ := am_inl e1
    subst e2
    simp only [Nat.sub_self, Nat.add_zero] at k
    exact lv_bipush hx hb hd rfl (k ls H locs hl hR hS)
  | sipush n =>
    have hok : len = 3 := hok
    subst hok
    have e1 := (Option.some.inj (show some _ = some _ from hdo)).symm
    obtain ⟨rfl, e2⟩ := am_inl e1
    subst e2
    simp only [Nat.sub_self, Nat.add_zero] at k
    exact lv_sipush hx hb hd rfl (k ls H locs hl hR hS)
  | lconst n =>
    have hok : len = 1 := hok
    subst hok
    have e1 := (Option.some.inj (show some _ = some _ from hdo)).symm
    obtain ⟨rfl, e2⟩ := am_inl e1
    subst e2
    simp only [Nat.sub_self, Nat.add_zero] at k
    exact lv_lconst hx hb hd rfl (k ls H locs hl hR hS)
  | aconst_null =>
    have hok : len = 1 := hok
    subst hok
    have e1 := (Option.some.inj (show some _ = some _ from hdo)).symm
    obtain ⟨rfl, e2⟩ := am_inl e1
    subst e2
    simp only [Nat.sub_self, Nat.add_zero] at k
    exact lv_null hx hb hd (k ls H locs hl hR hS)
  | ldc idx =>
    obtain ⟨rfl, hok⟩ : len = 2 ∧ _ := hok
    have e1 := (Option.some.inj (show some _ = some _ from hdo)).symm
    obtain ⟨rfl, e2⟩ := am_inl e1
    subst e2
    simp only [Nat.sub_self, Nat.add_zero] at k
    rcases hok with ⟨x, rfl, hw⟩ | ⟨i, tx, rfl, hi, hsr⟩
    · exact lv_ldc hx hb hown (hts _ hw) hd (k ls H locs hl hR hS)
    · refine va_ldcS hx hb hown (hvr i _ hsr) hd ?_
      have e3 : am_v B X (.retAddr (i + 1)) = .ref (adK i) := by
        show va_rf (X (i + 1)) = _
        rw [(hst i hi).1]; rfl
      rw [← e3]
      exact k ls H locs hl hR hS
  | ldc_w idx =>
    obtain ⟨rfl, x, rfl, hw⟩ : len = 3 ∧ _ := hok
    have e1 := (Option.some.inj (show some _ = some _ from hdo)).symm
    obtain ⟨rfl, e2⟩ := am_inl e1
    subst e2
    simp only [Nat.sub_self, Nat.add_zero] at k
    exact lv_ldcw hx hb hown (hts _ hw) hd (k ls H locs hl hR hS)
  | ldc2_w idx =>
    obtain ⟨rfl, x, rfl, hw⟩ : len = 3 ∧ _ := hok
    have e1 := (Option.some.inj (show some _ = some _ from hdo)).symm
    obtain ⟨rfl, e2⟩ := am_inl e1
    subst e2
    simp only [Nat.sub_self, Nat.add_zero] at k
    exact lv_ldc2 hx hb hown (hts _ hw) hd (k ls H locs hl hR hS)
  | getstatic idx =>
    obtain ⟨rfl, hok⟩ : len = 3 ∧ _ := hok
    have e1 := (Option.some.inj (show some _ = some _ from hdo)).symm
    obtain ⟨rfl, e2⟩ := am_inl e1
    subst e2
    simp only [Nat.sub_self, Nat.add_zero] at k
    rcases hok with ⟨rfl, hw⟩ | ⟨rfl, hw⟩
    · exact va_gets hx hb hz hS hown (hts _ hw) (fun _ h9 => h9) hd (k ls H locs hl hR hS)
    · exact va_gets hx hb hfm hS hown (hts _ hw) (fun _ h9 => h9) hd (k ls H locs hl hR hS)
  | iload_n i =>
    have hok : len = 1 := hok
    subst hok
    obtain ⟨x, hg, e1⟩ := am_ldI_inv (show am_ldI _ _ _ _ _ = _ from hdo)
    obtain ⟨rfl, e2⟩ := am_inl e1
    subst e2
    simp only [Nat.sub_self, Nat.add_zero] at k
    exact lv_iload_n hx hb hd rfl (am_lg_at hl hg) (k ls H locs hl hR hS)
  | iload i =>
    have hok : len = 2 := hok
    subst hok
    obtain ⟨x, hg, e1⟩ := am_ldI_inv (show am_ldI _ _ _ _ _ = _ from hdo)
    obtain ⟨rfl, e2⟩ := am_inl e1
    subst e2
    simp only [Nat.sub_self, Nat.add_zero] at k
    exact lv_iload hx hb hd (am_lg_at hl hg) (k ls H locs hl hR hS)
  | lload_n i =>
    have hok : len = 1 := hok
    subst hok
    obtain ⟨x, hg, e1⟩ := am_ldL_inv (show am_ldL _ _ _ _ _ = _ from hdo)
    obtain ⟨rfl, e2⟩ := am_inl e1
    subst e2
    simp only [Nat.sub_self, Nat.add_zero] at k
    exact lv_lload_n hx hb hd rfl (am_lg_at hl hg) (k ls H locs hl hR hS)
  | lload i =>
    have hok : len = 2 := hok
    subst hok
    obtain ⟨x, hg, e1⟩ := am_ldL_inv (show am_ldL _ _ _ _ _ = _ from hdo)
    obtain ⟨rfl, e2⟩ := am_inl e1
    subst e2
    simp only [Nat.sub_self, Nat.add_zero] at k
    exact lv_lload hx hb hd (am_lg_at hl hg) (k ls H locs hl hR hS)
  | aload_n i =>
    have hok : len = 1 := hok
    subst hok
    rcases am_ldA_inv (show am_ldA _ _ _ _ _ = _ from hdo) with ⟨x, hg, e1⟩ | ⟨hg, e1⟩ | ⟨x, hg, e1⟩
    · obtain ⟨rfl, e2⟩ := am_inl e1; subst e2; simp only [Nat.sub_self, Nat.add_zero] at k; exact lv_aload_n hx hb hd rfl (am_lg_at hl hg) (k ls H locs hl hR hS)
    · obtain ⟨rfl, e2⟩ := am_inl e1; subst e2; simp only [Nat.sub_self, Nat.add_zero] at k; exact lv_aload_nN hx hb hd rfl (am_lg_at hl hg) (k ls H locs hl hR hS)
    · obtain ⟨rfl, e2⟩ := am_inl e1; subst e2; simp only [Nat.sub_self, Nat.add_zero] at k; exact am_aload_nq hx hb hd (am_lg_at hl hg) (k ls H locs hl hR hS)
  | aload i =>
    have hok : len = 2 := hok
    subst hok
    rcases am_ldA_inv (show am_ldA _ _ _ _ _ = _ from hdo) with ⟨x, hg, e1⟩ | ⟨hg, e1⟩ | ⟨x, hg, e1⟩
    · obtain ⟨rfl, e2⟩ := am_inl e1; subst e2; simp only [Nat.sub_self, Nat.add_zero] at k; exact lv_aload hx hb hd (am_lg_at hl hg) (k ls H locs hl hR hS)
    · obtain ⟨rfl, e2⟩ := am_inl e1; subst e2; simp only [Nat.sub_self, Nat.add_zero] at k; exact lv_aloadN hx hb hd (am_lg_at hl hg) (k ls H locs hl hR hS)
    · obtain ⟨rfl, e2⟩ := am_inl e1; subst e2; simp only [Nat.sub_self, Nat.add_zero] at k; exact am_aloadq hx hb hd (am_lg_at hl hg) (k ls H locs hl hR hS)
  | istore_n i =>
    have hok : len = 1 ∧ (i : Nat) < nL := hok
    obtain ⟨rfl, ok2⟩ := hok
    obtain ⟨x, r, rfl, e1⟩ := am_stI_inv (show am_stI _ _ _ _ _ = _ from hdo)
    obtain ⟨rfl, e2⟩ := am_inl e1
    subst e2
    simp only [Nat.sub_self, Nat.add_zero] at k
    exact lv_istore_n hx hb hd rfl hl ok2 rfl (fun ls' hl' => k ls' H locs (am_lm_s1 hl') hR hS)
  | istore i =>
    have hok : len = 2 ∧ i < nL := hok
    obtain ⟨rfl, ok2⟩ := hok
    obtain ⟨x, r, rfl, e1⟩ := am_stI_inv (show am_stI _ _ _ _ _ = _ from hdo)
    obtain ⟨rfl, e2⟩ := am_inl e1
    subst e2
    simp only [Nat.sub_self, Nat.add_zero] at k
    exact lv_istore hx hb hd hl ok2 rfl (fun ls' hl' => k ls' H locs (am_lm_s1 hl') hR hS)
  | lstore_n i =>
    have hok : len = 1 ∧ (i : Nat) + 1 < nL := hok
    obtain ⟨rfl, ok2⟩ := hok
    obtain ⟨x, r, rfl, e1⟩ := am_stL_inv (show am_stL _ _ _ _ _ = _ from hdo)
    obtain ⟨rfl, e2⟩ := am_inl e1
    subst e2
    simp only [Nat.sub_self, Nat.add_zero] at k
    exact lv_lstore_n hx hb hd rfl hl ok2 rfl (fun ls' hl' => k ls' H locs (am_lm_s2 hl') hR hS)
  | lstore i =>
    have hok : len = 2 ∧ i + 1 < nL := hok
    obtain ⟨rfl, ok2⟩ := hok
    obtain ⟨x, r, rfl, e1⟩ := am_stL_inv (show am_stL _ _ _ _ _ = _ from hdo)
    obtain ⟨rfl, e2⟩ := am_inl e1
    subst e2
    simp only [Nat.sub_self, Nat.add_zero] at k
    exact lv_lstore hx hb hd hl ok2 rfl (fun ls' hl' => k ls' H locs (am_lm_s2 hl') hR hS)
  | astore_n i =>
    have hok : len = 1 ∧ (i : Nat) < nL := hok
    obtain ⟨rfl, ok2⟩ := hok
    rcases am_stA_inv (show am_stA _ _ _ _ _ = _ from hdo) with ⟨x, r, rfl, e1⟩ | ⟨r, rfl, e1⟩ | ⟨x, r, rfl, e1⟩
    · obtain ⟨rfl, e2⟩ := am_inl e1; subst e2; simp only [Nat.sub_self, Nat.add_zero] at k; exact lv_astore_n hx hb hd rfl hl ok2 rfl (fun ls' hl' => k ls' H locs (am_lm_s1 hl') hR hS)
    · obtain ⟨rfl, e2⟩ := am_inl e1; subst e2; simp only [Nat.sub_self, Nat.add_zero] at k; exact lv_astore_nN hx hb hd rfl hl ok2 rfl (fun ls' hl' => k ls' H locs (am_lm_s1 hl') hR hS)
    · obtain ⟨rfl, e2⟩ := am_inl e1; subst e2; simp only [Nat.sub_self, Nat.add_zero] at k; exact am_astore_nq hx hb hd hl ok2 rfl (fun ls' hl' => k ls' H locs (am_lm_s1 hl') hR hS)
  | astore i =>
    have hok : len = 2 ∧ (i : Nat) < nL := hok
    obtain ⟨rfl, ok2⟩ := hok
    rcases am_stA_inv (show am_stA _ _ _ _ _ = _ from hdo) with ⟨x, r, rfl, e1⟩ | ⟨r, rfl, e1⟩ | ⟨x, r, rfl, e1⟩
    · obtain ⟨rfl, e2⟩ := am_inl e1; subst e2; simp only [Nat.sub_self, Nat.add_zero] at k; exact lv_astore hx hb hd hl ok2 rfl (fun ls' hl' => k ls' H locs (am_lm_s1 hl') hR hS)
    · obtain ⟨rfl, e2⟩ := am_inl e1; subst e2; simp only [Nat.sub_self, Nat.add_zero] at k; exact lv_astoreN hx hb hd hl ok2 rfl (fun ls' hl' => k ls' H locs (am_lm_s1 hl') hR hS)
    · obtain ⟨rfl, e2⟩ := am_inl e1; subst e2; simp only [Nat.sub_self, Nat.add_zero] at k; exact am_astoreq hx hb hd hl ok2 rfl (fun ls' hl' => k ls' H locs (am_lm_s1 hl') hR hS)
  | iinc i n =>
    have hok : len = 3 ∧ i < nL := hok
    obtain ⟨rfl, ok2⟩ := hok
    obtain ⟨x, hg, e1⟩ := am_inc_inv (show am_inc _ _ _ _ _ _ = _ from hdo)
    obtain ⟨rfl, e2⟩ := am_inl e1
    subst e2
    simp only [Nat.sub_self, Nat.add_zero] at k
    obtain ⟨k9, hk9⟩ := am_lg_mem (B := B) (X := X) hg
    exact lv_iinc hx hb hd hl hk9 rfl ok2 rfl (fun ls' hl' => k ls' H locs (am_lm_s1 hl') hR hS)
  | iadd =>
    have hok : len = 1 := hok
    subst hok
    obtain ⟨y, x, r, rfl, e1⟩ := am_b_inv (show am_b _ _ _ _ _ = _ from hdo)
    obtain ⟨rfl, e2⟩ := am_inl e1
    subst e2
    simp only [Nat.sub_self, Nat.add_zero] at k
    exact lv_iadd hx hb hd (k ls H locs hl hR hS)
  | isub =>
    have hok : len = 1 := hok
    subst hok
    obtain ⟨y, x, r, rfl, e1⟩ := am_b_inv (show am_b _ _ _ _ _ = _ from hdo)
    obtain ⟨rfl, e2⟩ := am_inl e1
    subst e2
    simp only [Nat.sub_self, Nat.add_zero] at k
    exact lv_isub hx hb hd (k ls H locs hl hR hS)
  | imul =>
    have hok : len = 1 := hok
    subst hok
    obtain ⟨y, x, r, rfl, e1⟩ := am_b_inv (show am_b _ _ _ _ _ = _ from hdo)
    obtain ⟨rfl, e2⟩ := am_inl e1
    subst e2
    simp only [Nat.sub_self, Nat.add_zero] at k
    exact lv_imul hx hb hd (k ls H locs hl hR hS)
  | iand =>
    have hok : len = 1 := hok
    subst hok
    obtain ⟨y, x, r, rfl, e1⟩ := am_b_inv (show am_b _ _ _ _ _ = _ from hdo)
    obtain ⟨rfl, e2⟩ := am_inl e1
    subst e2
    simp only [Nat.sub_self, Nat.add_zero] at k
    exact lv_iand hx hb hd (k ls H locs hl hR hS)
  | ior =>
    have hok : len = 1 := hok
    subst hok
    obtain ⟨y, x, r, rfl, e1⟩ := am_b_inv (show am_b _ _ _ _ _ = _ from hdo)
    obtain ⟨rfl, e2⟩ := am_inl e1
    subst e2
    simp only [Nat.sub_self, Nat.add_zero] at k
    exact lv_ior hx hb hd (k ls H locs hl hR hS)
  | ixor =>
    have hok : len = 1 := hok
    subst hok
    obtain ⟨y, x, r, rfl, e1⟩ := am_b_inv (show am_b _ _ _ _ _ = _ from hdo)
    obtain ⟨rfl, e2⟩ := am_inl e1
    subst e2
    simp only [Nat.sub_self, Nat.add_zero] at k
    exact lv_ixor hx hb hd (k ls H locs hl hR hS)
  | ishl =>
    have hok : len = 1 := hok
    subst hok
    obtain ⟨y, x, r, rfl, e1⟩ := am_b_inv (show am_b _ _ _ _ _ = _ from hdo)
    obtain ⟨rfl, e2⟩ := am_inl e1
    subst e2
    simp only [Nat.sub_self, Nat.add_zero] at k
    exact lv_ishl hx hb hd (k ls H locs hl hR hS)
  | ishr =>
    have hok : len = 1 := hok
    subst hok
    obtain ⟨y, x, r, rfl, e1⟩ := am_b_inv (show am_b _ _ _ _ _ = _ from hdo)
    obtain ⟨rfl, e2⟩ := am_inl e1
    subst e2
    simp only [Nat.sub_self, Nat.add_zero] at k
    exact lv_ishr hx hb hd (k ls H locs hl hR hS)
  | ladd =>
    have hok : len = 1 := hok
    subst hok
    obtain ⟨y, x, r, rfl, e1⟩ := am_bL_inv (show am_bL _ _ _ _ _ = _ from hdo)
    obtain ⟨rfl, e2⟩ := am_inl e1
    subst e2
    simp only [Nat.sub_self, Nat.add_zero] at k
    exact lv_ladd hx hb hd (k ls H locs hl hR hS)
  | lsub =>
    have hok : len = 1 := hok
    subst hok
    obtain ⟨y, x, r, rfl, e1⟩ := am_bL_inv (show am_bL _ _ _ _ _ = _ from hdo)
    obtain ⟨rfl, e2⟩ := am_inl e1
    subst e2
    simp only [Nat.sub_self, Nat.add_zero] at k
    exact lv_lsub hx hb hd (k ls H locs hl hR hS)
  | lmul =>
    have hok : len = 1 := hok
    subst hok
    obtain ⟨y, x, r, rfl, e1⟩ := am_bL_inv (show am_bL _ _ _ _ _ = _ from hdo)
    obtain ⟨rfl, e2⟩ := am_inl e1
    subst e2
    simp only [Nat.sub_self, Nat.add_zero] at k
    exact lv_lmul hx hb hd (k ls H locs hl hR hS)
  | idiv =>
    have hok : len = 1 := hok
    subst hok
    obtain ⟨y, x, r, rfl, hne, e1⟩ := am_dv_inv (show am_dv _ _ _ _ _ = _ from hdo)
    obtain ⟨rfl, e2⟩ := am_inl e1
    subst e2
    simp only [Nat.sub_self, Nat.add_zero] at k
    exact lv_idiv hx hb hd hne (k ls H locs hl hR hS)
  | irem =>
    have hok : len = 1 := hok
    subst hok
    obtain ⟨y, x, r, rfl, hne, e1⟩ := am_dv_inv (show am_dv _ _ _ _ _ = _ from hdo)
    obtain ⟨rfl, e2⟩ := am_inl e1
    subst e2
    simp only [Nat.sub_self, Nat.add_zero] at k
    exact lv_irem hx hb hd hne (k ls H locs hl hR hS)
  | ldiv =>
    have hok : len = 1 := hok
    subst hok
    obtain ⟨y, x, r, rfl, hne, e1⟩ := am_dvL_inv (show am_dvL _ _ _ _ _ = _ from hdo)
    obtain ⟨rfl, e2⟩ := am_inl e1
    subst e2
    simp only [Nat.sub_self, Nat.add_zero] at k
    exact lv_ldiv hx hb hd hne (k ls H locs hl hR hS)
  | lrem =>
    have hok : len = 1 := hok
    subst hok
    obtain ⟨y, x, r, rfl, hne, e1⟩ := am_dvL_inv (show am_dvL _ _ _ _ _ = _ from hdo)
    obtain ⟨rfl, e2⟩ := am_inl e1
    subst e2
    simp only [Nat.sub_self, Nat.add_zero] at k
    exact lv_lrem hx hb hd hne (k ls H locs hl hR hS)
  | ineg =>
    have hok : len = 1 := hok
    subst hok
    obtain ⟨x, r, rfl, e1⟩ := am_u_inv (show am_u _ _ _ _ _ = _ from hdo)
    obtain ⟨rfl, e2⟩ := am_inl e1
    subst e2
    simp only [Nat.sub_self, Nat.add_zero] at k
    exact lv_ineg hx hb hd (k ls H locs hl hR hS)
  | i2l =>
    have hok : len = 1 := hok
    subst hok
    obtain ⟨x, r, rfl, e1⟩ := am_u_inv (show am_u _ _ _ _ _ = _ from hdo)
    obtain ⟨rfl, e2⟩ := am_inl e1
    subst e2
    simp only [Nat.sub_self, Nat.add_zero] at k
    exact lv_i2l hx hb hd rfl (k ls H locs hl hR hS)
  | i2c =>
    have hok : len = 1 := hok
    subst hok
    obtain ⟨x, r, rfl, e1⟩ := am_u_inv (show am_u _ _ _ _ _ = _ from hdo)
    obtain ⟨rfl, e2⟩ := am_inl e1
    subst e2
    simp only [Nat.sub_self, Nat.add_zero] at k
    exact lv_i2c hx hb hd rfl (k ls H locs hl hR hS)
  | lneg =>
    have hok : len = 1 := hok
    subst hok
    obtain ⟨x, r, rfl, e1⟩ := am_uL_inv (show am_uL _ _ _ _ _ = _ from hdo)
    obtain ⟨rfl, e2⟩ := am_inl e1
    subst e2
    simp only [Nat.sub_self, Nat.add_zero] at k
    exact lv_lneg hx hb hd (k ls H locs hl hR hS)
  | l2i =>
    have hok : len = 1 := hok
    subst hok
    obtain ⟨x, r, rfl, e1⟩ := am_uL_inv (show am_uL _ _ _ _ _ = _ from hdo)
    obtain ⟨rfl, e2⟩ := am_inl e1
    subst e2
    simp only [Nat.sub_self, Nat.add_zero] at k
    exact lv_l2i hx hb hd rfl (k ls H locs hl hR hS)
  | lcmp =>
    have hok : len = 1 := hok
    subst hok
    obtain ⟨y, x, r, rfl, e1⟩ := am_cmp_inv (show am_cmp _ _ _ _ = _ from hdo)
    obtain ⟨rfl, e2⟩ := am_inl e1
    subst e2
    simp only [Nat.sub_self, Nat.add_zero] at k
    exact W.lcmp hx hb hd (k ls H locs hl hR hS)
  | dup =>
    have hok : len = 1 := hok
    subst hok
    obtain ⟨v, r, rfl, hcat, e1⟩ := am_dup_inv (show am_dup _ _ _ _ = _ from hdo)
    obtain ⟨rfl, e2⟩ := am_inl e1
    subst e2
    simp only [Nat.sub_self, Nat.add_zero] at k
    exact lv_dup hx hb hd (by rw [am_v_cat]; exact Classical.not_not.mp hcat) (k ls H locs hl hR hS)
  | dup2 =>
    have hok : len = 1 := hok
    subst hok
    obtain ⟨v, w, r, rfl, hcat, e1⟩ := am_dup2_inv (show am_dup2 _ _ _ _ = _ from hdo)
    obtain ⟨rfl, e2⟩ := am_inl e1
    subst e2
    simp only [Nat.sub_self, Nat.add_zero] at k
    exact lv_dup2_11 hx hb hd (by rw [am_v_cat]; exact (Classical.not_not.mp hcat).1) (by rw [am_v_cat]; exact (Classical.not_not.mp hcat).2) (k ls H locs hl hR hS)
  | pop =>
    have hok : len = 1 := hok
    subst hok
    obtain ⟨v, r, rfl, hcat, e1⟩ := am_drop_inv (show am_drop _ _ _ _ = _ from hdo)
    obtain ⟨rfl, e2⟩ := am_inl e1
    subst e2
    simp only [Nat.sub_self, Nat.add_zero] at k
    exact lv_pop hx hb hd (by rw [am_v_cat]; exact Classical.not_not.mp hcat) (k ls H locs hl hR hS)
  | pop2 =>
    have hok : len = 1 := hok
    subst hok
    obtain ⟨v, r, rfl, hcat, e1⟩ := am_drop2_inv (show am_drop2 _ _ _ _ = _ from hdo)
    obtain ⟨rfl, e2⟩ := am_inl e1
    subst e2
    simp only [Nat.sub_self, Nat.add_zero] at k
    exact lv_pop2_2 hx hb hd (by rw [am_v_cat]; exact Classical.not_not.mp hcat) (k ls H locs hl hR hS)
  | ifCond cnd off =>
    obtain ⟨rfl, hok⟩ : len = 3 ∧ (pc : Int) + off = (am_t rs : Int) := hok
    cases cnd with
    | eq =>
      obtain ⟨x, r, rfl, e1⟩ := am_if_inv (P := fun x => decide (x = 0)) (show am_if _ _ _ _ _ _ = _ from hdo)
      obtain ⟨rfl, e2⟩ := am_inl e1
      subst e2
      simp only [Nat.sub_self, Nat.add_zero] at k
      refine lv_if_eq hx hb hd hok (fun hP => ?_) (fun hP => ?_)
      · exact W.eq (congrArg (fun t => F0 m t ls _) (am_bt (by simp [hP]))) (k ls H locs hl hR hS)
      · exact W.eq (congrArg (fun t => F0 m t ls _) (am_bf (by simp [hP]))) (k ls H locs hl hR hS)
    | ne =>
      obtain ⟨x, r, rfl, e1⟩ := am_if_inv (P := fun x => !decide (x = 0)) (show am_if _ _ _ _ _ _ = _ from hdo)
      obtain ⟨rfl, e2⟩ := am_inl e1
      subst e2
      simp only [Nat.sub_self, Nat.add_zero] at k
      refine lv_if_ne hx hb hd hok (fun hP => ?_) (fun hP => ?_)
      · exact W.eq (congrArg (fun t => F0 m t ls _) (am_bt (by simp [hP]))) (k ls H locs hl hR hS)
      · exact W.eq (congrArg (fun t => F0 m t ls _) (am_bf (by simp [hP]))) (k ls H locs hl hR hS)
    | lt =>
      obtain ⟨x, r, rfl, e1⟩ := am_if_inv (P := fun x => decide (x < 0)) (show am_if _ _ _ _ _ _ = _ from hdo)
      obtain ⟨rfl, e2⟩ := am_inl e1
      subst e2
      simp only [Nat.sub_self, Nat.add_zero] at k
      refine lv_if_lt hx hb hd hok (fun hP => ?_) (fun hP => ?_)
      · exact W.eq (congrArg (fun t => F0 m t ls _) (am_bt (by simp [hP]))) (k ls H locs hl hR hS)
      · exact W.eq (congrArg (fun t => F0 m t ls _) (am_bf (by simp [hP]))) (k ls H locs hl hR hS)
    | ge =>
      obtain ⟨x, r, rfl, e1⟩ := am_if_inv (P := fun x => decide (0 ≤ x)) (show am_if _ _ _ _ _ _ = _ from hdo)
      obtain ⟨rfl, e2⟩ := am_inl e1
      subst e2
      simp only [Nat.sub_self, Nat.add_zero] at k
      refine lv_if_ge hx hb hd hok (fun hP => ?_) (fun hP => ?_)
      · exact W.eq (congrArg (fun t => F0 m t ls _) (am_bt (by simp [hP]))) (k ls H locs hl hR hS)
      · exact W.eq (congrArg (fun t => F0 m t ls _) (am_bf (by simp [hP]))) (k ls H locs hl hR hS)
    | gt =>
      obtain ⟨x, r, rfl, e1⟩ := am_if_inv (P := fun x => decide (0 < x)) (show am_if _ _ _ _ _ _ = _ from hdo)
      obtain ⟨rfl, e2⟩ := am_inl e1
      subst e2
      simp only [Nat.sub_self, Nat.add_zero] at k
      refine lv_if_gt hx hb hd hok (fun hP => ?_) (fun hP => ?_)
      · exact W.eq (congrArg (fun t => F0 m t ls _) (am_bt (by simp [hP]))) (k ls H locs hl hR hS)
      · exact W.eq (congrArg (fun t => F0 m t ls _) (am_bf (by simp [hP]))) (k ls H locs hl hR hS)
    | le =>
      obtain ⟨x, r, rfl, e1⟩ := am_if_inv (P := fun x => decide (x ≤ 0)) (show am_if _ _ _ _ _ _ = _ from hdo)
      obtain ⟨rfl, e2⟩ := am_inl e1
      subst e2
      simp only [Nat.sub_self, Nat.add_zero] at k
      refine lv_if_le hx hb hd hok (fun hP => ?_) (fun hP => ?_)
      · exact W.eq (congrArg (fun t => F0 m t ls _) (am_bt (by simp [hP]))) (k ls H locs hl hR hS)
      · exact W.eq (congrArg (fun t => F0 m t ls _) (am_bf (by simp [hP]))) (k ls H locs hl hR hS)
  | if_icmp cnd off =>
    obtain ⟨rfl, hok⟩ : len = 3 ∧ (pc : Int) + off = (am_t rs : Int) := hok
    cases cnd with
    | eq =>
      obtain ⟨y, x, r, rfl, e1⟩ := am_ic_inv (P := fun x y => decide (x = y)) (show am_ic _ _ _ _ _ _ = _ from hdo)
      obtain ⟨rfl, e2⟩ := am_inl e1
      subst e2
      simp only [Nat.sub_self, Nat.add_zero] at k
      refine lv_icmp_eq hx hb hd hok (fun hP => ?_) (fun hP => ?_)
      · exact W.eq (congrArg (fun t => F0 m t ls _) (am_bt (by simp [hP]))) (k ls H locs hl hR hS)
      · exact W.eq (congrArg (fun t => F0 m t ls _) (am_bf (by simp [hP]))) (k ls H locs hl hR hS)
    | ne =>
      obtain ⟨y, x, r, rfl, e1⟩ := am_ic_inv (P := fun x y => !decide (x = y)) (show am_ic _ _ _ _ _ _ = _ from hdo)
      obtain ⟨rfl, e2⟩ := am_inl e1
      subst e2
      simp only [Nat.sub_self, Nat.add_zero] at k
      refine lv_icmp_ne hx hb hd hok (fun hP => ?_) (fun hP => ?_)
      · exact W.eq (congrArg (fun t => F0 m t ls _) (am_bt (by simp [hP]))) (k ls H locs hl hR hS)
      · exact W.eq (congrArg (fun t => F0 m t ls _) (am_bf (by simp [hP]))) (k ls H locs hl hR hS)
    | lt =>
      obtain ⟨y, x, r, rfl, e1⟩ := am_ic_inv (P := fun x y => decide (x < y)) (show am_ic _ _ _ _ _ _ = _ from hdo)
      obtain ⟨rfl, e2⟩ := am_inl e1
      subst e2
      simp only [Nat.sub_self, Nat.add_zero] at k
      refine lv_icmp_lt hx hb hd hok (fun hP => ?_) (fun hP => ?_)
      · exact W.eq (congrArg (fun t => F0 m t ls _) (am_bt (by simp [hP]))) (k ls H locs hl hR hS)
      · exact W.eq (congrArg (fun t => F0 m t ls _) (am_bf (by simp [hP]))) (k ls H locs hl hR hS)
    | ge =>
      obtain ⟨y, x, r, rfl, e1⟩ := am_ic_inv (P := fun x y => decide (y ≤ x)) (show am_ic _ _ _ _ _ _ = _ from hdo)
      obtain ⟨rfl, e2⟩ := am_inl e1
      subst e2
      simp only [Nat.sub_self, Nat.add_zero] at k
      refine lv_icmp_ge hx hb hd hok (fun hP => ?_) (fun hP => ?_)
      · exact W.eq (congrArg (fun t => F0 m t ls _) (am_bt (by simp [hP]))) (k ls H locs hl hR hS)
      · exact W.eq (congrArg (fun t => F0 m t ls _) (am_bf (by simp [hP]))) (k ls H locs hl hR hS)
    | gt =>
      obtain ⟨y, x, r, rfl, e1⟩ := am_ic_inv (P := fun x y => decide (y < x)) (show am_ic _ _ _ _ _ _ = _ from hdo)
      obtain ⟨rfl, e2⟩ := am_inl e1
      subst e2
      simp only [Nat.sub_self, Nat.add_zero] at k
      refine lv_icmp_gt hx hb hd hok (fun hP => ?_) (fun hP => ?_)
      · exact W.eq (congrArg (fun t => F0 m t ls _) (am_bt (by simp [hP]))) (k ls H locs hl hR hS)
      · exact W.eq (congrArg (fun t => F0 m t ls _) (am_bf (by simp [hP]))) (k ls H locs hl hR hS)
    | le =>
      obtain ⟨y, x, r, rfl, e1⟩ := am_ic_inv (P := fun x y => decide (x ≤ y)) (show am_ic _ _ _ _ _ _ = _ from hdo)
      obtain ⟨rfl, e2⟩ := am_inl e1
      subst e2
      simp only [Nat.sub_self, Nat.add_zero] at k
      refine lv_icmp_le hx hb hd hok (fun hP => ?_) (fun hP => ?_)
      · exact W.eq (congrArg (fun t => F0 m t ls _) (am_bt (by simp [hP]))) (k ls H locs hl hR hS)
      · exact W.eq (congrArg (fun t => F0 m t ls _) (am_bf (by simp [hP]))) (k ls H locs hl hR hS)
  | goto off =>
    have hok : len = 3 ∧ (pc : Int) + off = (am_t rs : Int) := hok
    obtain ⟨rfl, ok2⟩ := hok
    have e1 := (Option.some.inj (show some _ = some _ from hdo)).symm
    obtain ⟨rfl, e2⟩ := am_inl e1
    subst e2
    simp only [Nat.sub_self, Nat.add_zero] at k
    exact lv_goto hx hb hd ok2 (k ls H locs hl hR hS)
  | ifnull off =>
    obtain ⟨rfl, hok⟩ : len = 3 ∧ (pc : Int) + off = (am_t rs : Int) := hok
    rcases am_null_inv (show am_null _ _ _ _ _ = _ from hdo) with ⟨r, rfl, e1⟩ | ⟨x, r, rfl, e1⟩
    · obtain ⟨rfl, e2⟩ := am_inl e1; subst e2; simp only [Nat.sub_self, Nat.add_zero] at k; exact lv_ifnullN hx hb hd hok (k ls H locs hl hR hS)
    · obtain ⟨rfl, e2⟩ := am_inl e1; subst e2; simp only [Nat.sub_self, Nat.add_zero] at k; exact lv_ifnull hx hb hd (k ls H locs hl hR hS)
  | ifnonnull off =>
    obtain ⟨rfl, hok⟩ : len = 3 ∧ (pc : Int) + off = (am_t rs : Int) := hok
    rcases am_null_inv (show am_null _ _ _ _ _ = _ from hdo) with ⟨r, rfl, e1⟩ | ⟨x, r, rfl, e1⟩
    · obtain ⟨rfl, e2⟩ := am_inl e1; subst e2; simp only [Nat.sub_self, Nat.add_zero] at k; exact lv_ifnonnullN hx hb hd (k ls H locs hl hR hS)
    · obtain ⟨rfl, e2⟩ := am_inl e1; subst e2; simp only [Nat.sub_self, Nat.add_zero] at k; exact lv_ifnonnull hx hb hd hok (k ls H locs hl hR hS)
  | tableswitch d lo hi offs =>
    obtain ⟨x, r, rfl, ⟨hout, e1⟩ | ⟨hin, t, ht, e1⟩⟩ := am_tsw_inv (show am_tsw _ _ _ _ _ _ = _ from hdo)
    · obtain ⟨rfl, e2⟩ := am_inl e1; subst e2; simp only [Nat.sub_self, Nat.add_zero] at k; exact lv_tableOut hx hb hd hout hok.1 (k ls H locs hl hR hS)
    · obtain ⟨rfl, e2⟩ := am_inl e1; subst e2; simp only [Nat.sub_self, Nat.add_zero] at k
      obtain ⟨o, ho, hp⟩ := hok.2 _ _ ht
      exact lv_tableIn hx hb hd (fun z => hin (Or.inl z)) (fun z => hin (Or.inr z)) ho hp (k ls H locs hl hR hS)
  | getfield idx =>
    obtain ⟨rfl, hok, hok1, hok2⟩ : len = 3 ∧ _ := hok
    rcases am_gf_inv (show am_gf _ _ _ _ _ = _ from hdo) with ⟨a, r, ci, fs, v, rfl, hh, hci, hv, e1⟩ | ⟨kk, r, rfl, hkk, ⟨hr, e1⟩ | ⟨hr, e1⟩⟩
    · obtain ⟨rfl, e2⟩ := am_inl e1; subst e2; simp only [Nat.sub_self, Nat.add_zero] at k
      obtain ⟨C, T, N, ty, ref, ⟨hcl, hin, hty, hnm2⟩, hkN, hlk, hsm⟩ := hok ci hci
      refine va_get (D := D) (fs := fs.map (am_v B X)) (v := am_v B X v) hx hb hts hin hown hK hR.2 a (am_w_at hh) hcl _ hkN (hts _ hlk) ?_ (by rw [List.getElem?_map, hv]; rfl) hd (k ls H locs hl hR hS)
      rcases hsm with he | he
      · intro x9 h9; rw [← he]; exact h9
      · exact u_same (hts _ he)
    · obtain ⟨rfl, e2⟩ := am_inl e1; subst e2; simp only [Nat.sub_self, Nat.add_zero] at k
      obtain ⟨i, rfl⟩ : ∃ i, kk = i + 1 := ⟨kk - 1, by omega⟩
      have hi : i < am_tx.length := by omega
      have e3 : am_v B X (.retAddr (i + 1)) = .ref (adK i) := by
        show va_rf (X (i + 1)) = _
        rw [(hst i hi).1]; rfl
      have e4 : am_v B X (.retAddr (i + 1 + 20)) = .ref (adV i) := by
        show va_rf (X (i + 1 + 20)) = _
        rw [show i + 1 + 20 = i + 21 by omega, (hst i hi).2]; rfl
      show W p l e R s m args below meth c H locs cells slots Q (F0 m pc ls (am_v B X (.retAddr (i + 1)) :: am_vs B X r))
      rw [e3]
      refine vk_getf hx hb (hvk.1 i hi).2.2.1 hS hown (hts _ (hok1 hr)) (fun _ h9 => h9) hd ?_
      rw [← e4]
      exact k ls H locs hl hR hS
    · obtain ⟨rfl, e2⟩ := am_inl e1; subst e2; simp only [Nat.sub_self, Nat.add_zero] at k
      obtain ⟨i, rfl⟩ : ∃ i, kk = i + 1 := ⟨kk - 1, by omega⟩
      have hi : i < am_tx.length := by omega
      have e3 : am_v B X (.retAddr (i + 1)) = .ref (adK i) := by
        show va_rf (X (i + 1)) = _
        rw [(hst i hi).1]; rfl
      show W p l e R s m args below meth c H locs cells slots Q (F0 m pc ls (am_v B X (.retAddr (i + 1)) :: am_vs B X r))
      rw [e3]
      exact vk_getf hx hb (hvk.1 i hi).2.1 hS hown (hts _ (hok2 hr)) (fun _ h9 => h9) hd (k ls H locs hl hR hS)
  | putfield idx =>
    obtain ⟨rfl, hok⟩ : len = 3 ∧ _ := hok
    obtain ⟨v, a, r, ci, fs, rfl, hh, hci, hfit, hkl, e1⟩ := am_pf_inv (show am_pf _ _ _ _ _ = _ from hdo)
    obtain ⟨rfl, rfl⟩ := am_inl e1
    obtain ⟨C, T, N, ty, ref, hcl, hkN, hlk, hsm, htyc, hfin⟩ := hok ci hci
    have hsl : am_sl (h.set a (.inr (ci, fs.set (am_t rs) v))) = am_sl h := am_sl_set hh (by show (fs.set _ _).length = fs.length; rw [List.length_set])
    rw [hsl] at k
    simp only [List.length_set, Nat.sub_self, Nat.add_zero] at k
    refine am_put hx hb hts hcl hown hK hR hS hh _ hkN (hts _ hlk) ?_ ?_ (am_fit_ok hfit htyc) hkl hd (fun H1 locs1 hR1 hS1 => k ls H1 locs1 hl hR1 hS1)
    · rcases hsm with he | he
      · intro x9 h9; rw [← he]; exact h9
      · exact u_same (hts _ he)
    · rcases hfin with z | ⟨z1, z2, z3⟩
      · exact Or.inl z
      · exact Or.inr ⟨z1, hnm.trans z2, z3⟩
  | iaload =>
    have hok : len = 1 := hok
    subst hok
    rcases am_ial_inv (show am_ial _ _ _ _ _ = _ from hdo) with ⟨i, a, r, n, f, rfl, hh, hin, e1⟩ | ⟨i, r, rfl, hin, e1⟩
    · obtain ⟨rfl, e2⟩ := am_inl e1; subst e2; simp only [Nat.sub_self, Nat.add_zero] at k
      exact va_iald hx hb hK hR.2 a 0 (am_w_at hh) rfl hin hd (k ls H locs hl hR hS)
    · obtain ⟨rfl, e2⟩ := am_inl e1; subst e2; simp only [Nat.sub_self, Nat.add_zero] at k
      have e3 : am_v B X (.retAddr 0) = .ref b0 := by
        show va_rf (X 0) = _
        rw [hb0]; rfl
      show W p l e R s m args below meth c H locs cells slots Q (F0 m pc ls (.int i :: am_v B X (.retAddr 0) :: am_vs B X r))
      rw [e3]
      exact va_sld hx hb hX0 (by omega) (Nat.not_le.mpr hbB) hS hin hd (k ls H locs hl hR hS)
  | laload =>
    have hok : len = 1 := hok
    subst hok
    obtain ⟨i, a, r, n, f, rfl, hh, hin, e1⟩ := am_lal_inv (show am_lal _ _ _ _ = _ from hdo)
    obtain ⟨rfl, e2⟩ := am_inl e1
    subst e2
    simp only [Nat.sub_self, Nat.add_zero] at k
    exact va_lald hx hb hK hR.2 a 1 (am_w_at hh) rfl hin hd (k ls H locs hl hR hS)
  | baload =>
    have hok : len = 1 := hok
    subst hok
    rcases am_bal_inv (show am_bal _ _ _ _ = _ from hdo) with ⟨i, a, r, n, f, rfl, hh, hin, e1⟩ | ⟨i, kk, r, rfl, hkk, hin, e1⟩
    · obtain ⟨rfl, e2⟩ := am_inl e1; subst e2; simp only [Nat.sub_self, Nat.add_zero] at k
      exact va_zald hx hb hK hR.2 a 2 (am_w_at hh) rfl hin hd (k ls H locs hl hR hS)
    · obtain ⟨rfl, e2⟩ := am_inl e1; subst e2; simp only [Nat.sub_self, Nat.add_zero] at k
      obtain ⟨j, rfl⟩ : ∃ j, kk = j + 21 := ⟨kk - 21, by omega⟩
      have hi : j < am_tx.length := by omega
      have e3 : am_v B X (.retAddr (j + 21)) = .ref (adV j) := by
        show va_rf (X (j + 21)) = _
        rw [(hst j hi).2]; rfl
      show W p l e R s m args below meth c H locs cells slots Q (F0 m pc ls (.int i :: am_v B X (.retAddr (j + 21)) :: am_vs B X r))
      rw [e3]
      have hT := (hvk.1 j hi).2.2.2
      rw [am_len_tx] at hT
      rw [show j + 21 - 21 = j by omega] at hin k
      exact va_tb hx hb hT hS hin rfl hd (k ls H locs hl hR hS)
  | aaload =>
    have hok : len = 1 := hok
    subst hok
    obtain ⟨i, a, r, t, n, f, rfl, hh, hin, ht, e1⟩ := am_aal_inv (show am_aal _ _ _ _ = _ from hdo)
    obtain ⟨rfl, e2⟩ := am_inl e1; subst e2; simp only [Nat.sub_self, Nat.add_zero] at k
    obtain ⟨C, hty⟩ : ∃ C, (am_ty cA)[t]? = some (cA t, .object C) := by rcases ht with rfl | rfl <;> exact ⟨_, rfl⟩
    refine va_aldq hx hb hK hR.2 a t (am_w_at hh) hty hin hd ?_
    have K := k ls H locs hl hR hS
    rw [← am_rf B X]
    exact K
  | iastore =>
    have hok : len = 1 := hok
    subst hok
    obtain ⟨x, i, a, r, n, f, rfl, hh, hin, e1⟩ := am_ias_inv (show am_ias _ _ _ _ = _ from hdo)
    obtain ⟨rfl, rfl⟩ := am_inl e1
    rw [am_sl_set (y := .inl (0, n, .inl (upd f i.toNatClampNeg x))) hh rfl] at k
    simp only [List.length_set, Nat.sub_self, Nat.add_zero] at k
    exact am_iast hx hb hK hR hS hh hin hd (fun H1 locs1 hR1 hS1 => k ls H1 locs1 hl hR1 hS1)
  | lastore =>
    have hok : len = 1 := hok
    subst hok
    obtain ⟨x, i, a, r, n, f, rfl, hh, hin, e1⟩ := am_las_inv (show am_las _ _ _ _ = _ from hdo)
    obtain ⟨rfl, rfl⟩ := am_inl e1
    rw [am_sl_set (y := .inl (1, n, .inr (.inl (vp_updL f i.toNatClampNeg x)))) hh rfl] at k
    simp only [List.length_set, Nat.sub_self, Nat.add_zero] at k
    exact am_last hx hb hK hR hS hh hin hd (fun H1 locs1 hR1 hS1 => k ls H1 locs1 hl hR1 hS1)
  | bastore =>
    have hok : len = 1 := hok
    subst hok
    obtain ⟨x, i, a, r, n, f, rfl, hh, hin, hx1, e1⟩ := am_bas_inv (show am_bas _ _ _ _ = _ from hdo)
    obtain ⟨rfl, rfl⟩ := am_inl e1
    rw [am_sl_set (y := .inl (2, n, .inl (upd f i.toNatClampNeg x))) hh rfl] at k
    simp only [List.length_set, Nat.sub_self, Nat.add_zero] at k
    exact am_zast hx hb hK hR hS hh hin hx1 hd (fun H1 locs1 hR1 hS1 => k ls H1 locs1 hl hR1 hS1)
  | aastore =>
    have hok : len = 1 := hok
    subst hok
    rcases am_aas_inv (show am_aas _ _ _ _ = _ from hdo) with ⟨i, a, r, t, n, f, rfl, hh, hin, ht, e1⟩ | ⟨v, i, a, r, t, n, f, ci, fs, rfl, hh, hv, hin, hmay, e1⟩
    · obtain ⟨rfl, rfl⟩ := am_inl e1
      rw [am_sl_set (y := .inl (t, n, .inr (.inr (.inr (.inr (va_up f i.toNatClampNeg none)))))) hh rfl] at k
      simp only [List.length_set, Nat.sub_self, Nat.add_zero] at k
      exact am_aastN hx hb hK hR hS hh ht hin hd (fun H1 locs1 hR1 hS1 => k ls H1 locs1 hl hR1 hS1)
    · obtain ⟨rfl, rfl⟩ := am_inl e1
      rw [am_sl_set (y := .inl (t, n, .inr (.inr (.inr (.inr (va_up f i.toNatClampNeg (some v))))))) hh rfl] at k
      simp only [List.length_set, Nat.sub_self, Nat.add_zero] at k
      obtain ⟨E, r9, h1, h2, h3⟩ := am_may_ok (cA := cA) hmay
      exact am_aast hx hb hts hK hR hS hh hv h1 h2 (h3.imp id (fun z => hxw _ z)) hin hd (fun H1 locs1 hR1 hS1 => k ls H1 locs1 hl hR1 hS1)
  | arraylength =>
    have hok : len = 1 := hok
    subst hok
    rcases am_len_inv (show am_len _ _ _ _ _ = _ from hdo) with ⟨a, r, t, x, rfl, hh, ht, e1⟩ | ⟨r, rfl, e1⟩ | ⟨kk, r, rfl, hkk, e1⟩
    · obtain ⟨rfl, e2⟩ := am_inl e1; subst e2; simp only [Nat.sub_self, Nat.add_zero] at k
      obtain ⟨y, hy1, hy2⟩ := am_e_arr B X cA t x
      have hw := am_w_at (B := B) (X := X) (cA := cA) hh
      rw [hy2] at hw
      obtain ⟨ty, hty⟩ : ∃ ty, (am_ty cA)[t]? = some (cA t, ty) := by
        rcases (show t = 0 ∨ t = 1 ∨ t = 2 ∨ t = 3 ∨ t = 4 by omega) with rfl | rfl | rfl | rfl | rfl <;> exact ⟨_, rfl⟩
      exact va_alen hx hb hK hR.2 a t hw hty (by rw [hy1]) hd (k ls H locs hl hR hS)
    · obtain ⟨rfl, e2⟩ := am_inl e1; subst e2; simp only [Nat.sub_self, Nat.add_zero] at k
      have e3 : am_v B X (.retAddr 0) = .ref b0 := by
        show va_rf (X 0) = _
        rw [hb0]; rfl
      show W p l e R s m args below meth c H locs cells slots Q (F0 m pc ls (am_v B X (.retAddr 0) :: am_vs B X r))
      rw [e3]
      exact va_slen hx hb hX0 (by omega) (Nat.not_le.mpr hbB) hS hd (k ls H locs hl hR hS)
    · obtain ⟨rfl, e2⟩ := am_inl e1; subst e2; simp only [Nat.sub_self, Nat.add_zero] at k
      obtain ⟨j, rfl⟩ : ∃ j, kk = j + 21 := ⟨kk - 21, by omega⟩
      have hi : j < am_tx.length := by omega
      have e3 : am_v B X (.retAddr (j + 21)) = .ref (adV j) := by
        show va_rf (X (j + 21)) = _
        rw [(hst j hi).2]; rfl
      show W p l e R s m args below meth c H locs cells slots Q (F0 m pc ls (am_v B X (.retAddr (j + 21)) :: am_vs B X r))
      rw [e3]
      have hT := (hvk.1 j hi).2.2.2
      rw [am_len_tx] at hT
      rw [show j + 21 - 21 = j by omega] at k
      exact va_tlen hx hb hT hS rfl hd (k ls H locs hl hR hS)
  | new idx =>
    obtain ⟨rfl, C, T, N, ty, ⟨hcl, hin, hty, hnm2⟩, hw1, hw2, hw3, hdf, hlen, hplain⟩ : len = 3 ∧ _ := hok
    have e1 := (Option.some.inj (show some _ = some _ from hdo)).symm
    obtain ⟨rfl, rfl⟩ := am_inl e1
    have hsz : am_sl (h ++ [.inr (am_t rs, df (am_t rs))]) - am_sl h = N := by rw [am_sl_app, ← hlen]; show am_sl h + (df (am_t rs)).length - am_sl h = _; omega
    have hln : (h ++ [.inr (am_t rs, df (am_t rs))] : am_H).length - h.length = 1 := by rw [List.length_append]; show h.length + 1 - h.length = 1; omega
    rw [hsz] at k hs
    rw [hln] at k hc
    have hKn := hK.1 _ _ hcl
    refine W.newcK hx hb hown (hts _ hw1) (hts _ hw2) (hts _ hw3) rfl hd hc hs hKn.2.1 hR.1 fun H1 kC hkC e1 z1 o1 => ?_
    refine k ls H1 locs hl (hR.push (by rw [z1, hR.1]) (fun q hq => o1 q (by rw [← hR.1]; exact hq)) ⟨_, hcl, ?_⟩) (am_S.push hS (by rw [z1, hR.1]) (fun q hq => o1 q (by rw [← hR.1]; exact hq)))
    show t_OB (B + h.length) _ _ _ H1 (vp_V ((df (am_t rs)).map (am_v B X)))
    rw [am_plain hplain]
    exact (u_born ty hts hin hKn hkC e1 hty).to hdf
  | newarray t =>
    obtain ⟨rfl, hw⟩ : len = 2 ∧ _ := hok
    obtain ⟨n, r, rfl, hn0, hnl, htag, e1⟩ := am_nar_inv (show am_nar _ _ _ _ _ = _ from hdo)
    obtain ⟨rfl, rfl⟩ := am_inl e1
    have hsz : am_sl (h ++ [.inl (am_tag t, n.toNatClampNeg, am_zero (am_tag t))]) - am_sl h = n.toNatClampNeg := by rw [am_sl_app]; show am_sl h + n.toNatClampNeg - am_sl h = _; omega
    have hln : (h ++ [.inl (am_tag t, n.toNatClampNeg, am_zero (am_tag t))] : am_H).length - h.length = 1 := by rw [List.length_append]; show h.length + 1 - h.length = 1; omega
    rw [hsz] at k hs
    rw [hln] at k hc
    have hcb : componentBytes (newarray.typeOf t) ≤ 8 := by cases t <;> decide
    refine va_newaK hx hb (hts _ hw) rfl hd rfl hn0 rfl (by have := Nat.mul_le_mul (Nat.le_of_lt hnl) hcb; omega) hc hs hR.1 fun H1 cA1 e1 z1 o1 hAr hNm => ?_
    refine k ls H1 locs hl (hR.push (by rw [z1, hR.1]) (fun q hq => o1 q (by rw [← hR.1]; exact hq)) ?_) (am_S.push hS (by rw [z1, hR.1]) (fun q hq => o1 q (by rw [← hR.1]; exact hq)))
    exact am_born hK htag hNm e1
  | anewarray idx =>
    obtain ⟨rfl, hw⟩ : len = 3 ∧ _ := hok
    obtain ⟨n, r, rfl, hn0, hnl, ht, e1⟩ := am_anw_inv (show am_anw _ _ _ _ _ = _ from hdo)
    obtain ⟨rfl, rfl⟩ := am_inl e1
    have hsz : am_sl (h ++ [.inl (am_t rs, n.toNatClampNeg, am_zero 3)]) - am_sl h = n.toNatClampNeg := by rw [am_sl_app]; show am_sl h + n.toNatClampNeg - am_sl h = _; omega
    have hln : (h ++ [.inl (am_t rs, n.toNatClampNeg, am_zero 3)] : am_H).length - h.length = 1 := by rw [List.length_append]; show h.length + 1 - h.length = 1; omega
    rw [hsz] at k hs
    rw [hln] at k hc
    have hav : ∃ E, Cond.classLink own idx E ∈ am_tb ∧ va_AO E s ∧ (am_ty cA)[am_t rs]? = some (cA (am_t rs), .object E) := by
      rcases hw with ⟨h1, h2⟩ | ⟨h1, h2⟩
      · exact ⟨_, h2, hao1, by rw [h1]; rfl⟩
      · exact ⟨_, h2, hao2, by rw [h1]; rfl⟩
    obtain ⟨E, hw1, hao, hty⟩ := hav
    refine W.anew hx hb hown (hts _ hw1) (va_AO.use hao) rfl hd rfl hn0 (by omega) hc hs fun cA1 kA comp f1 f2 f3 f4 => ?_
    have hcA : cA1 = cA (am_t rs) := by
      obtain ⟨kA2, comp2, g1, g2, g3, g4⟩ := (hK.2 _ _ hty).2
      exact Option.some.inj (f1.symm.trans g4)
    subst hcA
    generalize hH1 : H.push ({ cls := cA (am_t rs), slots := Array.replicate n.toNatClampNeg .null, vm := .none } : Cell) = H1
    have z1 : H1.size = H.size + 1 := by rw [← hH1, Array.size_push]
    have o1 : ∀ q : Nat, q < H.size → H1[q]? = H[q]? := fun q hq => by rw [← hH1, Array.getElem?_push, if_neg (Nat.ne_of_lt hq)]
    have e1 : H1[H.size]? = some (arrV (cA (am_t rs)) n.toNatClampNeg (fun _ => .null)) := by rw [← hH1, Array.getElem?_push_size, ← arrV_new]
    rw [hR.1] at e1 ⊢
    exact k ls H1 locs hl (hR.push z1 o1 e1) (am_S.push hS z1 o1)
  | instanceof idx =>
    obtain ⟨rfl, T, hw, hci0⟩ : len = 3 ∧ _ := hok
    obtain ⟨a, r, ci, fs, rfl, hh, hci, e1⟩ := am_ins_inv (show am_ins _ _ _ _ _ = _ from hdo)
    obtain ⟨rfl, e2⟩ := am_inl e1; subst e2; simp only [Nat.sub_self, Nat.add_zero] at k
    obtain ⟨r9, hr9, hcase⟩ := hci0 ci hci
    have hrec := va_recv hK hR.2 hr9 (am_w_at hh)
    have hcls := (hK.1 ci r9 hr9).2
    have K := k ls H locs hl hR hS
    rcases hcase with ⟨hin, he⟩ | ⟨hin, hn⟩
    · rw [hin] at K
      rcases he with he | he
      · exact va_instS hx hb hown (hts _ hw) (he ▸ hcls) (he ▸ hrec) hd K
      · exact va_instY hx hb hown (hts _ hw) (hxw _ he) hrec hd K
    · rw [hin] at K
      exact va_instNo hx hb hown (hts _ hw) (hnc _ hn) hrec hd K
  | invokespecial idx =>
    obtain ⟨rfl, ok2⟩ : len = 3 ∧ (rs = [] → _) := hok
    obtain ⟨hr, a, r, rfl, hcat, e1⟩ := am_spc_inv (show am_spc _ _ _ _ _ = _ from hdo)
    obtain ⟨rfl, e2⟩ := am_inl e1; subst e2; simp only [Nat.sub_self, Nat.add_zero] at k
    obtain ⟨w1, w2, w3⟩ := ok2 hr
    refine W.objInit hx hb hown (hts _ w1) (hts _ w2) (hts _ w3) rfl (by rw [hml]; exact hl.1) rfl hd hF.1 ?_ ?_
    · have h1 := lv_room (m := m) (pc := pc) (ls := ls) (rest := []) (st := am_vs B X r) (by rw [am_vs_sum]; exact hcat)
      exact Nat.le_trans (Nat.add_le_add_right h1 12) (by omega)
    · exact k ls H locs hl hR hS
  | ireturn =>
    obtain ⟨x, rfl, hnw, e1⟩ := am_ret_inv (show am_ret _ _ = _ from hdo)
    cases e1
  | lreturn =>
    obtain ⟨x, rfl, e1⟩ := am_retL_inv (show am_retL _ = _ from hdo)
    cases e1
  | areturn =>
    obtain ⟨x, rfl, hv, e1⟩ := am_retA_inv (show am_retA _ = _ from hdo)
    cases e1
  | return_ =>
    obtain ⟨rfl, e1⟩ := am_retV_inv (show am_retV _ = _ from hdo)
    cases e1
  | invokestatic idx =>
    obtain ⟨rfl, ok2⟩ : len = 3 ∧ ((rs.length == 1) = true → am_okM own idx (am_t rs)) := hok
    have hdo : (bif rs.length == 1 then am_mth (am_t rs) pc l0 st h else am_sta rs st) = some (.inl (f', h')) := hdo
    cases h1r : rs.length == 1 with
    | false =>
      rw [h1r] at hdo
      obtain ⟨n, M, as, r, rfl, hp, hcat, e1⟩ := am_sta_inv (show am_sta _ _ = _ from hdo)
      cases e1
    | true =>
      rw [h1r] at hdo
      obtain ⟨hini, hw⟩ := ok2 h1r
      have hms : c.maxLocals = ls.size := hml.trans hl.1.symm
      have room : ∀ r : List Value, (r.map fun v => v.category).sum ≤ 8 → ((am_vs B X r).map fun v => v.category).sum + 13 ≤ R.locals := fun r hr => by rw [am_vs_sum]; omega
      rcases am_mth_inv (show am_mth _ _ _ _ _ = _ from hdo) with ⟨x, r, hz9, rfl, hcat, e1⟩ | ⟨x, r, hz9, rfl, hcat, e1⟩ | ⟨y, x, r, hz9, rfl, hcat, e1⟩ | ⟨y, x, r, hz9, rfl, hcat, e1⟩
      · obtain ⟨rfl, e2⟩ := am_inl e1; subst e2; simp only [Nat.sub_self, Nat.add_zero] at k hc hs
        rcases hw with ⟨-, w1, w2, w3⟩ | ⟨hz, -⟩ | ⟨hz, -⟩ | ⟨hz, -⟩
        · exact va_mabs hx hb hms hown (hts _ w1) (hts _ w2) (hts _ hini) (hts _ w3) hF.1 (room r hcat) hc hs hd (k ls H locs hl hR hS)
        all_goals (rw [hz9] at hz; cases hz)
      · obtain ⟨rfl, e2⟩ := am_inl e1; subst e2; simp only [Nat.sub_self, Nat.add_zero] at k hc hs
        rcases hw with ⟨hz, -⟩ | ⟨-, w1, w2, w3⟩ | ⟨hz, -⟩ | ⟨hz, -⟩
        · rw [hz9] at hz; cases hz
        · exact va_mabs_long hx hb hms hown (hts _ w1) (hts _ w2) (hts _ hini) (hts _ w3) hF.1 (room r hcat) hc hs hd (k ls H locs hl hR hS)
        all_goals (rw [hz9] at hz; cases hz)
      · obtain ⟨rfl, e2⟩ := am_inl e1; subst e2; simp only [Nat.sub_self, Nat.add_zero] at k hc hs
        rcases hw with ⟨hz, -⟩ | ⟨hz, -⟩ | ⟨-, w1, w2, w3⟩ | ⟨hz, -⟩
        · rw [hz9] at hz; cases hz
        · rw [hz9] at hz; cases hz
        · exact va_mmax hx hb hms hown (hts _ w1) (hts _ w2) (hts _ hini) (hts _ w3) hF.1 (room r hcat) hc hs hd (k ls H locs hl hR hS)
        · rw [hz9] at hz; cases hz
      · obtain ⟨rfl, e2⟩ := am_inl e1; subst e2; simp only [Nat.sub_self, Nat.add_zero] at k hc hs
        rcases hw with ⟨hz, -⟩ | ⟨hz, -⟩ | ⟨hz, -⟩ | ⟨-, w1, w2, w3⟩
        · rw [hz9] at hz; cases hz
        · rw [hz9] at hz; cases hz
        · rw [hz9] at hz; cases hz
        · exact va_mmin hx hb hms hown (hts _ w1) (hts _ w2) (hts _ hini) (hts _ w3) hF.1 (room r hcat) hc hs hd (k ls H locs hl hR hS)
  | invokevirtual idx =>
    obtain ⟨n, ds, as, v, r, ci, M, rfl, hp, hr, hm, hcat, e1⟩ := am_inv_inv (show am_inv _ _ _ = _ from hdo)
    cases e1
  | _ => exact absurd (show (none : Option am_O) = _ from hdo) (by simp)
