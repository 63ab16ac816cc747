/-! From the law's entry: what was there before, the classes, and the claim out of one run of the small machine. -/
def am_tm (i : Nat) : Term := Term.string (am_sr.getD i ("", 0, "")).1 (am_sr.getD i ("", 0, "")).2.1
abbrev am_fc : List Cond := flatC (Jvm.Cond.and given_1 narrow_1)
theorem as_ex : ∀ i, i < 11 → Cond.exactly (am_tm i) "java/lang/String" ∈ am_fc := by decide +kernel
theorem as_co : ∀ i, i < 11 → Cond.eq (.field (am_tm i) "java/lang/String" "coder" "B") (.int 0) ∈ am_fc := by decide +kernel
theorem as_ar : ∀ i, i < 11 → Cond.arrayOf (.field (am_tm i) "java/lang/String" "value" "[B") .byte ∈ am_fc := by decide +kernel
theorem as_le : ∀ i, i < 11 → Cond.eq (.length (.field (am_tm i) "java/lang/String" "value" "[B")) (.int (Int32.ofNat ((am_tx.map List.length).getD i 0))) ∈ am_fc := by decide +kernel
theorem as_el : ∀ i, i < 11 → ∀ j, j < (am_tx.map List.length).getD i 0 → Cond.eq (.elem (.field (am_tm i) "java/lang/String" "value" "[B") (.int (Int32.ofNat j))) (.int ((am_tx.getD i []).getD j 0)) ∈ am_fc := by decide +kernel
theorem as_nl : ∀ i, i < 11 → ∀ j, j < 11 → i < j → Cond.not (Cond.eq (am_tm i) (am_tm j)) ∈ am_fc := by decide +kernel
theorem as_ne : ∀ i, i < 11 → ∀ j, j < 11 → i ≠ j → (Cond.not (Cond.eq (am_tm i) (am_tm j)) ∈ am_fc ∨ Cond.not (Cond.eq (am_tm j) (am_tm i)) ∈ am_fc) := fun i hi j hj h => if z : i < j then Or.inl (as_nl i hi j hj z) else Or.inr (as_nl j hj i hi (by omega))
theorem as_nc : ∀ q ∈ am_nc, Cond.not (Cond.castable q.1 q.2) ∈ am_fc := by decide +kernel
theorem as_cs : Cond.eq (.static "java/lang/String" "COMPACT_STRINGS" "Z") (.int 1) ∈ am_fc := by decide +kernel
theorem as_sf : Cond.isRef (.static "jdk/internal/util/Preconditions" "SIOOBE_FORMATTER" "Ljava/util/function/BiFunction;") ∈ am_fc := by decide +kernel
theorem as_sr : ∀ i, i < 11 → Cond.stringRef (am_sr.getD i ("", 0, "")).1 (am_sr.getD i ("", 0, "")).2.1 (am_sr.getD i ("", 0, "")).2.2 ∈ lw_tbl := by decide +kernel
theorem am_arrI {s : State} {args : Array Value} {ty : FieldType} (h : (Cond.arrayClass ty).before args s = true) : ∃ cA : ClassId, ArrOfT s cA ty ∧ s.vm.findClass ("[" ++ ty.toString) = some cA := by
  obtain ⟨cA, kA, comp, h1, h2, h3⟩ := Cond.arrayClass_spec (args := args) (first := s) (o := none) (s := s) (idx := []) h
  exact ⟨cA, fun n z => ⟨fun k h => (by cases h), kA, h2, comp, h3⟩, h1⟩
theorem am_arrO {s : State} {args : Array Value} {C : String} (h : (Cond.arrayOver (.object C)).before args s = true) : ∃ cA : ClassId, ArrOfT s cA (.object C) ∧ va_RA s cA (.object C) := by
  obtain ⟨comp, cA, kA, h1, -, h3, h4, h5⟩ := Cond.arrayOver_spec (args := args) (first := s) (o := none) (s := s) (idx := []) h
  exact ⟨cA, fun n z => ⟨fun k h => (by cases h), kA, h3, comp, h4⟩, kA, comp, h3, h4, h1, h5⟩
set_option maxHeartbeats 1000000 in
theorem am_begin {s : State} {args : Array Value} {b L : Nat} {xs : Nat → Int32} (hts : ∀ w ∈ lw_tbl, w.before args s = true) (hX : va_X b L xs s s.heap) (hbl : b < s.heap.size) (hgv : (Jvm.Cond.and given_1 narrow_1).before args s = true) : ∃ (X : Nat → Option Nat) (D : va_G) (cA : Nat → Nat), am_G s.heap.size X D cA (L, xs) s ∧ X 0 = some b := by
  have hfl := flat_of_before _ hgv
  have hA : ∀ a : Nat, a < s.heap.size → ¬ am_A s.heap.size a := fun a h => Nat.not_le.mpr h
  obtain ⟨c0, i0, k0⟩ := u_known (C := RX0) (T := TX0) (N := 3) (n := 3) hts (fun w h => (List.mem_filter.mp (cl_0.2.1 w h)).1) (hts (.instantiable RX0 3) (am_tk2 (List.mem_of_getElem? (i := 133) (by decide +kernel))))
  obtain ⟨c1, i1, k1⟩ := u_known (C := RX1) (T := TX1) (N := 3) (n := 3) hts (fun w h => (List.mem_filter.mp (cl_1.2.1 w h)).1) (hts (.instantiable RX1 3) (am_tk1 (List.mem_of_getElem? (i := 129) (by decide +kernel))))
  obtain ⟨c2, i2, k2⟩ := u_known (C := RX2) (T := TX2) (N := 3) (n := 3) hts (fun w h => (List.mem_filter.mp (cl_2.2.1 w h)).1) (hts (.instantiable RX2 3) (am_tk2 (List.mem_of_getElem? (i := 171) (by decide +kernel))))
  obtain ⟨c3, i3, k3⟩ := u_known (C := RX3) (T := TX3) (N := 3) (n := 3) hts (fun w h => (List.mem_filter.mp (cl_3.2.1 w h)).1) (hts (.instantiable RX3 3) (am_tk2 (List.mem_of_getElem? (i := 181) (by decide +kernel))))
  obtain ⟨c4, i4, k4⟩ := u_known (C := RX6) (T := TX6) (N := 3) (n := 3) hts (fun w h => (List.mem_filter.mp (cl_4.2.1 w h)).1) (hts (.instantiable RX6 3) (am_tk2 (List.mem_of_getElem? (i := 161) (by decide +kernel))))
  obtain ⟨c5, i5, k5⟩ := u_known (C := RX7) (T := TX7) (N := 4) (n := 4) hts (fun w h => (List.mem_filter.mp (cl_5.2.1 w h)).1) (hts (.instantiable RX7 4) (am_tk1 (List.mem_of_getElem? (i := 150) (by decide +kernel))))
  obtain ⟨c6, i6, k6⟩ := u_known (C := RX8) (T := TX8) (N := 4) (n := 4) hts (fun w h => (List.mem_filter.mp (cl_6.2.1 w h)).1) (hts (.instantiable RX8 4) (am_tk1 (List.mem_of_getElem? (i := 58) (by decide +kernel))))
  obtain ⟨c7, i7, k7⟩ := u_known (C := RX9) (T := TX9) (N := 6) (n := 6) hts (fun w h => (List.mem_filter.mp (cl_7.2.1 w h)).1) (hts (.instantiable RX9 6) (am_tk1 (List.mem_of_getElem? (i := 29) (by decide +kernel))))
  obtain ⟨c8, i8, k8⟩ := u_known (C := RX10) (T := TX10) (N := 14) (n := 14) hts (fun w h => (List.mem_filter.mp (cl_8.2.1 w h)).1) (hts (.instantiable RX10 14) (am_tk1 (List.mem_of_getElem? (i := 80) (by decide +kernel))))
  obtain ⟨c9, i9, k9⟩ := u_known (C := RX11) (T := TX11) (N := 16) (n := 16) hts (fun w h => (List.mem_filter.mp (cl_9.2.1 w h)).1) (hts (.instantiable RX11 16) (am_tk1 (List.mem_of_getElem? (i := 21) (by decide +kernel))))
  obtain ⟨c10, i10, k10⟩ := u_known (C := RX12) (T := TX12) (N := 44) (n := 44) hts (fun w h => (List.mem_filter.mp (cl_10.2.1 w h)).1) (hts (.instantiable RX12 44) (am_tk4 (List.mem_of_getElem? (i := 221) (by decide +kernel))))
  obtain ⟨aI, tI, fI⟩ := am_arrI (hts (.arrayClass .int) (by decide +kernel))
  obtain ⟨aJ, tJ, fJ⟩ := am_arrI (hts (.arrayClass .long) (by decide +kernel))
  obtain ⟨aZ, tZ, fZ⟩ := am_arrI (hts (.arrayClass .boolean) (by decide +kernel))
  obtain ⟨aR, tR, fR⟩ := am_arrO (hts (.arrayOver (.object "RodBeads$Rod")) (by decide +kernel))
  obtain ⟨aS, tS, fS⟩ := am_arrO (hts (.arrayOver (.object "RodBeads$Standing")) (by decide +kernel))
  obtain ⟨adK, adV, hvk, hev⟩ := vk_Sof (args := args) (s := s) (N := 11) (tm := am_tm) (len := am_tx.map List.length) (byt := am_tx) (A := am_A s.heap.size) (by decide +kernel) (fun i hi => hfl _ (as_ex i hi)) (fun i hi => hfl _ (as_co i hi)) (fun i hi => hfl _ (as_ar i hi)) (fun i hi => hfl _ (as_le i hi)) (fun i hi j hj => hfl _ (as_el i hi j hj)) (fun i j hi hj hij => (as_ne i hi j hj hij).imp (fun z => hfl _ z) (fun z => hfl _ z)) hA
  have hz := va_Zof (A := am_A s.heap.size) (hts (.laysStatic "java/lang/String" "COMPACT_STRINGS" "Z") (am_tk2 (List.mem_of_getElem? (i := 60) (by decide +kernel)))) (hts (.initialized "java/lang/String") (am_tk1 (List.mem_of_getElem? (i := 10) (by decide +kernel)))) (va_eqi (hfl _ as_cs)) hA
  have hq := va_Zqof (A := am_A s.heap.size) (hts (.laysStatic "jdk/internal/util/Preconditions" "SIOOBE_FORMATTER" "Ljava/util/function/BiFunction;") (am_tk2 (List.mem_of_getElem? (i := 76) (by decide +kernel)))) (hts (.initialized "jdk/internal/util/Preconditions") (am_tk1 (List.mem_of_getElem? (i := 12) (by decide +kernel)))) (hfl _ as_sf) hA
  obtain ⟨fm, hfm⟩ : ∃ fm : Option Nat, va_Z "jdk/internal/util/Preconditions" "SIOOBE_FORMATTER" "Ljava/util/function/BiFunction;" (va_rf fm) (am_A s.heap.size) s s.heap := by
    rcases hq with h | ⟨t, h⟩
    · exact ⟨none, h⟩
    · exact ⟨some t, h⟩
  refine ⟨fun k => if k = 0 then some b else if k ≤ 11 then some (adK (k - 1)) else if k = 50 then fm else some (adV (k - 21)), (fun k => [c0, c1, c2, c3, c4, c5, c6, c7, c8, c9, c10].getD k 0, fun k => [i0, i1, i2, i3, i4, i5, i6, i7, i8, i9, i10].getD k i0), fun k => [aI, aJ, aZ, aR, aS].getD k 0, ⟨⟨?_, ?_⟩, ⟨b, rfl, hbl, hX⟩, Nat.le_refl _, ⟨adK, adV, ?_, hvk, ?_⟩, fun q hq => va_Nc.of (hfl _ (as_nc q hq)), hz, hfm, va_AO.of (hts (.arrayOver (.object "RodBeads$Rod")) (by decide +kernel)), va_AO.of (hts (.arrayOver (.object "RodBeads$Standing")) (by decide +kernel)), ?_⟩, rfl⟩
  · intro k q hk
    match k, hk with
    | 0, hk => cases hk; exact k0
    | 1, hk => cases hk; exact k1
    | 2, hk => cases hk; exact k2
    | 3, hk => cases hk; exact k3
    | 4, hk => cases hk; exact k4
    | 5, hk => cases hk; exact k5
    | 6, hk => cases hk; exact k6
    | 7, hk => cases hk; exact k7
    | 8, hk => cases hk; exact k8
    | 9, hk => cases hk; exact k9
    | 10, hk => cases hk; exact k10
    | k + 11, hk => simp [vwCl] at hk
  · intro k q hk
    match k, hk with
    | 0, hk => cases hk; exact ⟨tI, fI⟩
    | 1, hk => cases hk; exact ⟨tJ, fJ⟩
    | 2, hk => cases hk; exact ⟨tZ, fZ⟩
    | 3, hk => cases hk; exact ⟨tR, fR⟩
    | 4, hk => cases hk; exact ⟨tS, fS⟩
    | k + 5, hk => simp [am_ty] at hk
  · intro i hi
    have hi : i < 11 := hi
    have e1 : ¬ i + 1 = 0 := by omega
    have e2 : i + 1 ≤ 11 := by omega
    have e3 : ¬ i + 21 = 0 := by omega
    have e4 : ¬ i + 21 ≤ 11 := by omega
    have e5 : ¬ i + 21 = 50 := by omega
    refine ⟨?_, ?_⟩
    · show (if i + 1 = 0 then some b else if i + 1 ≤ 11 then some (adK (i + 1 - 1)) else if i + 1 = 50 then fm else some (adV (i + 1 - 21))) = _
      rw [if_neg e1, if_pos e2, Nat.add_sub_cancel]
    · show (if i + 21 = 0 then some b else if i + 21 ≤ 11 then some (adK (i + 21 - 1)) else if i + 21 = 50 then fm else some (adV (i + 21 - 21))) = _
      rw [if_neg e3, if_neg e4, if_neg e5, Nat.add_sub_cancel]
  · intro i q hq
    have hi : i < 11 := (List.getElem?_eq_some_iff.mp hq).1
    have hg : am_sr.getD i ("", 0, "") = q := by rw [List.getD_eq_getElem?_getD, hq]; rfl
    have h1 := hts _ (as_sr i hi)
    have h2 := hev i hi
    unfold am_tm at h2
    rw [hg] at h1 h2
    exact vk_R.of h1 h2
  · intro w hw
    obtain ⟨hw1, hw2⟩ := List.mem_filter.mp hw
    refine va_Nw.of ?_ (hts w hw1)
    cases w with
    | castable a b => rfl
    | methodLinkNest a b c d => rfl
    | declares a => rfl
    | _ => cases hw2
def am_nopf (i : Instr) : Bool := match i with
  | .putfield _ => false
  | _ => true
theorem am_okP_nm {df : Nat → List Value} {own nm nm' : String} {nL : Nat} {ret : Option FieldType} {q : am_I} (h0 : am_nopf q.2.1 = true) (h : am_okP df own nm nL ret q) : am_okP df own nm' nL ret q := by
  obtain ⟨pc, ins, len, rs, cv⟩ := q
  cases ins with
  | putfield idx => cases h0
  | _ => exact h
theorem am_law_nopf : pm_237.all (fun q => am_nopf q.2.1) = true := by decide +kernel
theorem am_law_ok (q : am_I) (hq : q ∈ pm_237) (nm : String) : am_okP am_df RL nm 4 (some .boolean) q := am_okP_nm (List.all_eq_true.mp am_law_nopf q hq) (pa_237 q hq).2.1
set_option maxHeartbeats 1000000 in
/-- THE CLAIM OUT OF A RUN -/
theorem am_top {p : Program} {e : Env} {s : State} {m : MethodId} {below : List Frame} {meth : Method} {c : Code} (l : Launch) {b L : Nat} {xs : Nat → Int32} (C0 : lw_At p s m meth c b L xs) {n d : Nat} {h' : am_H} (hd : d ≤ 1000) (hrun : am_steps am_df (L, xs) (am_run am_df (L, xs) am_P n d) pm_237 n (0, [(0, .retAddr 0)], []) [] = some (some (.int 1), h')) (hc : h'.length ≤ 600000) (hs : am_sl h' ≤ 7302250) :
    W p l e room_1 s m #[Value.ref b] below meth c s.heap [] 0 0 (lw_Z below #[Value.ref b] s) (entryFrame m ([Value.ref b] : List Value).toArray 4) := by
  obtain ⟨hx, hb, hr, hml, hown, hts, hX, hbl, hlocks, hgv⟩ := id C0
  obtain ⟨X, D, cA, hG, hX0⟩ := am_begin hts hX hbl hgv
  have hl := lv_entry ([.ref b]) (n := 4) (Nat.le_of_ble_eq_true rfl)
  rw [lg_entry_eq]
  generalize (lg_sl ([.ref b]) ++ List.replicate (4 - (lg_sl ([.ref b])).length) Slot.unset).toArray = ls at hl ⊢
  have e3 : am_v s.heap.size X (.retAddr 0) = .ref b := by
    show va_rf (X 0) = _
    rw [hX0]; rfl
  have hl : lv_has ls 4 (am_lm s.heap.size X [(0, .retAddr 0)]) := by
    show lv_has ls 4 [(0, am_v s.heap.size X (.retAddr 0))]
    rw [e3]
    exact hl
  have hC : ∀ nm0, meth.name = nm0 → am_C s.heap.size X D cA (L, xs) RL nm0 code 4 (some .boolean) p s m #[Value.ref b] meth c := fun nm0 hn0 => ⟨hx, hb, hml, hown, fun w hw => hts w (List.mem_filter.mp hw).1, hr, hlocks, hn0, hG⟩
  have w := am_steps_snd (l := l) (e := e) (below := below) (R := room_1) (Q := lw_Z below #[Value.ref b] s) (hC _ rfl) (d := d) ⟨by show d + 1 ≤ 2048; omega, by show 64 * d + 64 ≤ 84000; omega⟩ (am_run_snd (l := l) am_allP d) (am_run_mono d) (fun q hq => ⟨(pa_237 q hq).1, am_law_ok q hq _, (pa_237 q hq).2.2⟩) (h0 := []) (r := some (.int 1)) (h' := h') (by show h'.length - 0 ≤ 600000; omega) (by show am_sl h' - 0 ≤ 7302250; omega) ?_ n (0, [(0, .retAddr 0)], []) [] ls s.heap [] hrun hl ⟨rfl, fun k q hk => by cases hk⟩ va_S.rf (Nat.le_refl _) (Nat.le_refl _)
  · exact w
  · intro q l0 st ls H locs hq hdo hk hl hR2 hS2
    obtain ⟨pc, ins, len, rs, cv⟩ := q
    have hdq := (pa_237 _ hq).1
    have hok := (pa_237 _ hq).2.1
    cases ins with
    | ireturn =>
      obtain ⟨x, rfl, -, e1⟩ := am_ret_inv (show am_ret _ _ = _ from hdo)
      cases e1
      obtain ⟨rfl, -⟩ : len = 1 ∧ _ := hok
      refine va_forget (fun q hq => hS2.2.2 q hq) ?_
      refine W.widen (k := 600000) (n := 7302250) (by omega) (by omega) ?_
      exact lw_ret hx hb hr hlocks hdq
    | lreturn =>
      obtain ⟨x, rfl, e1⟩ := am_retL_inv (show am_retL _ = _ from hdo)
      cases e1
    | areturn =>
      obtain ⟨v, rfl, hv, e1⟩ := am_retA_inv (show am_retA _ = _ from hdo)
      cases e1
      rcases hv with h9 | ⟨a, h9⟩ <;> cases h9
    | return_ =>
      obtain ⟨rfl, e1⟩ := am_retV_inv (show am_retV _ = _ from hdo)
      cases e1
    | _ => cases hk
