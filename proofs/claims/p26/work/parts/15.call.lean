/-! Returns and calls of the small machine are the machine's. mi: a method's name, bytes, locals, answer. -/
abbrev am_MI : Type := Nat → MethodName × ByteArray × Nat × Option FieldType
def am_pl (y : MethodName) (n : Nat) : Prop := y.cls ≠ "java/lang/invoke/MethodHandle" ∧ y.cls ≠ "java/lang/invoke/VarHandle" ∧ (parseMethodDescriptor y.desc).map (fun d => d.parameters.length) = some n
def am_mok (mi : am_MI) (M : Nat) : Prop := Cond.code (mi M).1 (mi M).2.1 (mi M).2.2.1 (mi M).2.2.2 ∈ am_tb ∧ (mi M).2.2.1 ≤ 45 ∧ Cond.initialized (mi M).1.cls ∈ am_tb ∧ plainName (mi M).1.cls = true
def am_lS (mi : am_MI) (own : String) (idx n M : Nat) : Prop := am_mok mi M ∧ Cond.methodLink own idx (mi M).1 ∈ am_tb ∧ Cond.static (mi M).1 ∈ am_tb ∧ am_pl (mi M).1 n
def am_lI (mi : am_MI) (own : String) (idx n M : Nat) : Prop := am_mok mi M ∧ (Cond.methodLink own idx (mi M).1 ∈ am_tb ∨ ∃ host, Cond.methodLinkNest own idx (mi M).1 host ∈ am_xw) ∧ Cond.instanceMethod (mi M).1 ∈ am_tb ∧ (mi M).1.name = "<init>" ∧ (mi M).2.2.2 = none ∧ am_pl (mi M).1 n
def am_cn (ci : Nat) (C : String) : Prop := (ci = 60 ∧ C = "java/lang/String") ∨ ∃ r : vw_C, vwCl[ci]? = some r ∧ r.1 = C
def am_lV (mi : am_MI) (own : String) (idx n ci M : Nat) : Prop := am_mok mi M ∧ ∃ C, am_cn ci C ∧ Cond.instanceMethod (mi M).1 ∈ am_tb ∧
  ((Cond.methodLink own idx (mi M).1 ∈ am_tb ∧ Cond.selects C (mi M).1 (mi M).1 ∈ am_tb ∧ am_pl (mi M).1 n) ∨
   ∃ (owner : String) (x : MethodName), Cond.methodLink own idx x ∈ am_tb ∧ Cond.sameMethod x.cls owner x.name x.desc ∈ am_tb ∧ Cond.selects C x (mi M).1 ∈ am_tb ∧ owner ≠ "java/lang/invoke/MethodHandle" ∧ owner ≠ "java/lang/invoke/VarHandle" ∧ (parseMethodDescriptor x.desc).map (fun d => d.parameters.length) = some n ∧ (Cond.declares ⟨owner, x.name, x.desc⟩ ∈ am_xw ∨ (Cond.instanceMethod ⟨owner, x.name, x.desc⟩ ∈ am_tb ∧ ∃ b0 m0 r0, Cond.code ⟨owner, x.name, x.desc⟩ b0 m0 r0 ∈ am_tb)))
def am_okC (mi : am_MI) (own : String) (q : am_I) : Prop := match q with
  | (_, ins, len, rs, _) => match ins with
    | .invokestatic idx => len = 3 ∧ ((rs.length == 1) = true ∨ am_lS mi own idx (am_t rs) (am_t (rs.drop 1)))
    | .invokespecial idx => len = 3 ∧ (rs = [] ∨ am_lI mi own idx (am_t rs) (am_t (rs.drop 1)))
    | .invokevirtual idx => len = 3 ∧ ∀ ci M, am_dis (rs.drop 1) ci = some M → am_lV mi own idx (am_t rs) ci M
    | _ => True
def am_wd (mi : am_MI) (M : Nat) : List Cond := Cond.code (mi M).1 (mi M).2.1 (mi M).2.2.1 (mi M).2.2.2 :: am_tb
def am_rm (d mc ms : Nat) : Room := { frames := d, cells := mc, slots := ms, locals := 64 * d }
def am_Pc (B : Nat) (X : Nat → Option Nat) (D : va_G) (cA : Nat → Nat) (sc : Nat × (Nat → Int32)) (as : List Value) (h : am_H) : Array Value → State → Prop := fun v U => v = (am_vs B X as).toArray ∧ am_R B X D cA h U.heap ∧ am_G B X D cA sc U
def am_Q (B : Nat) (X : Nat → Option Nat) (D : va_G) (cA : Nat → Nat) (v : Option Value) (h1 : am_H) : Array Value → State → Outcome → State → Prop := fun _ st oc t => (oc = .returned (v.map (am_v B X)) ∧ am_R B X D cA h1 t.heap) ∧ va_F (am_A B) st t
theorem am_blind (B : Nat) (X : Nat → Option Nat) (D : va_G) (cA : Nat → Nat) (sc : Nat × (Nat → Int32)) (as : List Value) (h : am_H) : FrameBlind (am_Pc B X D cA sc as h) := by
  intro a U g mk q
  obtain ⟨q1, q2, q3⟩ := q
  exact ⟨q1, q2, am_G.same (s := U) (U := U.calling g mk a) rfl rfl q3⟩
theorem am_wd_in {mi : am_MI} {M : Nat} (h : am_mok mi M) : GoodIn am_tb (am_wd mi M) := by
  intro w hw
  rcases List.mem_cons.mp hw with rfl | hw
  · exact am_tb_good _ h.1
  · exact am_tb_good _ hw
theorem am_nw_ok {t : Nat} {x : Int32} {ret : Option FieldType} (h : am_nw t x = true) (hr : (t = 0 ∧ ret = some .int) ∨ (t = 2 ∧ ret = some .boolean) ∨ (t = 3 ∧ ret = some .byte) ∨ (t = 4 ∧ ret = some .char)) : ∃ ty, ret = some ty ∧ narrow ty (.int x) = .int x := by
  rcases hr with ⟨rfl, rfl⟩ | ⟨rfl, rfl⟩ | ⟨rfl, rfl⟩ | ⟨rfl, rfl⟩
  · exact ⟨_, rfl, rfl⟩
  · have h2 : x = 0 ∨ x = 1 := by simpa [am_nw] using h
    rcases h2 with rfl | rfl
    · exact ⟨_, rfl, by decide⟩
    · exact ⟨_, rfl, by decide⟩
  · have h2 : x = 0 := by simpa [am_nw] using h
    subst h2
    exact ⟨_, rfl, by decide⟩
  · have h2 : x = (x.toUInt32 % 65536).toInt32 := by simpa [am_nw] using h
    refine ⟨_, rfl, ?_⟩
    rw [h2]
    exact pk_nc x
section AMC
variable {B : Nat} {X : Nat → Option Nat} {D : va_G} {cA : Nat → Nat} {sc : Nat × (Nat → Int32)} {own nm : String} {cc : ByteArray} {nL : Nat} {ret : Option FieldType} {df : Nat → List Value} {mi : am_MI}
variable {p : Program} {l : Launch} {e : Env} {R : Room} {s : State} {m : MethodId} {args : Array Value} {below : List Frame} {meth : Method} {c : Code} {H : Heap} {locs : List Loc} {cells slots : Nat} {Q : State → Prop} {ls : Array Slot}
theorem am_snd_ret {Qc : Array Value → State → Outcome → State → Prop} {free : Addr → Prop} (hC : am_C B X D cA sc own nm cc nL ret p s m args meth c) {q : am_I} (hd : decode cc q.1 = .ok (q.2.1, q.2.2.1)) (hok : am_okP df own nm nL ret q) {l0 : am_L} {st : List Value} {h : am_H} {r : Option Value} (hki : am_isR q.2.1 = true) (hdo : am_do df sc q l0 st h = some (.inr (.inl r)))
    (hq : ∀ t : State, t.heap = H → s.WarmedH t.vm → Qc args s (.returned (r.map (am_v B X))) t) (hf : ∀ q ∈ locs, free q.base) : W p l e R s m args below meth c H locs cells slots (MQ below Qc args s cells slots free) (F0 m q.1 ls (am_vs B X st)) := by
  obtain ⟨hx, hb, hml, hown, hts, hret, hlocks, hnm, hG⟩ := hC
  obtain ⟨pc, ins, len, rs, cv⟩ := q
  cases ins with
  | ireturn =>
    obtain ⟨rfl, hok⟩ : len = 1 ∧ _ := hok
    obtain ⟨x, rfl, hnw, e1⟩ := am_ret_inv (show am_ret _ _ = _ from hdo)
    cases e1
    obtain ⟨ty, hty, hn⟩ := am_nw_ok hnw hok
    exact W.zret (v := x) hx hb (hret.trans hty) hn hq hf hd hlocks
  | lreturn =>
    obtain ⟨rfl, hok⟩ : len = 1 ∧ _ := hok
    obtain ⟨x, rfl, e1⟩ := am_retL_inv (show am_retL _ = _ from hdo)
    cases e1
    exact W.lret (v := x) hx hb (hret.trans hok) hq hf hd hlocks
  | areturn =>
    obtain ⟨rfl, rt, hrt, hok⟩ : len = 1 ∧ _ := hok
    obtain ⟨v, rfl, hv, e1⟩ := am_retA_inv (show am_retA _ = _ from hdo)
    cases e1
    refine W.aret (v := am_v B X v) hx hb (hret.trans hrt) hok ?_ hq hf hd hlocks
    rcases hv with rfl | ⟨a, rfl⟩
    · exact Or.inl rfl
    · exact Or.inr ⟨_, rfl⟩
  | return_ =>
    obtain ⟨rfl, hok⟩ : len = 1 ∧ _ := hok
    obtain ⟨rfl, e1⟩ := am_retV_inv (show am_retV _ = _ from hdo)
    cases e1
    exact W.vret hx hb (hret.trans hok) hq hf hd hlocks
  | _ => cases hki
/-- behind a call -/
theorem am_after {pc mc ms : Nat} {st0 rest : List Value} {v : Option Value} {h1 : am_H} {a : Array Value} (hr : va_Run p l e R s m args below meth c H locs cells slots mc ms (F0 m pc ls st0) rest (am_Q B X D cA v h1 a) (am_A B)) (hS : va_S (am_A B) s.heap H locs)
    (kk : ∀ (H1 : Heap) (locs1 : List Loc), am_R B X D cA h1 H1 → va_S (am_A B) s.heap H1 locs1 → W p l e R s m args below meth c H1 locs1 (cells + mc) (slots + ms) Q (F0 m (pc + 3) ls (am_vs B X v.toList ++ rest))) : W p l e R s m args below meth c H locs cells slots Q (F0 m pc ls st0) := by
  intro T hT X0
  obtain ⟨v0, st₀, t, T', L, h0, X', hL, e1, e2, ⟨⟨hv, hb⟩, hz, hk⟩, st⟩ := hr T hT X0
  have hv0 : v0 = v.map (am_v B X) := Outcome.returned.inj hv
  subst hv0
  rw [h0] at hz hk
  have hv2 : (v.map (am_v B X)).toList = am_vs B X v.toList := by cases v <;> rfl
  rw [hv2] at st
  obtain ⟨t2, a1, b1⟩ := kk T'.heap (locs ++ L) (by rw [e1]; exact hb)
    ⟨Nat.le_trans hS.1 (by rw [e1]; exact hz), fun q h1 h2 => by rw [e1, hk q (Nat.lt_of_lt_of_le h1 hS.1) h2]; exact hS.2.1 q h1 h2, fun q hq => by
      rcases List.mem_append.mp hq with h | h
      · exact hS.2.2 q h
      · exact hL q h⟩ T' rfl X'
  exact ⟨t2, st t2 a1, b1⟩
theorem am_vs_app (st r : List Value) : am_vs B X (st ++ r) = am_vs B X st ++ am_vs B X r := List.map_append
theorem am_vs_rev (st : List Value) : am_vs B X st.reverse = (am_vs B X st).reverse := List.map_reverse
theorem am_no60 {r : vw_C} (h : vwCl[60]? = some r) : False := by cases h
theorem am_recv {h : am_H} {v : Value} {ci : Nat} {C : String} (hG : am_G B X D cA sc s) (hR : am_R B X D cA h H) (hS : va_S (am_A B) s.heap H locs) (hr : am_rec h v = some ci) (hc : am_cn ci C) : ∃ b, am_v B X v = .ref b ∧ ∃ cellB : Cell, H[b]? = some cellB ∧ cellB.vm.isStatics = false ∧ s.vm.findClass C = some cellB.cls := by
  obtain ⟨hK, -, hBs, ⟨adK, adV, hst, hvk, hvr⟩, -⟩ := hG
  cases v with
  | ref a =>
    refine ⟨B + a, rfl, ?_⟩
    unfold am_rec at hr
    dsimp only at hr
    split at hr
    · rename_i ci' fs hh
      cases hr
      rcases hc with ⟨rfl, -⟩ | ⟨r, h1, rfl⟩
      · obtain ⟨r, h1, -⟩ := hR.2 a _ (am_w_at hh)
        exact (am_no60 h1).elim
      · exact va_recv hK hR.2 h1 (am_w_at hh)
    · cases hr
  | retAddr k =>
    unfold am_rec at hr
    dsimp only at hr
    split at hr
    · rename_i hk
      cases hr
      obtain ⟨i, rfl⟩ : ∃ i, k = i + 1 := ⟨k - 1, by omega⟩
      have hi : i < am_tx.length := by omega
      refine ⟨adK i, ?_, ?_⟩
      · show va_rf (X (i + 1)) = _
        rw [(hst i hi).1]; rfl
      · rcases hc with ⟨-, rfl⟩ | ⟨r, h1, -⟩
        · exact vk_recv hvk hi hS
        · exact (am_no60 h1).elim
    · cases hr
  | _ => cases hr
theorem am_snd_call {d mc ms : Nat} (hC : am_C B X D cA sc own nm cc nL ret p s m args meth c) (hF : d + 1 ≤ R.frames ∧ 64 * d + 64 ≤ R.locals) {q : am_I} (hd : decode cc q.1 = .ok (q.2.1, q.2.2.1)) (hok : am_okC mi own q) {l0 : am_L} {st : List Value} {h : am_H} (hl : lv_has ls nL (am_lm B X l0)) (hR : am_R B X D cA h H) (hS : va_S (am_A B) s.heap H locs)
    (hki : am_isC q.2.1 = true) {M : Nat} {as r : List Value} (hdo : am_do df sc q l0 st h = some (.inr (.inr (M, as, r)))) {v : Option Value} {h1 : am_H} (hM : Met l (mi M).1 (am_wd mi M) (am_rm d mc ms) (am_Pc B X D cA sc as h) (am_Q B X D cA v h1) mc ms (am_A B)) (hf : cells + mc ≤ R.cells ∧ slots + ms ≤ R.slots)
    (k : ∀ (H1 : Heap) (locs1 : List Loc), am_R B X D cA h1 H1 → va_S (am_A B) s.heap H1 locs1 → W p l e R s m args below meth c H1 locs1 (cells + mc) (slots + ms) Q (F0 m (q.1 + 3) ls (am_vs B X (v.toList ++ r)))) :
    W p l e R s m args below meth c H locs cells slots Q (F0 m q.1 ls (am_vs B X st)) := by
  obtain ⟨hx, hb, hml, hown, hts, hret, hlocks, hnm, hG⟩ := hC
  obtain ⟨pc, ins, len, rs, cv⟩ := q
  have hpre : ∀ U : State, U.heap = H → s.WarmedH U.vm → am_Pc B X D cA sc as h (am_vs B X as).toArray U := fun U hU hW => ⟨rfl, by rw [hU]; exact hR, am_G.moved hW (by rw [hU]; exact hS) hG⟩
  cases ins with
  | invokestatic idx =>
    have hdo : (bif rs.length == 1 then am_mth (am_t rs) pc l0 st h else am_sta rs st) = some (.inr (.inr (M, as, r))) := hdo
    cases h1r : rs.length == 1 with
    | true =>
      rw [h1r] at hdo
      rcases am_mth_inv (show am_mth _ _ _ _ _ = _ from hdo) with ⟨_, _, _, _, _, e1⟩ | ⟨_, _, _, _, _, e1⟩ | ⟨_, _, _, _, _, _, e1⟩ | ⟨_, _, _, _, _, _, e1⟩ <;> cases e1
    | false =>
    rw [h1r] at hdo
    obtain ⟨n, M', as', r', rfl, hp, hcat, e1⟩ := am_sta_inv (show am_sta _ _ = _ from hdo)
    cases e1
    obtain ⟨rfl, hok⟩ : len = 3 ∧ (([n, M].length == 1) = true ∨ am_lS mi own idx n M) := hok
    rcases hok with hok | ⟨hmo, hw1, hw2, hpl⟩
    · cases hok
    obtain ⟨rfl, hn⟩ := am_pop_inv hp
    have hroom := lv_room (m := m) (pc := pc) (ls := ls) (rest := am_vs B X (as.reverse ++ r)) (st := am_vs B X r) (by rw [am_vs_sum]; exact hcat)
    refine am_after (rest := am_vs B X r) (va_runS (As := am_vs B X as) (rest := am_vs B X r) ⟨hx, hb, hml, hown, hts⟩ hM ⟨callB_of n hts (am_wd_in hmo) rfl rfl rfl (hts _ hmo.2.2.1) (hts _ hw1) hpl ⟨hF.1, ?_⟩, hts _ hw2⟩ ⟨am_blind B X D cA sc as h, hpre⟩ rfl (by unfold am_vs; rw [List.length_map]; exact hn) hl.1 ?_ hroom hd hf) hS (fun H1 locs1 hR1 hS1 => ?_)
    · have h45 := hmo.2.1
      show 8 + ((mi M).2.2.1 + 11) + 64 * d ≤ R.locals
      omega
    · show am_vs B X (as.reverse ++ r) = (am_vs B X as).reverse ++ am_vs B X r
      rw [am_vs_app, am_vs_rev]
    · rw [← am_vs_app]
      exact k H1 locs1 hR1 hS1
  | invokespecial idx =>
    obtain ⟨n, M', as', a, r', rfl, hp, hcat, e1⟩ := am_spc_inv2 (show am_spc _ _ _ _ _ = _ from hdo)
    cases e1
    obtain ⟨rfl, hok⟩ : len = 3 ∧ ([n, M] = [] ∨ am_lI mi own idx n M) := hok
    rcases hok with h9 | ⟨hmo, hw1, hw2, hini, hrn, hpl⟩
    · cases h9
    obtain ⟨rfl, hn⟩ := am_pop_inv hp
    have hroom := lv_room (m := m) (pc := pc) (ls := ls) (rest := am_vs B X (as'.reverse ++ .ref a :: r)) (st := am_vs B X r) (by rw [am_vs_sum]; exact hcat)
    have hwd : am_wd mi M = Cond.code (mi M).1 (mi M).2.1 (mi M).2.2.1 none :: am_tb := by unfold am_wd; rw [hrn]
    have h45 := hmo.2.1
    have hrm : 8 + ((mi M).2.2.1 + 11) + 64 * d ≤ R.locals := by omega
    have hstk : (F0 m pc ls (am_vs B X (as'.reverse ++ .ref a :: r))).stack = (am_vs B X as').reverse ++ .ref (B + a) :: am_vs B X r := by
      show am_vs B X (as'.reverse ++ .ref a :: r) = (am_vs B X as').reverse ++ .ref (B + a) :: am_vs B X r
      rw [am_vs_app, am_vs_rev]; rfl
    have hln : (am_vs B X as').length = n := by unfold am_vs; rw [List.length_map]; exact hn
    refine am_after (B := B) (X := X) (D := D) (cA := cA) (v := v) (h1 := h1) (mc := mc) (ms := ms) (rest := am_vs B X r) (a := (am_vs B X (.ref a :: as')).toArray) ?_ hS (fun H1 locs1 hR1 hS1 => ?_)
    · rcases hw1 with hw1 | ⟨host, hw1⟩
      · exact va_runI (As := am_vs B X as') (rest := am_vs B X r) ⟨hx, hb, hml, hown, hts⟩ hM ⟨callB_of n hts (am_wd_in hmo) hwd rfl rfl (hts _ hmo.2.2.1) (hts _ hw1) hpl ⟨hF.1, hrm⟩, hini, hts _ hw2⟩ ⟨am_blind B X D cA sc _ h, hpre⟩ rfl hln hl.1 hstk hroom hd hf
      · exact va_runIN (As := am_vs B X as') (rest := am_vs B X r) ⟨hx, hb, hml, hown, hts⟩ hM ⟨va_cnB n hts (am_wd_in hmo) hwd rfl rfl (hG.2.2.2.2.2.2.2.2.2 _ hw1) (hts _ hmo.2.2.1) hpl ⟨hF.1, hrm⟩, hini, hts _ hw2⟩ ⟨am_blind B X D cA sc _ h, hpre⟩ rfl hln hl.1 hstk hroom hd hf
    · rw [← am_vs_app]
      exact k H1 locs1 hR1 hS1
  | invokevirtual idx =>
    obtain ⟨n, ds, as', v0, r', ci, M', rfl, hp, hrc, hdi, hcat, e1⟩ := am_inv_inv (show am_inv _ _ _ = _ from hdo)
    cases e1
    obtain ⟨rfl, hok⟩ : len = 3 ∧ _ := hok
    obtain ⟨hmo, C, hcn, hw2, hok⟩ := hok ci M hdi
    obtain ⟨b, hvb, hrecv⟩ := am_recv hG hR hS hrc hcn
    obtain ⟨rfl, hn⟩ := am_pop_inv hp
    have hroom := lv_room (m := m) (pc := pc) (ls := ls) (rest := am_vs B X (as'.reverse ++ v0 :: r)) (st := am_vs B X r) (by rw [am_vs_sum]; exact hcat)
    have h45 := hmo.2.1
    have hrm : 8 + ((mi M).2.2.1 + 11) + 64 * d ≤ R.locals := by omega
    have hcons : am_vs B X (v0 :: as') = .ref b :: am_vs B X as' := by rw [← hvb]; rfl
    have hstk : (F0 m pc ls (am_vs B X (as'.reverse ++ v0 :: r))).stack = (am_vs B X as').reverse ++ .ref b :: am_vs B X r := by
      show am_vs B X (as'.reverse ++ v0 :: r) = (am_vs B X as').reverse ++ .ref b :: am_vs B X r
      rw [am_vs_app, am_vs_rev, ← hvb]; rfl
    have hln : (am_vs B X as').length = n := by unfold am_vs; rw [List.length_map]; exact hn
    rw [hcons] at hpre
    refine am_after (B := B) (X := X) (D := D) (cA := cA) (v := v) (h1 := h1) (mc := mc) (ms := ms) (rest := am_vs B X r) (a := (.ref b :: am_vs B X as').toArray) ?_ hS (fun H1 locs1 hR1 hS1 => ?_)
    · rcases hok with ⟨hl1, hl2, hpl⟩ | ⟨owner, x, hl1, hl2, hl3, hn1, hn2, hpr, hdec⟩
      · exact va_runV (C := C) (As := am_vs B X as') (rest := am_vs B X r) ⟨hx, hb, hml, hown, hts⟩ hM ⟨callB_of n hts (am_wd_in hmo) rfl rfl rfl (hts _ hmo.2.2.1) (hts _ hl1) hpl ⟨hF.1, hrm⟩, hts _ hw2, hts _ hl2⟩ ⟨am_blind B X D cA sc _ h, hrecv, hpre⟩ rfl hln hl.1 hstk hroom hd hf
      · have hc : Cond.code (mi M).1 (mi M).2.1 (mi M).2.2.1 (mi M).2.2.2 ∈ am_wd mi M := List.mem_cons_self
        have hdecl : va_Decl s ⟨owner, x.name, x.desc⟩ := by
          rcases hdec with hz | ⟨hz1, b0, m0, r0, hz2⟩
          · exact va_Decl.abs (hG.2.2.2.2.2.2.2.2.2 _ hz)
          · exact va_Decl.of (hts _ hz1) (hts _ hz2)
        exact va_runU (C := C) (owner := owner) (x := x) (n := n) (bytes := (mi M).2.1) (maxL := (mi M).2.2.1) (ret := (mi M).2.2.2) (As := am_vs B X as') (rest := am_vs B X r) ⟨hx, hb, hml, hown, hts⟩ hM ⟨⟨rfl, rfl, hF.1, hrm, pay_in hts (am_wd_in hmo), hc⟩, hts _ hmo.1, hts _ hmo.2.2.1, ⟨hn1, hn2⟩, fun sig h9 => by rw [h9] at hpr; exact (Option.some.inj hpr).symm, hts _ hl1, hts _ hl2, hdecl, hts _ hl3, hts _ hw2⟩ ⟨am_blind B X D cA sc _ h, hrecv, hpre⟩ rfl hln hl.1 hstk hroom hd hf
    · rw [← am_vs_app]
      exact k H1 locs1 hR1 hS1
  | _ => cases hki
end AMC
