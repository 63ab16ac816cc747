/-! The small machine's heap only grows; its steps and runs are the machine's. -/
theorem am_mo0 {h h' : am_H} (e : h' = h) : h.length ≤ h'.length ∧ am_sl h ≤ am_sl h' := by
  subst e
  exact ⟨Nat.le_refl _, Nat.le_refl _⟩
theorem am_mo1 {h h' : am_H} {x : va_E} (e : h' = h ++ [x]) : h.length ≤ h'.length ∧ am_sl h ≤ am_sl h' := by
  subst e
  rw [am_sl_app, List.length_append]
  exact ⟨by omega, by omega⟩
theorem am_mo2 {h h' : am_H} {a : Nat} {x y : va_E} (hh : h[a]? = some x) (e : h' = h.set a y) (hs : am_sz y = am_sz x) : h.length ≤ h'.length ∧ am_sl h ≤ am_sl h' := by
  subst e
  rw [am_sl_set hh hs, List.length_set]
  exact ⟨Nat.le_refl _, Nat.le_refl _⟩
theorem am_do_mono {df : Nat → List Value} {sc : Nat × (Nat → Int32)} {q : am_I} {l0 : am_L} {st : List Value} {h : am_H} {f' : am_F} {h' : am_H} (hdo : am_do df sc q l0 st h = some (.inl (f', h'))) : h.length ≤ h'.length ∧ am_sl h ≤ am_sl h' := by
  obtain ⟨pc, ins, len, rs, cv⟩ := q
  cases ins with
  | iconst n =>
    have e1 := (Option.some.inj (show some _ = some _ from hdo)).symm
    exact am_mo0 (am_inl e1).2
  | bipush n =>
    have e1 := (Option.some.inj (show some _ = some _ from hdo)).symm
    exact am_mo0 (am_inl e1).2
  | sipush n =>
    have e1 := (Option.some.inj (show some _ = some _ from hdo)).symm
    exact am_mo0 (am_inl e1).2
  | lconst n =>
    have e1 := (Option.some.inj (show some _ = some _ from hdo)).symm
    exact am_mo0 (am_inl e1).2
  | aconst_null =>
    have e1 := (Option.some.inj (show some _ = some _ from hdo)).symm
    exact am_mo0 (am_inl e1).2
  | ldc idx =>
    have e1 := (Option.some.inj (show some _ = some _ from hdo)).symm
    exact am_mo0 (am_inl e1).2
  | ldc_w idx =>
    have e1 := (Option.some.inj (show some _ = some _ from hdo)).symm
    exact am_mo0 (am_inl e1).2
  | ldc2_w idx =>
    have e1 := (Option.some.inj (show some _ = some _ from hdo)).symm
    exact am_mo0 (am_inl e1).2
  | getstatic idx =>
    have e1 := (Option.some.inj (show some _ = some _ from hdo)).symm
    exact am_mo0 (am_inl e1).2
  | goto off =>
    have e1 := (Option.some.inj (show some _ = some _ from hdo)).symm
    exact am_mo0 (am_inl e1).2
  | new idx =>
    have e1 := (Option.some.inj (show some _ = some _ from hdo)).symm
    exact am_mo1 (am_inl e1).2
  | iload_n i =>
    obtain ⟨x, hg, e1⟩ := am_ldI_inv (show am_ldI _ _ _ _ _ = _ from hdo)
    exact am_mo0 (am_inl e1).2
  | lload_n i =>
    obtain ⟨x, hg, e1⟩ := am_ldL_inv (show am_ldL _ _ _ _ _ = _ from hdo)
    exact am_mo0 (am_inl e1).2
  | istore_n i =>
    obtain ⟨x, r, rfl, e1⟩ := am_stI_inv (show am_stI _ _ _ _ _ = _ from hdo)
    exact am_mo0 (am_inl e1).2
  | lstore_n i =>
    obtain ⟨x, r, rfl, e1⟩ := am_stL_inv (show am_stL _ _ _ _ _ = _ from hdo)
    exact am_mo0 (am_inl e1).2
  | aload_n i =>
    rcases am_ldA_inv (show am_ldA _ _ _ _ _ = _ from hdo) with ⟨x, hg, e1⟩ | ⟨hg, e1⟩ | ⟨x, hg, e1⟩ <;> exact am_mo0 (am_inl e1).2
  | astore_n i =>
    rcases am_stA_inv (show am_stA _ _ _ _ _ = _ from hdo) with ⟨x, r, rfl, e1⟩ | ⟨r, rfl, e1⟩ | ⟨x, r, rfl, e1⟩ <;> exact am_mo0 (am_inl e1).2
  | iload i =>
    obtain ⟨x, hg, e1⟩ := am_ldI_inv (show am_ldI _ _ _ _ _ = _ from hdo)
    exact am_mo0 (am_inl e1).2
  | lload i =>
    obtain ⟨x, hg, e1⟩ := am_ldL_inv (show am_ldL _ _ _ _ _ = _ from hdo)
    exact am_mo0 (am_inl e1).2
  | istore i =>
    obtain ⟨x, r, rfl, e1⟩ := am_stI_inv (show am_stI _ _ _ _ _ = _ from hdo)
    exact am_mo0 (am_inl e1).2
  | lstore i =>
    obtain ⟨x, r, rfl, e1⟩ := am_stL_inv (show am_stL _ _ _ _ _ = _ from hdo)
    exact am_mo0 (am_inl e1).2
  | aload i =>
    rcases am_ldA_inv (show am_ldA _ _ _ _ _ = _ from hdo) with ⟨x, hg, e1⟩ | ⟨hg, e1⟩ | ⟨x, hg, e1⟩ <;> exact am_mo0 (am_inl e1).2
  | astore i =>
    rcases am_stA_inv (show am_stA _ _ _ _ _ = _ from hdo) with ⟨x, r, rfl, e1⟩ | ⟨r, rfl, e1⟩ | ⟨x, r, rfl, e1⟩ <;> exact am_mo0 (am_inl e1).2
  | iinc i n =>
    obtain ⟨x, hg, e1⟩ := am_inc_inv (show am_inc _ _ _ _ _ _ = _ from hdo)
    exact am_mo0 (am_inl e1).2
  | iadd =>
    obtain ⟨y, x, r, rfl, e1⟩ := am_b_inv (show am_b _ _ _ _ _ = _ from hdo)
    exact am_mo0 (am_inl e1).2
  | isub =>
    obtain ⟨y, x, r, rfl, e1⟩ := am_b_inv (show am_b _ _ _ _ _ = _ from hdo)
    exact am_mo0 (am_inl e1).2
  | imul =>
    obtain ⟨y, x, r, rfl, e1⟩ := am_b_inv (show am_b _ _ _ _ _ = _ from hdo)
    exact am_mo0 (am_inl e1).2
  | iand =>
    obtain ⟨y, x, r, rfl, e1⟩ := am_b_inv (show am_b _ _ _ _ _ = _ from hdo)
    exact am_mo0 (am_inl e1).2
  | ior =>
    obtain ⟨y, x, r, rfl, e1⟩ := am_b_inv (show am_b _ _ _ _ _ = _ from hdo)
    exact am_mo0 (am_inl e1).2
  | ixor =>
    obtain ⟨y, x, r, rfl, e1⟩ := am_b_inv (show am_b _ _ _ _ _ = _ from hdo)
    exact am_mo0 (am_inl e1).2
  | ishl =>
    obtain ⟨y, x, r, rfl, e1⟩ := am_b_inv (show am_b _ _ _ _ _ = _ from hdo)
    exact am_mo0 (am_inl e1).2
  | ishr =>
    obtain ⟨y, x, r, rfl, e1⟩ := am_b_inv (show am_b _ _ _ _ _ = _ from hdo)
    exact am_mo0 (am_inl e1).2
  | ladd =>
    obtain ⟨y, x, r, rfl, e1⟩ := am_bL_inv (show am_bL _ _ _ _ _ = _ from hdo)
    exact am_mo0 (am_inl e1).2
  | lsub =>
    obtain ⟨y, x, r, rfl, e1⟩ := am_bL_inv (show am_bL _ _ _ _ _ = _ from hdo)
    exact am_mo0 (am_inl e1).2
  | lmul =>
    obtain ⟨y, x, r, rfl, e1⟩ := am_bL_inv (show am_bL _ _ _ _ _ = _ from hdo)
    exact am_mo0 (am_inl e1).2
  | idiv =>
    obtain ⟨y, x, r, rfl, hne, e1⟩ := am_dv_inv (show am_dv _ _ _ _ _ = _ from hdo)
    exact am_mo0 (am_inl e1).2
  | irem =>
    obtain ⟨y, x, r, rfl, hne, e1⟩ := am_dv_inv (show am_dv _ _ _ _ _ = _ from hdo)
    exact am_mo0 (am_inl e1).2
  | ldiv =>
    obtain ⟨y, x, r, rfl, hne, e1⟩ := am_dvL_inv (show am_dvL _ _ _ _ _ = _ from hdo)
    exact am_mo0 (am_inl e1).2
  | lrem =>
    obtain ⟨y, x, r, rfl, hne, e1⟩ := am_dvL_inv (show am_dvL _ _ _ _ _ = _ from hdo)
    exact am_mo0 (am_inl e1).2
  | ineg =>
    obtain ⟨x, r, rfl, e1⟩ := am_u_inv (show am_u _ _ _ _ _ = _ from hdo)
    exact am_mo0 (am_inl e1).2
  | i2l =>
    obtain ⟨x, r, rfl, e1⟩ := am_u_inv (show am_u _ _ _ _ _ = _ from hdo)
    exact am_mo0 (am_inl e1).2
  | i2c =>
    obtain ⟨x, r, rfl, e1⟩ := am_u_inv (show am_u _ _ _ _ _ = _ from hdo)
    exact am_mo0 (am_inl e1).2
  | lneg =>
    obtain ⟨x, r, rfl, e1⟩ := am_uL_inv (show am_uL _ _ _ _ _ = _ from hdo)
    exact am_mo0 (am_inl e1).2
  | l2i =>
    obtain ⟨x, r, rfl, e1⟩ := am_uL_inv (show am_uL _ _ _ _ _ = _ from hdo)
    exact am_mo0 (am_inl e1).2
  | lcmp =>
    obtain ⟨y, x, r, rfl, e1⟩ := am_cmp_inv (show am_cmp _ _ _ _ = _ from hdo)
    exact am_mo0 (am_inl e1).2
  | dup =>
    obtain ⟨v, r, rfl, hcat, e1⟩ := am_dup_inv (show am_dup _ _ _ _ = _ from hdo)
    exact am_mo0 (am_inl e1).2
  | dup2 =>
    obtain ⟨v, w, r, rfl, hcat, e1⟩ := am_dup2_inv (show am_dup2 _ _ _ _ = _ from hdo)
    exact am_mo0 (am_inl e1).2
  | pop =>
    obtain ⟨v, r, rfl, hcat, e1⟩ := am_drop_inv (show am_drop _ _ _ _ = _ from hdo)
    exact am_mo0 (am_inl e1).2
  | pop2 =>
    obtain ⟨v, r, rfl, hcat, e1⟩ := am_drop2_inv (show am_drop2 _ _ _ _ = _ from hdo)
    exact am_mo0 (am_inl e1).2
  | ifCond cnd off =>
    cases cnd <;> (obtain ⟨x, r, rfl, e1⟩ := am_if_inv (show am_if _ _ _ _ _ _ = _ from hdo); exact am_mo0 (am_inl e1).2)
  | if_icmp cnd off =>
    cases cnd <;> (obtain ⟨y, x, r, rfl, e1⟩ := am_ic_inv (show am_ic _ _ _ _ _ _ = _ from hdo); exact am_mo0 (am_inl e1).2)
  | ifnull off =>
    rcases am_null_inv (show am_null _ _ _ _ _ = _ from hdo) with ⟨r, rfl, e1⟩ | ⟨x, r, rfl, e1⟩ <;> exact am_mo0 (am_inl e1).2
  | ifnonnull off =>
    rcases am_null_inv (show am_null _ _ _ _ _ = _ from hdo) with ⟨r, rfl, e1⟩ | ⟨x, r, rfl, e1⟩ <;> exact am_mo0 (am_inl e1).2
  | tableswitch d lo hi offs =>
    obtain ⟨x, r, rfl, ⟨hout, e1⟩ | ⟨hin, t, ht, e1⟩⟩ := am_tsw_inv (show am_tsw _ _ _ _ _ _ = _ from hdo) <;> exact am_mo0 (am_inl e1).2
  | getfield idx =>
    rcases am_gf_inv (show am_gf _ _ _ _ _ = _ from hdo) with ⟨a, r, ci, fs, v, rfl, hh, hci, hv, e1⟩ | ⟨kk, r, rfl, hkk, ⟨hr, e1⟩ | ⟨hr, e1⟩⟩ <;> exact am_mo0 (am_inl e1).2
  | putfield idx =>
    obtain ⟨v, a, r, ci, fs, rfl, hh, hci, hfit, hkl, e1⟩ := am_pf_inv (show am_pf _ _ _ _ _ = _ from hdo)
    exact am_mo2 hh (am_inl e1).2 (by show (fs.set _ _).length = fs.length; rw [List.length_set])
  | iaload =>
    rcases am_ial_inv (show am_ial _ _ _ _ _ = _ from hdo) with ⟨i, a, r, n, f, rfl, hh, hin, e1⟩ | ⟨i, r, rfl, hin, e1⟩ <;> exact am_mo0 (am_inl e1).2
  | laload =>
    obtain ⟨i, a, r, n, f, rfl, hh, hin, e1⟩ := am_lal_inv (show am_lal _ _ _ _ = _ from hdo)
    exact am_mo0 (am_inl e1).2
  | baload =>
    rcases am_bal_inv (show am_bal _ _ _ _ = _ from hdo) with ⟨i, a, r, n, f, rfl, hh, hin, e1⟩ | ⟨i, kk, r, rfl, hkk, hin, e1⟩ <;> exact am_mo0 (am_inl e1).2
  | aaload =>
    obtain ⟨i, a, r, t, n, f, rfl, hh, hin, ht, e1⟩ := am_aal_inv (show am_aal _ _ _ _ = _ from hdo)
    exact am_mo0 (am_inl e1).2
  | iastore =>
    obtain ⟨x, i, a, r, n, f, rfl, hh, hin, e1⟩ := am_ias_inv (show am_ias _ _ _ _ = _ from hdo)
    exact am_mo2 hh (am_inl e1).2 rfl
  | lastore =>
    obtain ⟨x, i, a, r, n, f, rfl, hh, hin, e1⟩ := am_las_inv (show am_las _ _ _ _ = _ from hdo)
    exact am_mo2 hh (am_inl e1).2 rfl
  | bastore =>
    obtain ⟨x, i, a, r, n, f, rfl, hh, hin, hx1, e1⟩ := am_bas_inv (show am_bas _ _ _ _ = _ from hdo)
    exact am_mo2 hh (am_inl e1).2 rfl
  | aastore =>
    rcases am_aas_inv (show am_aas _ _ _ _ = _ from hdo) with ⟨i, a, r, t, n, f, rfl, hh, hin, ht, e1⟩ | ⟨v, i, a, r, t, n, f, ci, fs, rfl, hh, hv, hin, hmay, e1⟩ <;> exact am_mo2 hh (am_inl e1).2 rfl
  | arraylength =>
    rcases am_len_inv (show am_len _ _ _ _ _ = _ from hdo) with ⟨a, r, t, x, rfl, hh, ht, e1⟩ | ⟨r, rfl, e1⟩ | ⟨kk, r, rfl, hkk, e1⟩ <;> exact am_mo0 (am_inl e1).2
  | newarray t =>
    obtain ⟨n, r, rfl, hn0, hnl, htag, e1⟩ := am_nar_inv (show am_nar _ _ _ _ _ = _ from hdo)
    exact am_mo1 (am_inl e1).2
  | anewarray idx =>
    obtain ⟨n, r, rfl, hn0, hnl, ht, e1⟩ := am_anw_inv (show am_anw _ _ _ _ _ = _ from hdo)
    exact am_mo1 (am_inl e1).2
  | instanceof idx =>
    obtain ⟨a, r, ci, fs, rfl, hh, hci, e1⟩ := am_ins_inv (show am_ins _ _ _ _ _ = _ from hdo)
    exact am_mo0 (am_inl e1).2
  | invokespecial idx =>
    obtain ⟨hr, a, r, rfl, hcat, e1⟩ := am_spc_inv (show am_spc _ _ _ _ _ = _ from hdo)
    exact am_mo0 (am_inl e1).2
  | ireturn =>
    obtain ⟨x, rfl, hnw, e1⟩ := am_ret_inv (show am_ret _ _ = _ from hdo)
    cases e1
  | lreturn =>
    obtain ⟨x, rfl, e1⟩ := am_retL_inv (show am_retL _ = _ from hdo)
    cases e1
  | areturn =>
    obtain ⟨x, rfl, hv, e1⟩ := am_retA_inv (show am_retA _ = _ from hdo)
    cases e1
  | return_ =>
    obtain ⟨rfl, e1⟩ := am_retV_inv (show am_retV _ = _ from hdo)
    cases e1
  | invokestatic idx =>
    have hdo : (bif rs.length == 1 then am_mth (am_t rs) pc l0 st h else am_sta rs st) = some (.inl (f', h')) := hdo
    cases h1r : rs.length == 1 with
    | false =>
      rw [h1r] at hdo
      obtain ⟨n, M, as, r, rfl, hp, hcat, e1⟩ := am_sta_inv (show am_sta _ _ = _ from hdo)
      cases e1
    | true =>
      rw [h1r] at hdo
      rcases am_mth_inv (show am_mth _ _ _ _ _ = _ from hdo) with ⟨x, r, hz9, rfl, hcat, e1⟩ | ⟨x, r, hz9, rfl, hcat, e1⟩ | ⟨y, x, r, hz9, rfl, hcat, e1⟩ | ⟨y, x, r, hz9, rfl, hcat, e1⟩ <;> exact am_mo0 (am_inl e1).2
  | invokevirtual idx =>
    obtain ⟨n, ds, as, v, r, ci, M, rfl, hp, hr, hm, hcat, e1⟩ := am_inv_inv (show am_inv _ _ _ = _ from hdo)
    cases e1
  | _ => exact absurd (show (none : Option am_O) = _ from hdo) (by simp)
def am_Mo (call : Nat → List Value → am_H → Option (Option Value × am_H)) : Prop := ∀ (M : Nat) (as : List Value) (h : am_H) (v : Option Value) (h1 : am_H), call M as h = some (v, h1) → h.length ≤ h1.length ∧ am_sl h ≤ am_sl h1
/-- what a step of a method is, one of three -/
theorem am_steps_inv {df : Nat → List Value} {sc : Nat × (Nat → Int32)} {call : Nat → List Value → am_H → Option (Option Value × am_H)} {code : List am_I} {n : Nat} {f : am_F} {h : am_H} {r : Option Value} {h' : am_H} (hs : am_steps df sc call code (n + 1) f h = some (r, h')) : ∃ q ∈ code, q.1 = f.1 ∧
    ((∃ (f1 : am_F) (h1 : am_H), am_do df sc q f.2.1 f.2.2 h = some (.inl (f1, h1)) ∧ am_steps df sc call code n f1 h1 = some (r, h')) ∨
     (am_do df sc q f.2.1 f.2.2 h = some (.inr (.inl r)) ∧ am_isR q.2.1 = true ∧ h' = h) ∨
     (∃ (M : Nat) (as rest : List Value) (v : Option Value) (h1 : am_H), am_do df sc q f.2.1 f.2.2 h = some (.inr (.inr (M, as, rest))) ∧ am_isC q.2.1 = true ∧ call M as h = some (v, h1) ∧ am_steps df sc call code n (f.1 + 3, f.2.1, v.toList ++ rest) h1 = some (r, h'))) := by
  unfold am_steps at hs
  split at hs
  · cases hs
  · rename_i q hq
    refine ⟨q, List.mem_of_find?_eq_some hq, by simpa using List.find?_some hq, ?_⟩
    split at hs
    · cases hs
    · rename_i f1 h1 hdo
      exact Or.inl ⟨f1, h1, hdo, hs⟩
    · rename_i r1 hdo
      cases hk : am_isR q.2.1 with
      | false => rw [hk] at hs; cases hs
      | true =>
        rw [hk] at hs
        cases hs
        exact Or.inr (Or.inl ⟨hdo, rfl, rfl⟩)
    · rename_i M as rest hdo
      cases hk : am_isC q.2.1 with
      | false => rw [hk] at hs; cases hs
      | true =>
        rw [hk] at hs
        dsimp only [cond_true] at hs
        split at hs
        · cases hs
        · rename_i v h1 hc
          exact Or.inr (Or.inr ⟨M, as, rest, v, h1, hdo, rfl, hc, hs⟩)
theorem am_steps_mono {df : Nat → List Value} {sc : Nat × (Nat → Int32)} {call : Nat → List Value → am_H → Option (Option Value × am_H)} {code : List am_I} (hm : am_Mo call) : ∀ (n : Nat) {f : am_F} {h : am_H} {r : Option Value} {h' : am_H}, am_steps df sc call code n f h = some (r, h') → h.length ≤ h'.length ∧ am_sl h ≤ am_sl h'
  | 0, f, h, r, h', hs => by cases hs
  | n + 1, f, h, r, h', hs => by
    obtain ⟨q, -, -, hq⟩ := am_steps_inv hs
    rcases hq with ⟨f1, h1, hdo, hn⟩ | ⟨-, -, rfl⟩ | ⟨M, as, rest, v, h1, -, -, hc, hn⟩
    · have a := am_do_mono hdo
      have b := am_steps_mono hm n hn
      exact ⟨Nat.le_trans a.1 b.1, Nat.le_trans a.2 b.2⟩
    · exact ⟨Nat.le_refl _, Nat.le_refl _⟩
    · have a := hm _ _ _ _ _ hc
      have b := am_steps_mono hm n hn
      exact ⟨Nat.le_trans a.1 b.1, Nat.le_trans a.2 b.2⟩
theorem am_run_mono {df : Nat → List Value} {sc : Nat × (Nat → Int32)} {P : Nat → Nat × List am_I} {n : Nat} : ∀ d, am_Mo (am_run df sc P n d)
  | 0 => fun M as h v h1 hr => by cases hr
  | d + 1 => fun M as h v h1 hr => by
    unfold am_run at hr
    split at hr
    · exact am_steps_mono (am_run_mono d) n hr
    · cases hr
/-- what must hold of a method's code -/
def am_pok (df : Nat → List Value) (mi : am_MI) (P : Nat → Nat × List am_I) (M : Nat) : Prop := am_mok mi M ∧ (P M).1 = (mi M).2.2.1 ∧ ∀ q ∈ (P M).2, decode (mi M).2.1 q.1 = .ok (q.2.1, q.2.2.1) ∧ am_okP df (mi M).1.cls (mi M).1.name (mi M).2.2.1 (mi M).2.2.2 q ∧ am_okC mi (mi M).1.cls q
def am_cal (B : Nat) (X : Nat → Option Nat) (D : va_G) (cA : Nat → Nat) (sc : Nat × (Nat → Int32)) (mi : am_MI) (l : Launch) (d : Nat) (call : Nat → List Value → am_H → Option (Option Value × am_H)) : Prop := ∀ (M : Nat) (as : List Value) (h : am_H) (v : Option Value) (h1 : am_H), call M as h = some (v, h1) → Met l (mi M).1 (am_wd mi M) (am_rm d (h1.length - h.length) (am_sl h1 - am_sl h)) (am_Pc B X D cA sc as h) (am_Q B X D cA v h1) (h1.length - h.length) (am_sl h1 - am_sl h) (am_A B)
set_option maxHeartbeats 1000000 in
theorem am_steps_snd {B : Nat} {X : Nat → Option Nat} {D : va_G} {cA : Nat → Nat} {sc : Nat × (Nat → Int32)} {own nm : String} {cc : ByteArray} {nL : Nat} {ret : Option FieldType} {df : Nat → List Value} {mi : am_MI} {d : Nat}
    {p : Program} {l : Launch} {e : Env} {R : Room} {s : State} {m : MethodId} {args : Array Value} {below : List Frame} {meth : Method} {c : Code} {Q : State → Prop} {call : Nat → List Value → am_H → Option (Option Value × am_H)} {code : List am_I}
    (hC : am_C B X D cA sc own nm cc nL ret p s m args meth c) (hF : d + 1 ≤ R.frames ∧ 64 * d + 64 ≤ R.locals) (hcal : am_cal B X D cA sc mi l d call) (hmo : am_Mo call) (hcode : ∀ q ∈ code, decode cc q.1 = .ok (q.2.1, q.2.2.1) ∧ am_okP df own nm nL ret q ∧ am_okC mi own q)
    {h0 : am_H} {r : Option Value} {h' : am_H} (hRc : h'.length - h0.length ≤ R.cells) (hRs : am_sl h' - am_sl h0 ≤ R.slots)
    (hend : ∀ (q : am_I) (l0 : am_L) (st : List Value) (ls : Array Slot) (H : Heap) (locs : List Loc), q ∈ code → am_do df sc q l0 st h' = some (.inr (.inl r)) → am_isR q.2.1 = true → lv_has ls nL (am_lm B X l0) → am_R B X D cA h' H → va_S (am_A B) s.heap H locs → W p l e R s m args below meth c H locs (h'.length - h0.length) (am_sl h' - am_sl h0) Q (F0 m q.1 ls (am_vs B X st))) :
    ∀ (n : Nat) (f : am_F) (h : am_H) (ls : Array Slot) (H : Heap) (locs : List Loc), am_steps df sc call code n f h = some (r, h') → lv_has ls nL (am_lm B X f.2.1) → am_R B X D cA h H → va_S (am_A B) s.heap H locs → h0.length ≤ h.length → am_sl h0 ≤ am_sl h → W p l e R s m args below meth c H locs (h.length - h0.length) (am_sl h - am_sl h0) Q (F0 m f.1 ls (am_vs B X f.2.2))
  | 0, f, h, ls, H, locs, hs, _, _, _, _, _ => by cases hs
  | n + 1, f, h, ls, H, locs, hs, hl, hR, hS, hc1, hc2 => by
    obtain ⟨q, hq, hpc, hst⟩ := am_steps_inv hs
    obtain ⟨k1, k2, k3⟩ := hcode q hq
    rcases hst with ⟨f1, h1, hdo, hn⟩ | ⟨hdo, hk, rfl⟩ | ⟨M, as, rest, v, h1, hdo, hk, hc, hn⟩
    · have a := am_do_mono hdo
      have b := am_steps_mono hmo n hn
      rw [← hpc]
      refine am_snd hC ⟨by omega, by omega⟩ k1 k2 hl hR hS hdo (by omega) (by omega) (fun ls' H' locs' hl' hR' hS' => ?_)
      have w := am_steps_snd hC hF hcal hmo hcode hRc hRs hend n f1 h1 ls' H' locs' hn hl' hR' hS' (by omega) (by omega)
      rw [show h.length - h0.length + (h1.length - h.length) = h1.length - h0.length by omega, show am_sl h - am_sl h0 + (am_sl h1 - am_sl h) = am_sl h1 - am_sl h0 by omega]
      exact w
    · rw [← hpc]
      exact hend q f.2.1 f.2.2 ls H locs hq hdo hk hl hR hS
    · have a := hmo _ _ _ _ _ hc
      have b := am_steps_mono hmo n hn
      rw [← hpc]
      refine am_snd_call (d := d) hC hF k1 k3 hl hR hS hk hdo (hcal M as h v h1 hc) ⟨by omega, by omega⟩ (fun H1 locs1 hR1 hS1 => ?_)
      have w := am_steps_snd hC hF hcal hmo hcode hRc hRs hend n (f.1 + 3, f.2.1, v.toList ++ rest) h1 ls H1 locs1 hn hl hR1 hS1 (by omega) (by omega)
      rw [show h.length - h0.length + (h1.length - h.length) = h1.length - h0.length by omega, show am_sl h - am_sl h0 + (am_sl h1 - am_sl h) = am_sl h1 - am_sl h0 by omega, hpc]
      exact w
theorem am_sl_len (B : Nat) (X : Nat → Option Nat) (as : List Value) : (lg_sl (am_vs B X as)).length = (as.map fun v => v.category).sum := by
  induction as with
  | nil => rfl
  | cons v as ih =>
    show (lg_sl (am_v B X v :: am_vs B X as)).length = v.category + (as.map fun v => v.category).sum
    rw [← ih]
    unfold lg_sl
    rw [List.flatMap_cons, List.length_append, am_v_cat]
    rcases lv_cat v with h | h <;> rw [h] <;> rfl
/-- A RUN of the small machine is one of the machine -/
theorem am_run_snd {B : Nat} {X : Nat → Option Nat} {D : va_G} {cA : Nat → Nat} {sc : Nat × (Nat → Int32)} {df : Nat → List Value} {mi : am_MI} {P : Nat → Nat × List am_I} {n : Nat} {l : Launch} (hall : ∀ M, (P M).2 ≠ [] → am_pok df mi P M) : ∀ d, am_cal B X D cA sc mi l d (am_run df sc P n d)
  | 0 => fun M as h v h1 hr => by cases hr
  | d + 1 => fun M as h v h1 hr => by
    unfold am_run at hr
    split at hr
    · rename_i hsum
      have hne : (P M).2 ≠ [] := by
        intro e0
        rw [e0] at hr
        cases n with
        | zero => cases hr
        | succ n => obtain ⟨q, hq, -⟩ := am_steps_inv hr; cases hq
      obtain ⟨hmok, hmx, hcode⟩ := hall M hne
      have hmono := am_steps_mono (am_run_mono d) n hr
      refine Met.ofW (cc := (mi M).2.1) (maxL := (mi M).2.2.1) (ret := (mi M).2.2.2) hmok.2.2.2 rfl ?_
      intro p e s m args below meth c s₁ B0 hml hv
      obtain ⟨rfl, hR, hG⟩ := hv
      have hts := atoms_spec (ws := am_wd mi M) B0.pre
      have hown : s.vm.findClass (mi M).1.cls = some m.cls := findClass_of_methodNamed B0.named
      have hC : am_C B X D cA sc (mi M).1.cls (mi M).1.name (mi M).2.1 (mi M).2.2.1 (mi M).2.2.2 p s m (am_vs B X as).toArray meth c := ⟨B0.exec, B0.bytes, hml, hown, fun w hw => hts w (List.mem_cons_of_mem _ hw), B0.returns, B0.notSynchronized, (name_of_methodNamed B0.named B0.method).1, hG⟩
      have hl := lv_entry (am_vs B X as) (n := (mi M).2.2.1) (by rw [am_sl_len, ← hmx]; exact hsum)
      rw [lg_entry_eq]
      generalize (lg_sl (am_vs B X as) ++ List.replicate ((mi M).2.2.1 - (lg_sl (am_vs B X as)).length) Slot.unset).toArray = ls at hl ⊢
      rw [am_lm_args] at hl
      have w := am_steps_snd (l := l) (R := am_rm (d + 1) (h1.length - h.length) (am_sl h1 - am_sl h)) (Q := MQ below (am_Q B X D cA v h1) (am_vs B X as).toArray s (h1.length - h.length) (am_sl h1 - am_sl h) (am_A B)) (below := below) (e := e) hC ⟨Nat.le_refl _, by show 64 * d + 64 ≤ 64 * (d + 1); omega⟩ (am_run_snd (l := l) hall d) (am_run_mono d) hcode (h0 := h) (r := v) (h' := h1) (Nat.le_refl _) (Nat.le_refl _) (fun q l0 st ls H locs hq hdo hk hl hR2 hS2 => am_snd_ret hC (hcode q hq).1 (hcode q hq).2.1 hk hdo (fun t ht hW => ⟨⟨rfl, by rw [ht]; exact hR2⟩, hS2.F ht⟩) hS2.2.2) n (0, lv_args 0 as, []) h ls s.heap [] hr hl hR va_S.rf (Nat.le_refl _) (Nat.le_refl _)
      rw [Nat.sub_self, Nat.sub_self] at w
      exact w
    · cases hr
