/-! More locals than are needed do no harm. -/
def rep (l : am_L) : am_O → am_O
  | .inl ((pc, _, st), h) => .inl ((pc, l, st), h)
  | .inr x => .inr x
def am_same (l : am_L) : am_O → Prop
  | .inl ((_, l1, _), _) => l1 = l
  | .inr _ => True
theorem call_inr {M : Nat} {as r : List Value} {o : am_O} (h : am_call M as r = some o) : ∃ y, o = .inr y := by
  unfold am_call at h
  split at h
  · cases h; exact ⟨_, rfl⟩
  · cases h
theorem am_b_w {f : Int32 → Int32 → Int32} {pc : Nat} {l : am_L} {st : List Value} {h : am_H} {l' : am_L} {o : am_O} (hd : am_b f pc l st h = some o) : am_b f pc l' st h = some (rep l' o) ∧ am_same l o := by
  unfold am_b at hd ⊢
  (repeat' split at hd) <;> first | (cases hd; done) | (cases hd; exact ⟨rfl, rfl⟩) | (cases hd; simp_all [rep, am_same])
theorem am_bL_w {f : Int64 → Int64 → Int64} {pc : Nat} {l : am_L} {st : List Value} {h : am_H} {l' : am_L} {o : am_O} (hd : am_bL f pc l st h = some o) : am_bL f pc l' st h = some (rep l' o) ∧ am_same l o := by
  unfold am_bL at hd ⊢
  (repeat' split at hd) <;> first | (cases hd; done) | (cases hd; exact ⟨rfl, rfl⟩) | (cases hd; simp_all [rep, am_same])
theorem am_dv_w {f : Int32 → Int32 → Int32} {pc : Nat} {l : am_L} {st : List Value} {h : am_H} {l' : am_L} {o : am_O} (hd : am_dv f pc l st h = some o) : am_dv f pc l' st h = some (rep l' o) ∧ am_same l o := by
  unfold am_dv at hd ⊢
  (repeat' split at hd) <;> first | (cases hd; done) | (cases hd; exact ⟨rfl, rfl⟩) | (cases hd; simp_all [rep, am_same])
theorem am_dvL_w {f : Int64 → Int64 → Int64} {pc : Nat} {l : am_L} {st : List Value} {h : am_H} {l' : am_L} {o : am_O} (hd : am_dvL f pc l st h = some o) : am_dvL f pc l' st h = some (rep l' o) ∧ am_same l o := by
  unfold am_dvL at hd ⊢
  (repeat' split at hd) <;> first | (cases hd; done) | (cases hd; exact ⟨rfl, rfl⟩) | (cases hd; simp_all [rep, am_same])
theorem am_u_w {f : Int32 → Value} {pc : Nat} {l : am_L} {st : List Value} {h : am_H} {l' : am_L} {o : am_O} (hd : am_u f pc l st h = some o) : am_u f pc l' st h = some (rep l' o) ∧ am_same l o := by
  unfold am_u at hd ⊢
  (repeat' split at hd) <;> first | (cases hd; done) | (cases hd; exact ⟨rfl, rfl⟩) | (cases hd; simp_all [rep, am_same])
theorem am_uL_w {f : Int64 → Value} {pc : Nat} {l : am_L} {st : List Value} {h : am_H} {l' : am_L} {o : am_O} (hd : am_uL f pc l st h = some o) : am_uL f pc l' st h = some (rep l' o) ∧ am_same l o := by
  unfold am_uL at hd ⊢
  (repeat' split at hd) <;> first | (cases hd; done) | (cases hd; exact ⟨rfl, rfl⟩) | (cases hd; simp_all [rep, am_same])
theorem am_cmp_w {pc : Nat} {l : am_L} {st : List Value} {h : am_H} {l' : am_L} {o : am_O} (hd : am_cmp pc l st h = some o) : am_cmp pc l' st h = some (rep l' o) ∧ am_same l o := by
  unfold am_cmp at hd ⊢
  (repeat' split at hd) <;> first | (cases hd; done) | (cases hd; exact ⟨rfl, rfl⟩) | (cases hd; simp_all [rep, am_same])
theorem am_dup_w {pc : Nat} {l : am_L} {st : List Value} {h : am_H} {l' : am_L} {o : am_O} (hd : am_dup pc l st h = some o) : am_dup pc l' st h = some (rep l' o) ∧ am_same l o := by
  unfold am_dup at hd ⊢
  (repeat' split at hd) <;> first | (cases hd; done) | (cases hd; exact ⟨rfl, rfl⟩) | (cases hd; simp_all [rep, am_same])
theorem am_dup2_w {pc : Nat} {l : am_L} {st : List Value} {h : am_H} {l' : am_L} {o : am_O} (hd : am_dup2 pc l st h = some o) : am_dup2 pc l' st h = some (rep l' o) ∧ am_same l o := by
  unfold am_dup2 at hd ⊢
  (repeat' split at hd) <;> first | (cases hd; done) | (cases hd; exact ⟨rfl, rfl⟩) | (cases hd; simp_all [rep, am_same])
theorem am_drop_w {pc : Nat} {l : am_L} {st : List Value} {h : am_H} {l' : am_L} {o : am_O} (hd : am_drop pc l st h = some o) : am_drop pc l' st h = some (rep l' o) ∧ am_same l o := by
  unfold am_drop at hd ⊢
  (repeat' split at hd) <;> first | (cases hd; done) | (cases hd; exact ⟨rfl, rfl⟩) | (cases hd; simp_all [rep, am_same])
theorem am_drop2_w {pc : Nat} {l : am_L} {st : List Value} {h : am_H} {l' : am_L} {o : am_O} (hd : am_drop2 pc l st h = some o) : am_drop2 pc l' st h = some (rep l' o) ∧ am_same l o := by
  unfold am_drop2 at hd ⊢
  (repeat' split at hd) <;> first | (cases hd; done) | (cases hd; exact ⟨rfl, rfl⟩) | (cases hd; simp_all [rep, am_same])
theorem am_null_w {a b : Nat} {l : am_L} {st : List Value} {h : am_H} {l' : am_L} {o : am_O} (hd : am_null a b l st h = some o) : am_null a b l' st h = some (rep l' o) ∧ am_same l o := by
  unfold am_null at hd ⊢
  (repeat' split at hd) <;> first | (cases hd; done) | (cases hd; exact ⟨rfl, rfl⟩) | (cases hd; simp_all [rep, am_same])
theorem am_if_w {P : Int32 → Bool} {pc t : Nat} {l : am_L} {st : List Value} {h : am_H} {l' : am_L} {o : am_O} (hd : am_if P pc t l st h = some o) : am_if P pc t l' st h = some (rep l' o) ∧ am_same l o := by
  unfold am_if at hd ⊢
  (repeat' split at hd) <;> first | (cases hd; done) | (cases hd; exact ⟨rfl, rfl⟩) | (cases hd; simp_all [rep, am_same])
theorem am_ic_w {P : Int32 → Int32 → Bool} {pc t : Nat} {l : am_L} {st : List Value} {h : am_H} {l' : am_L} {o : am_O} (hd : am_ic P pc t l st h = some o) : am_ic P pc t l' st h = some (rep l' o) ∧ am_same l o := by
  unfold am_ic at hd ⊢
  (repeat' split at hd) <;> first | (cases hd; done) | (cases hd; exact ⟨rfl, rfl⟩) | (cases hd; simp_all [rep, am_same])
theorem am_tsw_w {lo hi : Int} {rs : List Nat} {l : am_L} {st : List Value} {h : am_H} {l' : am_L} {o : am_O} (hd : am_tsw lo hi rs l st h = some o) : am_tsw lo hi rs l' st h = some (rep l' o) ∧ am_same l o := by
  obtain ⟨x, r, rfl, ⟨hc, rfl⟩ | ⟨hc, t, ht, rfl⟩⟩ := am_tsw_inv hd
  · exact ⟨by unfold am_tsw; dsimp only; rw [if_pos hc]; rfl, rfl⟩
  · exact ⟨by unfold am_tsw; dsimp only; rw [if_neg hc, ht]; rfl, rfl⟩
theorem am_gf_w {pc : Nat} {rs : List Nat} {l : am_L} {st : List Value} {h : am_H} {l' : am_L} {o : am_O} (hd : am_gf pc rs l st h = some o) : am_gf pc rs l' st h = some (rep l' o) ∧ am_same l o := by
  unfold am_gf at hd ⊢
  (repeat' split at hd) <;> first | (cases hd; done) | (cases hd; exact ⟨rfl, rfl⟩) | (cases hd; simp_all [rep, am_same])
theorem am_pf_w {pc : Nat} {rs : List Nat} {l : am_L} {st : List Value} {h : am_H} {l' : am_L} {o : am_O} (hd : am_pf pc rs l st h = some o) : am_pf pc rs l' st h = some (rep l' o) ∧ am_same l o := by
  unfold am_pf at hd ⊢
  (repeat' split at hd) <;> first | (cases hd; done) | (cases hd; exact ⟨rfl, rfl⟩) | (cases hd; simp_all [rep, am_same])
theorem am_lal_w {pc : Nat} {l : am_L} {st : List Value} {h : am_H} {l' : am_L} {o : am_O} (hd : am_lal pc l st h = some o) : am_lal pc l' st h = some (rep l' o) ∧ am_same l o := by
  unfold am_lal at hd ⊢
  (repeat' split at hd) <;> first | (cases hd; done) | (cases hd; exact ⟨rfl, rfl⟩) | (cases hd; simp_all [rep, am_same])
theorem am_ial_w {sc : Nat × (Nat → Int32)} {pc : Nat} {l : am_L} {st : List Value} {h : am_H} {l' : am_L} {o : am_O} (hd : am_ial sc pc l st h = some o) : am_ial sc pc l' st h = some (rep l' o) ∧ am_same l o := by
  unfold am_ial at hd ⊢
  (repeat' split at hd) <;> first | (cases hd; done) | (cases hd; exact ⟨rfl, rfl⟩) | (cases hd; simp_all [rep, am_same])
theorem am_bal_w {pc : Nat} {l : am_L} {st : List Value} {h : am_H} {l' : am_L} {o : am_O} (hd : am_bal pc l st h = some o) : am_bal pc l' st h = some (rep l' o) ∧ am_same l o := by
  unfold am_bal at hd ⊢
  (repeat' split at hd) <;> first | (cases hd; done) | (cases hd; exact ⟨rfl, rfl⟩) | (cases hd; simp_all [rep, am_same])
theorem am_aal_w {pc : Nat} {l : am_L} {st : List Value} {h : am_H} {l' : am_L} {o : am_O} (hd : am_aal pc l st h = some o) : am_aal pc l' st h = some (rep l' o) ∧ am_same l o := by
  unfold am_aal at hd ⊢
  (repeat' split at hd) <;> first | (cases hd; done) | (cases hd; exact ⟨rfl, rfl⟩) | (cases hd; simp_all [rep, am_same])
theorem am_ias_w {pc : Nat} {l : am_L} {st : List Value} {h : am_H} {l' : am_L} {o : am_O} (hd : am_ias pc l st h = some o) : am_ias pc l' st h = some (rep l' o) ∧ am_same l o := by
  unfold am_ias at hd ⊢
  (repeat' split at hd) <;> first | (cases hd; done) | (cases hd; exact ⟨rfl, rfl⟩) | (cases hd; simp_all [rep, am_same])
theorem am_las_w {pc : Nat} {l : am_L} {st : List Value} {h : am_H} {l' : am_L} {o : am_O} (hd : am_las pc l st h = some o) : am_las pc l' st h = some (rep l' o) ∧ am_same l o := by
  unfold am_las at hd ⊢
  (repeat' split at hd) <;> first | (cases hd; done) | (cases hd; exact ⟨rfl, rfl⟩) | (cases hd; simp_all [rep, am_same])
theorem am_bas_w {pc : Nat} {l : am_L} {st : List Value} {h : am_H} {l' : am_L} {o : am_O} (hd : am_bas pc l st h = some o) : am_bas pc l' st h = some (rep l' o) ∧ am_same l o := by
  unfold am_bas at hd ⊢
  (repeat' split at hd) <;> first | (cases hd; done) | (cases hd; exact ⟨rfl, rfl⟩) | (cases hd; simp_all [rep, am_same])
theorem am_aas_w {pc : Nat} {l : am_L} {st : List Value} {h : am_H} {l' : am_L} {o : am_O} (hd : am_aas pc l st h = some o) : am_aas pc l' st h = some (rep l' o) ∧ am_same l o := by
  unfold am_aas at hd ⊢
  (repeat' split at hd) <;> first | (cases hd; done) | (cases hd; exact ⟨rfl, rfl⟩) | (cases hd; simp_all [rep, am_same])
theorem am_len_w {sc : Nat × (Nat → Int32)} {pc : Nat} {l : am_L} {st : List Value} {h : am_H} {l' : am_L} {o : am_O} (hd : am_len sc pc l st h = some o) : am_len sc pc l' st h = some (rep l' o) ∧ am_same l o := by
  unfold am_len at hd ⊢
  (repeat' split at hd) <;> first | (cases hd; done) | (cases hd; exact ⟨rfl, rfl⟩) | (cases hd; simp_all [rep, am_same])
theorem am_nar_w {t : ArrayType} {pc : Nat} {l : am_L} {st : List Value} {h : am_H} {l' : am_L} {o : am_O} (hd : am_nar t pc l st h = some o) : am_nar t pc l' st h = some (rep l' o) ∧ am_same l o := by
  unfold am_nar at hd ⊢
  (repeat' split at hd) <;> first | (cases hd; done) | (cases hd; exact ⟨rfl, rfl⟩) | (cases hd; simp_all [rep, am_same])
theorem am_anw_w {t pc : Nat} {l : am_L} {st : List Value} {h : am_H} {l' : am_L} {o : am_O} (hd : am_anw t pc l st h = some o) : am_anw t pc l' st h = some (rep l' o) ∧ am_same l o := by
  unfold am_anw at hd ⊢
  (repeat' split at hd) <;> first | (cases hd; done) | (cases hd; exact ⟨rfl, rfl⟩) | (cases hd; simp_all [rep, am_same])
theorem am_ins_w {pc : Nat} {rs : List Nat} {l : am_L} {st : List Value} {h : am_H} {l' : am_L} {o : am_O} (hd : am_ins pc rs l st h = some o) : am_ins pc rs l' st h = some (rep l' o) ∧ am_same l o := by
  unfold am_ins at hd ⊢
  (repeat' split at hd) <;> first | (cases hd; done) | (cases hd; exact ⟨rfl, rfl⟩) | (cases hd; simp_all [rep, am_same])
theorem am_mth_w {z pc : Nat} {l : am_L} {st : List Value} {h : am_H} {l' : am_L} {o : am_O} (hd : am_mth z pc l st h = some o) : am_mth z pc l' st h = some (rep l' o) ∧ am_same l o := by
  rcases am_mth_inv hd with ⟨x, r, rfl, rfl, hc, rfl⟩ | ⟨x, r, rfl, rfl, hc, rfl⟩ | ⟨y, x, r, rfl, rfl, hc, rfl⟩ | ⟨y, x, r, rfl, rfl, hc, rfl⟩
  · exact ⟨if_pos hc, rfl⟩
  · exact ⟨if_pos hc, rfl⟩
  · exact ⟨if_pos hc, rfl⟩
  · exact ⟨if_pos hc, rfl⟩
theorem am_spc_w {rs : List Nat} {pc : Nat} {l : am_L} {st : List Value} {h : am_H} {l' : am_L} {o : am_O} (hd : am_spc rs pc l st h = some o) : am_spc rs pc l' st h = some (rep l' o) ∧ am_same l o := by
  rcases rs with _ | ⟨n, _ | ⟨M, _ | ⟨z, rs⟩⟩⟩
  · unfold am_spc at hd ⊢
    dsimp only at hd ⊢
    split at hd
    · split at hd
      · rename_i hc
        cases hd
        exact ⟨if_pos hc, rfl⟩
      · cases hd
    · cases hd
  · cases hd
  · unfold am_spc at hd ⊢
    dsimp only at hd ⊢
    split at hd
    · obtain ⟨y, rfl⟩ := call_inr hd
      rename_i hp
      exact ⟨hd, trivial⟩
    · cases hd
  · cases hd
def lw (l l' : am_L) : Prop := ∀ i v, am_lg l i = some v → am_lg l' i = some v
theorem lw_r (l : am_L) : lw l l := fun _ _ h => h
theorem lg_nil (i : Nat) : am_lg [] i = none := rfl
theorem lg_cons (i : Nat) (q : Nat × Value) (l : am_L) : am_lg (q :: l) i = if q.1 = i then some q.2 else am_lg l i := by
  unfold am_lg
  rw [List.find?_cons]
  by_cases h : q.1 = i
  · rw [if_pos h, show (q.1 == i) = true by simpa using h]; rfl
  · rw [if_neg h, show (q.1 == i) = false by simpa using h]
/-- what a store leaves -/
theorem lg_insr (i : Nat) (v : Value) : ∀ (l : am_L), am_lg l i = none → ∀ j, am_lg (am_insr i v l) j = if i = j then some v else am_lg l j
  | [], hn, j => by
    rw [am_insr, lg_cons]
  | q :: r, hn, j => by
    rw [lg_cons] at hn
    by_cases hq : q.1 = i
    · rw [if_pos hq] at hn; cases hn
    · rw [if_neg hq] at hn
      rw [am_insr]
      cases hb : Nat.blt i q.1
      · show am_lg (q :: am_insr i v r) j = _
        rw [lg_cons, lg_cons, lg_insr i v r hn j]
        by_cases h1 : q.1 = j
        · rw [if_pos h1, if_pos h1, if_neg (fun z => hq (h1.trans z.symm))]
        · rw [if_neg h1, if_neg h1]
      · show am_lg ((i, v) :: q :: r) j = _
        rw [lg_cons]
/-- a list of locals, each number once -/
def ln (l : am_L) : Prop := (l.map (fun q => q.1)).Nodup
theorem lg_filter (p : Nat × Value → Bool) : ∀ (l : am_L), ln l → ∀ j v, am_lg (l.filter p) j = some v ↔ (am_lg l j = some v ∧ p (j, v) = true)
  | [], _, j, v => by simp [lg_nil]
  | q :: r, hl, j, v => by
    have hl' : ln r := (List.nodup_cons.mp hl).2
    have hn : q.1 ∉ r.map (fun q => q.1) := (List.nodup_cons.mp hl).1
    have ih := lg_filter p r hl' j v
    have hnone : am_lg r q.1 = none := by
      unfold am_lg
      rw [Option.map_eq_none_iff, List.find?_eq_none]
      intro x hx hx2
      have : x.1 = q.1 := by simpa using hx2
      exact hn (by rw [← this]; exact List.mem_map_of_mem hx)
    rw [List.filter_cons]
    by_cases hp : p q = true
    · rw [if_pos hp, lg_cons, lg_cons]
      by_cases h1 : q.1 = j
      · rw [if_pos h1, if_pos h1]
        constructor
        · intro h; cases h; subst h1; exact ⟨rfl, hp⟩
        · intro h; exact h.1
      · rw [if_neg h1, if_neg h1]; exact ih
    · rw [if_neg hp, lg_cons]
      by_cases h1 : q.1 = j
      · rw [if_pos h1]
        subst h1
        constructor
        · intro h
          have := (ih.mp h).1
          rw [hnone] at this; cases this
        · intro h
          obtain ⟨e, h2⟩ := h
          cases e
          exact absurd h2 hp
      · rw [if_neg h1]; exact ih
theorem k_insr (i : Nat) (v : Value) : ∀ (l : am_L) (x : Nat), x ∈ (am_insr i v l).map (fun q => q.1) ↔ x = i ∨ x ∈ l.map (fun q => q.1)
  | [], x => by simp [am_insr]
  | q :: r, x => by
    rw [am_insr]
    cases hb : Nat.blt i q.1
    · show x ∈ ((q :: am_insr i v r).map (fun q => q.1)) ↔ _
      rw [List.map_cons, List.mem_cons, k_insr i v r x, List.map_cons, List.mem_cons]
      constructor
      · rintro (h | h | h)
        · exact Or.inr (Or.inl h)
        · exact Or.inl h
        · exact Or.inr (Or.inr h)
      · rintro (h | h | h)
        · exact Or.inr (Or.inl h)
        · exact Or.inl h
        · exact Or.inr (Or.inr h)
    · show x ∈ (((i, v) :: q :: r).map (fun q => q.1)) ↔ _
      rw [List.map_cons, List.mem_cons]
theorem ln_insr (i : Nat) (v : Value) : ∀ (l : am_L), ln l → i ∉ l.map (fun q => q.1) → ln (am_insr i v l)
  | [], _, _ => by unfold ln; simp [am_insr]
  | q :: r, hl, hn => by
    have h1 := List.nodup_cons.mp hl
    rw [am_insr]
    cases hb : Nat.blt i q.1
    · show ln (q :: am_insr i v r)
      refine List.nodup_cons.mpr ⟨?_, ln_insr i v r h1.2 (fun z => hn (List.mem_cons_of_mem _ z))⟩
      rw [k_insr]
      rintro (h | h)
      · exact hn (by rw [← h]; exact List.mem_cons_self)
      · exact h1.1 h
    · exact List.nodup_cons.mpr ⟨hn, hl⟩
theorem ln_filter (p : Nat × Value → Bool) {l : am_L} (h : ln l) : ln (l.filter p) := List.Nodup.sublist (List.Sublist.map _ List.filter_sublist) h
theorem not_mem_k {l : am_L} {i : Nat} {p : Nat × Value → Bool} (hp : ∀ v, p (i, v) = false) : i ∉ (l.filter p).map (fun q => q.1) := by
  intro hm
  obtain ⟨q, hq, e⟩ := List.mem_map.mp hm
  have h2 := (List.mem_filter.mp hq).2
  obtain ⟨a, b⟩ := q
  have e' : a = i := e
  subst e'
  rw [hp b] at h2
  cases h2
theorem lg_none {l : am_L} {i : Nat} (h : i ∉ l.map (fun q => q.1)) : am_lg l i = none := by
  unfold am_lg
  rw [Option.map_eq_none_iff, List.find?_eq_none]
  intro x hx hx2
  have e : x.1 = i := by simpa using hx2
  exact h (by rw [← e]; exact List.mem_map_of_mem hx)
/-- one list of locals holds all that another does -/
def LW (l l' : am_L) : Prop := ln l ∧ ln l' ∧ lw l l'
theorem LW_ins {l l' : am_L} {i : Nat} {v : Value} {p : Nat × Value → Bool} (h : LW l l') (hp : ∀ v, p (i, v) = false) : LW (am_insr i v (l.filter p)) (am_insr i v (l'.filter p)) := by
  refine ⟨ln_insr _ _ _ (ln_filter p h.1) (not_mem_k hp), ln_insr _ _ _ (ln_filter p h.2.1) (not_mem_k hp), fun j w hj => ?_⟩
  rw [lg_insr _ _ _ (lg_none (not_mem_k hp))] at hj ⊢
  by_cases e : i = j
  · rw [if_pos e] at hj ⊢; exact hj
  · rw [if_neg e] at hj ⊢
    have h1 := (lg_filter p l h.1 j w).mp hj
    exact (lg_filter p l' h.2.1 j w).mpr ⟨h.2.2 j w h1.1, h1.2⟩
theorem LW_s1 {l l' : am_L} {i : Nat} {v : Value} (h : LW l l') : LW (am_s1 l i v) (am_s1 l' i v) := LW_ins h (fun v => by simp)
theorem LW_s2 {l l' : am_L} {i : Nat} {v : Value} (h : LW l l') : LW (am_s2 l i v) (am_s2 l' i v) := LW_ins h (fun v => by simp)
def oW : am_O → am_O → Prop
  | .inl ((pc, l, st), h), .inl ((pc', l', st'), h') => pc' = pc ∧ LW l l' ∧ st' = st ∧ h' = h
  | .inr x, .inr y => y = x
  | _, _ => False
theorem oW_mk {pc : Nat} {l l' : am_L} {st : List Value} {h : am_H} (hl : LW l l') : oW (.inl ((pc, l, st), h)) (.inl ((pc, l', st), h)) := ⟨rfl, hl, rfl, rfl⟩
theorem oW_rep {l l' : am_L} {o : am_O} (h : LW l l') (ho : am_same l o) : oW o (rep l' o) := by
  rcases o with ⟨⟨pc, l1, st⟩, hh⟩ | x
  · have e : l1 = l := ho
    subst e
    exact ⟨rfl, h, rfl, rfl⟩
  · exact rfl
theorem am_ldI_w {pc i : Nat} {l l' : am_L} {st : List Value} {h : am_H} {o : am_O} (hl : LW l l') (hd : am_ldI pc i l st h = some o) : ∃ o', am_ldI pc i l' st h = some o' ∧ oW o o' := by
  obtain ⟨x, hx, rfl⟩ := am_ldI_inv hd
  refine ⟨_, ?_, oW_mk hl⟩; unfold am_ldI; rw [hl.2.2 _ _ hx]
theorem am_ldL_w {pc i : Nat} {l l' : am_L} {st : List Value} {h : am_H} {o : am_O} (hl : LW l l') (hd : am_ldL pc i l st h = some o) : ∃ o', am_ldL pc i l' st h = some o' ∧ oW o o' := by
  unfold am_ldL at hd ⊢
  split at hd
  · rename_i hx; cases hd; refine ⟨_, ?_, oW_mk hl⟩; rw [hl.2.2 _ _ hx]
  · cases hd
theorem am_ldA_w {pc i : Nat} {l l' : am_L} {st : List Value} {h : am_H} {o : am_O} (hl : LW l l') (hd : am_ldA pc i l st h = some o) : ∃ o', am_ldA pc i l' st h = some o' ∧ oW o o' := by
  unfold am_ldA at hd ⊢
  split at hd <;> first | (cases hd; done) | (rename_i hx; cases hd; refine ⟨_, ?_, oW_mk hl⟩; rw [hl.2.2 _ _ hx])
theorem am_inc_w {pc i : Nat} {n : Int} {l l' : am_L} {st : List Value} {h : am_H} {o : am_O} (hl : LW l l') (hd : am_inc pc i n l st h = some o) : ∃ o', am_inc pc i n l' st h = some o' ∧ oW o o' := by
  unfold am_inc at hd ⊢
  split at hd <;> first | (cases hd; done) | (rename_i hx; cases hd; refine ⟨_, ?_, oW_mk (LW_s1 hl)⟩; rw [hl.2.2 _ _ hx])
theorem am_stI_w {pc i : Nat} {l l' : am_L} {st : List Value} {h : am_H} {o : am_O} (hl : LW l l') (hd : am_stI pc i l st h = some o) : ∃ o', am_stI pc i l' st h = some o' ∧ oW o o' := by
  unfold am_stI at hd ⊢
  split at hd <;> first | (cases hd; done) | (cases hd; exact ⟨_, rfl, rfl, LW_s1 hl, rfl, rfl⟩)
theorem am_stL_w {pc i : Nat} {l l' : am_L} {st : List Value} {h : am_H} {o : am_O} (hl : LW l l') (hd : am_stL pc i l st h = some o) : ∃ o', am_stL pc i l' st h = some o' ∧ oW o o' := by
  unfold am_stL at hd ⊢
  split at hd <;> first | (cases hd; done) | (cases hd; exact ⟨_, rfl, rfl, LW_s2 hl, rfl, rfl⟩)
theorem am_stA_w {pc i : Nat} {l l' : am_L} {st : List Value} {h : am_H} {o : am_O} (hl : LW l l') (hd : am_stA pc i l st h = some o) : ∃ o', am_stA pc i l' st h = some o' ∧ oW o o' := by
  unfold am_stA at hd ⊢
  split at hd <;> first | (cases hd; done) | (cases hd; exact ⟨_, rfl, rfl, LW_s1 hl, rfl, rfl⟩)
theorem oW_0 {l l' : am_L} {x : Option am_O} {o : am_O} (hl : LW l l') (h : x = some (rep l' o) ∧ am_same l o) : ∃ o', x = some o' ∧ oW o o' := ⟨_, h.1, oW_rep hl h.2⟩
theorem oW_inr {l l' : am_L} {x : Option am_O} {o : am_O} (hl : LW l l') (h : x = some o) (hr : ∃ y, o = .inr y) : ∃ o', x = some o' ∧ oW o o' := by
  obtain ⟨y, rfl⟩ := hr
  exact ⟨_, h, rfl⟩
theorem sta_inr {rs : List Nat} {st : List Value} {o : am_O} (h : am_sta rs st = some o) : ∃ y, o = .inr y := by
  unfold am_sta at h
  split at h
  · split at h
    · exact call_inr h
    · cases h
  · cases h
theorem inv_inr {rs : List Nat} {st : List Value} {h : am_H} {o : am_O} (hd : am_inv rs st h = some o) : ∃ y, o = .inr y := by
  unfold am_inv at hd
  (repeat' split at hd) <;> first | (cases hd; done) | exact call_inr hd | (cases hd; exact ⟨_, rfl⟩)
theorem ret_inr {t : Nat} {st : List Value} {o : am_O} (hd : am_ret t st = some o) : ∃ y, o = .inr y := by
  unfold am_ret at hd
  (repeat' split at hd) <;> first | (cases hd; done) | (cases hd; exact ⟨_, rfl⟩)
theorem retA_inr {st : List Value} {o : am_O} (hd : am_retA st = some o) : ∃ y, o = .inr y := by
  unfold am_retA at hd
  (repeat' split at hd) <;> first | (cases hd; done) | (cases hd; exact ⟨_, rfl⟩)
theorem retL_inr {st : List Value} {o : am_O} (hd : am_retL st = some o) : ∃ y, o = .inr y := by
  unfold am_retL at hd
  (repeat' split at hd) <;> first | (cases hd; done) | (cases hd; exact ⟨_, rfl⟩)
theorem retV_inr {st : List Value} {o : am_O} (hd : am_retV st = some o) : ∃ y, o = .inr y := by
  unfold am_retV at hd
  (repeat' split at hd) <;> first | (cases hd; done) | (cases hd; exact ⟨_, rfl⟩)
theorem am_do_w {df : Nat → List Value} {sc : Nat × (Nat → Int32)} {q : am_I} {l l' : am_L} {st : List Value} {h : am_H} {o : am_O} (hl : LW l l') (hd : am_do df sc q l st h = some o) : ∃ o', am_do df sc q l' st h = some o' ∧ oW o o' := by
  obtain ⟨pc, ins, len, rs, cv⟩ := q
  unfold am_do at hd ⊢
  dsimp only at hd ⊢
  split at hd
  · cases hd; exact ⟨_, rfl, rfl, hl, rfl, rfl⟩
  · cases hd; exact ⟨_, rfl, rfl, hl, rfl, rfl⟩
  · cases hd; exact ⟨_, rfl, rfl, hl, rfl, rfl⟩
  · cases hd; exact ⟨_, rfl, rfl, hl, rfl, rfl⟩
  · cases hd; exact ⟨_, rfl, rfl, hl, rfl, rfl⟩
  · cases hd; exact ⟨_, rfl, rfl, hl, rfl, rfl⟩
  · cases hd; exact ⟨_, rfl, rfl, hl, rfl, rfl⟩
  · cases hd; exact ⟨_, rfl, rfl, hl, rfl, rfl⟩
  · cases hd; exact ⟨_, rfl, rfl, hl, rfl, rfl⟩
  · exact am_ldI_w hl hd
  · exact am_ldI_w hl hd
  · exact am_ldL_w hl hd
  · exact am_ldL_w hl hd
  · exact am_ldA_w hl hd
  · exact am_ldA_w hl hd
  · exact am_stI_w hl hd
  · exact am_stI_w hl hd
  · exact am_stL_w hl hd
  · exact am_stL_w hl hd
  · exact am_stA_w hl hd
  · exact am_stA_w hl hd
  · exact am_inc_w hl hd
  · exact oW_0 hl (am_b_w hd)
  · exact oW_0 hl (am_b_w hd)
  · exact oW_0 hl (am_b_w hd)
  · exact oW_0 hl (am_b_w hd)
  · exact oW_0 hl (am_b_w hd)
  · exact oW_0 hl (am_b_w hd)
  · exact oW_0 hl (am_b_w hd)
  · exact oW_0 hl (am_b_w hd)
  · exact oW_0 hl (am_dv_w hd)
  · exact oW_0 hl (am_dv_w hd)
  · exact oW_0 hl (am_u_w hd)
  · exact oW_0 hl (am_u_w hd)
  · exact oW_0 hl (am_u_w hd)
  · exact oW_0 hl (am_bL_w hd)
  · exact oW_0 hl (am_bL_w hd)
  · exact oW_0 hl (am_bL_w hd)
  · exact oW_0 hl (am_dvL_w hd)
  · exact oW_0 hl (am_dvL_w hd)
  · exact oW_0 hl (am_uL_w hd)
  · exact oW_0 hl (am_uL_w hd)
  · exact oW_0 hl (am_cmp_w hd)
  · exact oW_0 hl (am_dup_w hd)
  · exact oW_0 hl (am_dup2_w hd)
  · exact oW_0 hl (am_drop_w hd)
  · exact oW_0 hl (am_drop2_w hd)
  · split at hd <;> exact oW_0 hl (am_if_w hd)
  · split at hd <;> exact oW_0 hl (am_ic_w hd)
  · cases hd; exact ⟨_, rfl, rfl, hl, rfl, rfl⟩
  · exact oW_0 hl (am_null_w hd)
  · exact oW_0 hl (am_null_w hd)
  · exact oW_0 hl (am_tsw_w hd)
  · exact oW_0 hl (am_gf_w hd)
  · exact oW_0 hl (am_pf_w hd)
  · exact oW_0 hl (am_ial_w hd)
  · exact oW_0 hl (am_lal_w hd)
  · exact oW_0 hl (am_bal_w hd)
  · exact oW_0 hl (am_aal_w hd)
  · exact oW_0 hl (am_ias_w hd)
  · exact oW_0 hl (am_las_w hd)
  · exact oW_0 hl (am_bas_w hd)
  · exact oW_0 hl (am_aas_w hd)
  · exact oW_0 hl (am_len_w hd)
  · cases hd; exact ⟨_, rfl, rfl, hl, rfl, rfl⟩
  · exact oW_0 hl (am_nar_w hd)
  · exact oW_0 hl (am_anw_w hd)
  · exact oW_0 hl (am_ins_w hd)
  · exact oW_inr hl hd (ret_inr hd)
  · exact oW_inr hl hd (retL_inr hd)
  · exact oW_inr hl hd (retA_inr hd)
  · exact oW_inr hl hd (retV_inr hd)
  · cases hb : rs.length == 1
    · rw [hb] at hd; exact oW_inr hl hd (sta_inr hd)
    · rw [hb] at hd; exact oW_0 hl (am_mth_w hd)
  · exact oW_0 hl (am_spc_w hd)
  · exact oW_inr hl hd (inv_inr hd)
  · cases hd
theorem am_steps_w {df : Nat → List Value} {sc : Nat × (Nat → Int32)} {call : Nat → List Value → am_H → Option (Option Value × am_H)} {code : List am_I} : ∀ (n pc : Nat) (l l' : am_L) (st : List Value) (h : am_H) (x : Option Value × am_H), LW l l' → am_steps df sc call code n (pc, l, st) h = some x → am_steps df sc call code n (pc, l', st) h = some x
  | 0, pc, l, l', st, h, x, hl, hs => by cases hs
  | n + 1, pc, l, l', st, h, x, hl, hs => by
    rw [am_steps] at hs ⊢
    dsimp only at hs ⊢
    cases ha : am_at code pc with
    | none => rw [ha] at hs; cases hs
    | some q =>
      rw [ha] at hs
      dsimp only at hs ⊢
      cases hd : am_do df sc q l st h with
      | none => rw [hd] at hs; cases hs
      | some o =>
        obtain ⟨o', hd', ho⟩ := am_do_w hl hd
        rw [hd] at hs
        rw [hd']
        rcases o with ⟨⟨pc1, l1, st1⟩, h1⟩ | r | ⟨M, as, r⟩
        · rcases o' with ⟨⟨pc2, l2, st2⟩, h2⟩ | y
          · obtain ⟨rfl, hl2, rfl, rfl⟩ := ho
            exact am_steps_w n _ _ _ _ _ _ hl2 hs
          · exact ho.elim
        · rcases o' with y | y
          · exact ho.elim
          · have e : y = .inl r := ho
            subst e
            exact hs
        · rcases o' with y | y
          · exact ho.elim
          · have e : y = .inr (M, as, r) := ho
            subst e
            dsimp only at hs ⊢
            cases hc : am_isC q.2.1
            · rw [hc] at hs; cases hs
            · rw [hc] at hs
              cases hcl : call M as h with
              | none => rw [hcl] at hs; cases hs
              | some w =>
                rw [hcl] at hs
                exact am_steps_w n _ _ _ _ _ _ hl hs
theorem Zs_w {sc : Nat × (Nat → Int32)} {d : Nat} {code : List am_I} {pc : Nat} {l l' : am_L} {st : List Value} {h : am_H} {Q : Option Value → am_H → Prop} (hl : LW l l') (k : Zs sc d code (pc, l, st) h Q) : Zs sc d code (pc, l', st) h Q := by
  obtain ⟨r, h', ⟨n0, hn⟩, q⟩ := k
  exact ⟨r, h', ⟨n0, fun n k h1 h2 => am_steps_w k _ _ _ _ _ _ hl (hn n k h1 h2)⟩, q⟩
/-- how two given lists are compared -/
def lkv (l : am_L) : List (Nat × Value) → Prop
  | [] => True
  | (i, v) :: r => am_lg l i = some v ∧ lkv l r
theorem LW_of {l l' : am_L} (h1 : ln l) (h2 : ln l') (h : lkv l' l) : LW l l' := by
  refine ⟨h1, h2, ?_⟩
  clear h1 h2
  induction l with
  | nil => intro i v hv; cases hv
  | cons q r ih =>
    intro i v hv
    rw [lg_cons] at hv
    obtain ⟨a, b⟩ := q
    by_cases e : a = i
    · rw [if_pos e] at hv
      subst e
      cases hv
      exact h.1
    · rw [if_neg e] at hv
      exact ih h.2 i v hv
def nd : am_L → Bool
  | [] => true
  | q :: r => !(r.any (fun x => x.1 == q.1)) && nd r
theorem lnD : ∀ {l : am_L}, nd l = true → ln l
  | [], _ => List.nodup_nil
  | q :: r, h => by
    rw [nd, Bool.and_eq_true] at h
    refine List.nodup_cons.mpr ⟨fun hm => ?_, lnD h.2⟩
    obtain ⟨x, hx, e⟩ := List.mem_map.mp hm
    have : r.any (fun x => x.1 == q.1) = true := List.any_eq_true.mpr ⟨x, hx, by simpa using e⟩
    rw [this] at h
    exact absurd h.1 (by decide)
theorem Zs_wk {sc : Nat × (Nat → Int32)} {d : Nat} {code : List am_I} {pc : Nat} {l l' : am_L} {st : List Value} {h : am_H} {Q : Option Value → am_H → Prop} (k : Zs sc d code (pc, l, st) h Q) (h1 : ln l) (h2 : ln l') (h3 : lkv l' l) : Zs sc d code (pc, l', st) h Q := Zs_w (LW_of h1 h2 h3) k

