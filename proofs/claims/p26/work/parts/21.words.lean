/-! The tables say what the program needs. -/
theorem am_dis_nil {Q : Nat → Nat → Prop} (ci M : Nat) (h : am_dis [] ci = some M) : Q ci M := by cases h
theorem am_dis_cons {Q : Nat → Nat → Prop} {a b : Nat} {r : List Nat} (h1 : Q a b) (h2 : ∀ ci M, am_dis r ci = some M → Q ci M) (ci M : Nat) (h : am_dis (a :: b :: r) ci = some M) : Q ci M := by
  unfold am_dis at h
  split at h
  · rename_i e
    subst e
    cases h
    exact h1
  · exact h2 ci M h
theorem am_tsw_ok {pc : Nat} {rs : List Nat} {offs : Array Int} (h : (rs.drop 1).map (fun t : Nat => (t : Int)) = offs.toList.map (fun o : Int => (pc : Int) + o)) : ∀ (i t : Nat), rs[i + 1]? = some t → ∃ o, offs[i]? = some o ∧ (pc : Int) + o = (t : Int) := by
  intro i t ht
  have h1 : ((rs.drop 1).map (fun t : Nat => (t : Int)))[i]? = some (t : Int) := by
    rw [List.getElem?_map, List.getElem?_drop, Nat.add_comm 1 i, ht]
    rfl
  rw [h, List.getElem?_map, Array.getElem?_toList] at h1
  cases ho : offs[i]? with
  | none => rw [ho] at h1; cases h1
  | some o =>
    rw [ho] at h1
    exact ⟨o, rfl, Option.some.inj h1⟩
theorem am_dfp {fs : List Value} (h : fs.all (fun v => match v with | .ref _ => false | .retAddr _ => false | _ => true) = true) : ∀ v ∈ fs, (∀ i, v ≠ .ref i) ∧ ∀ i, v ≠ .retAddr i := by
  intro v hv
  have h1 := List.all_eq_true.mp h v hv
  cases v with
  | ref i => cases h1
  | retAddr i => cases h1
  | _ => exact ⟨(fun i e => by cases e), (fun i e => by cases e)⟩
theorem am_tk1 {w : Cond} (h : w ∈ tables_1_1) : w ∈ lw_tbl := List.mem_append_right _ (List.mem_append_left _ h)
theorem am_tk2 {w : Cond} (h : w ∈ tables_1_2) : w ∈ lw_tbl := List.mem_append_right _ (List.mem_append_right _ (List.mem_append_left _ h))
theorem am_tk3 {w : Cond} (h : w ∈ tables_1_3) : w ∈ lw_tbl := List.mem_append_right _ (List.mem_append_right _ (List.mem_append_right _ (List.mem_append_left _ h)))
theorem am_tk4 {w : Cond} (h : w ∈ tables_1_4) : w ∈ lw_tbl := List.mem_append_right _ (List.mem_append_right _ (List.mem_append_right _ (List.mem_append_right _ (List.mem_append_left _ h))))
theorem am_tk5 {w : Cond} (h : w ∈ tables_1_5) : w ∈ lw_tbl := List.mem_append_right _ (List.mem_append_right _ (List.mem_append_right _ (List.mem_append_right _ (List.mem_append_right _ (List.mem_append_left _ h)))))
theorem am_tk6 {w : Cond} (h : w ∈ tables_1_6) : w ∈ lw_tbl := List.mem_append_right _ (List.mem_append_right _ (List.mem_append_right _ (List.mem_append_right _ (List.mem_append_right _ (List.mem_append_right _ (h))))))
theorem am_wsk {C : String} {T : u_T} {N : Nat} {l : List Cond} {a s : Nat} (h : ∀ j, j < N → l[a + s * j]? = some (u_lay C T j)) : ∀ w ∈ u_ws C T N, w ∈ l := fun w hw => by
  obtain ⟨j, hj, rfl⟩ := List.mem_map.mp hw
  exact List.mem_of_getElem? (h j (List.mem_range.mp hj))
theorem cl_0 : am_cl RX0 TX0 3 tyX0 0 := ⟨rfl, fun w h => List.mem_filter.mpr ⟨am_tk2 (am_wsk (C := RX0) (T := TX0) (N := 3) (l := tables_1_2) (a := 152) (s := 2) (by decide +kernel) w h), (show ∀ w ∈ wsX00, goodWord w = true by decide +kernel) w h⟩, tyX0_ok, nmX0⟩
theorem am_dfp_0 : ∀ v ∈ am_df 0, (∀ i, v ≠ .ref i) ∧ ∀ i, v ≠ .retAddr i := am_dfp (by decide +kernel)
theorem cl_1 : am_cl RX1 TX1 3 tyX1 1 := ⟨rfl, fun w h => List.mem_filter.mpr ⟨am_tk1 (am_wsk (C := RX1) (T := TX1) (N := 3) (l := tables_1_1) (a := 142) (s := 2) (by decide +kernel) w h), (show ∀ w ∈ wsX10, goodWord w = true by decide +kernel) w h⟩, tyX1_ok, nmX1⟩
theorem am_dfp_1 : ∀ v ∈ am_df 1, (∀ i, v ≠ .ref i) ∧ ∀ i, v ≠ .retAddr i := am_dfp (by decide +kernel)
theorem cl_2 : am_cl RX2 TX2 3 tyX2 2 := ⟨rfl, fun w h => List.mem_filter.mpr ⟨am_tk2 (am_wsk (C := RX2) (T := TX2) (N := 3) (l := tables_1_2) (a := 176) (s := 1) (by decide +kernel) w h), (show ∀ w ∈ wsX20, goodWord w = true by decide +kernel) w h⟩, tyX2_ok, nmX2⟩
theorem am_dfp_2 : ∀ v ∈ am_df 2, (∀ i, v ≠ .ref i) ∧ ∀ i, v ≠ .retAddr i := am_dfp (by decide +kernel)
theorem cl_3 : am_cl RX3 TX3 3 tyX3 3 := ⟨rfl, fun w h => List.mem_filter.mpr ⟨am_tk2 (am_wsk (C := RX3) (T := TX3) (N := 3) (l := tables_1_2) (a := 186) (s := 1) (by decide +kernel) w h), (show ∀ w ∈ wsX30, goodWord w = true by decide +kernel) w h⟩, tyX3_ok, nmX3⟩
theorem am_dfp_3 : ∀ v ∈ am_df 3, (∀ i, v ≠ .ref i) ∧ ∀ i, v ≠ .retAddr i := am_dfp (by decide +kernel)
theorem cl_4 : am_cl RX6 TX6 3 tyX6 4 := ⟨rfl, fun w h => List.mem_filter.mpr ⟨am_tk2 (am_wsk (C := RX6) (T := TX6) (N := 3) (l := tables_1_2) (a := 166) (s := 1) (by decide +kernel) w h), (show ∀ w ∈ wsX60, goodWord w = true by decide +kernel) w h⟩, tyX6_ok, nmX6⟩
theorem am_dfp_4 : ∀ v ∈ am_df 4, (∀ i, v ≠ .ref i) ∧ ∀ i, v ≠ .retAddr i := am_dfp (by decide +kernel)
theorem cl_5 : am_cl RX7 TX7 4 tyX7 5 := ⟨rfl, fun w h => List.mem_filter.mpr ⟨am_tk1 (am_wsk (C := RX7) (T := TX7) (N := 4) (l := tables_1_1) (a := 161) (s := 2) (by decide +kernel) w h), (show ∀ w ∈ wsX70, goodWord w = true by decide +kernel) w h⟩, tyX7_ok, nmX7⟩
theorem am_dfp_5 : ∀ v ∈ am_df 5, (∀ i, v ≠ .ref i) ∧ ∀ i, v ≠ .retAddr i := am_dfp (by decide +kernel)
theorem cl_6 : am_cl RX8 TX8 4 tyX8 6 := ⟨rfl, fun w h => List.mem_filter.mpr ⟨am_tk1 (am_wsk (C := RX8) (T := TX8) (N := 4) (l := tables_1_1) (a := 70) (s := 2) (by decide +kernel) w h), (show ∀ w ∈ wsX80, goodWord w = true by decide +kernel) w h⟩, tyX8_ok, nmX8⟩
theorem am_dfp_6 : ∀ v ∈ am_df 6, (∀ i, v ≠ .ref i) ∧ ∀ i, v ≠ .retAddr i := am_dfp (by decide +kernel)
theorem cl_7 : am_cl RX9 TX9 6 tyX9 7 := ⟨rfl, fun w h => List.mem_filter.mpr ⟨am_tk1 (am_wsk (C := RX9) (T := TX9) (N := 6) (l := tables_1_1) (a := 43) (s := 2) (by decide +kernel) w h), (show ∀ w ∈ wsX90, goodWord w = true by decide +kernel) w h⟩, tyX9_ok, nmX9⟩
theorem am_dfp_7 : ∀ v ∈ am_df 7, (∀ i, v ≠ .ref i) ∧ ∀ i, v ≠ .retAddr i := am_dfp (by decide +kernel)
theorem cl_8 : am_cl RX10 TX10 14 tyX10 8 := ⟨rfl, fun w h => List.mem_filter.mpr ⟨am_tk1 (am_wsk (C := RX10) (T := TX10) (N := 14) (l := tables_1_1) (a := 99) (s := 2) (by decide +kernel) w h), (show ∀ w ∈ wsX100, goodWord w = true by decide +kernel) w h⟩, tyX10_ok, nmX10⟩
theorem am_dfp_8 : ∀ v ∈ am_df 8, (∀ i, v ≠ .ref i) ∧ ∀ i, v ≠ .retAddr i := am_dfp (by decide +kernel)
theorem cl_9 : am_cl RX11 TX11 16 tyX11 9 := ⟨rfl, fun w h => List.mem_filter.mpr ⟨am_tk1 (am_wsk (C := RX11) (T := TX11) (N := 16) (l := tables_1_1) (a := 193) (s := 2) (by decide +kernel) w h), (show ∀ w ∈ wsX110, goodWord w = true by decide +kernel) w h⟩, tyX11_ok, nmX11⟩
theorem am_dfp_9 : ∀ v ∈ am_df 9, (∀ i, v ≠ .ref i) ∧ ∀ i, v ≠ .retAddr i := am_dfp (by decide +kernel)
theorem cl_10 : am_cl RX12 TX12 44 tyX12 10 := ⟨rfl, fun w h => List.mem_filter.mpr ⟨am_tk5 (am_wsk (C := RX12) (T := TX12) (N := 44) (l := tables_1_5) (a := 30) (s := 2) (by decide +kernel) w h), (show ∀ w ∈ wsX120, goodWord w = true by decide +kernel) w h⟩, tyX12_ok, nmX12⟩
theorem am_dfp_10 : ∀ v ∈ am_df 10, (∀ i, v ≠ .ref i) ∧ ∀ i, v ≠ .retAddr i := am_dfp (by decide +kernel)
theorem tw_454 : Cond.code yX4_init cX4_init 4 none ∈ am_tb := List.mem_filter.mpr ⟨am_tk2 (List.mem_of_getElem? (i := 139) rfl), rfl⟩
theorem tw_89 : Cond.initialized RX4 ∈ am_tb := List.mem_filter.mpr ⟨am_tk1 (List.mem_of_getElem? (i := 14) rfl), rfl⟩
theorem tw_452 : Cond.methodLink RX0 1 yX4_init ∈ am_tb := List.mem_filter.mpr ⟨am_tk2 (List.mem_of_getElem? (i := 137) rfl), rfl⟩
theorem tw_453 : Cond.instanceMethod yX4_init ∈ am_tb := List.mem_filter.mpr ⟨am_tk2 (List.mem_of_getElem? (i := 138) rfl), rfl⟩
theorem tw_451 : Cond.code yX0_init cX0_init 4 none ∈ am_tb := List.mem_filter.mpr ⟨am_tk2 (List.mem_of_getElem? (i := 136) rfl), rfl⟩
theorem tw_90 : Cond.initialized RX0 ∈ am_tb := List.mem_filter.mpr ⟨am_tk1 (List.mem_of_getElem? (i := 15) rfl), rfl⟩
theorem tw_791 : Cond.code yX0_kindNumber cX0_kindNumber 1 (some .int) ∈ am_tb := List.mem_filter.mpr ⟨am_tk3 (List.mem_of_getElem? (i := 236) rfl), rfl⟩
theorem tw_624 : Cond.code yX0_highWorth cX0_highWorth 1 (some .int) ∈ am_tb := List.mem_filter.mpr ⟨am_tk3 (List.mem_of_getElem? (i := 69) rfl), rfl⟩
theorem tw_208 : Cond.methodLink RX1 3 Lib.objectInit ∈ am_tb := List.mem_filter.mpr ⟨am_tk1 (List.mem_of_getElem? (i := 133) rfl), rfl⟩
theorem tw_101 : Cond.instanceMethod Lib.objectInit ∈ am_tb := List.mem_filter.mpr ⟨am_tk1 (List.mem_of_getElem? (i := 26) rfl), rfl⟩
theorem tw_102 : Cond.code Lib.objectInit ⟨#[0xb1]⟩ 1 none ∈ am_tb := List.mem_filter.mpr ⟨am_tk1 (List.mem_of_getElem? (i := 27) rfl), rfl⟩
theorem tw_209 : Cond.classLink RX1 9 "RodBeads$Rod" ∈ am_tb := List.mem_filter.mpr ⟨am_tk1 (List.mem_of_getElem? (i := 134) rfl), rfl⟩
theorem tw_211 : Cond.fieldLink RX1 11 "RodBeads$Frame" "rods" "[LRodBeads$Rod;" ∈ am_tb := List.mem_filter.mpr ⟨am_tk1 (List.mem_of_getElem? (i := 136) rfl), rfl⟩
theorem tw_212 : Cond.fieldLink RX1 17 "RodBeads$Frame" "size" "I" ∈ am_tb := List.mem_filter.mpr ⟨am_tk1 (List.mem_of_getElem? (i := 137) rfl), rfl⟩
theorem tw_215 : Cond.fieldLink RX1 21 "RodBeads$Frame" "told" "I" ∈ am_tb := List.mem_filter.mpr ⟨am_tk1 (List.mem_of_getElem? (i := 140) rfl), rfl⟩
theorem tw_207 : Cond.code yX1_init cX1_init 1 none ∈ am_tb := List.mem_filter.mpr ⟨am_tk1 (List.mem_of_getElem? (i := 132) rfl), rfl⟩
theorem tw_80 : Cond.initialized RX1 ∈ am_tb := List.mem_filter.mpr ⟨am_tk1 (List.mem_of_getElem? (i := 5) rfl), rfl⟩
theorem tw_331 : Cond.code yX1_rodAt cX1_rodAt 2 (some (.object "RodBeads$Rod")) ∈ am_tb := List.mem_filter.mpr ⟨am_tk2 (List.mem_of_getElem? (i := 16) rfl), rfl⟩
theorem tw_329 : Cond.instanceMethod yX1_rodAt ∈ am_tb := List.mem_filter.mpr ⟨am_tk2 (List.mem_of_getElem? (i := 14) rfl), rfl⟩
theorem tw_330 : Cond.selects RX1 yX1_rodAt yX1_rodAt ∈ am_tb := List.mem_filter.mpr ⟨am_tk2 (List.mem_of_getElem? (i := 15) rfl), rfl⟩
theorem tw_328 : Cond.methodLink RX1 24 yX1_rodAt ∈ am_tb := List.mem_filter.mpr ⟨am_tk2 (List.mem_of_getElem? (i := 13) rfl), rfl⟩
theorem tw_327 : Cond.code yX1_copy cX1_copy 3 none ∈ am_tb := List.mem_filter.mpr ⟨am_tk2 (List.mem_of_getElem? (i := 12) rfl), rfl⟩
theorem tw_339 : Cond.code yX9_begin cX9_begin 1 none ∈ am_tb := List.mem_filter.mpr ⟨am_tk2 (List.mem_of_getElem? (i := 24) rfl), rfl⟩
theorem tw_77 : Cond.initialized RX9 ∈ am_tb := List.mem_filter.mpr ⟨am_tk1 (List.mem_of_getElem? (i := 2) rfl), rfl⟩
theorem tw_337 : Cond.instanceMethod yX9_begin ∈ am_tb := List.mem_filter.mpr ⟨am_tk2 (List.mem_of_getElem? (i := 22) rfl), rfl⟩
theorem tw_338 : Cond.selects RX9 yX9_begin yX9_begin ∈ am_tb := List.mem_filter.mpr ⟨am_tk2 (List.mem_of_getElem? (i := 23) rfl), rfl⟩
theorem tw_336 : Cond.methodLink RX1 28 yX9_begin ∈ am_tb := List.mem_filter.mpr ⟨am_tk2 (List.mem_of_getElem? (i := 21) rfl), rfl⟩
theorem tw_360 : Cond.code yX1_readClause cX1_readClause 4 none ∈ am_tb := List.mem_filter.mpr ⟨am_tk2 (List.mem_of_getElem? (i := 45) rfl), rfl⟩
theorem tw_359 : Cond.instanceMethod yX1_readClause ∈ am_tb := List.mem_filter.mpr ⟨am_tk2 (List.mem_of_getElem? (i := 44) rfl), rfl⟩
theorem tw_2 : Cond.selects RX1 yX1_readClause yX1_readClause ∈ am_tb := List.mem_filter.mpr ⟨List.mem_of_getElem? (i := 2) (by decide +kernel), rfl⟩
theorem tw_357 : Cond.methodLink RX1 33 yX1_readClause ∈ am_tb := List.mem_filter.mpr ⟨am_tk2 (List.mem_of_getElem? (i := 42) rfl), rfl⟩
theorem tw_508 : Cond.code yX9_another cX9_another 2 (some .boolean) ∈ am_tb := List.mem_filter.mpr ⟨am_tk2 (List.mem_of_getElem? (i := 193) rfl), rfl⟩
theorem tw_506 : Cond.instanceMethod yX9_another ∈ am_tb := List.mem_filter.mpr ⟨am_tk2 (List.mem_of_getElem? (i := 191) rfl), rfl⟩
theorem tw_507 : Cond.selects RX9 yX9_another yX9_another ∈ am_tb := List.mem_filter.mpr ⟨am_tk2 (List.mem_of_getElem? (i := 192) rfl), rfl⟩
theorem tw_505 : Cond.methodLink RX1 37 yX9_another ∈ am_tb := List.mem_filter.mpr ⟨am_tk2 (List.mem_of_getElem? (i := 190) rfl), rfl⟩
theorem tw_335 : Cond.code yX1_read cX1_read 4 (some .int) ∈ am_tb := List.mem_filter.mpr ⟨am_tk2 (List.mem_of_getElem? (i := 20) rfl), rfl⟩
theorem tw_365 : Cond.code yX9_isWord cX9_isWord 3 (some .boolean) ∈ am_tb := List.mem_filter.mpr ⟨am_tk2 (List.mem_of_getElem? (i := 50) rfl), rfl⟩
theorem tw_363 : Cond.instanceMethod yX9_isWord ∈ am_tb := List.mem_filter.mpr ⟨am_tk2 (List.mem_of_getElem? (i := 48) rfl), rfl⟩
theorem tw_364 : Cond.selects RX9 yX9_isWord yX9_isWord ∈ am_tb := List.mem_filter.mpr ⟨am_tk2 (List.mem_of_getElem? (i := 49) rfl), rfl⟩
theorem tw_362 : Cond.methodLink RX1 43 yX9_isWord ∈ am_tb := List.mem_filter.mpr ⟨am_tk2 (List.mem_of_getElem? (i := 47) rfl), rfl⟩
theorem tw_343 : Cond.code yX9_step cX9_step 3 none ∈ am_tb := List.mem_filter.mpr ⟨am_tk2 (List.mem_of_getElem? (i := 28) rfl), rfl⟩
theorem tw_341 : Cond.instanceMethod yX9_step ∈ am_tb := List.mem_filter.mpr ⟨am_tk2 (List.mem_of_getElem? (i := 26) rfl), rfl⟩
theorem tw_342 : Cond.selects RX9 yX9_step yX9_step ∈ am_tb := List.mem_filter.mpr ⟨am_tk2 (List.mem_of_getElem? (i := 27) rfl), rfl⟩
theorem tw_414 : Cond.methodLink RX1 47 yX9_step ∈ am_tb := List.mem_filter.mpr ⟨am_tk2 (List.mem_of_getElem? (i := 99) rfl), rfl⟩
theorem tw_419 : Cond.code yX9_takeNumber cX9_takeNumber 7 (some .int) ∈ am_tb := List.mem_filter.mpr ⟨am_tk2 (List.mem_of_getElem? (i := 104) rfl), rfl⟩
theorem tw_417 : Cond.instanceMethod yX9_takeNumber ∈ am_tb := List.mem_filter.mpr ⟨am_tk2 (List.mem_of_getElem? (i := 102) rfl), rfl⟩
theorem tw_418 : Cond.selects RX9 yX9_takeNumber yX9_takeNumber ∈ am_tb := List.mem_filter.mpr ⟨am_tk2 (List.mem_of_getElem? (i := 103) rfl), rfl⟩
theorem tw_416 : Cond.methodLink RX1 52 yX9_takeNumber ∈ am_tb := List.mem_filter.mpr ⟨am_tk2 (List.mem_of_getElem? (i := 101) rfl), rfl⟩
theorem tw_423 : Cond.code yX9_isSound cX9_isSound 1 (some .boolean) ∈ am_tb := List.mem_filter.mpr ⟨am_tk2 (List.mem_of_getElem? (i := 108) rfl), rfl⟩
theorem tw_421 : Cond.instanceMethod yX9_isSound ∈ am_tb := List.mem_filter.mpr ⟨am_tk2 (List.mem_of_getElem? (i := 106) rfl), rfl⟩
theorem tw_422 : Cond.selects RX9 yX9_isSound yX9_isSound ∈ am_tb := List.mem_filter.mpr ⟨am_tk2 (List.mem_of_getElem? (i := 107) rfl), rfl⟩
theorem tw_428 : Cond.methodLink RX1 56 yX9_isSound ∈ am_tb := List.mem_filter.mpr ⟨am_tk2 (List.mem_of_getElem? (i := 113) rfl), rfl⟩
theorem tw_431 : Cond.code yX7_partBit cX7_partBit 2 (some .int) ∈ am_tb := List.mem_filter.mpr ⟨am_tk2 (List.mem_of_getElem? (i := 116) rfl), rfl⟩
theorem tw_81 : Cond.initialized RX7 ∈ am_tb := List.mem_filter.mpr ⟨am_tk1 (List.mem_of_getElem? (i := 6) rfl), rfl⟩
theorem tw_429 : Cond.methodLink RX1 60 yX7_partBit ∈ am_tb := List.mem_filter.mpr ⟨am_tk2 (List.mem_of_getElem? (i := 114) rfl), rfl⟩
theorem tw_430 : Cond.static yX7_partBit ∈ am_tb := List.mem_filter.mpr ⟨am_tk2 (List.mem_of_getElem? (i := 115) rfl), rfl⟩
theorem tw_434 : Cond.code yX1_kindTold cX1_kindTold 1 (some .int) ∈ am_tb := List.mem_filter.mpr ⟨am_tk2 (List.mem_of_getElem? (i := 119) rfl), rfl⟩
theorem tw_432 : Cond.methodLink RX1 66 yX1_kindTold ∈ am_tb := List.mem_filter.mpr ⟨am_tk2 (List.mem_of_getElem? (i := 117) rfl), rfl⟩
theorem tw_433 : Cond.static yX1_kindTold ∈ am_tb := List.mem_filter.mpr ⟨am_tk2 (List.mem_of_getElem? (i := 118) rfl), rfl⟩
theorem tw_442 : Cond.code yX1_readRod cX1_readRod 6 none ∈ am_tb := List.mem_filter.mpr ⟨am_tk2 (List.mem_of_getElem? (i := 127) rfl), rfl⟩
theorem tw_441 : Cond.instanceMethod yX1_readRod ∈ am_tb := List.mem_filter.mpr ⟨am_tk2 (List.mem_of_getElem? (i := 126) rfl), rfl⟩
theorem tw_3 : Cond.selects RX1 yX1_readRod yX1_readRod ∈ am_tb := List.mem_filter.mpr ⟨List.mem_of_getElem? (i := 3) (by decide +kernel), rfl⟩
theorem tw_439 : Cond.methodLink RX1 70 yX1_readRod ∈ am_tb := List.mem_filter.mpr ⟨am_tk2 (List.mem_of_getElem? (i := 124) rfl), rfl⟩
theorem tw_427 : Cond.code yX9_fail cX9_fail 1 none ∈ am_tb := List.mem_filter.mpr ⟨am_tk2 (List.mem_of_getElem? (i := 112) rfl), rfl⟩
theorem tw_425 : Cond.instanceMethod yX9_fail ∈ am_tb := List.mem_filter.mpr ⟨am_tk2 (List.mem_of_getElem? (i := 110) rfl), rfl⟩
theorem tw_426 : Cond.selects RX9 yX9_fail yX9_fail ∈ am_tb := List.mem_filter.mpr ⟨am_tk2 (List.mem_of_getElem? (i := 111) rfl), rfl⟩
theorem tw_443 : Cond.methodLink RX1 82 yX9_fail ∈ am_tb := List.mem_filter.mpr ⟨am_tk2 (List.mem_of_getElem? (i := 128) rfl), rfl⟩
theorem tw_446 : Cond.code yX1_makeRod cX1_makeRod 4 (some (.object "RodBeads$Rod")) ∈ am_tb := List.mem_filter.mpr ⟨am_tk2 (List.mem_of_getElem? (i := 131) rfl), rfl⟩
theorem tw_444 : Cond.methodLink RX1 85 yX1_makeRod ∈ am_tb := List.mem_filter.mpr ⟨am_tk2 (List.mem_of_getElem? (i := 129) rfl), rfl⟩
theorem tw_445 : Cond.static yX1_makeRod ∈ am_tb := List.mem_filter.mpr ⟨am_tk2 (List.mem_of_getElem? (i := 130) rfl), rfl⟩
theorem tw_447 : Cond.classLink RX1 89 RX0 ∈ am_tb := List.mem_filter.mpr ⟨am_tk2 (List.mem_of_getElem? (i := 132) rfl), rfl⟩
theorem tw_448 : Cond.instantiable RX0 3 ∈ am_tb := List.mem_filter.mpr ⟨am_tk2 (List.mem_of_getElem? (i := 133) rfl), rfl⟩
theorem tw_449 : Cond.methodLink RX1 91 yX0_init ∈ am_tb := List.mem_filter.mpr ⟨am_tk2 (List.mem_of_getElem? (i := 134) rfl), rfl⟩
theorem tw_450 : Cond.instanceMethod yX0_init ∈ am_tb := List.mem_filter.mpr ⟨am_tk2 (List.mem_of_getElem? (i := 135) rfl), rfl⟩
theorem tw_475 : Cond.classLink RX1 94 RX6 ∈ am_tb := List.mem_filter.mpr ⟨am_tk2 (List.mem_of_getElem? (i := 160) rfl), rfl⟩
theorem tw_476 : Cond.instantiable RX6 3 ∈ am_tb := List.mem_filter.mpr ⟨am_tk2 (List.mem_of_getElem? (i := 161) rfl), rfl⟩
theorem tw_91 : Cond.initialized RX6 ∈ am_tb := List.mem_filter.mpr ⟨am_tk1 (List.mem_of_getElem? (i := 16) rfl), rfl⟩
theorem tw_479 : Cond.code yX6_init cX6_init 4 none ∈ am_tb := List.mem_filter.mpr ⟨am_tk2 (List.mem_of_getElem? (i := 164) rfl), rfl⟩
theorem tw_477 : Cond.methodLink RX1 96 yX6_init ∈ am_tb := List.mem_filter.mpr ⟨am_tk2 (List.mem_of_getElem? (i := 162) rfl), rfl⟩
theorem tw_478 : Cond.instanceMethod yX6_init ∈ am_tb := List.mem_filter.mpr ⟨am_tk2 (List.mem_of_getElem? (i := 163) rfl), rfl⟩
theorem tw_485 : Cond.classLink RX1 97 RX2 ∈ am_tb := List.mem_filter.mpr ⟨am_tk2 (List.mem_of_getElem? (i := 170) rfl), rfl⟩
theorem tw_486 : Cond.instantiable RX2 3 ∈ am_tb := List.mem_filter.mpr ⟨am_tk2 (List.mem_of_getElem? (i := 171) rfl), rfl⟩
theorem tw_92 : Cond.initialized RX2 ∈ am_tb := List.mem_filter.mpr ⟨am_tk1 (List.mem_of_getElem? (i := 17) rfl), rfl⟩
theorem tw_489 : Cond.code yX2_init cX2_init 4 none ∈ am_tb := List.mem_filter.mpr ⟨am_tk2 (List.mem_of_getElem? (i := 174) rfl), rfl⟩
theorem tw_487 : Cond.methodLink RX1 99 yX2_init ∈ am_tb := List.mem_filter.mpr ⟨am_tk2 (List.mem_of_getElem? (i := 172) rfl), rfl⟩
theorem tw_488 : Cond.instanceMethod yX2_init ∈ am_tb := List.mem_filter.mpr ⟨am_tk2 (List.mem_of_getElem? (i := 173) rfl), rfl⟩
theorem tw_495 : Cond.classLink RX1 100 RX3 ∈ am_tb := List.mem_filter.mpr ⟨am_tk2 (List.mem_of_getElem? (i := 180) rfl), rfl⟩
theorem tw_496 : Cond.instantiable RX3 3 ∈ am_tb := List.mem_filter.mpr ⟨am_tk2 (List.mem_of_getElem? (i := 181) rfl), rfl⟩
theorem tw_93 : Cond.initialized RX3 ∈ am_tb := List.mem_filter.mpr ⟨am_tk1 (List.mem_of_getElem? (i := 18) rfl), rfl⟩
theorem tw_499 : Cond.code yX3_init cX3_init 3 none ∈ am_tb := List.mem_filter.mpr ⟨am_tk2 (List.mem_of_getElem? (i := 184) rfl), rfl⟩
theorem tw_497 : Cond.methodLink RX1 102 yX3_init ∈ am_tb := List.mem_filter.mpr ⟨am_tk2 (List.mem_of_getElem? (i := 182) rfl), rfl⟩
theorem tw_498 : Cond.instanceMethod yX3_init ∈ am_tb := List.mem_filter.mpr ⟨am_tk2 (List.mem_of_getElem? (i := 183) rfl), rfl⟩
theorem tw_490 : Cond.methodLink RX2 1 yX0_init ∈ am_tb := List.mem_filter.mpr ⟨am_tk2 (List.mem_of_getElem? (i := 175) rfl), rfl⟩
theorem tw_794 : Cond.code yX2_kindNumber cX2_kindNumber 1 (some .int) ∈ am_tb := List.mem_filter.mpr ⟨am_tk3 (List.mem_of_getElem? (i := 239) rfl), rfl⟩
theorem tw_460 : Cond.fieldLink RX2 7 "RodBeads$Heir" "lowBeads" "I" ∈ am_tb := List.mem_filter.mpr ⟨am_tk2 (List.mem_of_getElem? (i := 145) rfl), rfl⟩
theorem tw_461 : Cond.sameField "RodBeads$Heir" "RodBeads$Rod" "lowBeads" "I" ∈ am_tb := List.mem_filter.mpr ⟨am_tk2 (List.mem_of_getElem? (i := 146) rfl), rfl⟩
theorem tw_627 : Cond.code yX2_highWorth cX2_highWorth 1 (some .int) ∈ am_tb := List.mem_filter.mpr ⟨am_tk3 (List.mem_of_getElem? (i := 72) rfl), rfl⟩
theorem tw_682 : Cond.code yX2_highTime cX2_highTime 1 (some .int) ∈ am_tb := List.mem_filter.mpr ⟨am_tk3 (List.mem_of_getElem? (i := 127) rfl), rfl⟩
theorem tw_500 : Cond.methodLink RX3 1 yX4_init ∈ am_tb := List.mem_filter.mpr ⟨am_tk2 (List.mem_of_getElem? (i := 185) rfl), rfl⟩
theorem tw_797 : Cond.code yX3_kindNumber cX3_kindNumber 1 (some .int) ∈ am_tb := List.mem_filter.mpr ⟨am_tk4 (List.mem_of_getElem? (i := 2) rfl), rfl⟩
theorem tw_630 : Cond.code yX3_highWorth cX3_highWorth 1 (some .int) ∈ am_tb := List.mem_filter.mpr ⟨am_tk3 (List.mem_of_getElem? (i := 75) rfl), rfl⟩
theorem tw_455 : Cond.methodLink RX4 3 Lib.objectInit ∈ am_tb := List.mem_filter.mpr ⟨am_tk2 (List.mem_of_getElem? (i := 140) rfl), rfl⟩
theorem tw_456 : Cond.fieldLink RX4 9 "RodBeads$Rod" "base" "I" ∈ am_tb := List.mem_filter.mpr ⟨am_tk2 (List.mem_of_getElem? (i := 141) rfl), rfl⟩
theorem tw_459 : Cond.fieldLink RX4 15 "RodBeads$Rod" "lowBeads" "I" ∈ am_tb := List.mem_filter.mpr ⟨am_tk2 (List.mem_of_getElem? (i := 144) rfl), rfl⟩
theorem tw_464 : Cond.fieldLink RX4 18 "RodBeads$Rod" "highBeads" "I" ∈ am_tb := List.mem_filter.mpr ⟨am_tk2 (List.mem_of_getElem? (i := 149) rfl), rfl⟩
theorem tw_697 : Cond.code yX4_lowTime cX4_lowTime 1 (some .int) ∈ am_tb := List.mem_filter.mpr ⟨am_tk3 (List.mem_of_getElem? (i := 142) rfl), rfl⟩
theorem tw_687 : Cond.code yX4_highTime cX4_highTime 1 (some .int) ∈ am_tb := List.mem_filter.mpr ⟨am_tk3 (List.mem_of_getElem? (i := 132) rfl), rfl⟩
theorem tw_832 : Cond.code yX4_beadsOf cX4_beadsOf 2 (some .int) ∈ am_tb := List.mem_filter.mpr ⟨am_tk4 (List.mem_of_getElem? (i := 37) rfl), rfl⟩
theorem tw_677 : Cond.instanceMethod yX4_highTime ∈ am_tb := List.mem_filter.mpr ⟨am_tk3 (List.mem_of_getElem? (i := 122) rfl), rfl⟩
theorem tw_679 : Cond.selects RX0 yX4_highTime yX4_highTime ∈ am_tb := List.mem_filter.mpr ⟨am_tk3 (List.mem_of_getElem? (i := 124) rfl), rfl⟩
theorem tw_676 : Cond.methodLink RX4 21 yX4_highTime ∈ am_tb := List.mem_filter.mpr ⟨am_tk3 (List.mem_of_getElem? (i := 121) rfl), rfl⟩
theorem tw_681 : Cond.instanceMethod yX2_highTime ∈ am_tb := List.mem_filter.mpr ⟨am_tk3 (List.mem_of_getElem? (i := 126) rfl), rfl⟩
theorem tw_680 : Cond.selects RX2 yX4_highTime yX2_highTime ∈ am_tb := List.mem_filter.mpr ⟨am_tk3 (List.mem_of_getElem? (i := 125) rfl), rfl⟩
theorem tw_678 : Cond.sameMethod "RodBeads$Rod" "RodBeads$Rod" "highTime" "()I" ∈ am_tb := List.mem_filter.mpr ⟨am_tk3 (List.mem_of_getElem? (i := 123) rfl), rfl⟩
theorem tw_683 : Cond.selects RX3 yX4_highTime yX4_highTime ∈ am_tb := List.mem_filter.mpr ⟨am_tk3 (List.mem_of_getElem? (i := 128) rfl), rfl⟩
theorem tw_686 : Cond.code yX6_highTime cX6_highTime 1 (some .int) ∈ am_tb := List.mem_filter.mpr ⟨am_tk3 (List.mem_of_getElem? (i := 131) rfl), rfl⟩
theorem tw_685 : Cond.instanceMethod yX6_highTime ∈ am_tb := List.mem_filter.mpr ⟨am_tk3 (List.mem_of_getElem? (i := 130) rfl), rfl⟩
theorem tw_684 : Cond.selects RX6 yX4_highTime yX6_highTime ∈ am_tb := List.mem_filter.mpr ⟨am_tk3 (List.mem_of_getElem? (i := 129) rfl), rfl⟩
theorem tw_689 : Cond.instanceMethod yX4_lowTime ∈ am_tb := List.mem_filter.mpr ⟨am_tk3 (List.mem_of_getElem? (i := 134) rfl), rfl⟩
theorem tw_691 : Cond.selects RX0 yX4_lowTime yX4_lowTime ∈ am_tb := List.mem_filter.mpr ⟨am_tk3 (List.mem_of_getElem? (i := 136) rfl), rfl⟩
theorem tw_688 : Cond.methodLink RX4 25 yX4_lowTime ∈ am_tb := List.mem_filter.mpr ⟨am_tk3 (List.mem_of_getElem? (i := 133) rfl), rfl⟩
theorem tw_692 : Cond.selects RX2 yX4_lowTime yX4_lowTime ∈ am_tb := List.mem_filter.mpr ⟨am_tk3 (List.mem_of_getElem? (i := 137) rfl), rfl⟩
theorem tw_693 : Cond.selects RX3 yX4_lowTime yX4_lowTime ∈ am_tb := List.mem_filter.mpr ⟨am_tk3 (List.mem_of_getElem? (i := 138) rfl), rfl⟩
theorem tw_696 : Cond.code yX6_lowTime cX6_lowTime 1 (some .int) ∈ am_tb := List.mem_filter.mpr ⟨am_tk3 (List.mem_of_getElem? (i := 141) rfl), rfl⟩
theorem tw_695 : Cond.instanceMethod yX6_lowTime ∈ am_tb := List.mem_filter.mpr ⟨am_tk3 (List.mem_of_getElem? (i := 140) rfl), rfl⟩
theorem tw_694 : Cond.selects RX6 yX4_lowTime yX6_lowTime ∈ am_tb := List.mem_filter.mpr ⟨am_tk3 (List.mem_of_getElem? (i := 139) rfl), rfl⟩
theorem tw_690 : Cond.sameMethod "RodBeads$Rod" "RodBeads$Rod" "lowTime" "()I" ∈ am_tb := List.mem_filter.mpr ⟨am_tk3 (List.mem_of_getElem? (i := 135) rfl), rfl⟩
theorem tw_675 : Cond.code yX4_timeOf cX4_timeOf 2 (some .int) ∈ am_tb := List.mem_filter.mpr ⟨am_tk3 (List.mem_of_getElem? (i := 120) rfl), rfl⟩
theorem tw_623 : Cond.instanceMethod yX0_highWorth ∈ am_tb := List.mem_filter.mpr ⟨am_tk3 (List.mem_of_getElem? (i := 68) rfl), rfl⟩
theorem tw_622 : Cond.selects RX0 ⟨"RodBeads$Rod", "highWorth", "()I"⟩ yX0_highWorth ∈ am_tb := List.mem_filter.mpr ⟨am_tk3 (List.mem_of_getElem? (i := 67) rfl), rfl⟩
theorem tw_619 : Cond.methodLink RX4 28 ⟨"RodBeads$Rod", "highWorth", "()I"⟩ ∈ am_tb := List.mem_filter.mpr ⟨am_tk3 (List.mem_of_getElem? (i := 64) rfl), rfl⟩
theorem tw_621 : Cond.sameMethod "RodBeads$Rod" "RodBeads$Rod" "highWorth" "()I" ∈ am_tb := List.mem_filter.mpr ⟨am_tk3 (List.mem_of_getElem? (i := 66) rfl), rfl⟩
theorem tw_620 : Cond.declares ⟨"RodBeads$Rod", "highWorth", "()I"⟩ ∈ am_xw := List.mem_filter.mpr ⟨am_tk3 (List.mem_of_getElem? (i := 65) rfl), rfl⟩
theorem tw_626 : Cond.instanceMethod yX2_highWorth ∈ am_tb := List.mem_filter.mpr ⟨am_tk3 (List.mem_of_getElem? (i := 71) rfl), rfl⟩
theorem tw_625 : Cond.selects RX2 ⟨"RodBeads$Rod", "highWorth", "()I"⟩ yX2_highWorth ∈ am_tb := List.mem_filter.mpr ⟨am_tk3 (List.mem_of_getElem? (i := 70) rfl), rfl⟩
theorem tw_629 : Cond.instanceMethod yX3_highWorth ∈ am_tb := List.mem_filter.mpr ⟨am_tk3 (List.mem_of_getElem? (i := 74) rfl), rfl⟩
theorem tw_628 : Cond.selects RX3 ⟨"RodBeads$Rod", "highWorth", "()I"⟩ yX3_highWorth ∈ am_tb := List.mem_filter.mpr ⟨am_tk3 (List.mem_of_getElem? (i := 73) rfl), rfl⟩
theorem tw_631 : Cond.selects RX6 ⟨"RodBeads$Rod", "highWorth", "()I"⟩ yX0_highWorth ∈ am_tb := List.mem_filter.mpr ⟨am_tk3 (List.mem_of_getElem? (i := 76) rfl), rfl⟩
theorem tw_618 : Cond.code yX4_worthOf cX4_worthOf 3 (some .int) ∈ am_tb := List.mem_filter.mpr ⟨am_tk3 (List.mem_of_getElem? (i := 63) rfl), rfl⟩
theorem tw_991 : Cond.code yX4_leastTimeFor cX4_leastTimeFor 6 (some .int) ∈ am_tb := List.mem_filter.mpr ⟨am_tk4 (List.mem_of_getElem? (i := 196) rfl), rfl⟩
theorem tw_595 : Cond.code yX5_at cX5_at 2 (some .int) ∈ am_tb := List.mem_filter.mpr ⟨am_tk3 (List.mem_of_getElem? (i := 40) rfl), rfl⟩
theorem tw_84 : Cond.initialized RX5 ∈ am_tb := List.mem_filter.mpr ⟨am_tk1 (List.mem_of_getElem? (i := 9) rfl), rfl⟩
theorem tw_311 : Cond.code yX5_put cX5_put 3 none ∈ am_tb := List.mem_filter.mpr ⟨am_tk1 (List.mem_of_getElem? (i := 236) rfl), rfl⟩
theorem tw_480 : Cond.methodLink RX6 1 yX0_init ∈ am_tb := List.mem_filter.mpr ⟨am_tk2 (List.mem_of_getElem? (i := 165) rfl), rfl⟩
theorem tw_800 : Cond.code yX6_kindNumber cX6_kindNumber 1 (some .int) ∈ am_tb := List.mem_filter.mpr ⟨am_tk4 (List.mem_of_getElem? (i := 5) rfl), rfl⟩
theorem tw_229 : Cond.methodLink RX7 3 Lib.objectInit ∈ am_tb := List.mem_filter.mpr ⟨am_tk1 (List.mem_of_getElem? (i := 154) rfl), rfl⟩
theorem tw_131 : Cond.arrayClass (newarray.typeOf .int) ∈ am_tb := List.mem_filter.mpr ⟨am_tk1 (List.mem_of_getElem? (i := 56) rfl), rfl⟩
theorem tw_230 : Cond.fieldLink RX7 9 "RodBeads$Standing" "low" "[I" ∈ am_tb := List.mem_filter.mpr ⟨am_tk1 (List.mem_of_getElem? (i := 155) rfl), rfl⟩
theorem tw_231 : Cond.fieldLink RX7 15 "RodBeads$Standing" "high" "[I" ∈ am_tb := List.mem_filter.mpr ⟨am_tk1 (List.mem_of_getElem? (i := 156) rfl), rfl⟩
theorem tw_232 : Cond.fieldLink RX7 18 "RodBeads$Standing" "stuck" "I" ∈ am_tb := List.mem_filter.mpr ⟨am_tk1 (List.mem_of_getElem? (i := 157) rfl), rfl⟩
theorem tw_234 : Cond.fieldLink RX7 22 "RodBeads$Standing" "spent" "I" ∈ am_tb := List.mem_filter.mpr ⟨am_tk1 (List.mem_of_getElem? (i := 159) rfl), rfl⟩
theorem tw_228 : Cond.code yX7_init cX7_init 1 none ∈ am_tb := List.mem_filter.mpr ⟨am_tk1 (List.mem_of_getElem? (i := 153) rfl), rfl⟩
theorem tw_577 : Cond.code yJ7_fill_53178 cJ7_fill_53178 4 none ∈ am_tb := List.mem_filter.mpr ⟨am_tk3 (List.mem_of_getElem? (i := 22) rfl), rfl⟩
theorem tw_94 : Cond.initialized RJ7 ∈ am_tb := List.mem_filter.mpr ⟨am_tk1 (List.mem_of_getElem? (i := 19) rfl), rfl⟩
theorem tw_575 : Cond.methodLink RX7 25 yJ7_fill_53178 ∈ am_tb := List.mem_filter.mpr ⟨am_tk3 (List.mem_of_getElem? (i := 20) rfl), rfl⟩
theorem tw_576 : Cond.static yJ7_fill_53178 ∈ am_tb := List.mem_filter.mpr ⟨am_tk3 (List.mem_of_getElem? (i := 21) rfl), rfl⟩
theorem tw_574 : Cond.code yX7_begin cX7_begin 2 none ∈ am_tb := List.mem_filter.mpr ⟨am_tk3 (List.mem_of_getElem? (i := 19) rfl), rfl⟩
theorem tw_593 : Cond.methodLink RX7 31 yX5_at ∈ am_tb := List.mem_filter.mpr ⟨am_tk3 (List.mem_of_getElem? (i := 38) rfl), rfl⟩
theorem tw_594 : Cond.static yX5_at ∈ am_tb := List.mem_filter.mpr ⟨am_tk3 (List.mem_of_getElem? (i := 39) rfl), rfl⟩
theorem tw_596 : Cond.methodLink RX7 37 yX5_put ∈ am_tb := List.mem_filter.mpr ⟨am_tk3 (List.mem_of_getElem? (i := 41) rfl), rfl⟩
theorem tw_310 : Cond.static yX5_put ∈ am_tb := List.mem_filter.mpr ⟨am_tk1 (List.mem_of_getElem? (i := 235) rfl), rfl⟩
theorem tw_592 : Cond.code yX7_copy cX7_copy 3 none ∈ am_tb := List.mem_filter.mpr ⟨am_tk3 (List.mem_of_getElem? (i := 37) rfl), rfl⟩
theorem tw_610 : Cond.code yX7_beads cX7_beads 3 (some .int) ∈ am_tb := List.mem_filter.mpr ⟨am_tk3 (List.mem_of_getElem? (i := 55) rfl), rfl⟩
theorem tw_760 : Cond.code yX7_place cX7_place 4 none ∈ am_tb := List.mem_filter.mpr ⟨am_tk3 (List.mem_of_getElem? (i := 205) rfl), rfl⟩
theorem tw_666 : Cond.methodLink RX7 41 yX7_partBit ∈ am_tb := List.mem_filter.mpr ⟨am_tk3 (List.mem_of_getElem? (i := 111) rfl), rfl⟩
theorem tw_665 : Cond.code yX7_isStuck cX7_isStuck 3 (some .boolean) ∈ am_tb := List.mem_filter.mpr ⟨am_tk3 (List.mem_of_getElem? (i := 110) rfl), rfl⟩
theorem tw_608 : Cond.instanceMethod yX7_beads ∈ am_tb := List.mem_filter.mpr ⟨am_tk3 (List.mem_of_getElem? (i := 53) rfl), rfl⟩
theorem tw_609 : Cond.selects RX7 yX7_beads yX7_beads ∈ am_tb := List.mem_filter.mpr ⟨am_tk3 (List.mem_of_getElem? (i := 54) rfl), rfl⟩
theorem tw_607 : Cond.methodLink RX7 45 yX7_beads ∈ am_tb := List.mem_filter.mpr ⟨am_tk3 (List.mem_of_getElem? (i := 52) rfl), rfl⟩
theorem tw_612 : Cond.instanceMethod yX4_worthOf ∈ am_tb := List.mem_filter.mpr ⟨am_tk3 (List.mem_of_getElem? (i := 57) rfl), rfl⟩
theorem tw_614 : Cond.selects RX0 yX4_worthOf yX4_worthOf ∈ am_tb := List.mem_filter.mpr ⟨am_tk3 (List.mem_of_getElem? (i := 59) rfl), rfl⟩
theorem tw_611 : Cond.methodLink RX7 48 yX4_worthOf ∈ am_tb := List.mem_filter.mpr ⟨am_tk3 (List.mem_of_getElem? (i := 56) rfl), rfl⟩
theorem tw_615 : Cond.selects RX2 yX4_worthOf yX4_worthOf ∈ am_tb := List.mem_filter.mpr ⟨am_tk3 (List.mem_of_getElem? (i := 60) rfl), rfl⟩
theorem tw_616 : Cond.selects RX3 yX4_worthOf yX4_worthOf ∈ am_tb := List.mem_filter.mpr ⟨am_tk3 (List.mem_of_getElem? (i := 61) rfl), rfl⟩
theorem tw_617 : Cond.selects RX6 yX4_worthOf yX4_worthOf ∈ am_tb := List.mem_filter.mpr ⟨am_tk3 (List.mem_of_getElem? (i := 62) rfl), rfl⟩
theorem tw_606 : Cond.code yX7_shows cX7_shows 3 (some .int) ∈ am_tb := List.mem_filter.mpr ⟨am_tk3 (List.mem_of_getElem? (i := 51) rfl), rfl⟩
theorem tw_866 : Cond.code yX7_beadsInAll cX7_beadsInAll 3 (some .int) ∈ am_tb := List.mem_filter.mpr ⟨am_tk4 (List.mem_of_getElem? (i := 71) rfl), rfl⟩
theorem tw_765 : Cond.constant RX7 53 (1000000) ∈ am_tb := List.mem_filter.mpr ⟨am_tk3 (List.mem_of_getElem? (i := 210) rfl), rfl⟩
theorem tw_82 : Cond.initialized "java/lang/Math" ∈ am_tb := List.mem_filter.mpr ⟨am_tk1 (List.mem_of_getElem? (i := 7) rfl), rfl⟩
theorem tw_766 : Cond.methodLink RX7 54 Lib.Math.min.name ∈ am_tb := List.mem_filter.mpr ⟨am_tk3 (List.mem_of_getElem? (i := 211) rfl), rfl⟩
theorem tw_355 : Cond.static Lib.Math.min.name ∈ am_tb := List.mem_filter.mpr ⟨am_tk2 (List.mem_of_getElem? (i := 40) rfl), rfl⟩
theorem tw_356 : Cond.code Lib.Math.min.name Lib.Math.min.code 2 (some .int) ∈ am_tb := List.mem_filter.mpr ⟨am_tk2 (List.mem_of_getElem? (i := 41) rfl), rfl⟩
theorem tw_764 : Cond.code yX7_spend cX7_spend 2 none ∈ am_tb := List.mem_filter.mpr ⟨am_tk3 (List.mem_of_getElem? (i := 209) rfl), rfl⟩
theorem tw_137 : Cond.methodLink RX8 3 Lib.objectInit ∈ am_tb := List.mem_filter.mpr ⟨am_tk1 (List.mem_of_getElem? (i := 62) rfl), rfl⟩
theorem tw_138 : Cond.fieldLink RX8 11 "RodBeads$Sums" "verb" "I" ∈ am_tb := List.mem_filter.mpr ⟨am_tk1 (List.mem_of_getElem? (i := 63) rfl), rfl⟩
theorem tw_140 : Cond.fieldLink RX8 15 "RodBeads$Sums" "value" "J" ∈ am_tb := List.mem_filter.mpr ⟨am_tk1 (List.mem_of_getElem? (i := 65) rfl), rfl⟩
theorem tw_142 : Cond.fieldLink RX8 19 "RodBeads$Sums" "possible" "Z" ∈ am_tb := List.mem_filter.mpr ⟨am_tk1 (List.mem_of_getElem? (i := 67) rfl), rfl⟩
theorem tw_144 : Cond.fieldLink RX8 23 "RodBeads$Sums" "theNumber" "J" ∈ am_tb := List.mem_filter.mpr ⟨am_tk1 (List.mem_of_getElem? (i := 69) rfl), rfl⟩
theorem tw_136 : Cond.code yX8_init cX8_init 1 none ∈ am_tb := List.mem_filter.mpr ⟨am_tk1 (List.mem_of_getElem? (i := 61) rfl), rfl⟩
theorem tw_78 : Cond.initialized RX8 ∈ am_tb := List.mem_filter.mpr ⟨am_tk1 (List.mem_of_getElem? (i := 3) rfl), rfl⟩
theorem tw_521 : Cond.methodLink RX8 26 yX9_begin ∈ am_tb := List.mem_filter.mpr ⟨am_tk2 (List.mem_of_getElem? (i := 206) rfl), rfl⟩
theorem tw_525 : Cond.code yX8_readStatement cX8_readStatement 5 none ∈ am_tb := List.mem_filter.mpr ⟨am_tk2 (List.mem_of_getElem? (i := 210) rfl), rfl⟩
theorem tw_523 : Cond.instanceMethod yX8_readStatement ∈ am_tb := List.mem_filter.mpr ⟨am_tk2 (List.mem_of_getElem? (i := 208) rfl), rfl⟩
theorem tw_524 : Cond.selects RX8 yX8_readStatement yX8_readStatement ∈ am_tb := List.mem_filter.mpr ⟨am_tk2 (List.mem_of_getElem? (i := 209) rfl), rfl⟩
theorem tw_522 : Cond.methodLink RX8 31 yX8_readStatement ∈ am_tb := List.mem_filter.mpr ⟨am_tk2 (List.mem_of_getElem? (i := 207) rfl), rfl⟩
theorem tw_566 : Cond.methodLink RX8 35 yX9_another ∈ am_tb := List.mem_filter.mpr ⟨am_tk3 (List.mem_of_getElem? (i := 11) rfl), rfl⟩
theorem tw_113 : Cond.fieldLink RX8 39 "RodBeads$Text" "fault" "I" ∈ am_tb := List.mem_filter.mpr ⟨am_tk1 (List.mem_of_getElem? (i := 38) rfl), rfl⟩
theorem tw_520 : Cond.code yX8_check cX8_check 5 (some .int) ∈ am_tb := List.mem_filter.mpr ⟨am_tk2 (List.mem_of_getElem? (i := 205) rfl), rfl⟩
theorem tw_528 : Cond.code yX8_verbTold cX8_verbTold 1 (some .int) ∈ am_tb := List.mem_filter.mpr ⟨am_tk2 (List.mem_of_getElem? (i := 213) rfl), rfl⟩
theorem tw_526 : Cond.methodLink RX8 42 yX8_verbTold ∈ am_tb := List.mem_filter.mpr ⟨am_tk2 (List.mem_of_getElem? (i := 211) rfl), rfl⟩
theorem tw_527 : Cond.static yX8_verbTold ∈ am_tb := List.mem_filter.mpr ⟨am_tk2 (List.mem_of_getElem? (i := 212) rfl), rfl⟩
theorem tw_535 : Cond.methodLink RX8 46 yX9_fail ∈ am_tb := List.mem_filter.mpr ⟨am_tk2 (List.mem_of_getElem? (i := 220) rfl), rfl⟩
theorem tw_536 : Cond.methodLink RX8 49 yX9_step ∈ am_tb := List.mem_filter.mpr ⟨am_tk2 (List.mem_of_getElem? (i := 221) rfl), rfl⟩
theorem tw_537 : Cond.methodLink RX8 52 yX9_takeNumber ∈ am_tb := List.mem_filter.mpr ⟨am_tk2 (List.mem_of_getElem? (i := 222) rfl), rfl⟩
theorem tw_541 : Cond.code yX8_expression cX8_expression 9 (some .long) ∈ am_tb := List.mem_filter.mpr ⟨am_tk2 (List.mem_of_getElem? (i := 226) rfl), rfl⟩
theorem tw_540 : Cond.instanceMethod yX8_expression ∈ am_tb := List.mem_filter.mpr ⟨am_tk2 (List.mem_of_getElem? (i := 225) rfl), rfl⟩
theorem tw_4 : Cond.selects RX8 yX8_expression yX8_expression ∈ am_tb := List.mem_filter.mpr ⟨List.mem_of_getElem? (i := 4) (by decide +kernel), rfl⟩
theorem tw_538 : Cond.methodLink RX8 56 yX8_expression ∈ am_tb := List.mem_filter.mpr ⟨am_tk2 (List.mem_of_getElem? (i := 223) rfl), rfl⟩
theorem tw_530 : Cond.methodLink RX8 62 yX9_isWord ∈ am_tb := List.mem_filter.mpr ⟨am_tk2 (List.mem_of_getElem? (i := 215) rfl), rfl⟩
theorem tw_545 : Cond.code yX8_part cX8_part 5 (some .long) ∈ am_tb := List.mem_filter.mpr ⟨am_tk2 (List.mem_of_getElem? (i := 230) rfl), rfl⟩
theorem tw_544 : Cond.instanceMethod yX8_part ∈ am_tb := List.mem_filter.mpr ⟨am_tk2 (List.mem_of_getElem? (i := 229) rfl), rfl⟩
theorem tw_5 : Cond.selects RX8 yX8_part yX8_part ∈ am_tb := List.mem_filter.mpr ⟨List.mem_of_getElem? (i := 5) (by decide +kernel), rfl⟩
theorem tw_542 : Cond.methodLink RX8 74 yX8_part ∈ am_tb := List.mem_filter.mpr ⟨am_tk2 (List.mem_of_getElem? (i := 227) rfl), rfl⟩
theorem tw_548 : Cond.methodLink RX8 77 yX9_isSound ∈ am_tb := List.mem_filter.mpr ⟨am_tk2 (List.mem_of_getElem? (i := 233) rfl), rfl⟩
theorem tw_516 : Cond.code yX9_isSign cX9_isSign 2 (some .boolean) ∈ am_tb := List.mem_filter.mpr ⟨am_tk2 (List.mem_of_getElem? (i := 201) rfl), rfl⟩
theorem tw_514 : Cond.instanceMethod yX9_isSign ∈ am_tb := List.mem_filter.mpr ⟨am_tk2 (List.mem_of_getElem? (i := 199) rfl), rfl⟩
theorem tw_515 : Cond.selects RX9 yX9_isSign yX9_isSign ∈ am_tb := List.mem_filter.mpr ⟨am_tk2 (List.mem_of_getElem? (i := 200) rfl), rfl⟩
theorem tw_546 : Cond.methodLink RX8 81 yX9_isSign ∈ am_tb := List.mem_filter.mpr ⟨am_tk2 (List.mem_of_getElem? (i := 231) rfl), rfl⟩
theorem tw_552 : Cond.code yX8_multiplied cX8_multiplied 5 (some .long) ∈ am_tb := List.mem_filter.mpr ⟨am_tk2 (List.mem_of_getElem? (i := 237) rfl), rfl⟩
theorem tw_551 : Cond.instanceMethod yX8_multiplied ∈ am_tb := List.mem_filter.mpr ⟨am_tk2 (List.mem_of_getElem? (i := 236) rfl), rfl⟩
theorem tw_6 : Cond.selects RX8 yX8_multiplied yX8_multiplied ∈ am_tb := List.mem_filter.mpr ⟨List.mem_of_getElem? (i := 6) (by decide +kernel), rfl⟩
theorem tw_549 : Cond.methodLink RX8 85 yX8_multiplied ∈ am_tb := List.mem_filter.mpr ⟨am_tk2 (List.mem_of_getElem? (i := 234) rfl), rfl⟩
theorem tw_560 : Cond.code yX8_divided cX8_divided 5 (some .long) ∈ am_tb := List.mem_filter.mpr ⟨am_tk3 (List.mem_of_getElem? (i := 5) rfl), rfl⟩
theorem tw_559 : Cond.instanceMethod yX8_divided ∈ am_tb := List.mem_filter.mpr ⟨am_tk3 (List.mem_of_getElem? (i := 4) rfl), rfl⟩
theorem tw_7 : Cond.selects RX8 yX8_divided yX8_divided ∈ am_tb := List.mem_filter.mpr ⟨List.mem_of_getElem? (i := 7) (by decide +kernel), rfl⟩
theorem tw_557 : Cond.methodLink RX8 89 yX8_divided ∈ am_tb := List.mem_filter.mpr ⟨am_tk3 (List.mem_of_getElem? (i := 2) rfl), rfl⟩
theorem tw_564 : Cond.code yX8_bounded cX8_bounded 3 (some .long) ∈ am_tb := List.mem_filter.mpr ⟨am_tk3 (List.mem_of_getElem? (i := 9) rfl), rfl⟩
theorem tw_563 : Cond.instanceMethod yX8_bounded ∈ am_tb := List.mem_filter.mpr ⟨am_tk3 (List.mem_of_getElem? (i := 8) rfl), rfl⟩
theorem tw_8 : Cond.selects RX8 yX8_bounded yX8_bounded ∈ am_tb := List.mem_filter.mpr ⟨List.mem_of_getElem? (i := 8) (by decide +kernel), rfl⟩
theorem tw_561 : Cond.methodLink RX8 92 yX8_bounded ∈ am_tb := List.mem_filter.mpr ⟨am_tk3 (List.mem_of_getElem? (i := 6) rfl), rfl⟩
theorem tw_547 : Cond.constant RX8 96 (1000000000) ∈ am_tb := List.mem_filter.mpr ⟨am_tk2 (List.mem_of_getElem? (i := 232) rfl), rfl⟩
theorem tw_556 : Cond.constantLong RX8 97 (1000000000000) ∈ am_tb := List.mem_filter.mpr ⟨am_tk3 (List.mem_of_getElem? (i := 1) rfl), rfl⟩
theorem tw_565 : Cond.constantLong RX8 99 (-1000000000000) ∈ am_tb := List.mem_filter.mpr ⟨am_tk3 (List.mem_of_getElem? (i := 10) rfl), rfl⟩
theorem tw_553 : Cond.methodLink RX8 101 Lib.MathLoose.abs_long.x ∈ am_tb := List.mem_filter.mpr ⟨am_tk2 (List.mem_of_getElem? (i := 238) rfl), rfl⟩
theorem tw_554 : Cond.static Lib.MathLoose.abs_long.x ∈ am_tb := List.mem_filter.mpr ⟨am_tk2 (List.mem_of_getElem? (i := 239) rfl), rfl⟩
theorem tw_555 : Cond.code Lib.MathLoose.abs_long.x Lib.MathLoose.abs_long.code 2 (some .long) ∈ am_tb := List.mem_filter.mpr ⟨am_tk3 (List.mem_of_getElem? (i := 0) rfl), rfl⟩
theorem tw_108 : Cond.methodLink RX9 3 Lib.objectInit ∈ am_tb := List.mem_filter.mpr ⟨am_tk1 (List.mem_of_getElem? (i := 33) rfl), rfl⟩
theorem tw_109 : Cond.fieldLink RX9 11 "RodBeads$Text" "letters" "[I" ∈ am_tb := List.mem_filter.mpr ⟨am_tk1 (List.mem_of_getElem? (i := 34) rfl), rfl⟩
theorem tw_110 : Cond.fieldLink RX9 15 "RodBeads$Text" "size" "I" ∈ am_tb := List.mem_filter.mpr ⟨am_tk1 (List.mem_of_getElem? (i := 35) rfl), rfl⟩
theorem tw_112 : Cond.fieldLink RX9 19 "RodBeads$Text" "fault" "I" ∈ am_tb := List.mem_filter.mpr ⟨am_tk1 (List.mem_of_getElem? (i := 37) rfl), rfl⟩
theorem tw_115 : Cond.fieldLink RX9 22 "RodBeads$Text" "start" "I" ∈ am_tb := List.mem_filter.mpr ⟨am_tk1 (List.mem_of_getElem? (i := 40) rfl), rfl⟩
theorem tw_116 : Cond.fieldLink RX9 25 "RodBeads$Text" "stop" "I" ∈ am_tb := List.mem_filter.mpr ⟨am_tk1 (List.mem_of_getElem? (i := 41) rfl), rfl⟩
theorem tw_117 : Cond.fieldLink RX9 28 "RodBeads$Text" "isNumber" "Z" ∈ am_tb := List.mem_filter.mpr ⟨am_tk1 (List.mem_of_getElem? (i := 42) rfl), rfl⟩
theorem tw_107 : Cond.code yX9_init cX9_init 1 none ∈ am_tb := List.mem_filter.mpr ⟨am_tk1 (List.mem_of_getElem? (i := 32) rfl), rfl⟩
theorem tw_309 : Cond.methodLink RX9 32 yX5_put ∈ am_tb := List.mem_filter.mpr ⟨am_tk1 (List.mem_of_getElem? (i := 234) rfl), rfl⟩
theorem tw_308 : Cond.code yX9_add cX9_add 2 (some .boolean) ∈ am_tb := List.mem_filter.mpr ⟨am_tk1 (List.mem_of_getElem? (i := 233) rfl), rfl⟩
theorem tw_340 : Cond.methodLink RX9 38 yX9_step ∈ am_tb := List.mem_filter.mpr ⟨am_tk2 (List.mem_of_getElem? (i := 25) rfl), rfl⟩
theorem tw_347 : Cond.code yX9_letterAt cX9_letterAt 2 (some .int) ∈ am_tb := List.mem_filter.mpr ⟨am_tk2 (List.mem_of_getElem? (i := 32) rfl), rfl⟩
theorem tw_346 : Cond.instanceMethod yX9_letterAt ∈ am_tb := List.mem_filter.mpr ⟨am_tk2 (List.mem_of_getElem? (i := 31) rfl), rfl⟩
theorem tw_1 : Cond.selects RX9 yX9_letterAt yX9_letterAt ∈ am_tb := List.mem_filter.mpr ⟨List.mem_of_getElem? (i := 1) (by decide +kernel), rfl⟩
theorem tw_344 : Cond.methodLink RX9 41 yX9_letterAt ∈ am_tb := List.mem_filter.mpr ⟨am_tk2 (List.mem_of_getElem? (i := 29) rfl), rfl⟩
theorem tw_350 : Cond.code yX9_isDigit cX9_isDigit 1 (some .boolean) ∈ am_tb := List.mem_filter.mpr ⟨am_tk2 (List.mem_of_getElem? (i := 35) rfl), rfl⟩
theorem tw_348 : Cond.methodLink RX9 45 yX9_isDigit ∈ am_tb := List.mem_filter.mpr ⟨am_tk2 (List.mem_of_getElem? (i := 33) rfl), rfl⟩
theorem tw_349 : Cond.static yX9_isDigit ∈ am_tb := List.mem_filter.mpr ⟨am_tk2 (List.mem_of_getElem? (i := 34) rfl), rfl⟩
theorem tw_353 : Cond.code yX9_isSmall cX9_isSmall 1 (some .boolean) ∈ am_tb := List.mem_filter.mpr ⟨am_tk2 (List.mem_of_getElem? (i := 38) rfl), rfl⟩
theorem tw_351 : Cond.methodLink RX9 49 yX9_isSmall ∈ am_tb := List.mem_filter.mpr ⟨am_tk2 (List.mem_of_getElem? (i := 36) rfl), rfl⟩
theorem tw_352 : Cond.static yX9_isSmall ∈ am_tb := List.mem_filter.mpr ⟨am_tk2 (List.mem_of_getElem? (i := 37) rfl), rfl⟩
theorem tw_354 : Cond.methodLink RX9 52 Lib.Math.min.name ∈ am_tb := List.mem_filter.mpr ⟨am_tk2 (List.mem_of_getElem? (i := 39) rfl), rfl⟩
theorem tw_512 : Cond.code yX9_isAtEnd cX9_isAtEnd 1 (some .boolean) ∈ am_tb := List.mem_filter.mpr ⟨am_tk2 (List.mem_of_getElem? (i := 197) rfl), rfl⟩
theorem tw_369 : Cond.code yJ0_length_8abf5 cJ0_length_8abf5 1 (some .int) ∈ am_tb := List.mem_filter.mpr ⟨am_tk2 (List.mem_of_getElem? (i := 54) rfl), rfl⟩
theorem tw_85 : Cond.initialized RJ0 ∈ am_tb := List.mem_filter.mpr ⟨am_tk1 (List.mem_of_getElem? (i := 10) rfl), rfl⟩
theorem tw_367 : Cond.instanceMethod yJ0_length_8abf5 ∈ am_tb := List.mem_filter.mpr ⟨am_tk2 (List.mem_of_getElem? (i := 52) rfl), rfl⟩
theorem tw_368 : Cond.selects RJ0 yJ0_length_8abf5 yJ0_length_8abf5 ∈ am_tb := List.mem_filter.mpr ⟨am_tk2 (List.mem_of_getElem? (i := 53) rfl), rfl⟩
theorem tw_366 : Cond.methodLink RX9 58 yJ0_length_8abf5 ∈ am_tb := List.mem_filter.mpr ⟨am_tk2 (List.mem_of_getElem? (i := 51) rfl), rfl⟩
theorem tw_379 : Cond.code yJ0_charAt_5068e cJ0_charAt_5068e 2 (some .char) ∈ am_tb := List.mem_filter.mpr ⟨am_tk2 (List.mem_of_getElem? (i := 64) rfl), rfl⟩
theorem tw_377 : Cond.instanceMethod yJ0_charAt_5068e ∈ am_tb := List.mem_filter.mpr ⟨am_tk2 (List.mem_of_getElem? (i := 62) rfl), rfl⟩
theorem tw_378 : Cond.selects RJ0 yJ0_charAt_5068e yJ0_charAt_5068e ∈ am_tb := List.mem_filter.mpr ⟨am_tk2 (List.mem_of_getElem? (i := 63) rfl), rfl⟩
theorem tw_376 : Cond.methodLink RX9 64 yJ0_charAt_5068e ∈ am_tb := List.mem_filter.mpr ⟨am_tk2 (List.mem_of_getElem? (i := 61) rfl), rfl⟩
theorem tw_420 : Cond.methodLink RX9 68 yX9_isSound ∈ am_tb := List.mem_filter.mpr ⟨am_tk2 (List.mem_of_getElem? (i := 105) rfl), rfl⟩
theorem tw_424 : Cond.methodLink RX9 72 yX9_fail ∈ am_tb := List.mem_filter.mpr ⟨am_tk2 (List.mem_of_getElem? (i := 109) rfl), rfl⟩
theorem tw_510 : Cond.instanceMethod yX9_isAtEnd ∈ am_tb := List.mem_filter.mpr ⟨am_tk2 (List.mem_of_getElem? (i := 195) rfl), rfl⟩
theorem tw_511 : Cond.selects RX9 yX9_isAtEnd yX9_isAtEnd ∈ am_tb := List.mem_filter.mpr ⟨am_tk2 (List.mem_of_getElem? (i := 196) rfl), rfl⟩
theorem tw_509 : Cond.methodLink RX9 75 yX9_isAtEnd ∈ am_tb := List.mem_filter.mpr ⟨am_tk2 (List.mem_of_getElem? (i := 194) rfl), rfl⟩
theorem tw_513 : Cond.methodLink RX9 78 yX9_isSign ∈ am_tb := List.mem_filter.mpr ⟨am_tk2 (List.mem_of_getElem? (i := 198) rfl), rfl⟩
theorem tw_159 : Cond.methodLink RX10 3 Lib.objectInit ∈ am_tb := List.mem_filter.mpr ⟨am_tk1 (List.mem_of_getElem? (i := 84) rfl), rfl⟩
theorem tw_160 : Cond.fieldLink RX10 11 "RodBeads$Ways" "cost" "[I" ∈ am_tb := List.mem_filter.mpr ⟨am_tk1 (List.mem_of_getElem? (i := 85) rfl), rfl⟩
theorem tw_161 : Cond.fieldLink RX10 15 "RodBeads$Ways" "highs" "[I" ∈ am_tb := List.mem_filter.mpr ⟨am_tk1 (List.mem_of_getElem? (i := 86) rfl), rfl⟩
theorem tw_162 : Cond.fieldLink RX10 18 "RodBeads$Ways" "choices" "[I" ∈ am_tb := List.mem_filter.mpr ⟨am_tk1 (List.mem_of_getElem? (i := 87) rfl), rfl⟩
theorem tw_163 : Cond.fieldLink RX10 21 "RodBeads$Ways" "bases" "[I" ∈ am_tb := List.mem_filter.mpr ⟨am_tk1 (List.mem_of_getElem? (i := 88) rfl), rfl⟩
theorem tw_164 : Cond.fieldLink RX10 24 "RodBeads$Ways" "worths" "[I" ∈ am_tb := List.mem_filter.mpr ⟨am_tk1 (List.mem_of_getElem? (i := 89) rfl), rfl⟩
theorem tw_165 : Cond.fieldLink RX10 27 "RodBeads$Ways" "most" "[I" ∈ am_tb := List.mem_filter.mpr ⟨am_tk1 (List.mem_of_getElem? (i := 90) rfl), rfl⟩
theorem tw_166 : Cond.fieldLink RX10 30 "RodBeads$Ways" "fewest" "[I" ∈ am_tb := List.mem_filter.mpr ⟨am_tk1 (List.mem_of_getElem? (i := 91) rfl), rfl⟩
theorem tw_167 : Cond.fieldLink RX10 33 "RodBeads$Ways" "known" "[I" ∈ am_tb := List.mem_filter.mpr ⟨am_tk1 (List.mem_of_getElem? (i := 92) rfl), rfl⟩
theorem tw_168 : Cond.fieldLink RX10 36 "RodBeads$Ways" "top" "[I" ∈ am_tb := List.mem_filter.mpr ⟨am_tk1 (List.mem_of_getElem? (i := 93) rfl), rfl⟩
theorem tw_169 : Cond.fieldLink RX10 39 "RodBeads$Ways" "sieveFrom" "[I" ∈ am_tb := List.mem_filter.mpr ⟨am_tk1 (List.mem_of_getElem? (i := 94) rfl), rfl⟩
theorem tw_170 : Cond.fieldLink RX10 42 "RodBeads$Ways" "sieveUpTo" "[I" ∈ am_tb := List.mem_filter.mpr ⟨am_tk1 (List.mem_of_getElem? (i := 95) rfl), rfl⟩
theorem tw_171 : Cond.fieldLink RX10 45 "RodBeads$Ways" "evenSieve" "[I" ∈ am_tb := List.mem_filter.mpr ⟨am_tk1 (List.mem_of_getElem? (i := 96) rfl), rfl⟩
theorem tw_172 : Cond.fieldLink RX10 48 "RodBeads$Ways" "oddSieve" "[I" ∈ am_tb := List.mem_filter.mpr ⟨am_tk1 (List.mem_of_getElem? (i := 97) rfl), rfl⟩
theorem tw_173 : Cond.fieldLink RX10 51 "RodBeads$Ways" "size" "I" ∈ am_tb := List.mem_filter.mpr ⟨am_tk1 (List.mem_of_getElem? (i := 98) rfl), rfl⟩
theorem tw_158 : Cond.code yX10_init cX10_init 1 none ∈ am_tb := List.mem_filter.mpr ⟨am_tk1 (List.mem_of_getElem? (i := 83) rfl), rfl⟩
theorem tw_79 : Cond.initialized RX10 ∈ am_tb := List.mem_filter.mpr ⟨am_tk1 (List.mem_of_getElem? (i := 4) rfl), rfl⟩
theorem tw_213 : Cond.fieldLink RX10 55 "RodBeads$Frame" "size" "I" ∈ am_tb := List.mem_filter.mpr ⟨am_tk1 (List.mem_of_getElem? (i := 138) rfl), rfl⟩
theorem tw_645 : Cond.methodLink RX10 58 Lib.Math.min.name ∈ am_tb := List.mem_filter.mpr ⟨am_tk3 (List.mem_of_getElem? (i := 90) rfl), rfl⟩
theorem tw_646 : Cond.constant RX10 64 (1048576) ∈ am_tb := List.mem_filter.mpr ⟨am_tk3 (List.mem_of_getElem? (i := 91) rfl), rfl⟩
theorem tw_647 : Cond.methodLink RX10 65 yJ7_fill_53178 ∈ am_tb := List.mem_filter.mpr ⟨am_tk3 (List.mem_of_getElem? (i := 92) rfl), rfl⟩
theorem tw_648 : Cond.methodLink RX10 71 yX5_put ∈ am_tb := List.mem_filter.mpr ⟨am_tk3 (List.mem_of_getElem? (i := 93) rfl), rfl⟩
theorem tw_649 : Cond.methodLink RX10 77 yX1_rodAt ∈ am_tb := List.mem_filter.mpr ⟨am_tk3 (List.mem_of_getElem? (i := 94) rfl), rfl⟩
theorem tw_653 : Cond.code yX10_loadRod cX10_loadRod 9 none ∈ am_tb := List.mem_filter.mpr ⟨am_tk3 (List.mem_of_getElem? (i := 98) rfl), rfl⟩
theorem tw_652 : Cond.instanceMethod yX10_loadRod ∈ am_tb := List.mem_filter.mpr ⟨am_tk3 (List.mem_of_getElem? (i := 97) rfl), rfl⟩
theorem tw_13 : Cond.selects RX10 yX10_loadRod yX10_loadRod ∈ am_tb := List.mem_filter.mpr ⟨List.mem_of_getElem? (i := 13) (by decide +kernel), rfl⟩
theorem tw_650 : Cond.methodLink RX10 81 yX10_loadRod ∈ am_tb := List.mem_filter.mpr ⟨am_tk3 (List.mem_of_getElem? (i := 95) rfl), rfl⟩
theorem tw_457 : Cond.fieldLink RX10 85 "RodBeads$Rod" "base" "I" ∈ am_tb := List.mem_filter.mpr ⟨am_tk2 (List.mem_of_getElem? (i := 142) rfl), rfl⟩
theorem tw_710 : Cond.code yX10_loadBounds cX10_loadBounds 6 none ∈ am_tb := List.mem_filter.mpr ⟨am_tk3 (List.mem_of_getElem? (i := 155) rfl), rfl⟩
theorem tw_709 : Cond.instanceMethod yX10_loadBounds ∈ am_tb := List.mem_filter.mpr ⟨am_tk3 (List.mem_of_getElem? (i := 154) rfl), rfl⟩
theorem tw_15 : Cond.selects RX10 yX10_loadBounds yX10_loadBounds ∈ am_tb := List.mem_filter.mpr ⟨List.mem_of_getElem? (i := 15) (by decide +kernel), rfl⟩
theorem tw_707 : Cond.methodLink RX10 90 yX10_loadBounds ∈ am_tb := List.mem_filter.mpr ⟨am_tk3 (List.mem_of_getElem? (i := 152) rfl), rfl⟩
theorem tw_644 : Cond.code yX10_load cX10_load 6 none ∈ am_tb := List.mem_filter.mpr ⟨am_tk3 (List.mem_of_getElem? (i := 89) rfl), rfl⟩
theorem tw_654 : Cond.methodLink RX10 94 ⟨"RodBeads$Rod", "highWorth", "()I"⟩ ∈ am_tb := List.mem_filter.mpr ⟨am_tk3 (List.mem_of_getElem? (i := 99) rfl), rfl⟩
theorem tw_465 : Cond.fieldLink RX10 98 "RodBeads$Rod" "highBeads" "I" ∈ am_tb := List.mem_filter.mpr ⟨am_tk2 (List.mem_of_getElem? (i := 150) rfl), rfl⟩
theorem tw_657 : Cond.code yX10_price cX10_price 8 (some .int) ∈ am_tb := List.mem_filter.mpr ⟨am_tk3 (List.mem_of_getElem? (i := 102) rfl), rfl⟩
theorem tw_655 : Cond.methodLink RX10 101 yX10_price ∈ am_tb := List.mem_filter.mpr ⟨am_tk3 (List.mem_of_getElem? (i := 100) rfl), rfl⟩
theorem tw_656 : Cond.static yX10_price ∈ am_tb := List.mem_filter.mpr ⟨am_tk3 (List.mem_of_getElem? (i := 101) rfl), rfl⟩
theorem tw_462 : Cond.fieldLink RX10 105 "RodBeads$Rod" "lowBeads" "I" ∈ am_tb := List.mem_filter.mpr ⟨am_tk2 (List.mem_of_getElem? (i := 147) rfl), rfl⟩
theorem tw_698 : Cond.methodLink RX10 108 yX4_worthOf ∈ am_tb := List.mem_filter.mpr ⟨am_tk3 (List.mem_of_getElem? (i := 143) rfl), rfl⟩
theorem tw_701 : Cond.code yX10_slot cX10_slot 2 (some .int) ∈ am_tb := List.mem_filter.mpr ⟨am_tk3 (List.mem_of_getElem? (i := 146) rfl), rfl⟩
theorem tw_699 : Cond.methodLink RX10 111 yX10_slot ∈ am_tb := List.mem_filter.mpr ⟨am_tk3 (List.mem_of_getElem? (i := 144) rfl), rfl⟩
theorem tw_700 : Cond.static yX10_slot ∈ am_tb := List.mem_filter.mpr ⟨am_tk3 (List.mem_of_getElem? (i := 145) rfl), rfl⟩
theorem tw_705 : Cond.code yX10_addChoice cX10_addChoice 4 none ∈ am_tb := List.mem_filter.mpr ⟨am_tk3 (List.mem_of_getElem? (i := 150) rfl), rfl⟩
theorem tw_704 : Cond.instanceMethod yX10_addChoice ∈ am_tb := List.mem_filter.mpr ⟨am_tk3 (List.mem_of_getElem? (i := 149) rfl), rfl⟩
theorem tw_14 : Cond.selects RX10 yX10_addChoice yX10_addChoice ∈ am_tb := List.mem_filter.mpr ⟨List.mem_of_getElem? (i := 14) (by decide +kernel), rfl⟩
theorem tw_702 : Cond.methodLink RX10 114 yX10_addChoice ∈ am_tb := List.mem_filter.mpr ⟨am_tk3 (List.mem_of_getElem? (i := 147) rfl), rfl⟩
theorem tw_658 : Cond.methodLink RX10 118 yX7_beads ∈ am_tb := List.mem_filter.mpr ⟨am_tk3 (List.mem_of_getElem? (i := 103) rfl), rfl⟩
theorem tw_659 : Cond.methodLink RX10 123 Lib.Math.abs.name ∈ am_tb := List.mem_filter.mpr ⟨am_tk3 (List.mem_of_getElem? (i := 104) rfl), rfl⟩
theorem tw_660 : Cond.static Lib.Math.abs.name ∈ am_tb := List.mem_filter.mpr ⟨am_tk3 (List.mem_of_getElem? (i := 105) rfl), rfl⟩
theorem tw_661 : Cond.code Lib.Math.abs.name Lib.Math.abs.code 1 (some .int) ∈ am_tb := List.mem_filter.mpr ⟨am_tk3 (List.mem_of_getElem? (i := 106) rfl), rfl⟩
theorem tw_663 : Cond.instanceMethod yX7_isStuck ∈ am_tb := List.mem_filter.mpr ⟨am_tk3 (List.mem_of_getElem? (i := 108) rfl), rfl⟩
theorem tw_664 : Cond.selects RX7 yX7_isStuck yX7_isStuck ∈ am_tb := List.mem_filter.mpr ⟨am_tk3 (List.mem_of_getElem? (i := 109) rfl), rfl⟩
theorem tw_662 : Cond.methodLink RX10 127 yX7_isStuck ∈ am_tb := List.mem_filter.mpr ⟨am_tk3 (List.mem_of_getElem? (i := 107) rfl), rfl⟩
theorem tw_667 : Cond.methodLink RX10 131 yX7_partBit ∈ am_tb := List.mem_filter.mpr ⟨am_tk3 (List.mem_of_getElem? (i := 112) rfl), rfl⟩
theorem tw_669 : Cond.instanceMethod yX4_timeOf ∈ am_tb := List.mem_filter.mpr ⟨am_tk3 (List.mem_of_getElem? (i := 114) rfl), rfl⟩
theorem tw_671 : Cond.selects RX0 yX4_timeOf yX4_timeOf ∈ am_tb := List.mem_filter.mpr ⟨am_tk3 (List.mem_of_getElem? (i := 116) rfl), rfl⟩
theorem tw_668 : Cond.methodLink RX10 134 yX4_timeOf ∈ am_tb := List.mem_filter.mpr ⟨am_tk3 (List.mem_of_getElem? (i := 113) rfl), rfl⟩
theorem tw_672 : Cond.selects RX2 yX4_timeOf yX4_timeOf ∈ am_tb := List.mem_filter.mpr ⟨am_tk3 (List.mem_of_getElem? (i := 117) rfl), rfl⟩
theorem tw_673 : Cond.selects RX3 yX4_timeOf yX4_timeOf ∈ am_tb := List.mem_filter.mpr ⟨am_tk3 (List.mem_of_getElem? (i := 118) rfl), rfl⟩
theorem tw_674 : Cond.selects RX6 yX4_timeOf yX4_timeOf ∈ am_tb := List.mem_filter.mpr ⟨am_tk3 (List.mem_of_getElem? (i := 119) rfl), rfl⟩
theorem tw_706 : Cond.methodLink RX10 137 yX5_at ∈ am_tb := List.mem_filter.mpr ⟨am_tk3 (List.mem_of_getElem? (i := 151) rfl), rfl⟩
theorem tw_714 : Cond.code yX10_costOf cX10_costOf 4 (some .int) ∈ am_tb := List.mem_filter.mpr ⟨am_tk3 (List.mem_of_getElem? (i := 159) rfl), rfl⟩
theorem tw_712 : Cond.instanceMethod yX10_costOf ∈ am_tb := List.mem_filter.mpr ⟨am_tk3 (List.mem_of_getElem? (i := 157) rfl), rfl⟩
theorem tw_713 : Cond.selects RX10 yX10_costOf yX10_costOf ∈ am_tb := List.mem_filter.mpr ⟨am_tk3 (List.mem_of_getElem? (i := 158) rfl), rfl⟩
theorem tw_711 : Cond.methodLink RX10 141 yX10_costOf ∈ am_tb := List.mem_filter.mpr ⟨am_tk3 (List.mem_of_getElem? (i := 156) rfl), rfl⟩
theorem tw_718 : Cond.code yX10_mostFrom cX10_mostFrom 2 (some .int) ∈ am_tb := List.mem_filter.mpr ⟨am_tk3 (List.mem_of_getElem? (i := 163) rfl), rfl⟩
theorem tw_716 : Cond.instanceMethod yX10_mostFrom ∈ am_tb := List.mem_filter.mpr ⟨am_tk3 (List.mem_of_getElem? (i := 161) rfl), rfl⟩
theorem tw_717 : Cond.selects RX10 yX10_mostFrom yX10_mostFrom ∈ am_tb := List.mem_filter.mpr ⟨am_tk3 (List.mem_of_getElem? (i := 162) rfl), rfl⟩
theorem tw_715 : Cond.methodLink RX10 144 yX10_mostFrom ∈ am_tb := List.mem_filter.mpr ⟨am_tk3 (List.mem_of_getElem? (i := 160) rfl), rfl⟩
theorem tw_722 : Cond.code yX10_fewestFrom cX10_fewestFrom 2 (some .int) ∈ am_tb := List.mem_filter.mpr ⟨am_tk3 (List.mem_of_getElem? (i := 167) rfl), rfl⟩
theorem tw_720 : Cond.instanceMethod yX10_fewestFrom ∈ am_tb := List.mem_filter.mpr ⟨am_tk3 (List.mem_of_getElem? (i := 165) rfl), rfl⟩
theorem tw_721 : Cond.selects RX10 yX10_fewestFrom yX10_fewestFrom ∈ am_tb := List.mem_filter.mpr ⟨am_tk3 (List.mem_of_getElem? (i := 166) rfl), rfl⟩
theorem tw_719 : Cond.methodLink RX10 147 yX10_fewestFrom ∈ am_tb := List.mem_filter.mpr ⟨am_tk3 (List.mem_of_getElem? (i := 164) rfl), rfl⟩
theorem tw_735 : Cond.methodLink RX10 150 Lib.Math.max.name ∈ am_tb := List.mem_filter.mpr ⟨am_tk3 (List.mem_of_getElem? (i := 180) rfl), rfl⟩
theorem tw_249 : Cond.static Lib.Math.max.name ∈ am_tb := List.mem_filter.mpr ⟨am_tk1 (List.mem_of_getElem? (i := 174) rfl), rfl⟩
theorem tw_250 : Cond.code Lib.Math.max.name Lib.Math.max.code 2 (some .int) ∈ am_tb := List.mem_filter.mpr ⟨am_tk1 (List.mem_of_getElem? (i := 175) rfl), rfl⟩
theorem tw_734 : Cond.code yX10_baseOf cX10_baseOf 2 (some .int) ∈ am_tb := List.mem_filter.mpr ⟨am_tk3 (List.mem_of_getElem? (i := 179) rfl), rfl⟩
theorem tw_730 : Cond.code yX10_aim cX10_aim 4 none ∈ am_tb := List.mem_filter.mpr ⟨am_tk3 (List.mem_of_getElem? (i := 175) rfl), rfl⟩
theorem tw_729 : Cond.instanceMethod yX10_aim ∈ am_tb := List.mem_filter.mpr ⟨am_tk3 (List.mem_of_getElem? (i := 174) rfl), rfl⟩
theorem tw_16 : Cond.selects RX10 yX10_aim yX10_aim ∈ am_tb := List.mem_filter.mpr ⟨List.mem_of_getElem? (i := 16) (by decide +kernel), rfl⟩
theorem tw_727 : Cond.methodLink RX10 153 yX10_aim ∈ am_tb := List.mem_filter.mpr ⟨am_tk3 (List.mem_of_getElem? (i := 172) rfl), rfl⟩
theorem tw_739 : Cond.code yX10_leastFrom cX10_leastFrom 8 (some .int) ∈ am_tb := List.mem_filter.mpr ⟨am_tk3 (List.mem_of_getElem? (i := 184) rfl), rfl⟩
theorem tw_738 : Cond.instanceMethod yX10_leastFrom ∈ am_tb := List.mem_filter.mpr ⟨am_tk3 (List.mem_of_getElem? (i := 183) rfl), rfl⟩
theorem tw_18 : Cond.selects RX10 yX10_leastFrom yX10_leastFrom ∈ am_tb := List.mem_filter.mpr ⟨List.mem_of_getElem? (i := 18) (by decide +kernel), rfl⟩
theorem tw_736 : Cond.methodLink RX10 157 yX10_leastFrom ∈ am_tb := List.mem_filter.mpr ⟨am_tk3 (List.mem_of_getElem? (i := 181) rfl), rfl⟩
theorem tw_726 : Cond.code yX10_least cX10_least 3 (some .int) ∈ am_tb := List.mem_filter.mpr ⟨am_tk3 (List.mem_of_getElem? (i := 171) rfl), rfl⟩
theorem tw_882 : Cond.code yX10_howManyFrom cX10_howManyFrom 8 (some .int) ∈ am_tb := List.mem_filter.mpr ⟨am_tk4 (List.mem_of_getElem? (i := 87) rfl), rfl⟩
theorem tw_881 : Cond.instanceMethod yX10_howManyFrom ∈ am_tb := List.mem_filter.mpr ⟨am_tk4 (List.mem_of_getElem? (i := 86) rfl), rfl⟩
theorem tw_24 : Cond.selects RX10 yX10_howManyFrom yX10_howManyFrom ∈ am_tb := List.mem_filter.mpr ⟨List.mem_of_getElem? (i := 24) (by decide +kernel), rfl⟩
theorem tw_879 : Cond.methodLink RX10 160 yX10_howManyFrom ∈ am_tb := List.mem_filter.mpr ⟨am_tk4 (List.mem_of_getElem? (i := 84) rfl), rfl⟩
theorem tw_878 : Cond.code yX10_howMany cX10_howMany 3 (some .int) ∈ am_tb := List.mem_filter.mpr ⟨am_tk4 (List.mem_of_getElem? (i := 83) rfl), rfl⟩
theorem tw_733 : Cond.instanceMethod yX10_baseOf ∈ am_tb := List.mem_filter.mpr ⟨am_tk3 (List.mem_of_getElem? (i := 178) rfl), rfl⟩
theorem tw_17 : Cond.selects RX10 yX10_baseOf yX10_baseOf ∈ am_tb := List.mem_filter.mpr ⟨List.mem_of_getElem? (i := 17) (by decide +kernel), rfl⟩
theorem tw_731 : Cond.methodLink RX10 163 yX10_baseOf ∈ am_tb := List.mem_filter.mpr ⟨am_tk3 (List.mem_of_getElem? (i := 176) rfl), rfl⟩
theorem tw_743 : Cond.code yX10_isInReach cX10_isInReach 3 (some .boolean) ∈ am_tb := List.mem_filter.mpr ⟨am_tk3 (List.mem_of_getElem? (i := 188) rfl), rfl⟩
theorem tw_742 : Cond.instanceMethod yX10_isInReach ∈ am_tb := List.mem_filter.mpr ⟨am_tk3 (List.mem_of_getElem? (i := 187) rfl), rfl⟩
theorem tw_19 : Cond.selects RX10 yX10_isInReach yX10_isInReach ∈ am_tb := List.mem_filter.mpr ⟨List.mem_of_getElem? (i := 19) (by decide +kernel), rfl⟩
theorem tw_740 : Cond.methodLink RX10 166 yX10_isInReach ∈ am_tb := List.mem_filter.mpr ⟨am_tk3 (List.mem_of_getElem? (i := 185) rfl), rfl⟩
theorem tw_752 : Cond.code yX10_shownByWay cX10_shownByWay 13 (some .int) ∈ am_tb := List.mem_filter.mpr ⟨am_tk3 (List.mem_of_getElem? (i := 197) rfl), rfl⟩
theorem tw_751 : Cond.instanceMethod yX10_shownByWay ∈ am_tb := List.mem_filter.mpr ⟨am_tk3 (List.mem_of_getElem? (i := 196) rfl), rfl⟩
theorem tw_20 : Cond.selects RX10 yX10_shownByWay yX10_shownByWay ∈ am_tb := List.mem_filter.mpr ⟨List.mem_of_getElem? (i := 20) (by decide +kernel), rfl⟩
theorem tw_749 : Cond.methodLink RX10 169 yX10_shownByWay ∈ am_tb := List.mem_filter.mpr ⟨am_tk3 (List.mem_of_getElem? (i := 194) rfl), rfl⟩
theorem tw_756 : Cond.code yX10_placeRod cX10_placeRod 5 none ∈ am_tb := List.mem_filter.mpr ⟨am_tk3 (List.mem_of_getElem? (i := 201) rfl), rfl⟩
theorem tw_754 : Cond.instanceMethod yX10_placeRod ∈ am_tb := List.mem_filter.mpr ⟨am_tk3 (List.mem_of_getElem? (i := 199) rfl), rfl⟩
theorem tw_755 : Cond.selects RX10 yX10_placeRod yX10_placeRod ∈ am_tb := List.mem_filter.mpr ⟨am_tk3 (List.mem_of_getElem? (i := 200) rfl), rfl⟩
theorem tw_753 : Cond.methodLink RX10 172 yX10_placeRod ∈ am_tb := List.mem_filter.mpr ⟨am_tk3 (List.mem_of_getElem? (i := 198) rfl), rfl⟩
theorem tw_748 : Cond.code yX10_placeAll cX10_placeAll 5 none ∈ am_tb := List.mem_filter.mpr ⟨am_tk3 (List.mem_of_getElem? (i := 193) rfl), rfl⟩
theorem tw_758 : Cond.instanceMethod yX7_place ∈ am_tb := List.mem_filter.mpr ⟨am_tk3 (List.mem_of_getElem? (i := 203) rfl), rfl⟩
theorem tw_759 : Cond.selects RX7 yX7_place yX7_place ∈ am_tb := List.mem_filter.mpr ⟨am_tk3 (List.mem_of_getElem? (i := 204) rfl), rfl⟩
theorem tw_757 : Cond.methodLink RX10 176 yX7_place ∈ am_tb := List.mem_filter.mpr ⟨am_tk3 (List.mem_of_getElem? (i := 202) rfl), rfl⟩
theorem tw_913 : Cond.code yX10_siftFrom cX10_siftFrom 7 none ∈ am_tb := List.mem_filter.mpr ⟨am_tk4 (List.mem_of_getElem? (i := 118) rfl), rfl⟩
theorem tw_912 : Cond.instanceMethod yX10_siftFrom ∈ am_tb := List.mem_filter.mpr ⟨am_tk4 (List.mem_of_getElem? (i := 117) rfl), rfl⟩
theorem tw_27 : Cond.selects RX10 yX10_siftFrom yX10_siftFrom ∈ am_tb := List.mem_filter.mpr ⟨List.mem_of_getElem? (i := 27) (by decide +kernel), rfl⟩
theorem tw_910 : Cond.methodLink RX10 179 yX10_siftFrom ∈ am_tb := List.mem_filter.mpr ⟨am_tk4 (List.mem_of_getElem? (i := 115) rfl), rfl⟩
theorem tw_909 : Cond.code yX10_sift cX10_sift 5 none ∈ am_tb := List.mem_filter.mpr ⟨am_tk4 (List.mem_of_getElem? (i := 114) rfl), rfl⟩
theorem tw_917 : Cond.code yX10_sieveOf cX10_sieveOf 2 (some (.array .int)) ∈ am_tb := List.mem_filter.mpr ⟨am_tk4 (List.mem_of_getElem? (i := 122) rfl), rfl⟩
theorem tw_916 : Cond.instanceMethod yX10_sieveOf ∈ am_tb := List.mem_filter.mpr ⟨am_tk4 (List.mem_of_getElem? (i := 121) rfl), rfl⟩
theorem tw_28 : Cond.selects RX10 yX10_sieveOf yX10_sieveOf ∈ am_tb := List.mem_filter.mpr ⟨List.mem_of_getElem? (i := 28) (by decide +kernel), rfl⟩
theorem tw_914 : Cond.methodLink RX10 182 yX10_sieveOf ∈ am_tb := List.mem_filter.mpr ⟨am_tk4 (List.mem_of_getElem? (i := 119) rfl), rfl⟩
theorem tw_921 : Cond.code yX10_canShow cX10_canShow 5 (some .boolean) ∈ am_tb := List.mem_filter.mpr ⟨am_tk4 (List.mem_of_getElem? (i := 126) rfl), rfl⟩
theorem tw_920 : Cond.instanceMethod yX10_canShow ∈ am_tb := List.mem_filter.mpr ⟨am_tk4 (List.mem_of_getElem? (i := 125) rfl), rfl⟩
theorem tw_29 : Cond.selects RX10 yX10_canShow yX10_canShow ∈ am_tb := List.mem_filter.mpr ⟨List.mem_of_getElem? (i := 29) (by decide +kernel), rfl⟩
theorem tw_918 : Cond.methodLink RX10 186 yX10_canShow ∈ am_tb := List.mem_filter.mpr ⟨am_tk4 (List.mem_of_getElem? (i := 123) rfl), rfl⟩
theorem tw_925 : Cond.code yX10_isSiftedFrom cX10_isSiftedFrom 4 (some .boolean) ∈ am_tb := List.mem_filter.mpr ⟨am_tk4 (List.mem_of_getElem? (i := 130) rfl), rfl⟩
theorem tw_924 : Cond.instanceMethod yX10_isSiftedFrom ∈ am_tb := List.mem_filter.mpr ⟨am_tk4 (List.mem_of_getElem? (i := 129) rfl), rfl⟩
theorem tw_30 : Cond.selects RX10 yX10_isSiftedFrom yX10_isSiftedFrom ∈ am_tb := List.mem_filter.mpr ⟨List.mem_of_getElem? (i := 30) (by decide +kernel), rfl⟩
theorem tw_922 : Cond.methodLink RX10 189 yX10_isSiftedFrom ∈ am_tb := List.mem_filter.mpr ⟨am_tk4 (List.mem_of_getElem? (i := 127) rfl), rfl⟩
theorem tw_929 : Cond.code yX10_isSifted cX10_isSifted 2 (some .boolean) ∈ am_tb := List.mem_filter.mpr ⟨am_tk4 (List.mem_of_getElem? (i := 134) rfl), rfl⟩
theorem tw_100 : Cond.methodLink RX11 1 Lib.objectInit ∈ am_tb := List.mem_filter.mpr ⟨am_tk1 (List.mem_of_getElem? (i := 25) rfl), rfl⟩
theorem tw_103 : Cond.classLink RX11 7 RX9 ∈ am_tb := List.mem_filter.mpr ⟨am_tk1 (List.mem_of_getElem? (i := 28) rfl), rfl⟩
theorem tw_104 : Cond.instantiable RX9 6 ∈ am_tb := List.mem_filter.mpr ⟨am_tk1 (List.mem_of_getElem? (i := 29) rfl), rfl⟩
theorem tw_105 : Cond.methodLinkNest RX11 9 yX9_init "RodBeads" ∈ am_xw := List.mem_filter.mpr ⟨am_tk1 (List.mem_of_getElem? (i := 30) rfl), rfl⟩
theorem tw_106 : Cond.instanceMethod yX9_init ∈ am_tb := List.mem_filter.mpr ⟨am_tk1 (List.mem_of_getElem? (i := 31) rfl), rfl⟩
theorem tw_252 : Cond.fieldLink RX11 10 "RodBeads" "text" "LRodBeads$Text;" ∈ am_tb := List.mem_filter.mpr ⟨am_tk1 (List.mem_of_getElem? (i := 177) rfl), rfl⟩
theorem tw_132 : Cond.classLink RX11 16 RX8 ∈ am_tb := List.mem_filter.mpr ⟨am_tk1 (List.mem_of_getElem? (i := 57) rfl), rfl⟩
theorem tw_133 : Cond.instantiable RX8 4 ∈ am_tb := List.mem_filter.mpr ⟨am_tk1 (List.mem_of_getElem? (i := 58) rfl), rfl⟩
theorem tw_134 : Cond.methodLinkNest RX11 18 yX8_init "RodBeads" ∈ am_xw := List.mem_filter.mpr ⟨am_tk1 (List.mem_of_getElem? (i := 59) rfl), rfl⟩
theorem tw_135 : Cond.instanceMethod yX8_init ∈ am_tb := List.mem_filter.mpr ⟨am_tk1 (List.mem_of_getElem? (i := 60) rfl), rfl⟩
theorem tw_253 : Cond.fieldLink RX11 19 "RodBeads" "sums" "LRodBeads$Sums;" ∈ am_tb := List.mem_filter.mpr ⟨am_tk1 (List.mem_of_getElem? (i := 178) rfl), rfl⟩
theorem tw_154 : Cond.classLink RX11 23 RX10 ∈ am_tb := List.mem_filter.mpr ⟨am_tk1 (List.mem_of_getElem? (i := 79) rfl), rfl⟩
theorem tw_155 : Cond.instantiable RX10 14 ∈ am_tb := List.mem_filter.mpr ⟨am_tk1 (List.mem_of_getElem? (i := 80) rfl), rfl⟩
theorem tw_156 : Cond.methodLinkNest RX11 25 yX10_init "RodBeads" ∈ am_xw := List.mem_filter.mpr ⟨am_tk1 (List.mem_of_getElem? (i := 81) rfl), rfl⟩
theorem tw_157 : Cond.instanceMethod yX10_init ∈ am_tb := List.mem_filter.mpr ⟨am_tk1 (List.mem_of_getElem? (i := 82) rfl), rfl⟩
theorem tw_254 : Cond.fieldLink RX11 26 "RodBeads" "ways" "LRodBeads$Ways;" ∈ am_tb := List.mem_filter.mpr ⟨am_tk1 (List.mem_of_getElem? (i := 179) rfl), rfl⟩
theorem tw_203 : Cond.classLink RX11 30 RX1 ∈ am_tb := List.mem_filter.mpr ⟨am_tk1 (List.mem_of_getElem? (i := 128) rfl), rfl⟩
theorem tw_204 : Cond.instantiable RX1 3 ∈ am_tb := List.mem_filter.mpr ⟨am_tk1 (List.mem_of_getElem? (i := 129) rfl), rfl⟩
theorem tw_205 : Cond.methodLinkNest RX11 32 yX1_init "RodBeads" ∈ am_xw := List.mem_filter.mpr ⟨am_tk1 (List.mem_of_getElem? (i := 130) rfl), rfl⟩
theorem tw_206 : Cond.instanceMethod yX1_init ∈ am_tb := List.mem_filter.mpr ⟨am_tk1 (List.mem_of_getElem? (i := 131) rfl), rfl⟩
theorem tw_255 : Cond.fieldLink RX11 33 "RodBeads" "frame" "LRodBeads$Frame;" ∈ am_tb := List.mem_filter.mpr ⟨am_tk1 (List.mem_of_getElem? (i := 180) rfl), rfl⟩
theorem tw_256 : Cond.fieldLink RX11 37 "RodBeads" "draft" "LRodBeads$Frame;" ∈ am_tb := List.mem_filter.mpr ⟨am_tk1 (List.mem_of_getElem? (i := 181) rfl), rfl⟩
theorem tw_224 : Cond.classLink RX11 40 RX7 ∈ am_tb := List.mem_filter.mpr ⟨am_tk1 (List.mem_of_getElem? (i := 149) rfl), rfl⟩
theorem tw_225 : Cond.instantiable RX7 4 ∈ am_tb := List.mem_filter.mpr ⟨am_tk1 (List.mem_of_getElem? (i := 150) rfl), rfl⟩
theorem tw_226 : Cond.methodLinkNest RX11 42 yX7_init "RodBeads" ∈ am_xw := List.mem_filter.mpr ⟨am_tk1 (List.mem_of_getElem? (i := 151) rfl), rfl⟩
theorem tw_227 : Cond.instanceMethod yX7_init ∈ am_tb := List.mem_filter.mpr ⟨am_tk1 (List.mem_of_getElem? (i := 152) rfl), rfl⟩
theorem tw_257 : Cond.fieldLink RX11 43 "RodBeads" "now" "LRodBeads$Standing;" ∈ am_tb := List.mem_filter.mpr ⟨am_tk1 (List.mem_of_getElem? (i := 182) rfl), rfl⟩
theorem tw_258 : Cond.fieldLink RX11 47 "RodBeads" "trial" "LRodBeads$Standing;" ∈ am_tb := List.mem_filter.mpr ⟨am_tk1 (List.mem_of_getElem? (i := 183) rfl), rfl⟩
theorem tw_247 : Cond.code yX11_newStandings cX11_newStandings 3 (some (.array (.object "RodBeads$Standing"))) ∈ am_tb := List.mem_filter.mpr ⟨am_tk1 (List.mem_of_getElem? (i := 172) rfl), rfl⟩
theorem tw_76 : Cond.initialized RX11 ∈ am_tb := List.mem_filter.mpr ⟨am_tk1 (List.mem_of_getElem? (i := 1) rfl), rfl⟩
theorem tw_245 : Cond.methodLink RX11 50 yX11_newStandings ∈ am_tb := List.mem_filter.mpr ⟨am_tk1 (List.mem_of_getElem? (i := 170) rfl), rfl⟩
theorem tw_246 : Cond.static yX11_newStandings ∈ am_tb := List.mem_filter.mpr ⟨am_tk1 (List.mem_of_getElem? (i := 171) rfl), rfl⟩
theorem tw_259 : Cond.fieldLink RX11 54 "RodBeads" "path" "[LRodBeads$Standing;" ∈ am_tb := List.mem_filter.mpr ⟨am_tk1 (List.mem_of_getElem? (i := 184) rfl), rfl⟩
theorem tw_260 : Cond.fieldLink RX11 58 "RodBeads" "past" "[LRodBeads$Standing;" ∈ am_tb := List.mem_filter.mpr ⟨am_tk1 (List.mem_of_getElem? (i := 185) rfl), rfl⟩
theorem tw_261 : Cond.fieldLink RX11 61 "RodBeads" "pastSize" "I" ∈ am_tb := List.mem_filter.mpr ⟨am_tk1 (List.mem_of_getElem? (i := 186) rfl), rfl⟩
theorem tw_262 : Cond.fieldLink RX11 65 "RodBeads" "kept" "[LRodBeads$Standing;" ∈ am_tb := List.mem_filter.mpr ⟨am_tk1 (List.mem_of_getElem? (i := 187) rfl), rfl⟩
theorem tw_263 : Cond.fieldLink RX11 68 "RodBeads" "keptBits" "I" ∈ am_tb := List.mem_filter.mpr ⟨am_tk1 (List.mem_of_getElem? (i := 188) rfl), rfl⟩
theorem tw_264 : Cond.fieldLink RX11 71 "RodBeads" "seenRod" "[I" ∈ am_tb := List.mem_filter.mpr ⟨am_tk1 (List.mem_of_getElem? (i := 189) rfl), rfl⟩
theorem tw_265 : Cond.fieldLink RX11 75 "RodBeads" "seenShown" "[I" ∈ am_tb := List.mem_filter.mpr ⟨am_tk1 (List.mem_of_getElem? (i := 190) rfl), rfl⟩
theorem tw_266 : Cond.fieldLink RX11 78 "RodBeads" "seenTime" "[I" ∈ am_tb := List.mem_filter.mpr ⟨am_tk1 (List.mem_of_getElem? (i := 191) rfl), rfl⟩
theorem tw_267 : Cond.fieldLink RX11 81 "RodBeads" "seenSize" "I" ∈ am_tb := List.mem_filter.mpr ⟨am_tk1 (List.mem_of_getElem? (i := 192) rfl), rfl⟩
theorem tw_99 : Cond.code yX11_init cX11_init 1 none ∈ am_tb := List.mem_filter.mpr ⟨am_tk1 (List.mem_of_getElem? (i := 24) rfl), rfl⟩
theorem tw_306 : Cond.instanceMethod yX9_add ∈ am_tb := List.mem_filter.mpr ⟨am_tk1 (List.mem_of_getElem? (i := 231) rfl), rfl⟩
theorem tw_307 : Cond.selects RX9 yX9_add yX9_add ∈ am_tb := List.mem_filter.mpr ⟨am_tk1 (List.mem_of_getElem? (i := 232) rfl), rfl⟩
theorem tw_305 : Cond.methodLink RX11 84 yX9_add ∈ am_tb := List.mem_filter.mpr ⟨am_tk1 (List.mem_of_getElem? (i := 230) rfl), rfl⟩
theorem tw_111 : Cond.fieldLink RX11 88 "RodBeads$Text" "size" "I" ∈ am_tb := List.mem_filter.mpr ⟨am_tk1 (List.mem_of_getElem? (i := 36) rfl), rfl⟩
theorem tw_304 : Cond.code yX11_write cX11_write 2 (some .int) ∈ am_tb := List.mem_filter.mpr ⟨am_tk1 (List.mem_of_getElem? (i := 229) rfl), rfl⟩
theorem tw_315 : Cond.code yX11_erase cX11_erase 2 (some .int) ∈ am_tb := List.mem_filter.mpr ⟨am_tk2 (List.mem_of_getElem? (i := 0) rfl), rfl⟩
theorem tw_323 : Cond.code yX11_readDraft cX11_readDraft 1 (some .int) ∈ am_tb := List.mem_filter.mpr ⟨am_tk2 (List.mem_of_getElem? (i := 8) rfl), rfl⟩
theorem tw_322 : Cond.instanceMethod yX11_readDraft ∈ am_tb := List.mem_filter.mpr ⟨am_tk2 (List.mem_of_getElem? (i := 7) rfl), rfl⟩
theorem tw_0 : Cond.selects RX11 yX11_readDraft yX11_readDraft ∈ am_tb := List.mem_filter.mpr ⟨List.mem_of_getElem? (i := 0) (by decide +kernel), rfl⟩
theorem tw_320 : Cond.methodLink RX11 91 yX11_readDraft ∈ am_tb := List.mem_filter.mpr ⟨am_tk2 (List.mem_of_getElem? (i := 5) rfl), rfl⟩
theorem tw_114 : Cond.fieldLink RX11 95 "RodBeads$Text" "fault" "I" ∈ am_tb := List.mem_filter.mpr ⟨am_tk1 (List.mem_of_getElem? (i := 39) rfl), rfl⟩
theorem tw_214 : Cond.fieldLink RX11 98 "RodBeads$Frame" "size" "I" ∈ am_tb := List.mem_filter.mpr ⟨am_tk1 (List.mem_of_getElem? (i := 139) rfl), rfl⟩
theorem tw_518 : Cond.instanceMethod yX8_check ∈ am_tb := List.mem_filter.mpr ⟨am_tk2 (List.mem_of_getElem? (i := 203) rfl), rfl⟩
theorem tw_519 : Cond.selects RX8 yX8_check yX8_check ∈ am_tb := List.mem_filter.mpr ⟨am_tk2 (List.mem_of_getElem? (i := 204) rfl), rfl⟩
theorem tw_517 : Cond.methodLink RX11 99 yX8_check ∈ am_tb := List.mem_filter.mpr ⟨am_tk2 (List.mem_of_getElem? (i := 202) rfl), rfl⟩
theorem tw_319 : Cond.code yX11_fault cX11_fault 2 (some .int) ∈ am_tb := List.mem_filter.mpr ⟨am_tk2 (List.mem_of_getElem? (i := 4) rfl), rfl⟩
theorem tw_325 : Cond.instanceMethod yX1_copy ∈ am_tb := List.mem_filter.mpr ⟨am_tk2 (List.mem_of_getElem? (i := 10) rfl), rfl⟩
theorem tw_326 : Cond.selects RX1 yX1_copy yX1_copy ∈ am_tb := List.mem_filter.mpr ⟨am_tk2 (List.mem_of_getElem? (i := 11) rfl), rfl⟩
theorem tw_324 : Cond.methodLink RX11 103 yX1_copy ∈ am_tb := List.mem_filter.mpr ⟨am_tk2 (List.mem_of_getElem? (i := 9) rfl), rfl⟩
theorem tw_216 : Cond.fieldLink RX11 107 "RodBeads$Frame" "told" "I" ∈ am_tb := List.mem_filter.mpr ⟨am_tk1 (List.mem_of_getElem? (i := 141) rfl), rfl⟩
theorem tw_572 : Cond.instanceMethod yX7_begin ∈ am_tb := List.mem_filter.mpr ⟨am_tk3 (List.mem_of_getElem? (i := 17) rfl), rfl⟩
theorem tw_573 : Cond.selects RX7 yX7_begin yX7_begin ∈ am_tb := List.mem_filter.mpr ⟨am_tk3 (List.mem_of_getElem? (i := 18) rfl), rfl⟩
theorem tw_571 : Cond.methodLink RX11 110 yX7_begin ∈ am_tb := List.mem_filter.mpr ⟨am_tk3 (List.mem_of_getElem? (i := 16) rfl), rfl⟩
theorem tw_570 : Cond.code yX11_frame cX11_frame 2 (some .int) ∈ am_tb := List.mem_filter.mpr ⟨am_tk3 (List.mem_of_getElem? (i := 15) rfl), rfl⟩
theorem tw_585 : Cond.code yX11_remember cX11_remember 3 none ∈ am_tb := List.mem_filter.mpr ⟨am_tk3 (List.mem_of_getElem? (i := 30) rfl), rfl⟩
theorem tw_584 : Cond.instanceMethod yX11_remember ∈ am_tb := List.mem_filter.mpr ⟨am_tk3 (List.mem_of_getElem? (i := 29) rfl), rfl⟩
theorem tw_9 : Cond.selects RX11 yX11_remember yX11_remember ∈ am_tb := List.mem_filter.mpr ⟨List.mem_of_getElem? (i := 9) (by decide +kernel), rfl⟩
theorem tw_582 : Cond.methodLink RX11 114 yX11_remember ∈ am_tb := List.mem_filter.mpr ⟨am_tk3 (List.mem_of_getElem? (i := 27) rfl), rfl⟩
theorem tw_597 : Cond.methodLink RX11 117 yX9_begin ∈ am_tb := List.mem_filter.mpr ⟨am_tk3 (List.mem_of_getElem? (i := 42) rfl), rfl⟩
theorem tw_601 : Cond.code yX11_theNumber cX11_theNumber 7 (some .long) ∈ am_tb := List.mem_filter.mpr ⟨am_tk3 (List.mem_of_getElem? (i := 46) rfl), rfl⟩
theorem tw_600 : Cond.instanceMethod yX11_theNumber ∈ am_tb := List.mem_filter.mpr ⟨am_tk3 (List.mem_of_getElem? (i := 45) rfl), rfl⟩
theorem tw_10 : Cond.selects RX11 yX11_theNumber yX11_theNumber ∈ am_tb := List.mem_filter.mpr ⟨List.mem_of_getElem? (i := 10) (by decide +kernel), rfl⟩
theorem tw_598 : Cond.methodLink RX11 119 yX11_theNumber ∈ am_tb := List.mem_filter.mpr ⟨am_tk3 (List.mem_of_getElem? (i := 43) rfl), rfl⟩
theorem tw_632 : Cond.methodLink RX11 123 yX8_readStatement ∈ am_tb := List.mem_filter.mpr ⟨am_tk3 (List.mem_of_getElem? (i := 77) rfl), rfl⟩
theorem tw_636 : Cond.code yX11_doStatement cX11_doStatement 1 (some .boolean) ∈ am_tb := List.mem_filter.mpr ⟨am_tk3 (List.mem_of_getElem? (i := 81) rfl), rfl⟩
theorem tw_635 : Cond.instanceMethod yX11_doStatement ∈ am_tb := List.mem_filter.mpr ⟨am_tk3 (List.mem_of_getElem? (i := 80) rfl), rfl⟩
theorem tw_11 : Cond.selects RX11 yX11_doStatement yX11_doStatement ∈ am_tb := List.mem_filter.mpr ⟨List.mem_of_getElem? (i := 11) (by decide +kernel), rfl⟩
theorem tw_633 : Cond.methodLink RX11 127 yX11_doStatement ∈ am_tb := List.mem_filter.mpr ⟨am_tk3 (List.mem_of_getElem? (i := 78) rfl), rfl⟩
theorem tw_781 : Cond.methodLink RX11 131 yX9_another ∈ am_tb := List.mem_filter.mpr ⟨am_tk3 (List.mem_of_getElem? (i := 226) rfl), rfl⟩
theorem tw_581 : Cond.code yX11_run cX11_run 3 (some .int) ∈ am_tb := List.mem_filter.mpr ⟨am_tk3 (List.mem_of_getElem? (i := 26) rfl), rfl⟩
theorem tw_602 : Cond.methodLink RX11 134 yX1_rodAt ∈ am_tb := List.mem_filter.mpr ⟨am_tk3 (List.mem_of_getElem? (i := 47) rfl), rfl⟩
theorem tw_790 : Cond.instanceMethod yX0_kindNumber ∈ am_tb := List.mem_filter.mpr ⟨am_tk3 (List.mem_of_getElem? (i := 235) rfl), rfl⟩
theorem tw_789 : Cond.selects RX0 ⟨"RodBeads$Rod", "kindNumber", "()I"⟩ yX0_kindNumber ∈ am_tb := List.mem_filter.mpr ⟨am_tk3 (List.mem_of_getElem? (i := 234) rfl), rfl⟩
theorem tw_786 : Cond.methodLink RX11 138 ⟨"RodBeads$Rod", "kindNumber", "()I"⟩ ∈ am_tb := List.mem_filter.mpr ⟨am_tk3 (List.mem_of_getElem? (i := 231) rfl), rfl⟩
theorem tw_788 : Cond.sameMethod "RodBeads$Rod" "RodBeads$Rod" "kindNumber" "()I" ∈ am_tb := List.mem_filter.mpr ⟨am_tk3 (List.mem_of_getElem? (i := 233) rfl), rfl⟩
theorem tw_787 : Cond.declares ⟨"RodBeads$Rod", "kindNumber", "()I"⟩ ∈ am_xw := List.mem_filter.mpr ⟨am_tk3 (List.mem_of_getElem? (i := 232) rfl), rfl⟩
theorem tw_793 : Cond.instanceMethod yX2_kindNumber ∈ am_tb := List.mem_filter.mpr ⟨am_tk3 (List.mem_of_getElem? (i := 238) rfl), rfl⟩
theorem tw_792 : Cond.selects RX2 ⟨"RodBeads$Rod", "kindNumber", "()I"⟩ yX2_kindNumber ∈ am_tb := List.mem_filter.mpr ⟨am_tk3 (List.mem_of_getElem? (i := 237) rfl), rfl⟩
theorem tw_796 : Cond.instanceMethod yX3_kindNumber ∈ am_tb := List.mem_filter.mpr ⟨am_tk4 (List.mem_of_getElem? (i := 1) rfl), rfl⟩
theorem tw_795 : Cond.selects RX3 ⟨"RodBeads$Rod", "kindNumber", "()I"⟩ yX3_kindNumber ∈ am_tb := List.mem_filter.mpr ⟨am_tk4 (List.mem_of_getElem? (i := 0) rfl), rfl⟩
theorem tw_799 : Cond.instanceMethod yX6_kindNumber ∈ am_tb := List.mem_filter.mpr ⟨am_tk4 (List.mem_of_getElem? (i := 4) rfl), rfl⟩
theorem tw_798 : Cond.selects RX6 ⟨"RodBeads$Rod", "kindNumber", "()I"⟩ yX6_kindNumber ∈ am_tb := List.mem_filter.mpr ⟨am_tk4 (List.mem_of_getElem? (i := 3) rfl), rfl⟩
theorem tw_458 : Cond.fieldLink RX11 143 "RodBeads$Rod" "base" "I" ∈ am_tb := List.mem_filter.mpr ⟨am_tk2 (List.mem_of_getElem? (i := 143) rfl), rfl⟩
theorem tw_463 : Cond.fieldLink RX11 146 "RodBeads$Rod" "lowBeads" "I" ∈ am_tb := List.mem_filter.mpr ⟨am_tk2 (List.mem_of_getElem? (i := 148) rfl), rfl⟩
theorem tw_466 : Cond.fieldLink RX11 149 "RodBeads$Rod" "highBeads" "I" ∈ am_tb := List.mem_filter.mpr ⟨am_tk2 (List.mem_of_getElem? (i := 151) rfl), rfl⟩
theorem tw_778 : Cond.methodLink RX11 152 yX7_beads ∈ am_tb := List.mem_filter.mpr ⟨am_tk3 (List.mem_of_getElem? (i := 223) rfl), rfl⟩
theorem tw_777 : Cond.methodLink RX11 156 yX7_isStuck ∈ am_tb := List.mem_filter.mpr ⟨am_tk3 (List.mem_of_getElem? (i := 222) rfl), rfl⟩
theorem tw_604 : Cond.instanceMethod yX7_shows ∈ am_tb := List.mem_filter.mpr ⟨am_tk3 (List.mem_of_getElem? (i := 49) rfl), rfl⟩
theorem tw_605 : Cond.selects RX7 yX7_shows yX7_shows ∈ am_tb := List.mem_filter.mpr ⟨am_tk3 (List.mem_of_getElem? (i := 50) rfl), rfl⟩
theorem tw_603 : Cond.methodLink RX11 160 yX7_shows ∈ am_tb := List.mem_filter.mpr ⟨am_tk3 (List.mem_of_getElem? (i := 48) rfl), rfl⟩
theorem tw_801 : Cond.methodLink RX11 164 yX4_worthOf ∈ am_tb := List.mem_filter.mpr ⟨am_tk4 (List.mem_of_getElem? (i := 6) rfl), rfl⟩
theorem tw_785 : Cond.code yX11_rod cX11_rod 4 (some .int) ∈ am_tb := List.mem_filter.mpr ⟨am_tk3 (List.mem_of_getElem? (i := 230) rfl), rfl⟩
theorem tw_805 : Cond.code yX11_number cX11_number 1 (some .long) ∈ am_tb := List.mem_filter.mpr ⟨am_tk4 (List.mem_of_getElem? (i := 10) rfl), rfl⟩
theorem tw_812 : Cond.code yX11_isUnder cX11_isUnder 2 (some .boolean) ∈ am_tb := List.mem_filter.mpr ⟨am_tk4 (List.mem_of_getElem? (i := 17) rfl), rfl⟩
theorem tw_810 : Cond.methodLink RX11 167 yX11_isUnder ∈ am_tb := List.mem_filter.mpr ⟨am_tk4 (List.mem_of_getElem? (i := 15) rfl), rfl⟩
theorem tw_811 : Cond.static yX11_isUnder ∈ am_tb := List.mem_filter.mpr ⟨am_tk4 (List.mem_of_getElem? (i := 16) rfl), rfl⟩
theorem tw_817 : Cond.methodLink RX11 171 ⟨"RodBeads$Rod", "highWorth", "()I"⟩ ∈ am_tb := List.mem_filter.mpr ⟨am_tk4 (List.mem_of_getElem? (i := 22) rfl), rfl⟩
theorem tw_809 : Cond.code yX11_as cX11_as 4 (some .int) ∈ am_tb := List.mem_filter.mpr ⟨am_tk4 (List.mem_of_getElem? (i := 14) rfl), rfl⟩
theorem tw_824 : Cond.code yX11_isPart cX11_isPart 1 (some .boolean) ∈ am_tb := List.mem_filter.mpr ⟨am_tk4 (List.mem_of_getElem? (i := 29) rfl), rfl⟩
theorem tw_822 : Cond.methodLink RX11 174 yX11_isPart ∈ am_tb := List.mem_filter.mpr ⟨am_tk4 (List.mem_of_getElem? (i := 27) rfl), rfl⟩
theorem tw_823 : Cond.static yX11_isPart ∈ am_tb := List.mem_filter.mpr ⟨am_tk4 (List.mem_of_getElem? (i := 28) rfl), rfl⟩
theorem tw_826 : Cond.instanceMethod yX4_beadsOf ∈ am_tb := List.mem_filter.mpr ⟨am_tk4 (List.mem_of_getElem? (i := 31) rfl), rfl⟩
theorem tw_828 : Cond.selects RX0 yX4_beadsOf yX4_beadsOf ∈ am_tb := List.mem_filter.mpr ⟨am_tk4 (List.mem_of_getElem? (i := 33) rfl), rfl⟩
theorem tw_825 : Cond.methodLink RX11 177 yX4_beadsOf ∈ am_tb := List.mem_filter.mpr ⟨am_tk4 (List.mem_of_getElem? (i := 30) rfl), rfl⟩
theorem tw_829 : Cond.selects RX2 yX4_beadsOf yX4_beadsOf ∈ am_tb := List.mem_filter.mpr ⟨am_tk4 (List.mem_of_getElem? (i := 34) rfl), rfl⟩
theorem tw_830 : Cond.selects RX3 yX4_beadsOf yX4_beadsOf ∈ am_tb := List.mem_filter.mpr ⟨am_tk4 (List.mem_of_getElem? (i := 35) rfl), rfl⟩
theorem tw_831 : Cond.selects RX6 yX4_beadsOf yX4_beadsOf ∈ am_tb := List.mem_filter.mpr ⟨am_tk4 (List.mem_of_getElem? (i := 36) rfl), rfl⟩
theorem tw_833 : Cond.methodLink RX11 181 Lib.Math.abs.name ∈ am_tb := List.mem_filter.mpr ⟨am_tk4 (List.mem_of_getElem? (i := 38) rfl), rfl⟩
theorem tw_779 : Cond.methodLink RX11 186 yX4_timeOf ∈ am_tb := List.mem_filter.mpr ⟨am_tk3 (List.mem_of_getElem? (i := 224) rfl), rfl⟩
theorem tw_780 : Cond.methodLink RX11 189 yX7_place ∈ am_tb := List.mem_filter.mpr ⟨am_tk3 (List.mem_of_getElem? (i := 225) rfl), rfl⟩
theorem tw_762 : Cond.instanceMethod yX7_spend ∈ am_tb := List.mem_filter.mpr ⟨am_tk3 (List.mem_of_getElem? (i := 207) rfl), rfl⟩
theorem tw_763 : Cond.selects RX7 yX7_spend yX7_spend ∈ am_tb := List.mem_filter.mpr ⟨am_tk3 (List.mem_of_getElem? (i := 208) rfl), rfl⟩
theorem tw_761 : Cond.methodLink RX11 193 yX7_spend ∈ am_tb := List.mem_filter.mpr ⟨am_tk3 (List.mem_of_getElem? (i := 206) rfl), rfl⟩
theorem tw_821 : Cond.code yX11_push cX11_push 6 (some .int) ∈ am_tb := List.mem_filter.mpr ⟨am_tk4 (List.mem_of_getElem? (i := 26) rfl), rfl⟩
theorem tw_233 : Cond.fieldLink RX11 196 "RodBeads$Standing" "stuck" "I" ∈ am_tb := List.mem_filter.mpr ⟨am_tk1 (List.mem_of_getElem? (i := 158) rfl), rfl⟩
theorem tw_838 : Cond.methodLink RX11 199 yX7_partBit ∈ am_tb := List.mem_filter.mpr ⟨am_tk4 (List.mem_of_getElem? (i := 43) rfl), rfl⟩
theorem tw_837 : Cond.code yX11_stick cX11_stick 3 (some .int) ∈ am_tb := List.mem_filter.mpr ⟨am_tk4 (List.mem_of_getElem? (i := 42) rfl), rfl⟩
theorem tw_845 : Cond.code yX11_isNumber cX11_isNumber 1 (some .boolean) ∈ am_tb := List.mem_filter.mpr ⟨am_tk4 (List.mem_of_getElem? (i := 50) rfl), rfl⟩
theorem tw_843 : Cond.methodLink RX11 202 yX11_isNumber ∈ am_tb := List.mem_filter.mpr ⟨am_tk4 (List.mem_of_getElem? (i := 48) rfl), rfl⟩
theorem tw_844 : Cond.static yX11_isNumber ∈ am_tb := List.mem_filter.mpr ⟨am_tk4 (List.mem_of_getElem? (i := 49) rfl), rfl⟩
theorem tw_590 : Cond.instanceMethod yX7_copy ∈ am_tb := List.mem_filter.mpr ⟨am_tk3 (List.mem_of_getElem? (i := 35) rfl), rfl⟩
theorem tw_591 : Cond.selects RX7 yX7_copy yX7_copy ∈ am_tb := List.mem_filter.mpr ⟨am_tk3 (List.mem_of_getElem? (i := 36) rfl), rfl⟩
theorem tw_589 : Cond.methodLink RX11 205 yX7_copy ∈ am_tb := List.mem_filter.mpr ⟨am_tk3 (List.mem_of_getElem? (i := 34) rfl), rfl⟩
theorem tw_640 : Cond.code yX11_settle cX11_settle 5 (some .int) ∈ am_tb := List.mem_filter.mpr ⟨am_tk3 (List.mem_of_getElem? (i := 85) rfl), rfl⟩
theorem tw_639 : Cond.instanceMethod yX11_settle ∈ am_tb := List.mem_filter.mpr ⟨am_tk3 (List.mem_of_getElem? (i := 84) rfl), rfl⟩
theorem tw_12 : Cond.selects RX11 yX11_settle yX11_settle ∈ am_tb := List.mem_filter.mpr ⟨List.mem_of_getElem? (i := 12) (by decide +kernel), rfl⟩
theorem tw_637 : Cond.methodLink RX11 208 yX11_settle ∈ am_tb := List.mem_filter.mpr ⟨am_tk3 (List.mem_of_getElem? (i := 82) rfl), rfl⟩
theorem tw_850 : Cond.code yX11_doneByTrial cX11_doneByTrial 2 (some .int) ∈ am_tb := List.mem_filter.mpr ⟨am_tk4 (List.mem_of_getElem? (i := 55) rfl), rfl⟩
theorem tw_849 : Cond.instanceMethod yX11_doneByTrial ∈ am_tb := List.mem_filter.mpr ⟨am_tk4 (List.mem_of_getElem? (i := 54) rfl), rfl⟩
theorem tw_23 : Cond.selects RX11 yX11_doneByTrial yX11_doneByTrial ∈ am_tb := List.mem_filter.mpr ⟨List.mem_of_getElem? (i := 23) (by decide +kernel), rfl⟩
theorem tw_847 : Cond.methodLink RX11 212 yX11_doneByTrial ∈ am_tb := List.mem_filter.mpr ⟨am_tk4 (List.mem_of_getElem? (i := 52) rfl), rfl⟩
theorem tw_842 : Cond.code yX11_set cX11_set 2 (some .int) ∈ am_tb := List.mem_filter.mpr ⟨am_tk4 (List.mem_of_getElem? (i := 47) rfl), rfl⟩
theorem tw_770 : Cond.code yX11_carryOver cX11_carryOver 8 (some .int) ∈ am_tb := List.mem_filter.mpr ⟨am_tk3 (List.mem_of_getElem? (i := 215) rfl), rfl⟩
theorem tw_769 : Cond.instanceMethod yX11_carryOver ∈ am_tb := List.mem_filter.mpr ⟨am_tk3 (List.mem_of_getElem? (i := 214) rfl), rfl⟩
theorem tw_21 : Cond.selects RX11 yX11_carryOver yX11_carryOver ∈ am_tb := List.mem_filter.mpr ⟨List.mem_of_getElem? (i := 21) (by decide +kernel), rfl⟩
theorem tw_767 : Cond.methodLink RX11 215 yX11_carryOver ∈ am_tb := List.mem_filter.mpr ⟨am_tk3 (List.mem_of_getElem? (i := 212) rfl), rfl⟩
theorem tw_854 : Cond.code yX11_carry cX11_carry 2 (some .int) ∈ am_tb := List.mem_filter.mpr ⟨am_tk4 (List.mem_of_getElem? (i := 59) rfl), rfl⟩
theorem tw_588 : Cond.code yX11_standingAt cX11_standingAt 2 (some (.object "RodBeads$Standing")) ∈ am_tb := List.mem_filter.mpr ⟨am_tk3 (List.mem_of_getElem? (i := 33) rfl), rfl⟩
theorem tw_586 : Cond.methodLink RX11 219 yX11_standingAt ∈ am_tb := List.mem_filter.mpr ⟨am_tk3 (List.mem_of_getElem? (i := 31) rfl), rfl⟩
theorem tw_587 : Cond.static yX11_standingAt ∈ am_tb := List.mem_filter.mpr ⟨am_tk3 (List.mem_of_getElem? (i := 32) rfl), rfl⟩
theorem tw_858 : Cond.code yX11_undo cX11_undo 1 (some .int) ∈ am_tb := List.mem_filter.mpr ⟨am_tk4 (List.mem_of_getElem? (i := 63) rfl), rfl⟩
theorem tw_864 : Cond.instanceMethod yX7_beadsInAll ∈ am_tb := List.mem_filter.mpr ⟨am_tk4 (List.mem_of_getElem? (i := 69) rfl), rfl⟩
theorem tw_865 : Cond.selects RX7 yX7_beadsInAll yX7_beadsInAll ∈ am_tb := List.mem_filter.mpr ⟨am_tk4 (List.mem_of_getElem? (i := 70) rfl), rfl⟩
theorem tw_863 : Cond.methodLink RX11 223 yX7_beadsInAll ∈ am_tb := List.mem_filter.mpr ⟨am_tk4 (List.mem_of_getElem? (i := 68) rfl), rfl⟩
theorem tw_862 : Cond.code yX11_keep cX11_keep 3 (some .int) ∈ am_tb := List.mem_filter.mpr ⟨am_tk4 (List.mem_of_getElem? (i := 67) rfl), rfl⟩
theorem tw_870 : Cond.code yX11_back cX11_back 3 (some .int) ∈ am_tb := List.mem_filter.mpr ⟨am_tk4 (List.mem_of_getElem? (i := 75) rfl), rfl⟩
theorem tw_642 : Cond.instanceMethod yX10_load ∈ am_tb := List.mem_filter.mpr ⟨am_tk3 (List.mem_of_getElem? (i := 87) rfl), rfl⟩
theorem tw_643 : Cond.selects RX10 yX10_load yX10_load ∈ am_tb := List.mem_filter.mpr ⟨am_tk3 (List.mem_of_getElem? (i := 88) rfl), rfl⟩
theorem tw_641 : Cond.methodLink RX11 226 yX10_load ∈ am_tb := List.mem_filter.mpr ⟨am_tk3 (List.mem_of_getElem? (i := 86) rfl), rfl⟩
theorem tw_876 : Cond.instanceMethod yX10_howMany ∈ am_tb := List.mem_filter.mpr ⟨am_tk4 (List.mem_of_getElem? (i := 81) rfl), rfl⟩
theorem tw_877 : Cond.selects RX10 yX10_howMany yX10_howMany ∈ am_tb := List.mem_filter.mpr ⟨am_tk4 (List.mem_of_getElem? (i := 82) rfl), rfl⟩
theorem tw_875 : Cond.methodLink RX11 230 yX10_howMany ∈ am_tb := List.mem_filter.mpr ⟨am_tk4 (List.mem_of_getElem? (i := 80) rfl), rfl⟩
theorem tw_874 : Cond.code yX11_ways cX11_ways 2 (some .int) ∈ am_tb := List.mem_filter.mpr ⟨am_tk4 (List.mem_of_getElem? (i := 79) rfl), rfl⟩
theorem tw_890 : Cond.code yX11_leastCost cX11_leastCost 4 (some .int) ∈ am_tb := List.mem_filter.mpr ⟨am_tk4 (List.mem_of_getElem? (i := 95) rfl), rfl⟩
theorem tw_889 : Cond.instanceMethod yX11_leastCost ∈ am_tb := List.mem_filter.mpr ⟨am_tk4 (List.mem_of_getElem? (i := 94) rfl), rfl⟩
theorem tw_25 : Cond.selects RX11 yX11_leastCost yX11_leastCost ∈ am_tb := List.mem_filter.mpr ⟨List.mem_of_getElem? (i := 25) (by decide +kernel), rfl⟩
theorem tw_887 : Cond.methodLink RX11 234 yX11_leastCost ∈ am_tb := List.mem_filter.mpr ⟨am_tk4 (List.mem_of_getElem? (i := 92) rfl), rfl⟩
theorem tw_886 : Cond.code yX11_time cX11_time 2 (some .int) ∈ am_tb := List.mem_filter.mpr ⟨am_tk4 (List.mem_of_getElem? (i := 91) rfl), rfl⟩
theorem tw_894 : Cond.code yX11_pushed cX11_pushed 4 (some .int) ∈ am_tb := List.mem_filter.mpr ⟨am_tk4 (List.mem_of_getElem? (i := 99) rfl), rfl⟩
theorem tw_899 : Cond.constantLong RX11 238 (-3) ∈ am_tb := List.mem_filter.mpr ⟨am_tk4 (List.mem_of_getElem? (i := 104) rfl), rfl⟩
theorem tw_900 : Cond.methodLink RX11 240 yX10_mostFrom ∈ am_tb := List.mem_filter.mpr ⟨am_tk4 (List.mem_of_getElem? (i := 105) rfl), rfl⟩
theorem tw_901 : Cond.methodLink RX11 243 yX10_fewestFrom ∈ am_tb := List.mem_filter.mpr ⟨am_tk4 (List.mem_of_getElem? (i := 106) rfl), rfl⟩
theorem tw_905 : Cond.code yX11_gap cX11_gap 3 (some .int) ∈ am_tb := List.mem_filter.mpr ⟨am_tk4 (List.mem_of_getElem? (i := 110) rfl), rfl⟩
theorem tw_904 : Cond.instanceMethod yX11_gap ∈ am_tb := List.mem_filter.mpr ⟨am_tk4 (List.mem_of_getElem? (i := 109) rfl), rfl⟩
theorem tw_26 : Cond.selects RX11 yX11_gap yX11_gap ∈ am_tb := List.mem_filter.mpr ⟨List.mem_of_getElem? (i := 26) (by decide +kernel), rfl⟩
theorem tw_902 : Cond.methodLink RX11 246 yX11_gap ∈ am_tb := List.mem_filter.mpr ⟨am_tk4 (List.mem_of_getElem? (i := 107) rfl), rfl⟩
theorem tw_898 : Cond.code yX11_span cX11_span 2 (some .long) ∈ am_tb := List.mem_filter.mpr ⟨am_tk4 (List.mem_of_getElem? (i := 103) rfl), rfl⟩
theorem tw_937 : Cond.code yX11_nearestShown cX11_nearestShown 5 (some .int) ∈ am_tb := List.mem_filter.mpr ⟨am_tk4 (List.mem_of_getElem? (i := 142) rfl), rfl⟩
theorem tw_936 : Cond.instanceMethod yX11_nearestShown ∈ am_tb := List.mem_filter.mpr ⟨am_tk4 (List.mem_of_getElem? (i := 141) rfl), rfl⟩
theorem tw_31 : Cond.selects RX11 yX11_nearestShown yX11_nearestShown ∈ am_tb := List.mem_filter.mpr ⟨List.mem_of_getElem? (i := 31) (by decide +kernel), rfl⟩
theorem tw_934 : Cond.methodLink RX11 249 yX11_nearestShown ∈ am_tb := List.mem_filter.mpr ⟨am_tk4 (List.mem_of_getElem? (i := 139) rfl), rfl⟩
theorem tw_933 : Cond.code yX11_nearest cX11_nearest 2 (some .int) ∈ am_tb := List.mem_filter.mpr ⟨am_tk4 (List.mem_of_getElem? (i := 138) rfl), rfl⟩
theorem tw_942 : Cond.code yX11_loosen cX11_loosen 3 (some .int) ∈ am_tb := List.mem_filter.mpr ⟨am_tk4 (List.mem_of_getElem? (i := 147) rfl), rfl⟩
theorem tw_949 : Cond.code yX11_isOfTour cX11_isOfTour 1 (some .boolean) ∈ am_tb := List.mem_filter.mpr ⟨am_tk4 (List.mem_of_getElem? (i := 154) rfl), rfl⟩
theorem tw_947 : Cond.methodLink RX11 252 yX11_isOfTour ∈ am_tb := List.mem_filter.mpr ⟨am_tk4 (List.mem_of_getElem? (i := 152) rfl), rfl⟩
theorem tw_948 : Cond.static yX11_isOfTour ∈ am_tb := List.mem_filter.mpr ⟨am_tk4 (List.mem_of_getElem? (i := 153) rfl), rfl⟩
theorem tw_744 : Cond.constant RX11 255 (1048576) ∈ am_tb := List.mem_filter.mpr ⟨am_tk3 (List.mem_of_getElem? (i := 189) rfl), rfl⟩
theorem tw_953 : Cond.code yX11_secondOf cX11_secondOf 4 (some .int) ∈ am_tb := List.mem_filter.mpr ⟨am_tk4 (List.mem_of_getElem? (i := 158) rfl), rfl⟩
theorem tw_951 : Cond.methodLink RX11 256 yX11_secondOf ∈ am_tb := List.mem_filter.mpr ⟨am_tk4 (List.mem_of_getElem? (i := 156) rfl), rfl⟩
theorem tw_952 : Cond.static yX11_secondOf ∈ am_tb := List.mem_filter.mpr ⟨am_tk4 (List.mem_of_getElem? (i := 157) rfl), rfl⟩
theorem tw_956 : Cond.code yX11_pick cX11_pick 4 (some .int) ∈ am_tb := List.mem_filter.mpr ⟨am_tk4 (List.mem_of_getElem? (i := 161) rfl), rfl⟩
theorem tw_954 : Cond.methodLink RX11 259 yX11_pick ∈ am_tb := List.mem_filter.mpr ⟨am_tk4 (List.mem_of_getElem? (i := 159) rfl), rfl⟩
theorem tw_955 : Cond.static yX11_pick ∈ am_tb := List.mem_filter.mpr ⟨am_tk4 (List.mem_of_getElem? (i := 160) rfl), rfl⟩
theorem tw_960 : Cond.code yX11_goOn cX11_goOn 5 (some .boolean) ∈ am_tb := List.mem_filter.mpr ⟨am_tk4 (List.mem_of_getElem? (i := 165) rfl), rfl⟩
theorem tw_959 : Cond.instanceMethod yX11_goOn ∈ am_tb := List.mem_filter.mpr ⟨am_tk4 (List.mem_of_getElem? (i := 164) rfl), rfl⟩
theorem tw_32 : Cond.selects RX11 yX11_goOn yX11_goOn ∈ am_tb := List.mem_filter.mpr ⟨List.mem_of_getElem? (i := 32) (by decide +kernel), rfl⟩
theorem tw_957 : Cond.methodLink RX11 263 yX11_goOn ∈ am_tb := List.mem_filter.mpr ⟨am_tk4 (List.mem_of_getElem? (i := 162) rfl), rfl⟩
theorem tw_964 : Cond.code yX11_spentOnPath cX11_spentOnPath 2 (some .int) ∈ am_tb := List.mem_filter.mpr ⟨am_tk4 (List.mem_of_getElem? (i := 169) rfl), rfl⟩
theorem tw_963 : Cond.instanceMethod yX11_spentOnPath ∈ am_tb := List.mem_filter.mpr ⟨am_tk4 (List.mem_of_getElem? (i := 168) rfl), rfl⟩
theorem tw_33 : Cond.selects RX11 yX11_spentOnPath yX11_spentOnPath ∈ am_tb := List.mem_filter.mpr ⟨List.mem_of_getElem? (i := 33) (by decide +kernel), rfl⟩
theorem tw_961 : Cond.methodLink RX11 267 yX11_spentOnPath ∈ am_tb := List.mem_filter.mpr ⟨am_tk4 (List.mem_of_getElem? (i := 166) rfl), rfl⟩
theorem tw_946 : Cond.code yX11_tour cX11_tour 11 (some .int) ∈ am_tb := List.mem_filter.mpr ⟨am_tk4 (List.mem_of_getElem? (i := 151) rfl), rfl⟩
theorem tw_969 : Cond.methodLink RX11 270 yX5_put ∈ am_tb := List.mem_filter.mpr ⟨am_tk4 (List.mem_of_getElem? (i := 174) rfl), rfl⟩
theorem tw_968 : Cond.code yX11_seen cX11_seen 4 (some .int) ∈ am_tb := List.mem_filter.mpr ⟨am_tk4 (List.mem_of_getElem? (i := 173) rfl), rfl⟩
theorem tw_973 : Cond.code yX11_forget cX11_forget 2 (some .int) ∈ am_tb := List.mem_filter.mpr ⟨am_tk4 (List.mem_of_getElem? (i := 178) rfl), rfl⟩
theorem tw_978 : Cond.methodLink RX11 276 yX1_makeRod ∈ am_tb := List.mem_filter.mpr ⟨am_tk4 (List.mem_of_getElem? (i := 183) rfl), rfl⟩
theorem tw_982 : Cond.code yX11_fitsSeen cX11_fitsSeen 4 (some .boolean) ∈ am_tb := List.mem_filter.mpr ⟨am_tk4 (List.mem_of_getElem? (i := 187) rfl), rfl⟩
theorem tw_981 : Cond.instanceMethod yX11_fitsSeen ∈ am_tb := List.mem_filter.mpr ⟨am_tk4 (List.mem_of_getElem? (i := 186) rfl), rfl⟩
theorem tw_34 : Cond.selects RX11 yX11_fitsSeen yX11_fitsSeen ∈ am_tb := List.mem_filter.mpr ⟨List.mem_of_getElem? (i := 34) (by decide +kernel), rfl⟩
theorem tw_979 : Cond.methodLink RX11 280 yX11_fitsSeen ∈ am_tb := List.mem_filter.mpr ⟨am_tk4 (List.mem_of_getElem? (i := 184) rfl), rfl⟩
theorem tw_977 : Cond.code yX11_kinds cX11_kinds 5 (some .int) ∈ am_tb := List.mem_filter.mpr ⟨am_tk4 (List.mem_of_getElem? (i := 182) rfl), rfl⟩
theorem tw_996 : Cond.constantLong RX11 284 (-2) ∈ am_tb := List.mem_filter.mpr ⟨am_tk4 (List.mem_of_getElem? (i := 201) rfl), rfl⟩
theorem tw_999 : Cond.code yX11_chancesToStay cX11_chancesToStay 6 (some .long) ∈ am_tb := List.mem_filter.mpr ⟨am_tk4 (List.mem_of_getElem? (i := 204) rfl), rfl⟩
theorem tw_997 : Cond.methodLink RX11 286 yX11_chancesToStay ∈ am_tb := List.mem_filter.mpr ⟨am_tk4 (List.mem_of_getElem? (i := 202) rfl), rfl⟩
theorem tw_998 : Cond.static yX11_chancesToStay ∈ am_tb := List.mem_filter.mpr ⟨am_tk4 (List.mem_of_getElem? (i := 203) rfl), rfl⟩
theorem tw_1003 : Cond.constantLong RX11 290 (10) ∈ am_tb := List.mem_filter.mpr ⟨am_tk4 (List.mem_of_getElem? (i := 208) rfl), rfl⟩
theorem tw_1002 : Cond.code yX11_power cX11_power 6 (some .long) ∈ am_tb := List.mem_filter.mpr ⟨am_tk4 (List.mem_of_getElem? (i := 207) rfl), rfl⟩
theorem tw_1000 : Cond.methodLink RX11 292 yX11_power ∈ am_tb := List.mem_filter.mpr ⟨am_tk4 (List.mem_of_getElem? (i := 205) rfl), rfl⟩
theorem tw_1001 : Cond.static yX11_power ∈ am_tb := List.mem_filter.mpr ⟨am_tk4 (List.mem_of_getElem? (i := 206) rfl), rfl⟩
theorem tw_1006 : Cond.code yX11_commonDivisor cX11_commonDivisor 11 (some .long) ∈ am_tb := List.mem_filter.mpr ⟨am_tk4 (List.mem_of_getElem? (i := 211) rfl), rfl⟩
theorem tw_1004 : Cond.methodLink RX11 296 yX11_commonDivisor ∈ am_tb := List.mem_filter.mpr ⟨am_tk4 (List.mem_of_getElem? (i := 209) rfl), rfl⟩
theorem tw_1005 : Cond.static yX11_commonDivisor ∈ am_tb := List.mem_filter.mpr ⟨am_tk4 (List.mem_of_getElem? (i := 210) rfl), rfl⟩
theorem tw_995 : Cond.code yX11_slips cX11_slips 14 (some .long) ∈ am_tb := List.mem_filter.mpr ⟨am_tk4 (List.mem_of_getElem? (i := 200) rfl), rfl⟩
theorem tw_235 : Cond.fieldLink RX11 300 "RodBeads$Standing" "spent" "I" ∈ am_tb := List.mem_filter.mpr ⟨am_tk1 (List.mem_of_getElem? (i := 160) rfl), rfl⟩
theorem tw_1014 : Cond.code yX11_fullRods cX11_fullRods 4 (some .int) ∈ am_tb := List.mem_filter.mpr ⟨am_tk4 (List.mem_of_getElem? (i := 219) rfl), rfl⟩
theorem tw_1013 : Cond.instanceMethod yX11_fullRods ∈ am_tb := List.mem_filter.mpr ⟨am_tk4 (List.mem_of_getElem? (i := 218) rfl), rfl⟩
theorem tw_35 : Cond.selects RX11 yX11_fullRods yX11_fullRods ∈ am_tb := List.mem_filter.mpr ⟨List.mem_of_getElem? (i := 35) (by decide +kernel), rfl⟩
theorem tw_1011 : Cond.methodLink RX11 303 yX11_fullRods ∈ am_tb := List.mem_filter.mpr ⟨am_tk4 (List.mem_of_getElem? (i := 216) rfl), rfl⟩
theorem tw_1010 : Cond.code yX11_count cX11_count 2 (some .int) ∈ am_tb := List.mem_filter.mpr ⟨am_tk4 (List.mem_of_getElem? (i := 215) rfl), rfl⟩
theorem tw_846 : Cond.constant RX11 306 (1000000000) ∈ am_tb := List.mem_filter.mpr ⟨am_tk4 (List.mem_of_getElem? (i := 51) rfl), rfl⟩
theorem tw_950 : Cond.constant RX11 307 (1000000) ∈ am_tb := List.mem_filter.mpr ⟨am_tk4 (List.mem_of_getElem? (i := 155) rfl), rfl⟩
theorem tw_248 : Cond.methodLink RX11 308 Lib.Math.max.name ∈ am_tb := List.mem_filter.mpr ⟨am_tk1 (List.mem_of_getElem? (i := 173) rfl), rfl⟩
theorem tw_813 : Cond.classLink RX11 311 "RodBeads$Plain" ∈ am_tb := List.mem_filter.mpr ⟨am_tk4 (List.mem_of_getElem? (i := 18) rfl), rfl⟩
theorem tw_814 : Cond.classLink RX11 313 "RodBeads$Five" ∈ am_tb := List.mem_filter.mpr ⟨am_tk4 (List.mem_of_getElem? (i := 19) rfl), rfl⟩
theorem tw_1496 : Cond.castable RX2 "RodBeads$Five" ∈ am_xw := List.mem_filter.mpr ⟨am_tk6 (List.mem_of_getElem? (i := 221) rfl), rfl⟩
theorem tw_1497 : Cond.castable RX6 "RodBeads$Five" ∈ am_xw := List.mem_filter.mpr ⟨am_tk6 (List.mem_of_getElem? (i := 222) rfl), rfl⟩
theorem tw_815 : Cond.classLink RX11 315 "RodBeads$Slow" ∈ am_tb := List.mem_filter.mpr ⟨am_tk4 (List.mem_of_getElem? (i := 20) rfl), rfl⟩
theorem tw_816 : Cond.classLink RX11 317 "RodBeads$Heir" ∈ am_tb := List.mem_filter.mpr ⟨am_tk4 (List.mem_of_getElem? (i := 21) rfl), rfl⟩
theorem tw_333 : Cond.instanceMethod yX1_read ∈ am_tb := List.mem_filter.mpr ⟨am_tk2 (List.mem_of_getElem? (i := 18) rfl), rfl⟩
theorem tw_334 : Cond.selects RX1 yX1_read yX1_read ∈ am_tb := List.mem_filter.mpr ⟨am_tk2 (List.mem_of_getElem? (i := 19) rfl), rfl⟩
theorem tw_332 : Cond.methodLink RX11 319 yX1_read ∈ am_tb := List.mem_filter.mpr ⟨am_tk2 (List.mem_of_getElem? (i := 17) rfl), rfl⟩
theorem tw_724 : Cond.instanceMethod yX10_least ∈ am_tb := List.mem_filter.mpr ⟨am_tk3 (List.mem_of_getElem? (i := 169) rfl), rfl⟩
theorem tw_725 : Cond.selects RX10 yX10_least yX10_least ∈ am_tb := List.mem_filter.mpr ⟨am_tk3 (List.mem_of_getElem? (i := 170) rfl), rfl⟩
theorem tw_723 : Cond.methodLink RX11 323 yX10_least ∈ am_tb := List.mem_filter.mpr ⟨am_tk3 (List.mem_of_getElem? (i := 168) rfl), rfl⟩
theorem tw_746 : Cond.instanceMethod yX10_placeAll ∈ am_tb := List.mem_filter.mpr ⟨am_tk3 (List.mem_of_getElem? (i := 191) rfl), rfl⟩
theorem tw_747 : Cond.selects RX10 yX10_placeAll yX10_placeAll ∈ am_tb := List.mem_filter.mpr ⟨am_tk3 (List.mem_of_getElem? (i := 192) rfl), rfl⟩
theorem tw_745 : Cond.methodLink RX11 326 yX10_placeAll ∈ am_tb := List.mem_filter.mpr ⟨am_tk3 (List.mem_of_getElem? (i := 190) rfl), rfl⟩
theorem tw_771 : Cond.methodLink RX11 329 yX10_costOf ∈ am_tb := List.mem_filter.mpr ⟨am_tk3 (List.mem_of_getElem? (i := 216) rfl), rfl⟩
theorem tw_772 : Cond.methodLink RX11 332 yX10_placeRod ∈ am_tb := List.mem_filter.mpr ⟨am_tk3 (List.mem_of_getElem? (i := 217) rfl), rfl⟩
theorem tw_776 : Cond.code yX11_pushAllBack cX11_pushAllBack 4 none ∈ am_tb := List.mem_filter.mpr ⟨am_tk3 (List.mem_of_getElem? (i := 221) rfl), rfl⟩
theorem tw_143 : Cond.fieldLink RX11 336 "RodBeads$Sums" "possible" "Z" ∈ am_tb := List.mem_filter.mpr ⟨am_tk1 (List.mem_of_getElem? (i := 68) rfl), rfl⟩
theorem tw_139 : Cond.fieldLink RX11 340 "RodBeads$Sums" "verb" "I" ∈ am_tb := List.mem_filter.mpr ⟨am_tk1 (List.mem_of_getElem? (i := 64) rfl), rfl⟩
theorem tw_141 : Cond.fieldLink RX11 343 "RodBeads$Sums" "value" "J" ∈ am_tb := List.mem_filter.mpr ⟨am_tk1 (List.mem_of_getElem? (i := 66) rfl), rfl⟩
theorem tw_775 : Cond.instanceMethod yX11_pushAllBack ∈ am_tb := List.mem_filter.mpr ⟨am_tk3 (List.mem_of_getElem? (i := 220) rfl), rfl⟩
theorem tw_22 : Cond.selects RX11 yX11_pushAllBack yX11_pushAllBack ∈ am_tb := List.mem_filter.mpr ⟨List.mem_of_getElem? (i := 22) (by decide +kernel), rfl⟩
theorem tw_773 : Cond.methodLink RX11 347 yX11_pushAllBack ∈ am_tb := List.mem_filter.mpr ⟨am_tk3 (List.mem_of_getElem? (i := 218) rfl), rfl⟩
theorem tw_907 : Cond.instanceMethod yX10_sift ∈ am_tb := List.mem_filter.mpr ⟨am_tk4 (List.mem_of_getElem? (i := 112) rfl), rfl⟩
theorem tw_908 : Cond.selects RX10 yX10_sift yX10_sift ∈ am_tb := List.mem_filter.mpr ⟨am_tk4 (List.mem_of_getElem? (i := 113) rfl), rfl⟩
theorem tw_906 : Cond.methodLink RX11 350 yX10_sift ∈ am_tb := List.mem_filter.mpr ⟨am_tk4 (List.mem_of_getElem? (i := 111) rfl), rfl⟩
theorem tw_927 : Cond.instanceMethod yX10_isSifted ∈ am_tb := List.mem_filter.mpr ⟨am_tk4 (List.mem_of_getElem? (i := 132) rfl), rfl⟩
theorem tw_928 : Cond.selects RX10 yX10_isSifted yX10_isSifted ∈ am_tb := List.mem_filter.mpr ⟨am_tk4 (List.mem_of_getElem? (i := 133) rfl), rfl⟩
theorem tw_926 : Cond.methodLink RX11 354 yX10_isSifted ∈ am_tb := List.mem_filter.mpr ⟨am_tk4 (List.mem_of_getElem? (i := 131) rfl), rfl⟩
theorem tw_938 : Cond.methodLink RX11 357 Lib.Math.min.name ∈ am_tb := List.mem_filter.mpr ⟨am_tk4 (List.mem_of_getElem? (i := 143) rfl), rfl⟩
theorem tw_983 : Cond.methodLink RX11 360 yX5_at ∈ am_tb := List.mem_filter.mpr ⟨am_tk4 (List.mem_of_getElem? (i := 188) rfl), rfl⟩
theorem tw_985 : Cond.instanceMethod yX4_leastTimeFor ∈ am_tb := List.mem_filter.mpr ⟨am_tk4 (List.mem_of_getElem? (i := 190) rfl), rfl⟩
theorem tw_987 : Cond.selects RX0 yX4_leastTimeFor yX4_leastTimeFor ∈ am_tb := List.mem_filter.mpr ⟨am_tk4 (List.mem_of_getElem? (i := 192) rfl), rfl⟩
theorem tw_984 : Cond.methodLink RX11 364 yX4_leastTimeFor ∈ am_tb := List.mem_filter.mpr ⟨am_tk4 (List.mem_of_getElem? (i := 189) rfl), rfl⟩
theorem tw_988 : Cond.selects RX2 yX4_leastTimeFor yX4_leastTimeFor ∈ am_tb := List.mem_filter.mpr ⟨am_tk4 (List.mem_of_getElem? (i := 193) rfl), rfl⟩
theorem tw_989 : Cond.selects RX3 yX4_leastTimeFor yX4_leastTimeFor ∈ am_tb := List.mem_filter.mpr ⟨am_tk4 (List.mem_of_getElem? (i := 194) rfl), rfl⟩
theorem tw_990 : Cond.selects RX6 yX4_leastTimeFor yX4_leastTimeFor ∈ am_tb := List.mem_filter.mpr ⟨am_tk4 (List.mem_of_getElem? (i := 195) rfl), rfl⟩
theorem tw_1020 : Cond.methodLink RX12 1 Lib.objectInit ∈ am_tb := List.mem_filter.mpr ⟨am_tk4 (List.mem_of_getElem? (i := 225) rfl), rfl⟩
theorem tw_1022 : Cond.fieldLink RX12 7 "RodBeadsModel" "kindOf" "[I" ∈ am_tb := List.mem_filter.mpr ⟨am_tk4 (List.mem_of_getElem? (i := 227) rfl), rfl⟩
theorem tw_1023 : Cond.fieldLink RX12 13 "RodBeadsModel" "bases" "[I" ∈ am_tb := List.mem_filter.mpr ⟨am_tk4 (List.mem_of_getElem? (i := 228) rfl), rfl⟩
theorem tw_1024 : Cond.fieldLink RX12 16 "RodBeadsModel" "lows" "[I" ∈ am_tb := List.mem_filter.mpr ⟨am_tk4 (List.mem_of_getElem? (i := 229) rfl), rfl⟩
theorem tw_1025 : Cond.fieldLink RX12 19 "RodBeadsModel" "highs" "[I" ∈ am_tb := List.mem_filter.mpr ⟨am_tk4 (List.mem_of_getElem? (i := 230) rfl), rfl⟩
theorem tw_1026 : Cond.fieldLink RX12 22 "RodBeadsModel" "now" "[I" ∈ am_tb := List.mem_filter.mpr ⟨am_tk4 (List.mem_of_getElem? (i := 231) rfl), rfl⟩
theorem tw_1027 : Cond.fieldLink RX12 25 "RodBeadsModel" "tried" "[I" ∈ am_tb := List.mem_filter.mpr ⟨am_tk4 (List.mem_of_getElem? (i := 232) rfl), rfl⟩
theorem tw_1154 : Cond.arrayClass (newarray.typeOf .long) ∈ am_tb := List.mem_filter.mpr ⟨am_tk5 (List.mem_of_getElem? (i := 119) rfl), rfl⟩
theorem tw_1029 : Cond.fieldLink RX12 28 "RodBeadsModel" "dues" "[J" ∈ am_tb := List.mem_filter.mpr ⟨am_tk4 (List.mem_of_getElem? (i := 234) rfl), rfl⟩
theorem tw_1030 : Cond.fieldLink RX12 32 "RodBeadsModel" "wayMany" "[J" ∈ am_tb := List.mem_filter.mpr ⟨am_tk4 (List.mem_of_getElem? (i := 235) rfl), rfl⟩
theorem tw_1031 : Cond.fieldLink RX12 35 "RodBeadsModel" "times" "[I" ∈ am_tb := List.mem_filter.mpr ⟨am_tk4 (List.mem_of_getElem? (i := 236) rfl), rfl⟩
theorem tw_1032 : Cond.fieldLink RX12 38 "RodBeadsModel" "due" "[I" ∈ am_tb := List.mem_filter.mpr ⟨am_tk4 (List.mem_of_getElem? (i := 237) rfl), rfl⟩
theorem tw_1034 : Cond.fieldLink RX12 41 "RodBeadsModel" "text" "[I" ∈ am_tb := List.mem_filter.mpr ⟨am_tk4 (List.mem_of_getElem? (i := 239) rfl), rfl⟩
theorem tw_1044 : Cond.fieldLink RX12 44 "RodBeadsModel" "readKind" "[I" ∈ am_tb := List.mem_filter.mpr ⟨am_tk5 (List.mem_of_getElem? (i := 9) rfl), rfl⟩
theorem tw_1045 : Cond.fieldLink RX12 47 "RodBeadsModel" "readBase" "[I" ∈ am_tb := List.mem_filter.mpr ⟨am_tk5 (List.mem_of_getElem? (i := 10) rfl), rfl⟩
theorem tw_1046 : Cond.fieldLink RX12 50 "RodBeadsModel" "readLow" "[I" ∈ am_tb := List.mem_filter.mpr ⟨am_tk5 (List.mem_of_getElem? (i := 11) rfl), rfl⟩
theorem tw_1047 : Cond.fieldLink RX12 53 "RodBeadsModel" "readHigh" "[I" ∈ am_tb := List.mem_filter.mpr ⟨am_tk5 (List.mem_of_getElem? (i := 12) rfl), rfl⟩
theorem tw_1051 : Cond.fieldLink RX12 56 "RodBeadsModel" "sums" "[J" ∈ am_tb := List.mem_filter.mpr ⟨am_tk5 (List.mem_of_getElem? (i := 16) rfl), rfl⟩
theorem tw_1052 : Cond.fieldLink RX12 59 "RodBeadsModel" "terms" "[J" ∈ am_tb := List.mem_filter.mpr ⟨am_tk5 (List.mem_of_getElem? (i := 17) rfl), rfl⟩
theorem tw_1053 : Cond.fieldLink RX12 62 "RodBeadsModel" "sumSigns" "[I" ∈ am_tb := List.mem_filter.mpr ⟨am_tk5 (List.mem_of_getElem? (i := 18) rfl), rfl⟩
theorem tw_1054 : Cond.fieldLink RX12 65 "RodBeadsModel" "termSigns" "[I" ∈ am_tb := List.mem_filter.mpr ⟨am_tk5 (List.mem_of_getElem? (i := 19) rfl), rfl⟩
theorem tw_1058 : Cond.fieldLink RX12 68 "RodBeadsModel" "undos" "[I" ∈ am_tb := List.mem_filter.mpr ⟨am_tk5 (List.mem_of_getElem? (i := 23) rfl), rfl⟩
theorem tw_1155 : Cond.arrayClass (newarray.typeOf .boolean) ∈ am_tb := List.mem_filter.mpr ⟨am_tk5 (List.mem_of_getElem? (i := 120) rfl), rfl⟩
theorem tw_1059 : Cond.fieldLink RX12 71 "RodBeadsModel" "isKept" "[Z" ∈ am_tb := List.mem_filter.mpr ⟨am_tk5 (List.mem_of_getElem? (i := 24) rfl), rfl⟩
theorem tw_1060 : Cond.fieldLink RX12 75 "RodBeadsModel" "kept" "[I" ∈ am_tb := List.mem_filter.mpr ⟨am_tk5 (List.mem_of_getElem? (i := 25) rfl), rfl⟩
theorem tw_1062 : Cond.fieldLink RX12 78 "RodBeadsModel" "seenRod" "[I" ∈ am_tb := List.mem_filter.mpr ⟨am_tk5 (List.mem_of_getElem? (i := 27) rfl), rfl⟩
theorem tw_1063 : Cond.fieldLink RX12 81 "RodBeadsModel" "seenShown" "[I" ∈ am_tb := List.mem_filter.mpr ⟨am_tk5 (List.mem_of_getElem? (i := 28) rfl), rfl⟩
theorem tw_1064 : Cond.fieldLink RX12 84 "RodBeadsModel" "seenTime" "[I" ∈ am_tb := List.mem_filter.mpr ⟨am_tk5 (List.mem_of_getElem? (i := 29) rfl), rfl⟩
theorem tw_1019 : Cond.code yX12_init cX12_init 1 none ∈ am_tb := List.mem_filter.mpr ⟨am_tk4 (List.mem_of_getElem? (i := 224) rfl), rfl⟩
theorem tw_83 : Cond.initialized RX12 ∈ am_tb := List.mem_filter.mpr ⟨am_tk1 (List.mem_of_getElem? (i := 8) rfl), rfl⟩
theorem tw_1186 : Cond.code yX12_in cX12_in 6 (some .boolean) ∈ am_tb := List.mem_filter.mpr ⟨am_tk5 (List.mem_of_getElem? (i := 151) rfl), rfl⟩
theorem tw_1192 : Cond.code yX12_has cX12_has 2 (some .boolean) ∈ am_tb := List.mem_filter.mpr ⟨am_tk5 (List.mem_of_getElem? (i := 157) rfl), rfl⟩
theorem tw_1453 : Cond.code yX12_bits cX12_bits 3 (some .int) ∈ am_tb := List.mem_filter.mpr ⟨am_tk6 (List.mem_of_getElem? (i := 178) rfl), rfl⟩
theorem tw_1334 : Cond.code yX12_apart cX12_apart 2 (some .int) ∈ am_tb := List.mem_filter.mpr ⟨am_tk6 (List.mem_of_getElem? (i := 59) rfl), rfl⟩
theorem tw_1021 : Cond.fieldLink RX12 87 "RodBeadsModel" "n" "I" ∈ am_tb := List.mem_filter.mpr ⟨am_tk4 (List.mem_of_getElem? (i := 226) rfl), rfl⟩
theorem tw_1184 : Cond.methodLink RX12 91 yX12_in ∈ am_tb := List.mem_filter.mpr ⟨am_tk5 (List.mem_of_getElem? (i := 149) rfl), rfl⟩
theorem tw_1185 : Cond.static yX12_in ∈ am_tb := List.mem_filter.mpr ⟨am_tk5 (List.mem_of_getElem? (i := 150) rfl), rfl⟩
theorem tw_1183 : Cond.code yX12_isRod cX12_isRod 2 (some .boolean) ∈ am_tb := List.mem_filter.mpr ⟨am_tk5 (List.mem_of_getElem? (i := 148) rfl), rfl⟩
theorem tw_1175 : Cond.code yX12_worthBy cX12_worthBy 3 (some .int) ∈ am_tb := List.mem_filter.mpr ⟨am_tk5 (List.mem_of_getElem? (i := 140) rfl), rfl⟩
theorem tw_1174 : Cond.instanceMethod yX12_worthBy ∈ am_tb := List.mem_filter.mpr ⟨am_tk5 (List.mem_of_getElem? (i := 139) rfl), rfl⟩
theorem tw_39 : Cond.selects RX12 yX12_worthBy yX12_worthBy ∈ am_tb := List.mem_filter.mpr ⟨List.mem_of_getElem? (i := 39) (by decide +kernel), rfl⟩
theorem tw_1172 : Cond.methodLink RX12 95 yX12_worthBy ∈ am_tb := List.mem_filter.mpr ⟨am_tk5 (List.mem_of_getElem? (i := 137) rfl), rfl⟩
theorem tw_1171 : Cond.code yX12_worth cX12_worth 2 (some .int) ∈ am_tb := List.mem_filter.mpr ⟨am_tk5 (List.mem_of_getElem? (i := 136) rfl), rfl⟩
theorem tw_1337 : Cond.code yX12_takes cX12_takes 2 (some .int) ∈ am_tb := List.mem_filter.mpr ⟨am_tk6 (List.mem_of_getElem? (i := 62) rfl), rfl⟩
theorem tw_1384 : Cond.code yX12_pushedOf cX12_pushedOf 3 (some .int) ∈ am_tb := List.mem_filter.mpr ⟨am_tk6 (List.mem_of_getElem? (i := 109) rfl), rfl⟩
theorem tw_1170 : Cond.instanceMethod yX12_worth ∈ am_tb := List.mem_filter.mpr ⟨am_tk5 (List.mem_of_getElem? (i := 135) rfl), rfl⟩
theorem tw_38 : Cond.selects RX12 yX12_worth yX12_worth ∈ am_tb := List.mem_filter.mpr ⟨List.mem_of_getElem? (i := 38) (by decide +kernel), rfl⟩
theorem tw_1168 : Cond.methodLink RX12 99 yX12_worth ∈ am_tb := List.mem_filter.mpr ⟨am_tk5 (List.mem_of_getElem? (i := 133) rfl), rfl⟩
theorem tw_1167 : Cond.code yX12_shows cX12_shows 3 (some .int) ∈ am_tb := List.mem_filter.mpr ⟨am_tk5 (List.mem_of_getElem? (i := 132) rfl), rfl⟩
theorem tw_1381 : Cond.code yX12_beads cX12_beads 3 (some .int) ∈ am_tb := List.mem_filter.mpr ⟨am_tk6 (List.mem_of_getElem? (i := 106) rfl), rfl⟩
theorem tw_1190 : Cond.methodLink RX12 103 yX12_has ∈ am_tb := List.mem_filter.mpr ⟨am_tk5 (List.mem_of_getElem? (i := 155) rfl), rfl⟩
theorem tw_1191 : Cond.static yX12_has ∈ am_tb := List.mem_filter.mpr ⟨am_tk5 (List.mem_of_getElem? (i := 156) rfl), rfl⟩
theorem tw_1189 : Cond.code yX12_isStuck cX12_isStuck 3 (some .boolean) ∈ am_tb := List.mem_filter.mpr ⟨am_tk5 (List.mem_of_getElem? (i := 154) rfl), rfl⟩
theorem tw_1187 : Cond.methodLink RX12 107 yX12_isStuck ∈ am_tb := List.mem_filter.mpr ⟨am_tk5 (List.mem_of_getElem? (i := 152) rfl), rfl⟩
theorem tw_1188 : Cond.static yX12_isStuck ∈ am_tb := List.mem_filter.mpr ⟨am_tk5 (List.mem_of_getElem? (i := 153) rfl), rfl⟩
theorem tw_1322 : Cond.code yX12_may cX12_may 5 (some .boolean) ∈ am_tb := List.mem_filter.mpr ⟨am_tk6 (List.mem_of_getElem? (i := 47) rfl), rfl⟩
theorem tw_1332 : Cond.methodLink RX12 111 yX12_apart ∈ am_tb := List.mem_filter.mpr ⟨am_tk6 (List.mem_of_getElem? (i := 57) rfl), rfl⟩
theorem tw_1333 : Cond.static yX12_apart ∈ am_tb := List.mem_filter.mpr ⟨am_tk6 (List.mem_of_getElem? (i := 58) rfl), rfl⟩
theorem tw_1335 : Cond.methodLink RX12 114 yX12_takes ∈ am_tb := List.mem_filter.mpr ⟨am_tk6 (List.mem_of_getElem? (i := 60) rfl), rfl⟩
theorem tw_1336 : Cond.static yX12_takes ∈ am_tb := List.mem_filter.mpr ⟨am_tk6 (List.mem_of_getElem? (i := 61) rfl), rfl⟩
theorem tw_1331 : Cond.code yX12_change cX12_change 5 (some .int) ∈ am_tb := List.mem_filter.mpr ⟨am_tk6 (List.mem_of_getElem? (i := 56) rfl), rfl⟩
theorem tw_1166 : Cond.instanceMethod yX12_shows ∈ am_tb := List.mem_filter.mpr ⟨am_tk5 (List.mem_of_getElem? (i := 131) rfl), rfl⟩
theorem tw_37 : Cond.selects RX12 yX12_shows yX12_shows ∈ am_tb := List.mem_filter.mpr ⟨List.mem_of_getElem? (i := 37) (by decide +kernel), rfl⟩
theorem tw_1164 : Cond.methodLink RX12 117 yX12_shows ∈ am_tb := List.mem_filter.mpr ⟨am_tk5 (List.mem_of_getElem? (i := 129) rfl), rfl⟩
theorem tw_1163 : Cond.code yX12_numberOf cX12_numberOf 5 (some .long) ∈ am_tb := List.mem_filter.mpr ⟨am_tk5 (List.mem_of_getElem? (i := 128) rfl), rfl⟩
theorem tw_1162 : Cond.instanceMethod yX12_numberOf ∈ am_tb := List.mem_filter.mpr ⟨am_tk5 (List.mem_of_getElem? (i := 127) rfl), rfl⟩
theorem tw_36 : Cond.selects RX12 yX12_numberOf yX12_numberOf ∈ am_tb := List.mem_filter.mpr ⟨List.mem_of_getElem? (i := 36) (by decide +kernel), rfl⟩
theorem tw_1160 : Cond.methodLink RX12 121 yX12_numberOf ∈ am_tb := List.mem_filter.mpr ⟨am_tk5 (List.mem_of_getElem? (i := 125) rfl), rfl⟩
theorem tw_1159 : Cond.code yX12_number cX12_number 1 (some .long) ∈ am_tb := List.mem_filter.mpr ⟨am_tk5 (List.mem_of_getElem? (i := 124) rfl), rfl⟩
theorem tw_1182 : Cond.instanceMethod yX12_isRod ∈ am_tb := List.mem_filter.mpr ⟨am_tk5 (List.mem_of_getElem? (i := 147) rfl), rfl⟩
theorem tw_40 : Cond.selects RX12 yX12_isRod yX12_isRod ∈ am_tb := List.mem_filter.mpr ⟨List.mem_of_getElem? (i := 40) (by decide +kernel), rfl⟩
theorem tw_1180 : Cond.methodLink RX12 125 yX12_isRod ∈ am_tb := List.mem_filter.mpr ⟨am_tk5 (List.mem_of_getElem? (i := 145) rfl), rfl⟩
theorem tw_1179 : Cond.code yX12_rod cX12_rod 3 (some .int) ∈ am_tb := List.mem_filter.mpr ⟨am_tk5 (List.mem_of_getElem? (i := 144) rfl), rfl⟩
theorem tw_1197 : Cond.constantLong RX12 129 (4) ∈ am_tb := List.mem_filter.mpr ⟨am_tk5 (List.mem_of_getElem? (i := 162) rfl), rfl⟩
theorem tw_1196 : Cond.code yX12_as cX12_as 5 (some .int) ∈ am_tb := List.mem_filter.mpr ⟨am_tk5 (List.mem_of_getElem? (i := 161) rfl), rfl⟩
theorem tw_1314 : Cond.code yX12_cell cX12_cell 2 (some .int) ∈ am_tb := List.mem_filter.mpr ⟨am_tk6 (List.mem_of_getElem? (i := 39) rfl), rfl⟩
theorem tw_1312 : Cond.methodLink RX12 131 yX12_cell ∈ am_tb := List.mem_filter.mpr ⟨am_tk6 (List.mem_of_getElem? (i := 37) rfl), rfl⟩
theorem tw_1313 : Cond.static yX12_cell ∈ am_tb := List.mem_filter.mpr ⟨am_tk6 (List.mem_of_getElem? (i := 38) rfl), rfl⟩
theorem tw_1315 : Cond.constant RX12 134 (1000000000) ∈ am_tb := List.mem_filter.mpr ⟨am_tk6 (List.mem_of_getElem? (i := 40) rfl), rfl⟩
theorem tw_1319 : Cond.code yX12_layCell cX12_layCell 12 none ∈ am_tb := List.mem_filter.mpr ⟨am_tk6 (List.mem_of_getElem? (i := 44) rfl), rfl⟩
theorem tw_1318 : Cond.instanceMethod yX12_layCell ∈ am_tb := List.mem_filter.mpr ⟨am_tk6 (List.mem_of_getElem? (i := 43) rfl), rfl⟩
theorem tw_61 : Cond.selects RX12 yX12_layCell yX12_layCell ∈ am_tb := List.mem_filter.mpr ⟨List.mem_of_getElem? (i := 61) (by decide +kernel), rfl⟩
theorem tw_1316 : Cond.methodLink RX12 135 yX12_layCell ∈ am_tb := List.mem_filter.mpr ⟨am_tk6 (List.mem_of_getElem? (i := 41) rfl), rfl⟩
theorem tw_1311 : Cond.code yX12_lay cX12_lay 7 none ∈ am_tb := List.mem_filter.mpr ⟨am_tk6 (List.mem_of_getElem? (i := 36) rfl), rfl⟩
theorem tw_1327 : Cond.constantLong RX12 139 (64) ∈ am_tb := List.mem_filter.mpr ⟨am_tk6 (List.mem_of_getElem? (i := 52) rfl), rfl⟩
theorem tw_1326 : Cond.code yX12_onward cX12_onward 8 (some .int) ∈ am_tb := List.mem_filter.mpr ⟨am_tk6 (List.mem_of_getElem? (i := 51) rfl), rfl⟩
theorem tw_1320 : Cond.methodLink RX12 141 yX12_may ∈ am_tb := List.mem_filter.mpr ⟨am_tk6 (List.mem_of_getElem? (i := 45) rfl), rfl⟩
theorem tw_1321 : Cond.static yX12_may ∈ am_tb := List.mem_filter.mpr ⟨am_tk6 (List.mem_of_getElem? (i := 46) rfl), rfl⟩
theorem tw_1325 : Cond.instanceMethod yX12_onward ∈ am_tb := List.mem_filter.mpr ⟨am_tk6 (List.mem_of_getElem? (i := 50) rfl), rfl⟩
theorem tw_62 : Cond.selects RX12 yX12_onward yX12_onward ∈ am_tb := List.mem_filter.mpr ⟨List.mem_of_getElem? (i := 62) (by decide +kernel), rfl⟩
theorem tw_1323 : Cond.methodLink RX12 145 yX12_onward ∈ am_tb := List.mem_filter.mpr ⟨am_tk6 (List.mem_of_getElem? (i := 48) rfl), rfl⟩
theorem tw_1330 : Cond.instanceMethod yX12_change ∈ am_tb := List.mem_filter.mpr ⟨am_tk6 (List.mem_of_getElem? (i := 55) rfl), rfl⟩
theorem tw_63 : Cond.selects RX12 yX12_change yX12_change ∈ am_tb := List.mem_filter.mpr ⟨List.mem_of_getElem? (i := 63) (by decide +kernel), rfl⟩
theorem tw_1328 : Cond.methodLink RX12 149 yX12_change ∈ am_tb := List.mem_filter.mpr ⟨am_tk6 (List.mem_of_getElem? (i := 53) rfl), rfl⟩
theorem tw_1307 : Cond.constantLong RX12 153 (1000000000) ∈ am_tb := List.mem_filter.mpr ⟨am_tk6 (List.mem_of_getElem? (i := 32) rfl), rfl⟩
theorem tw_1310 : Cond.instanceMethod yX12_lay ∈ am_tb := List.mem_filter.mpr ⟨am_tk6 (List.mem_of_getElem? (i := 35) rfl), rfl⟩
theorem tw_60 : Cond.selects RX12 yX12_lay yX12_lay ∈ am_tb := List.mem_filter.mpr ⟨List.mem_of_getElem? (i := 60) (by decide +kernel), rfl⟩
theorem tw_1308 : Cond.methodLink RX12 155 yX12_lay ∈ am_tb := List.mem_filter.mpr ⟨am_tk6 (List.mem_of_getElem? (i := 33) rfl), rfl⟩
theorem tw_1306 : Cond.code yX12_isShown cX12_isShown 5 (some .boolean) ∈ am_tb := List.mem_filter.mpr ⟨am_tk6 (List.mem_of_getElem? (i := 31) rfl), rfl⟩
theorem tw_1341 : Cond.code yX12_layDue cX12_layDue 11 none ∈ am_tb := List.mem_filter.mpr ⟨am_tk6 (List.mem_of_getElem? (i := 66) rfl), rfl⟩
theorem tw_1345 : Cond.constant RX12 159 (1000000) ∈ am_tb := List.mem_filter.mpr ⟨am_tk6 (List.mem_of_getElem? (i := 70) rfl), rfl⟩
theorem tw_1344 : Cond.code yX12_counted cX12_counted 1 (some .int) ∈ am_tb := List.mem_filter.mpr ⟨am_tk6 (List.mem_of_getElem? (i := 69) rfl), rfl⟩
theorem tw_1305 : Cond.instanceMethod yX12_isShown ∈ am_tb := List.mem_filter.mpr ⟨am_tk6 (List.mem_of_getElem? (i := 30) rfl), rfl⟩
theorem tw_59 : Cond.selects RX12 yX12_isShown yX12_isShown ∈ am_tb := List.mem_filter.mpr ⟨List.mem_of_getElem? (i := 59) (by decide +kernel), rfl⟩
theorem tw_1303 : Cond.methodLink RX12 160 yX12_isShown ∈ am_tb := List.mem_filter.mpr ⟨am_tk6 (List.mem_of_getElem? (i := 28) rfl), rfl⟩
theorem tw_1340 : Cond.instanceMethod yX12_layDue ∈ am_tb := List.mem_filter.mpr ⟨am_tk6 (List.mem_of_getElem? (i := 65) rfl), rfl⟩
theorem tw_64 : Cond.selects RX12 yX12_layDue yX12_layDue ∈ am_tb := List.mem_filter.mpr ⟨List.mem_of_getElem? (i := 64) (by decide +kernel), rfl⟩
theorem tw_1338 : Cond.methodLink RX12 164 yX12_layDue ∈ am_tb := List.mem_filter.mpr ⟨am_tk6 (List.mem_of_getElem? (i := 63) rfl), rfl⟩
theorem tw_1342 : Cond.methodLink RX12 168 yX12_counted ∈ am_tb := List.mem_filter.mpr ⟨am_tk6 (List.mem_of_getElem? (i := 67) rfl), rfl⟩
theorem tw_1343 : Cond.static yX12_counted ∈ am_tb := List.mem_filter.mpr ⟨am_tk6 (List.mem_of_getElem? (i := 68) rfl), rfl⟩
theorem tw_1302 : Cond.code yX12_sets cX12_sets 6 (some .int) ∈ am_tb := List.mem_filter.mpr ⟨am_tk6 (List.mem_of_getElem? (i := 27) rfl), rfl⟩
theorem tw_1357 : Cond.code yX12_alone cX12_alone 11 (some .int) ∈ am_tb := List.mem_filter.mpr ⟨am_tk6 (List.mem_of_getElem? (i := 82) rfl), rfl⟩
theorem tw_1356 : Cond.instanceMethod yX12_alone ∈ am_tb := List.mem_filter.mpr ⟨am_tk6 (List.mem_of_getElem? (i := 81) rfl), rfl⟩
theorem tw_67 : Cond.selects RX12 yX12_alone yX12_alone ∈ am_tb := List.mem_filter.mpr ⟨List.mem_of_getElem? (i := 67) (by decide +kernel), rfl⟩
theorem tw_1354 : Cond.methodLink RX12 171 yX12_alone ∈ am_tb := List.mem_filter.mpr ⟨am_tk6 (List.mem_of_getElem? (i := 79) rfl), rfl⟩
theorem tw_1353 : Cond.code yX12_carries cX12_carries 6 (some .int) ∈ am_tb := List.mem_filter.mpr ⟨am_tk6 (List.mem_of_getElem? (i := 78) rfl), rfl⟩
theorem tw_1349 : Cond.code yX12_clears cX12_clears 6 none ∈ am_tb := List.mem_filter.mpr ⟨am_tk6 (List.mem_of_getElem? (i := 74) rfl), rfl⟩
theorem tw_1202 : Cond.constantLong RX12 175 (255) ∈ am_tb := List.mem_filter.mpr ⟨am_tk5 (List.mem_of_getElem? (i := 167) rfl), rfl⟩
theorem tw_1033 : Cond.fieldLink RX12 177 "RodBeadsModel" "letterMany" "I" ∈ am_tb := List.mem_filter.mpr ⟨am_tk4 (List.mem_of_getElem? (i := 238) rfl), rfl⟩
theorem tw_1201 : Cond.code yX12_write cX12_write 2 (some .int) ∈ am_tb := List.mem_filter.mpr ⟨am_tk5 (List.mem_of_getElem? (i := 166) rfl), rfl⟩
theorem tw_1206 : Cond.code yX12_erase cX12_erase 2 (some .int) ∈ am_tb := List.mem_filter.mpr ⟨am_tk5 (List.mem_of_getElem? (i := 171) rfl), rfl⟩
theorem tw_1222 : Cond.code yX12_letterAt cX12_letterAt 2 (some .int) ∈ am_tb := List.mem_filter.mpr ⟨am_tk5 (List.mem_of_getElem? (i := 187) rfl), rfl⟩
theorem tw_1226 : Cond.constantLong RX12 180 (97) ∈ am_tb := List.mem_filter.mpr ⟨am_tk5 (List.mem_of_getElem? (i := 191) rfl), rfl⟩
theorem tw_1227 : Cond.constantLong RX12 182 (122) ∈ am_tb := List.mem_filter.mpr ⟨am_tk5 (List.mem_of_getElem? (i := 192) rfl), rfl⟩
theorem tw_1225 : Cond.code yX12_isSmall cX12_isSmall 1 (some .boolean) ∈ am_tb := List.mem_filter.mpr ⟨am_tk5 (List.mem_of_getElem? (i := 190) rfl), rfl⟩
theorem tw_1239 : Cond.constantLong RX12 184 (48) ∈ am_tb := List.mem_filter.mpr ⟨am_tk5 (List.mem_of_getElem? (i := 204) rfl), rfl⟩
theorem tw_1240 : Cond.constantLong RX12 186 (57) ∈ am_tb := List.mem_filter.mpr ⟨am_tk5 (List.mem_of_getElem? (i := 205) rfl), rfl⟩
theorem tw_1238 : Cond.code yX12_isFigure cX12_isFigure 1 (some .boolean) ∈ am_tb := List.mem_filter.mpr ⟨am_tk5 (List.mem_of_getElem? (i := 203) rfl), rfl⟩
theorem tw_1035 : Cond.fieldLink RX12 188 "RodBeadsModel" "readAt" "I" ∈ am_tb := List.mem_filter.mpr ⟨am_tk5 (List.mem_of_getElem? (i := 0) rfl), rfl⟩
theorem tw_1221 : Cond.instanceMethod yX12_letterAt ∈ am_tb := List.mem_filter.mpr ⟨am_tk5 (List.mem_of_getElem? (i := 186) rfl), rfl⟩
theorem tw_43 : Cond.selects RX12 yX12_letterAt yX12_letterAt ∈ am_tb := List.mem_filter.mpr ⟨List.mem_of_getElem? (i := 43) (by decide +kernel), rfl⟩
theorem tw_1219 : Cond.methodLink RX12 191 yX12_letterAt ∈ am_tb := List.mem_filter.mpr ⟨am_tk5 (List.mem_of_getElem? (i := 184) rfl), rfl⟩
theorem tw_1036 : Cond.fieldLink RX12 194 "RodBeadsModel" "tokenAt" "I" ∈ am_tb := List.mem_filter.mpr ⟨am_tk5 (List.mem_of_getElem? (i := 1) rfl), rfl⟩
theorem tw_1037 : Cond.fieldLink RX12 197 "RodBeadsModel" "token" "I" ∈ am_tb := List.mem_filter.mpr ⟨am_tk5 (List.mem_of_getElem? (i := 2) rfl), rfl⟩
theorem tw_1223 : Cond.methodLink RX12 200 yX12_isSmall ∈ am_tb := List.mem_filter.mpr ⟨am_tk5 (List.mem_of_getElem? (i := 188) rfl), rfl⟩
theorem tw_1224 : Cond.static yX12_isSmall ∈ am_tb := List.mem_filter.mpr ⟨am_tk5 (List.mem_of_getElem? (i := 189) rfl), rfl⟩
theorem tw_1231 : Cond.code yX12_wordOf cX12_wordOf 6 (some .int) ∈ am_tb := List.mem_filter.mpr ⟨am_tk5 (List.mem_of_getElem? (i := 196) rfl), rfl⟩
theorem tw_1230 : Cond.instanceMethod yX12_wordOf ∈ am_tb := List.mem_filter.mpr ⟨am_tk5 (List.mem_of_getElem? (i := 195) rfl), rfl⟩
theorem tw_44 : Cond.selects RX12 yX12_wordOf yX12_wordOf ∈ am_tb := List.mem_filter.mpr ⟨List.mem_of_getElem? (i := 44) (by decide +kernel), rfl⟩
theorem tw_1228 : Cond.methodLink RX12 203 yX12_wordOf ∈ am_tb := List.mem_filter.mpr ⟨am_tk5 (List.mem_of_getElem? (i := 193) rfl), rfl⟩
theorem tw_1040 : Cond.fieldLink RX12 206 "RodBeadsModel" "word" "I" ∈ am_tb := List.mem_filter.mpr ⟨am_tk5 (List.mem_of_getElem? (i := 5) rfl), rfl⟩
theorem tw_1236 : Cond.methodLink RX12 209 yX12_isFigure ∈ am_tb := List.mem_filter.mpr ⟨am_tk5 (List.mem_of_getElem? (i := 201) rfl), rfl⟩
theorem tw_1237 : Cond.static yX12_isFigure ∈ am_tb := List.mem_filter.mpr ⟨am_tk5 (List.mem_of_getElem? (i := 202) rfl), rfl⟩
theorem tw_1244 : Cond.code yX12_readsNumber cX12_readsNumber 1 none ∈ am_tb := List.mem_filter.mpr ⟨am_tk5 (List.mem_of_getElem? (i := 209) rfl), rfl⟩
theorem tw_1243 : Cond.instanceMethod yX12_readsNumber ∈ am_tb := List.mem_filter.mpr ⟨am_tk5 (List.mem_of_getElem? (i := 208) rfl), rfl⟩
theorem tw_45 : Cond.selects RX12 yX12_readsNumber yX12_readsNumber ∈ am_tb := List.mem_filter.mpr ⟨List.mem_of_getElem? (i := 45) (by decide +kernel), rfl⟩
theorem tw_1241 : Cond.methodLink RX12 212 yX12_readsNumber ∈ am_tb := List.mem_filter.mpr ⟨am_tk5 (List.mem_of_getElem? (i := 206) rfl), rfl⟩
theorem tw_1218 : Cond.code yX12_reads cX12_reads 2 none ∈ am_tb := List.mem_filter.mpr ⟨am_tk5 (List.mem_of_getElem? (i := 183) rfl), rfl⟩
theorem tw_1039 : Cond.fieldLink RX12 215 "RodBeadsModel" "value" "J" ∈ am_tb := List.mem_filter.mpr ⟨am_tk5 (List.mem_of_getElem? (i := 4) rfl), rfl⟩
theorem tw_1038 : Cond.fieldLink RX12 219 "RodBeadsModel" "digits" "I" ∈ am_tb := List.mem_filter.mpr ⟨am_tk5 (List.mem_of_getElem? (i := 3) rfl), rfl⟩
theorem tw_1245 : Cond.constantLong RX12 222 (10) ∈ am_tb := List.mem_filter.mpr ⟨am_tk5 (List.mem_of_getElem? (i := 210) rfl), rfl⟩
theorem tw_1232 : Cond.constantLong RX12 224 (256) ∈ am_tb := List.mem_filter.mpr ⟨am_tk5 (List.mem_of_getElem? (i := 197) rfl), rfl⟩
theorem tw_1235 : Cond.code yX12_code cX12_code 5 (some .long) ∈ am_tb := List.mem_filter.mpr ⟨am_tk5 (List.mem_of_getElem? (i := 200) rfl), rfl⟩
theorem tw_1233 : Cond.methodLink RX12 226 yX12_code ∈ am_tb := List.mem_filter.mpr ⟨am_tk5 (List.mem_of_getElem? (i := 198) rfl), rfl⟩
theorem tw_1234 : Cond.static yX12_code ∈ am_tb := List.mem_filter.mpr ⟨am_tk5 (List.mem_of_getElem? (i := 199) rfl), rfl⟩
theorem tw_1217 : Cond.instanceMethod yX12_reads ∈ am_tb := List.mem_filter.mpr ⟨am_tk5 (List.mem_of_getElem? (i := 182) rfl), rfl⟩
theorem tw_42 : Cond.selects RX12 yX12_reads yX12_reads ∈ am_tb := List.mem_filter.mpr ⟨List.mem_of_getElem? (i := 42) (by decide +kernel), rfl⟩
theorem tw_1215 : Cond.methodLink RX12 230 yX12_reads ∈ am_tb := List.mem_filter.mpr ⟨am_tk5 (List.mem_of_getElem? (i := 180) rfl), rfl⟩
theorem tw_1257 : Cond.code yX12_numbered cX12_numbered 3 (some .boolean) ∈ am_tb := List.mem_filter.mpr ⟨am_tk5 (List.mem_of_getElem? (i := 222) rfl), rfl⟩
theorem tw_1041 : Cond.fieldLink RX12 233 "RodBeadsModel" "readMany" "I" ∈ am_tb := List.mem_filter.mpr ⟨am_tk5 (List.mem_of_getElem? (i := 6) rfl), rfl⟩
theorem tw_1256 : Cond.instanceMethod yX12_numbered ∈ am_tb := List.mem_filter.mpr ⟨am_tk5 (List.mem_of_getElem? (i := 221) rfl), rfl⟩
theorem tw_48 : Cond.selects RX12 yX12_numbered yX12_numbered ∈ am_tb := List.mem_filter.mpr ⟨List.mem_of_getElem? (i := 48) (by decide +kernel), rfl⟩
theorem tw_1254 : Cond.methodLink RX12 236 yX12_numbered ∈ am_tb := List.mem_filter.mpr ⟨am_tk5 (List.mem_of_getElem? (i := 219) rfl), rfl⟩
theorem tw_1253 : Cond.code yX12_readsRod cX12_readsRod 3 (some .boolean) ∈ am_tb := List.mem_filter.mpr ⟨am_tk5 (List.mem_of_getElem? (i := 218) rfl), rfl⟩
theorem tw_1042 : Cond.fieldLink RX12 239 "RodBeadsModel" "readStuck" "I" ∈ am_tb := List.mem_filter.mpr ⟨am_tk5 (List.mem_of_getElem? (i := 7) rfl), rfl⟩
theorem tw_1261 : Cond.code yX12_readsStuck cX12_readsStuck 2 (some .boolean) ∈ am_tb := List.mem_filter.mpr ⟨am_tk5 (List.mem_of_getElem? (i := 226) rfl), rfl⟩
theorem tw_1252 : Cond.instanceMethod yX12_readsRod ∈ am_tb := List.mem_filter.mpr ⟨am_tk5 (List.mem_of_getElem? (i := 217) rfl), rfl⟩
theorem tw_47 : Cond.selects RX12 yX12_readsRod yX12_readsRod ∈ am_tb := List.mem_filter.mpr ⟨List.mem_of_getElem? (i := 47) (by decide +kernel), rfl⟩
theorem tw_1250 : Cond.methodLink RX12 242 yX12_readsRod ∈ am_tb := List.mem_filter.mpr ⟨am_tk5 (List.mem_of_getElem? (i := 215) rfl), rfl⟩
theorem tw_1260 : Cond.instanceMethod yX12_readsStuck ∈ am_tb := List.mem_filter.mpr ⟨am_tk5 (List.mem_of_getElem? (i := 225) rfl), rfl⟩
theorem tw_49 : Cond.selects RX12 yX12_readsStuck yX12_readsStuck ∈ am_tb := List.mem_filter.mpr ⟨List.mem_of_getElem? (i := 49) (by decide +kernel), rfl⟩
theorem tw_1258 : Cond.methodLink RX12 245 yX12_readsStuck ∈ am_tb := List.mem_filter.mpr ⟨am_tk5 (List.mem_of_getElem? (i := 223) rfl), rfl⟩
theorem tw_1249 : Cond.code yX12_readsClause cX12_readsClause 1 (some .boolean) ∈ am_tb := List.mem_filter.mpr ⟨am_tk5 (List.mem_of_getElem? (i := 214) rfl), rfl⟩
theorem tw_1043 : Cond.fieldLink RX12 249 "RodBeadsModel" "clauses" "I" ∈ am_tb := List.mem_filter.mpr ⟨am_tk5 (List.mem_of_getElem? (i := 8) rfl), rfl⟩
theorem tw_1028 : Cond.fieldLink RX12 252 "RodBeadsModel" "told" "I" ∈ am_tb := List.mem_filter.mpr ⟨am_tk4 (List.mem_of_getElem? (i := 233) rfl), rfl⟩
theorem tw_1248 : Cond.instanceMethod yX12_readsClause ∈ am_tb := List.mem_filter.mpr ⟨am_tk5 (List.mem_of_getElem? (i := 213) rfl), rfl⟩
theorem tw_46 : Cond.selects RX12 yX12_readsClause yX12_readsClause ∈ am_tb := List.mem_filter.mpr ⟨List.mem_of_getElem? (i := 46) (by decide +kernel), rfl⟩
theorem tw_1246 : Cond.methodLink RX12 255 yX12_readsClause ∈ am_tb := List.mem_filter.mpr ⟨am_tk5 (List.mem_of_getElem? (i := 211) rfl), rfl⟩
theorem tw_1214 : Cond.code yX12_readsFrame cX12_readsFrame 2 (some .boolean) ∈ am_tb := List.mem_filter.mpr ⟨am_tk5 (List.mem_of_getElem? (i := 179) rfl), rfl⟩
theorem tw_1049 : Cond.fieldLink RX12 258 "RodBeadsModel" "isTrouble" "Z" ∈ am_tb := List.mem_filter.mpr ⟨am_tk5 (List.mem_of_getElem? (i := 14) rfl), rfl⟩
theorem tw_1294 : Cond.constantLong RX12 262 (-1000000000000) ∈ am_tb := List.mem_filter.mpr ⟨am_tk6 (List.mem_of_getElem? (i := 19) rfl), rfl⟩
theorem tw_1289 : Cond.constantLong RX12 264 (1000000000000) ∈ am_tb := List.mem_filter.mpr ⟨am_tk6 (List.mem_of_getElem? (i := 14) rfl), rfl⟩
theorem tw_1293 : Cond.code yX12_bounded cX12_bounded 3 (some .long) ∈ am_tb := List.mem_filter.mpr ⟨am_tk6 (List.mem_of_getElem? (i := 18) rfl), rfl⟩
theorem tw_1288 : Cond.code yX12_size cX12_size 2 (some .long) ∈ am_tb := List.mem_filter.mpr ⟨am_tk6 (List.mem_of_getElem? (i := 13) rfl), rfl⟩
theorem tw_1286 : Cond.methodLink RX12 266 yX12_size ∈ am_tb := List.mem_filter.mpr ⟨am_tk6 (List.mem_of_getElem? (i := 11) rfl), rfl⟩
theorem tw_1287 : Cond.static yX12_size ∈ am_tb := List.mem_filter.mpr ⟨am_tk6 (List.mem_of_getElem? (i := 12) rfl), rfl⟩
theorem tw_1285 : Cond.code yX12_product cX12_product 5 (some .long) ∈ am_tb := List.mem_filter.mpr ⟨am_tk6 (List.mem_of_getElem? (i := 10) rfl), rfl⟩
theorem tw_1050 : Cond.fieldLink RX12 270 "RodBeadsModel" "depth" "I" ∈ am_tb := List.mem_filter.mpr ⟨am_tk5 (List.mem_of_getElem? (i := 15) rfl), rfl⟩
theorem tw_1277 : Cond.code yX12_opens cX12_opens 1 none ∈ am_tb := List.mem_filter.mpr ⟨am_tk6 (List.mem_of_getElem? (i := 2) rfl), rfl⟩
theorem tw_1048 : Cond.fieldLink RX12 273 "RodBeadsModel" "isDoing" "Z" ∈ am_tb := List.mem_filter.mpr ⟨am_tk5 (List.mem_of_getElem? (i := 13) rfl), rfl⟩
theorem tw_1284 : Cond.instanceMethod yX12_product ∈ am_tb := List.mem_filter.mpr ⟨am_tk6 (List.mem_of_getElem? (i := 9) rfl), rfl⟩
theorem tw_55 : Cond.selects RX12 yX12_product yX12_product ∈ am_tb := List.mem_filter.mpr ⟨List.mem_of_getElem? (i := 55) (by decide +kernel), rfl⟩
theorem tw_1282 : Cond.methodLink RX12 276 yX12_product ∈ am_tb := List.mem_filter.mpr ⟨am_tk6 (List.mem_of_getElem? (i := 7) rfl), rfl⟩
theorem tw_1292 : Cond.instanceMethod yX12_bounded ∈ am_tb := List.mem_filter.mpr ⟨am_tk6 (List.mem_of_getElem? (i := 17) rfl), rfl⟩
theorem tw_56 : Cond.selects RX12 yX12_bounded yX12_bounded ∈ am_tb := List.mem_filter.mpr ⟨List.mem_of_getElem? (i := 56) (by decide +kernel), rfl⟩
theorem tw_1290 : Cond.methodLink RX12 280 yX12_bounded ∈ am_tb := List.mem_filter.mpr ⟨am_tk6 (List.mem_of_getElem? (i := 15) rfl), rfl⟩
theorem tw_1281 : Cond.code yX12_part cX12_part 5 none ∈ am_tb := List.mem_filter.mpr ⟨am_tk6 (List.mem_of_getElem? (i := 6) rfl), rfl⟩
theorem tw_1298 : Cond.code yX12_closesTerm cX12_closesTerm 1 none ∈ am_tb := List.mem_filter.mpr ⟨am_tk6 (List.mem_of_getElem? (i := 23) rfl), rfl⟩
theorem tw_1276 : Cond.instanceMethod yX12_opens ∈ am_tb := List.mem_filter.mpr ⟨am_tk6 (List.mem_of_getElem? (i := 1) rfl), rfl⟩
theorem tw_53 : Cond.selects RX12 yX12_opens yX12_opens ∈ am_tb := List.mem_filter.mpr ⟨List.mem_of_getElem? (i := 53) (by decide +kernel), rfl⟩
theorem tw_1274 : Cond.methodLink RX12 283 yX12_opens ∈ am_tb := List.mem_filter.mpr ⟨am_tk5 (List.mem_of_getElem? (i := 239) rfl), rfl⟩
theorem tw_1280 : Cond.instanceMethod yX12_part ∈ am_tb := List.mem_filter.mpr ⟨am_tk6 (List.mem_of_getElem? (i := 5) rfl), rfl⟩
theorem tw_54 : Cond.selects RX12 yX12_part yX12_part ∈ am_tb := List.mem_filter.mpr ⟨List.mem_of_getElem? (i := 54) (by decide +kernel), rfl⟩
theorem tw_1278 : Cond.methodLink RX12 286 yX12_part ∈ am_tb := List.mem_filter.mpr ⟨am_tk6 (List.mem_of_getElem? (i := 3) rfl), rfl⟩
theorem tw_1297 : Cond.instanceMethod yX12_closesTerm ∈ am_tb := List.mem_filter.mpr ⟨am_tk6 (List.mem_of_getElem? (i := 22) rfl), rfl⟩
theorem tw_57 : Cond.selects RX12 yX12_closesTerm yX12_closesTerm ∈ am_tb := List.mem_filter.mpr ⟨List.mem_of_getElem? (i := 57) (by decide +kernel), rfl⟩
theorem tw_1295 : Cond.methodLink RX12 290 yX12_closesTerm ∈ am_tb := List.mem_filter.mpr ⟨am_tk6 (List.mem_of_getElem? (i := 20) rfl), rfl⟩
theorem tw_1055 : Cond.fieldLink RX12 293 "RodBeadsModel" "answer" "J" ∈ am_tb := List.mem_filter.mpr ⟨am_tk5 (List.mem_of_getElem? (i := 20) rfl), rfl⟩
theorem tw_1273 : Cond.code yX12_readsExpr cX12_readsExpr 2 (some .boolean) ∈ am_tb := List.mem_filter.mpr ⟨am_tk5 (List.mem_of_getElem? (i := 238) rfl), rfl⟩
theorem tw_1272 : Cond.instanceMethod yX12_readsExpr ∈ am_tb := List.mem_filter.mpr ⟨am_tk5 (List.mem_of_getElem? (i := 237) rfl), rfl⟩
theorem tw_52 : Cond.selects RX12 yX12_readsExpr yX12_readsExpr ∈ am_tb := List.mem_filter.mpr ⟨List.mem_of_getElem? (i := 52) (by decide +kernel), rfl⟩
theorem tw_1270 : Cond.methodLink RX12 296 yX12_readsExpr ∈ am_tb := List.mem_filter.mpr ⟨am_tk5 (List.mem_of_getElem? (i := 235) rfl), rfl⟩
theorem tw_1301 : Cond.instanceMethod yX12_sets ∈ am_tb := List.mem_filter.mpr ⟨am_tk6 (List.mem_of_getElem? (i := 26) rfl), rfl⟩
theorem tw_58 : Cond.selects RX12 yX12_sets yX12_sets ∈ am_tb := List.mem_filter.mpr ⟨List.mem_of_getElem? (i := 58) (by decide +kernel), rfl⟩
theorem tw_1299 : Cond.methodLink RX12 300 yX12_sets ∈ am_tb := List.mem_filter.mpr ⟨am_tk6 (List.mem_of_getElem? (i := 24) rfl), rfl⟩
theorem tw_1348 : Cond.instanceMethod yX12_clears ∈ am_tb := List.mem_filter.mpr ⟨am_tk6 (List.mem_of_getElem? (i := 73) rfl), rfl⟩
theorem tw_65 : Cond.selects RX12 yX12_clears yX12_clears ∈ am_tb := List.mem_filter.mpr ⟨List.mem_of_getElem? (i := 65) (by decide +kernel), rfl⟩
theorem tw_1346 : Cond.methodLink RX12 304 yX12_clears ∈ am_tb := List.mem_filter.mpr ⟨am_tk6 (List.mem_of_getElem? (i := 71) rfl), rfl⟩
theorem tw_1352 : Cond.instanceMethod yX12_carries ∈ am_tb := List.mem_filter.mpr ⟨am_tk6 (List.mem_of_getElem? (i := 77) rfl), rfl⟩
theorem tw_66 : Cond.selects RX12 yX12_carries yX12_carries ∈ am_tb := List.mem_filter.mpr ⟨List.mem_of_getElem? (i := 66) (by decide +kernel), rfl⟩
theorem tw_1350 : Cond.methodLink RX12 308 yX12_carries ∈ am_tb := List.mem_filter.mpr ⟨am_tk6 (List.mem_of_getElem? (i := 75) rfl), rfl⟩
theorem tw_1269 : Cond.code yX12_readsStatement cX12_readsStatement 5 (some .boolean) ∈ am_tb := List.mem_filter.mpr ⟨am_tk5 (List.mem_of_getElem? (i := 234) rfl), rfl⟩
theorem tw_1268 : Cond.instanceMethod yX12_readsStatement ∈ am_tb := List.mem_filter.mpr ⟨am_tk5 (List.mem_of_getElem? (i := 233) rfl), rfl⟩
theorem tw_51 : Cond.selects RX12 yX12_readsStatement yX12_readsStatement ∈ am_tb := List.mem_filter.mpr ⟨List.mem_of_getElem? (i := 51) (by decide +kernel), rfl⟩
theorem tw_1266 : Cond.methodLink RX12 311 yX12_readsStatement ∈ am_tb := List.mem_filter.mpr ⟨am_tk5 (List.mem_of_getElem? (i := 231) rfl), rfl⟩
theorem tw_1265 : Cond.code yX12_readsSums cX12_readsSums 4 (some .boolean) ∈ am_tb := List.mem_filter.mpr ⟨am_tk5 (List.mem_of_getElem? (i := 230) rfl), rfl⟩
theorem tw_1213 : Cond.instanceMethod yX12_readsFrame ∈ am_tb := List.mem_filter.mpr ⟨am_tk5 (List.mem_of_getElem? (i := 178) rfl), rfl⟩
theorem tw_41 : Cond.selects RX12 yX12_readsFrame yX12_readsFrame ∈ am_tb := List.mem_filter.mpr ⟨List.mem_of_getElem? (i := 41) (by decide +kernel), rfl⟩
theorem tw_1211 : Cond.methodLink RX12 314 yX12_readsFrame ∈ am_tb := List.mem_filter.mpr ⟨am_tk5 (List.mem_of_getElem? (i := 176) rfl), rfl⟩
theorem tw_1264 : Cond.instanceMethod yX12_readsSums ∈ am_tb := List.mem_filter.mpr ⟨am_tk5 (List.mem_of_getElem? (i := 229) rfl), rfl⟩
theorem tw_50 : Cond.selects RX12 yX12_readsSums yX12_readsSums ∈ am_tb := List.mem_filter.mpr ⟨List.mem_of_getElem? (i := 50) (by decide +kernel), rfl⟩
theorem tw_1262 : Cond.methodLink RX12 317 yX12_readsSums ∈ am_tb := List.mem_filter.mpr ⟨am_tk5 (List.mem_of_getElem? (i := 227) rfl), rfl⟩
theorem tw_1210 : Cond.code yX12_fault cX12_fault 3 (some .int) ∈ am_tb := List.mem_filter.mpr ⟨am_tk5 (List.mem_of_getElem? (i := 175) rfl), rfl⟩
theorem tw_1061 : Cond.fieldLink RX12 321 "RodBeadsModel" "seenMany" "I" ∈ am_tb := List.mem_filter.mpr ⟨am_tk5 (List.mem_of_getElem? (i := 26) rfl), rfl⟩
theorem tw_1056 : Cond.fieldLink RX12 324 "RodBeadsModel" "undoMany" "I" ∈ am_tb := List.mem_filter.mpr ⟨am_tk5 (List.mem_of_getElem? (i := 21) rfl), rfl⟩
theorem tw_1361 : Cond.code yX12_frame cX12_frame 2 (some .int) ∈ am_tb := List.mem_filter.mpr ⟨am_tk6 (List.mem_of_getElem? (i := 86) rfl), rfl⟩
theorem tw_1369 : Cond.code yX12_remember cX12_remember 2 none ∈ am_tb := List.mem_filter.mpr ⟨am_tk6 (List.mem_of_getElem? (i := 94) rfl), rfl⟩
theorem tw_1368 : Cond.instanceMethod yX12_remember ∈ am_tb := List.mem_filter.mpr ⟨am_tk6 (List.mem_of_getElem? (i := 93) rfl), rfl⟩
theorem tw_68 : Cond.selects RX12 yX12_remember yX12_remember ∈ am_tb := List.mem_filter.mpr ⟨List.mem_of_getElem? (i := 68) (by decide +kernel), rfl⟩
theorem tw_1366 : Cond.methodLink RX12 327 yX12_remember ∈ am_tb := List.mem_filter.mpr ⟨am_tk6 (List.mem_of_getElem? (i := 91) rfl), rfl⟩
theorem tw_1365 : Cond.code yX12_run cX12_run 1 (some .int) ∈ am_tb := List.mem_filter.mpr ⟨am_tk6 (List.mem_of_getElem? (i := 90) rfl), rfl⟩
theorem tw_1057 : Cond.fieldLink RX12 330 "RodBeadsModel" "undoAt" "I" ∈ am_tb := List.mem_filter.mpr ⟨am_tk5 (List.mem_of_getElem? (i := 22) rfl), rfl⟩
theorem tw_1377 : Cond.code yX12_isPart cX12_isPart 3 (some .boolean) ∈ am_tb := List.mem_filter.mpr ⟨am_tk6 (List.mem_of_getElem? (i := 102) rfl), rfl⟩
theorem tw_1376 : Cond.instanceMethod yX12_isPart ∈ am_tb := List.mem_filter.mpr ⟨am_tk6 (List.mem_of_getElem? (i := 101) rfl), rfl⟩
theorem tw_69 : Cond.selects RX12 yX12_isPart yX12_isPart ∈ am_tb := List.mem_filter.mpr ⟨List.mem_of_getElem? (i := 69) (by decide +kernel), rfl⟩
theorem tw_1374 : Cond.methodLink RX12 333 yX12_isPart ∈ am_tb := List.mem_filter.mpr ⟨am_tk6 (List.mem_of_getElem? (i := 99) rfl), rfl⟩
theorem tw_1380 : Cond.instanceMethod yX12_beads ∈ am_tb := List.mem_filter.mpr ⟨am_tk6 (List.mem_of_getElem? (i := 105) rfl), rfl⟩
theorem tw_70 : Cond.selects RX12 yX12_beads yX12_beads ∈ am_tb := List.mem_filter.mpr ⟨List.mem_of_getElem? (i := 70) (by decide +kernel), rfl⟩
theorem tw_1378 : Cond.methodLink RX12 336 yX12_beads ∈ am_tb := List.mem_filter.mpr ⟨am_tk6 (List.mem_of_getElem? (i := 103) rfl), rfl⟩
theorem tw_1382 : Cond.methodLink RX12 339 yX12_pushedOf ∈ am_tb := List.mem_filter.mpr ⟨am_tk6 (List.mem_of_getElem? (i := 107) rfl), rfl⟩
theorem tw_1383 : Cond.static yX12_pushedOf ∈ am_tb := List.mem_filter.mpr ⟨am_tk6 (List.mem_of_getElem? (i := 108) rfl), rfl⟩
theorem tw_1373 : Cond.code yX12_push cX12_push 5 (some .int) ∈ am_tb := List.mem_filter.mpr ⟨am_tk6 (List.mem_of_getElem? (i := 98) rfl), rfl⟩
theorem tw_1388 : Cond.code yX12_stick cX12_stick 3 (some .int) ∈ am_tb := List.mem_filter.mpr ⟨am_tk6 (List.mem_of_getElem? (i := 113) rfl), rfl⟩
theorem tw_1395 : Cond.code yX12_isNumber cX12_isNumber 1 (some .boolean) ∈ am_tb := List.mem_filter.mpr ⟨am_tk6 (List.mem_of_getElem? (i := 120) rfl), rfl⟩
theorem tw_1393 : Cond.methodLink RX12 342 yX12_isNumber ∈ am_tb := List.mem_filter.mpr ⟨am_tk6 (List.mem_of_getElem? (i := 118) rfl), rfl⟩
theorem tw_1394 : Cond.static yX12_isNumber ∈ am_tb := List.mem_filter.mpr ⟨am_tk6 (List.mem_of_getElem? (i := 119) rfl), rfl⟩
theorem tw_1392 : Cond.code yX12_set cX12_set 2 (some .int) ∈ am_tb := List.mem_filter.mpr ⟨am_tk6 (List.mem_of_getElem? (i := 117) rfl), rfl⟩
theorem tw_1403 : Cond.code yX12_copyNow cX12_copyNow 2 none ∈ am_tb := List.mem_filter.mpr ⟨am_tk6 (List.mem_of_getElem? (i := 128) rfl), rfl⟩
theorem tw_1402 : Cond.instanceMethod yX12_copyNow ∈ am_tb := List.mem_filter.mpr ⟨am_tk6 (List.mem_of_getElem? (i := 127) rfl), rfl⟩
theorem tw_71 : Cond.selects RX12 yX12_copyNow yX12_copyNow ∈ am_tb := List.mem_filter.mpr ⟨List.mem_of_getElem? (i := 71) (by decide +kernel), rfl⟩
theorem tw_1400 : Cond.methodLink RX12 345 yX12_copyNow ∈ am_tb := List.mem_filter.mpr ⟨am_tk6 (List.mem_of_getElem? (i := 125) rfl), rfl⟩
theorem tw_1399 : Cond.code yX12_carry cX12_carry 2 (some .int) ∈ am_tb := List.mem_filter.mpr ⟨am_tk6 (List.mem_of_getElem? (i := 124) rfl), rfl⟩
theorem tw_1407 : Cond.code yX12_undo cX12_undo 2 (some .int) ∈ am_tb := List.mem_filter.mpr ⟨am_tk6 (List.mem_of_getElem? (i := 132) rfl), rfl⟩
theorem tw_1415 : Cond.code yX12_allPushed cX12_allPushed 3 (some .int) ∈ am_tb := List.mem_filter.mpr ⟨am_tk6 (List.mem_of_getElem? (i := 140) rfl), rfl⟩
theorem tw_1414 : Cond.instanceMethod yX12_allPushed ∈ am_tb := List.mem_filter.mpr ⟨am_tk6 (List.mem_of_getElem? (i := 139) rfl), rfl⟩
theorem tw_72 : Cond.selects RX12 yX12_allPushed yX12_allPushed ∈ am_tb := List.mem_filter.mpr ⟨List.mem_of_getElem? (i := 72) (by decide +kernel), rfl⟩
theorem tw_1412 : Cond.methodLink RX12 348 yX12_allPushed ∈ am_tb := List.mem_filter.mpr ⟨am_tk6 (List.mem_of_getElem? (i := 137) rfl), rfl⟩
theorem tw_1411 : Cond.code yX12_keep cX12_keep 3 (some .int) ∈ am_tb := List.mem_filter.mpr ⟨am_tk6 (List.mem_of_getElem? (i := 136) rfl), rfl⟩
theorem tw_1419 : Cond.code yX12_back cX12_back 3 (some .int) ∈ am_tb := List.mem_filter.mpr ⟨am_tk6 (List.mem_of_getElem? (i := 144) rfl), rfl⟩
theorem tw_1423 : Cond.code yX12_ways cX12_ways 2 (some .int) ∈ am_tb := List.mem_filter.mpr ⟨am_tk6 (List.mem_of_getElem? (i := 148) rfl), rfl⟩
theorem tw_1427 : Cond.code yX12_time cX12_time 2 (some .int) ∈ am_tb := List.mem_filter.mpr ⟨am_tk6 (List.mem_of_getElem? (i := 152) rfl), rfl⟩
theorem tw_1431 : Cond.code yX12_pushed cX12_pushed 4 (some .int) ∈ am_tb := List.mem_filter.mpr ⟨am_tk6 (List.mem_of_getElem? (i := 156) rfl), rfl⟩
theorem tw_1441 : Cond.code yX12_edge cX12_edge 7 (some .long) ∈ am_tb := List.mem_filter.mpr ⟨am_tk6 (List.mem_of_getElem? (i := 166) rfl), rfl⟩
theorem tw_1436 : Cond.constantLong RX12 352 (2) ∈ am_tb := List.mem_filter.mpr ⟨am_tk6 (List.mem_of_getElem? (i := 161) rfl), rfl⟩
theorem tw_1437 : Cond.constantLong RX12 354 (-3) ∈ am_tb := List.mem_filter.mpr ⟨am_tk6 (List.mem_of_getElem? (i := 162) rfl), rfl⟩
theorem tw_1440 : Cond.instanceMethod yX12_edge ∈ am_tb := List.mem_filter.mpr ⟨am_tk6 (List.mem_of_getElem? (i := 165) rfl), rfl⟩
theorem tw_73 : Cond.selects RX12 yX12_edge yX12_edge ∈ am_tb := List.mem_filter.mpr ⟨List.mem_of_getElem? (i := 73) (by decide +kernel), rfl⟩
theorem tw_1438 : Cond.methodLink RX12 356 yX12_edge ∈ am_tb := List.mem_filter.mpr ⟨am_tk6 (List.mem_of_getElem? (i := 163) rfl), rfl⟩
theorem tw_1442 : Cond.constantLong RX12 360 (-1) ∈ am_tb := List.mem_filter.mpr ⟨am_tk6 (List.mem_of_getElem? (i := 167) rfl), rfl⟩
theorem tw_1435 : Cond.code yX12_span cX12_span 5 (some .long) ∈ am_tb := List.mem_filter.mpr ⟨am_tk6 (List.mem_of_getElem? (i := 160) rfl), rfl⟩
theorem tw_1446 : Cond.code yX12_nearest cX12_nearest 3 (some .int) ∈ am_tb := List.mem_filter.mpr ⟨am_tk6 (List.mem_of_getElem? (i := 171) rfl), rfl⟩
theorem tw_1451 : Cond.methodLink RX12 362 yX12_bits ∈ am_tb := List.mem_filter.mpr ⟨am_tk6 (List.mem_of_getElem? (i := 176) rfl), rfl⟩
theorem tw_1452 : Cond.static yX12_bits ∈ am_tb := List.mem_filter.mpr ⟨am_tk6 (List.mem_of_getElem? (i := 177) rfl), rfl⟩
theorem tw_1450 : Cond.code yX12_loosen cX12_loosen 5 (some .int) ∈ am_tb := List.mem_filter.mpr ⟨am_tk6 (List.mem_of_getElem? (i := 175) rfl), rfl⟩
theorem tw_1461 : Cond.code yX12_inOrder cX12_inOrder 5 (some .int) ∈ am_tb := List.mem_filter.mpr ⟨am_tk6 (List.mem_of_getElem? (i := 186) rfl), rfl⟩
theorem tw_1458 : Cond.constantLong RX12 365 (1000000) ∈ am_tb := List.mem_filter.mpr ⟨am_tk6 (List.mem_of_getElem? (i := 183) rfl), rfl⟩
theorem tw_1459 : Cond.methodLink RX12 367 yX12_inOrder ∈ am_tb := List.mem_filter.mpr ⟨am_tk6 (List.mem_of_getElem? (i := 184) rfl), rfl⟩
theorem tw_1460 : Cond.static yX12_inOrder ∈ am_tb := List.mem_filter.mpr ⟨am_tk6 (List.mem_of_getElem? (i := 185) rfl), rfl⟩
theorem tw_1457 : Cond.code yX12_tour cX12_tour 12 (some .int) ∈ am_tb := List.mem_filter.mpr ⟨am_tk6 (List.mem_of_getElem? (i := 182) rfl), rfl⟩
theorem tw_1466 : Cond.constantLong RX12 370 (40) ∈ am_tb := List.mem_filter.mpr ⟨am_tk6 (List.mem_of_getElem? (i := 191) rfl), rfl⟩
theorem tw_1467 : Cond.constantLong RX12 372 (99) ∈ am_tb := List.mem_filter.mpr ⟨am_tk6 (List.mem_of_getElem? (i := 192) rfl), rfl⟩
theorem tw_1465 : Cond.code yX12_seen cX12_seen 4 (some .int) ∈ am_tb := List.mem_filter.mpr ⟨am_tk6 (List.mem_of_getElem? (i := 190) rfl), rfl⟩
theorem tw_1471 : Cond.code yX12_forget cX12_forget 2 (some .int) ∈ am_tb := List.mem_filter.mpr ⟨am_tk6 (List.mem_of_getElem? (i := 196) rfl), rfl⟩
theorem tw_1479 : Cond.code yX12_least cX12_least 8 (some .int) ∈ am_tb := List.mem_filter.mpr ⟨am_tk6 (List.mem_of_getElem? (i := 204) rfl), rfl⟩
theorem tw_1478 : Cond.instanceMethod yX12_least ∈ am_tb := List.mem_filter.mpr ⟨am_tk6 (List.mem_of_getElem? (i := 203) rfl), rfl⟩
theorem tw_74 : Cond.selects RX12 yX12_least yX12_least ∈ am_tb := List.mem_filter.mpr ⟨List.mem_of_getElem? (i := 74) (by decide +kernel), rfl⟩
theorem tw_1476 : Cond.methodLink RX12 374 yX12_least ∈ am_tb := List.mem_filter.mpr ⟨am_tk6 (List.mem_of_getElem? (i := 201) rfl), rfl⟩
theorem tw_1475 : Cond.code yX12_kinds cX12_kinds 6 (some .int) ∈ am_tb := List.mem_filter.mpr ⟨am_tk6 (List.mem_of_getElem? (i := 200) rfl), rfl⟩
theorem tw_1491 : Cond.code yX12_common cX12_common 10 (some .long) ∈ am_tb := List.mem_filter.mpr ⟨am_tk6 (List.mem_of_getElem? (i := 216) rfl), rfl⟩
theorem tw_1488 : Cond.code yX12_partsOf cX12_partsOf 6 (some .long) ∈ am_tb := List.mem_filter.mpr ⟨am_tk6 (List.mem_of_getElem? (i := 213) rfl), rfl⟩
theorem tw_1484 : Cond.constantLong RX12 377 (-2) ∈ am_tb := List.mem_filter.mpr ⟨am_tk6 (List.mem_of_getElem? (i := 209) rfl), rfl⟩
theorem tw_1485 : Cond.constantLong RX12 379 (60) ∈ am_tb := List.mem_filter.mpr ⟨am_tk6 (List.mem_of_getElem? (i := 210) rfl), rfl⟩
theorem tw_1486 : Cond.methodLink RX12 381 yX12_partsOf ∈ am_tb := List.mem_filter.mpr ⟨am_tk6 (List.mem_of_getElem? (i := 211) rfl), rfl⟩
theorem tw_1487 : Cond.static yX12_partsOf ∈ am_tb := List.mem_filter.mpr ⟨am_tk6 (List.mem_of_getElem? (i := 212) rfl), rfl⟩
theorem tw_1489 : Cond.methodLink RX12 385 yX12_common ∈ am_tb := List.mem_filter.mpr ⟨am_tk6 (List.mem_of_getElem? (i := 214) rfl), rfl⟩
theorem tw_1490 : Cond.static yX12_common ∈ am_tb := List.mem_filter.mpr ⟨am_tk6 (List.mem_of_getElem? (i := 215) rfl), rfl⟩
theorem tw_1483 : Cond.code yX12_slips cX12_slips 11 (some .long) ∈ am_tb := List.mem_filter.mpr ⟨am_tk6 (List.mem_of_getElem? (i := 208) rfl), rfl⟩
theorem tw_1495 : Cond.code yX12_count cX12_count 4 (some .int) ∈ am_tb := List.mem_filter.mpr ⟨am_tk6 (List.mem_of_getElem? (i := 220) rfl), rfl⟩
theorem tw_1502 : Cond.fieldLink RJ0 9 "java/lang/String" "value" "[B" ∈ am_tb := List.mem_filter.mpr ⟨am_tk6 (List.mem_of_getElem? (i := 227) rfl), rfl⟩
theorem tw_373 : Cond.code yJ0_coder_7d493 cJ0_coder_7d493 1 (some .byte) ∈ am_tb := List.mem_filter.mpr ⟨am_tk2 (List.mem_of_getElem? (i := 58) rfl), rfl⟩
theorem tw_371 : Cond.instanceMethod yJ0_coder_7d493 ∈ am_tb := List.mem_filter.mpr ⟨am_tk2 (List.mem_of_getElem? (i := 56) rfl), rfl⟩
theorem tw_372 : Cond.selects RJ0 yJ0_coder_7d493 yJ0_coder_7d493 ∈ am_tb := List.mem_filter.mpr ⟨am_tk2 (List.mem_of_getElem? (i := 57) rfl), rfl⟩
theorem tw_370 : Cond.methodLink RJ0 335 yJ0_coder_7d493 ∈ am_tb := List.mem_filter.mpr ⟨am_tk2 (List.mem_of_getElem? (i := 55) rfl), rfl⟩
theorem tw_383 : Cond.code yJ0_isLatin1_aae02 cJ0_isLatin1_aae02 1 (some .boolean) ∈ am_tb := List.mem_filter.mpr ⟨am_tk2 (List.mem_of_getElem? (i := 68) rfl), rfl⟩
theorem tw_381 : Cond.instanceMethod yJ0_isLatin1_aae02 ∈ am_tb := List.mem_filter.mpr ⟨am_tk2 (List.mem_of_getElem? (i := 66) rfl), rfl⟩
theorem tw_382 : Cond.selects RJ0 yJ0_isLatin1_aae02 yJ0_isLatin1_aae02 ∈ am_tb := List.mem_filter.mpr ⟨am_tk2 (List.mem_of_getElem? (i := 67) rfl), rfl⟩
theorem tw_380 : Cond.methodLink RJ0 492 yJ0_isLatin1_aae02 ∈ am_tb := List.mem_filter.mpr ⟨am_tk2 (List.mem_of_getElem? (i := 65) rfl), rfl⟩
theorem tw_386 : Cond.code yJ1_charAt_3b067 cJ1_charAt_3b067 2 (some .char) ∈ am_tb := List.mem_filter.mpr ⟨am_tk2 (List.mem_of_getElem? (i := 71) rfl), rfl⟩
theorem tw_86 : Cond.initialized RJ1 ∈ am_tb := List.mem_filter.mpr ⟨am_tk1 (List.mem_of_getElem? (i := 11) rfl), rfl⟩
theorem tw_384 : Cond.methodLink RJ0 495 yJ1_charAt_3b067 ∈ am_tb := List.mem_filter.mpr ⟨am_tk2 (List.mem_of_getElem? (i := 69) rfl), rfl⟩
theorem tw_385 : Cond.static yJ1_charAt_3b067 ∈ am_tb := List.mem_filter.mpr ⟨am_tk2 (List.mem_of_getElem? (i := 70) rfl), rfl⟩
theorem tw_374 : Cond.fieldLink RJ0 38 "java/lang/String" "COMPACT_STRINGS" "Z" ∈ am_tb := List.mem_filter.mpr ⟨am_tk2 (List.mem_of_getElem? (i := 59) rfl), rfl⟩
theorem tw_1503 : Cond.fieldLink RJ0 15 "java/lang/String" "coder" "B" ∈ am_tb := List.mem_filter.mpr ⟨am_tk6 (List.mem_of_getElem? (i := 228) rfl), rfl⟩
theorem tw_390 : Cond.fieldLink RJ0 1053 "jdk/internal/util/Preconditions" "SIOOBE_FORMATTER" "Ljava/util/function/BiFunction;" ∈ am_tb := List.mem_filter.mpr ⟨am_tk2 (List.mem_of_getElem? (i := 75) rfl), rfl⟩
theorem tw_394 : Cond.code yJ3_checkIndex_8e157 cJ3_checkIndex_8e157 3 (some .int) ∈ am_tb := List.mem_filter.mpr ⟨am_tk2 (List.mem_of_getElem? (i := 79) rfl), rfl⟩
theorem tw_87 : Cond.initialized RJ3 ∈ am_tb := List.mem_filter.mpr ⟨am_tk1 (List.mem_of_getElem? (i := 12) rfl), rfl⟩
theorem tw_392 : Cond.methodLink RJ0 1059 yJ3_checkIndex_8e157 ∈ am_tb := List.mem_filter.mpr ⟨am_tk2 (List.mem_of_getElem? (i := 77) rfl), rfl⟩
theorem tw_393 : Cond.static yJ3_checkIndex_8e157 ∈ am_tb := List.mem_filter.mpr ⟨am_tk2 (List.mem_of_getElem? (i := 78) rfl), rfl⟩
theorem tw_389 : Cond.code yJ0_checkIndex_df160 cJ0_checkIndex_df160 2 none ∈ am_tb := List.mem_filter.mpr ⟨am_tk2 (List.mem_of_getElem? (i := 74) rfl), rfl⟩
theorem tw_387 : Cond.methodLink RJ1 9 yJ0_checkIndex_df160 ∈ am_tb := List.mem_filter.mpr ⟨am_tk2 (List.mem_of_getElem? (i := 72) rfl), rfl⟩
theorem tw_388 : Cond.static yJ0_checkIndex_df160 ∈ am_tb := List.mem_filter.mpr ⟨am_tk2 (List.mem_of_getElem? (i := 73) rfl), rfl⟩
theorem tw_95 : Cond.classLink RL 7 RX11 ∈ am_tb := List.mem_filter.mpr ⟨am_tk1 (List.mem_of_getElem? (i := 20) rfl), rfl⟩
theorem tw_96 : Cond.instantiable RX11 16 ∈ am_tb := List.mem_filter.mpr ⟨am_tk1 (List.mem_of_getElem? (i := 21) rfl), rfl⟩
theorem tw_97 : Cond.methodLink RL 9 yX11_init ∈ am_tb := List.mem_filter.mpr ⟨am_tk1 (List.mem_of_getElem? (i := 22) rfl), rfl⟩
theorem tw_98 : Cond.instanceMethod yX11_init ∈ am_tb := List.mem_filter.mpr ⟨am_tk1 (List.mem_of_getElem? (i := 23) rfl), rfl⟩
theorem tw_1015 : Cond.classLink RL 10 RX12 ∈ am_tb := List.mem_filter.mpr ⟨am_tk4 (List.mem_of_getElem? (i := 220) rfl), rfl⟩
theorem tw_1016 : Cond.instantiable RX12 44 ∈ am_tb := List.mem_filter.mpr ⟨am_tk4 (List.mem_of_getElem? (i := 221) rfl), rfl⟩
theorem tw_1017 : Cond.methodLink RL 12 yX12_init ∈ am_tb := List.mem_filter.mpr ⟨am_tk4 (List.mem_of_getElem? (i := 222) rfl), rfl⟩
theorem tw_1018 : Cond.instanceMethod yX12_init ∈ am_tb := List.mem_filter.mpr ⟨am_tk4 (List.mem_of_getElem? (i := 223) rfl), rfl⟩
theorem tw_302 : Cond.instanceMethod yX11_write ∈ am_tb := List.mem_filter.mpr ⟨am_tk1 (List.mem_of_getElem? (i := 227) rfl), rfl⟩
theorem tw_303 : Cond.selects RX11 yX11_write yX11_write ∈ am_tb := List.mem_filter.mpr ⟨am_tk1 (List.mem_of_getElem? (i := 228) rfl), rfl⟩
theorem tw_301 : Cond.methodLink RL 13 yX11_write ∈ am_tb := List.mem_filter.mpr ⟨am_tk1 (List.mem_of_getElem? (i := 226) rfl), rfl⟩
theorem tw_1199 : Cond.instanceMethod yX12_write ∈ am_tb := List.mem_filter.mpr ⟨am_tk5 (List.mem_of_getElem? (i := 164) rfl), rfl⟩
theorem tw_1200 : Cond.selects RX12 yX12_write yX12_write ∈ am_tb := List.mem_filter.mpr ⟨am_tk5 (List.mem_of_getElem? (i := 165) rfl), rfl⟩
theorem tw_1198 : Cond.methodLink RL 17 yX12_write ∈ am_tb := List.mem_filter.mpr ⟨am_tk5 (List.mem_of_getElem? (i := 163) rfl), rfl⟩
theorem tw_313 : Cond.instanceMethod yX11_erase ∈ am_tb := List.mem_filter.mpr ⟨am_tk1 (List.mem_of_getElem? (i := 238) rfl), rfl⟩
theorem tw_314 : Cond.selects RX11 yX11_erase yX11_erase ∈ am_tb := List.mem_filter.mpr ⟨am_tk1 (List.mem_of_getElem? (i := 239) rfl), rfl⟩
theorem tw_312 : Cond.methodLink RL 18 yX11_erase ∈ am_tb := List.mem_filter.mpr ⟨am_tk1 (List.mem_of_getElem? (i := 237) rfl), rfl⟩
theorem tw_1204 : Cond.instanceMethod yX12_erase ∈ am_tb := List.mem_filter.mpr ⟨am_tk5 (List.mem_of_getElem? (i := 169) rfl), rfl⟩
theorem tw_1205 : Cond.selects RX12 yX12_erase yX12_erase ∈ am_tb := List.mem_filter.mpr ⟨am_tk5 (List.mem_of_getElem? (i := 170) rfl), rfl⟩
theorem tw_1203 : Cond.methodLink RL 22 yX12_erase ∈ am_tb := List.mem_filter.mpr ⟨am_tk5 (List.mem_of_getElem? (i := 168) rfl), rfl⟩
theorem tw_317 : Cond.instanceMethod yX11_fault ∈ am_tb := List.mem_filter.mpr ⟨am_tk2 (List.mem_of_getElem? (i := 2) rfl), rfl⟩
theorem tw_318 : Cond.selects RX11 yX11_fault yX11_fault ∈ am_tb := List.mem_filter.mpr ⟨am_tk2 (List.mem_of_getElem? (i := 3) rfl), rfl⟩
theorem tw_316 : Cond.methodLink RL 23 yX11_fault ∈ am_tb := List.mem_filter.mpr ⟨am_tk2 (List.mem_of_getElem? (i := 1) rfl), rfl⟩
theorem tw_1208 : Cond.instanceMethod yX12_fault ∈ am_tb := List.mem_filter.mpr ⟨am_tk5 (List.mem_of_getElem? (i := 173) rfl), rfl⟩
theorem tw_1209 : Cond.selects RX12 yX12_fault yX12_fault ∈ am_tb := List.mem_filter.mpr ⟨am_tk5 (List.mem_of_getElem? (i := 174) rfl), rfl⟩
theorem tw_1207 : Cond.methodLink RL 26 yX12_fault ∈ am_tb := List.mem_filter.mpr ⟨am_tk5 (List.mem_of_getElem? (i := 172) rfl), rfl⟩
theorem tw_568 : Cond.instanceMethod yX11_frame ∈ am_tb := List.mem_filter.mpr ⟨am_tk3 (List.mem_of_getElem? (i := 13) rfl), rfl⟩
theorem tw_569 : Cond.selects RX11 yX11_frame yX11_frame ∈ am_tb := List.mem_filter.mpr ⟨am_tk3 (List.mem_of_getElem? (i := 14) rfl), rfl⟩
theorem tw_567 : Cond.methodLink RL 27 yX11_frame ∈ am_tb := List.mem_filter.mpr ⟨am_tk3 (List.mem_of_getElem? (i := 12) rfl), rfl⟩
theorem tw_1359 : Cond.instanceMethod yX12_frame ∈ am_tb := List.mem_filter.mpr ⟨am_tk6 (List.mem_of_getElem? (i := 84) rfl), rfl⟩
theorem tw_1360 : Cond.selects RX12 yX12_frame yX12_frame ∈ am_tb := List.mem_filter.mpr ⟨am_tk6 (List.mem_of_getElem? (i := 85) rfl), rfl⟩
theorem tw_1358 : Cond.methodLink RL 30 yX12_frame ∈ am_tb := List.mem_filter.mpr ⟨am_tk6 (List.mem_of_getElem? (i := 83) rfl), rfl⟩
theorem tw_579 : Cond.instanceMethod yX11_run ∈ am_tb := List.mem_filter.mpr ⟨am_tk3 (List.mem_of_getElem? (i := 24) rfl), rfl⟩
theorem tw_580 : Cond.selects RX11 yX11_run yX11_run ∈ am_tb := List.mem_filter.mpr ⟨am_tk3 (List.mem_of_getElem? (i := 25) rfl), rfl⟩
theorem tw_578 : Cond.methodLink RL 31 yX11_run ∈ am_tb := List.mem_filter.mpr ⟨am_tk3 (List.mem_of_getElem? (i := 23) rfl), rfl⟩
theorem tw_1363 : Cond.instanceMethod yX12_run ∈ am_tb := List.mem_filter.mpr ⟨am_tk6 (List.mem_of_getElem? (i := 88) rfl), rfl⟩
theorem tw_1364 : Cond.selects RX12 yX12_run yX12_run ∈ am_tb := List.mem_filter.mpr ⟨am_tk6 (List.mem_of_getElem? (i := 89) rfl), rfl⟩
theorem tw_1362 : Cond.methodLink RL 34 yX12_run ∈ am_tb := List.mem_filter.mpr ⟨am_tk6 (List.mem_of_getElem? (i := 87) rfl), rfl⟩
theorem tw_783 : Cond.instanceMethod yX11_rod ∈ am_tb := List.mem_filter.mpr ⟨am_tk3 (List.mem_of_getElem? (i := 228) rfl), rfl⟩
theorem tw_784 : Cond.selects RX11 yX11_rod yX11_rod ∈ am_tb := List.mem_filter.mpr ⟨am_tk3 (List.mem_of_getElem? (i := 229) rfl), rfl⟩
theorem tw_782 : Cond.methodLink RL 35 yX11_rod ∈ am_tb := List.mem_filter.mpr ⟨am_tk3 (List.mem_of_getElem? (i := 227) rfl), rfl⟩
theorem tw_1177 : Cond.instanceMethod yX12_rod ∈ am_tb := List.mem_filter.mpr ⟨am_tk5 (List.mem_of_getElem? (i := 142) rfl), rfl⟩
theorem tw_1178 : Cond.selects RX12 yX12_rod yX12_rod ∈ am_tb := List.mem_filter.mpr ⟨am_tk5 (List.mem_of_getElem? (i := 143) rfl), rfl⟩
theorem tw_1176 : Cond.methodLink RL 39 yX12_rod ∈ am_tb := List.mem_filter.mpr ⟨am_tk5 (List.mem_of_getElem? (i := 141) rfl), rfl⟩
theorem tw_803 : Cond.instanceMethod yX11_number ∈ am_tb := List.mem_filter.mpr ⟨am_tk4 (List.mem_of_getElem? (i := 8) rfl), rfl⟩
theorem tw_804 : Cond.selects RX11 yX11_number yX11_number ∈ am_tb := List.mem_filter.mpr ⟨am_tk4 (List.mem_of_getElem? (i := 9) rfl), rfl⟩
theorem tw_802 : Cond.methodLink RL 40 yX11_number ∈ am_tb := List.mem_filter.mpr ⟨am_tk4 (List.mem_of_getElem? (i := 7) rfl), rfl⟩
theorem tw_1157 : Cond.instanceMethod yX12_number ∈ am_tb := List.mem_filter.mpr ⟨am_tk5 (List.mem_of_getElem? (i := 122) rfl), rfl⟩
theorem tw_1158 : Cond.selects RX12 yX12_number yX12_number ∈ am_tb := List.mem_filter.mpr ⟨am_tk5 (List.mem_of_getElem? (i := 123) rfl), rfl⟩
theorem tw_1156 : Cond.methodLink RL 44 yX12_number ∈ am_tb := List.mem_filter.mpr ⟨am_tk5 (List.mem_of_getElem? (i := 121) rfl), rfl⟩
theorem tw_807 : Cond.instanceMethod yX11_as ∈ am_tb := List.mem_filter.mpr ⟨am_tk4 (List.mem_of_getElem? (i := 12) rfl), rfl⟩
theorem tw_808 : Cond.selects RX11 yX11_as yX11_as ∈ am_tb := List.mem_filter.mpr ⟨am_tk4 (List.mem_of_getElem? (i := 13) rfl), rfl⟩
theorem tw_806 : Cond.methodLink RL 45 yX11_as ∈ am_tb := List.mem_filter.mpr ⟨am_tk4 (List.mem_of_getElem? (i := 11) rfl), rfl⟩
theorem tw_1194 : Cond.instanceMethod yX12_as ∈ am_tb := List.mem_filter.mpr ⟨am_tk5 (List.mem_of_getElem? (i := 159) rfl), rfl⟩
theorem tw_1195 : Cond.selects RX12 yX12_as yX12_as ∈ am_tb := List.mem_filter.mpr ⟨am_tk5 (List.mem_of_getElem? (i := 160) rfl), rfl⟩
theorem tw_1193 : Cond.methodLink RL 48 yX12_as ∈ am_tb := List.mem_filter.mpr ⟨am_tk5 (List.mem_of_getElem? (i := 158) rfl), rfl⟩
theorem tw_819 : Cond.instanceMethod yX11_push ∈ am_tb := List.mem_filter.mpr ⟨am_tk4 (List.mem_of_getElem? (i := 24) rfl), rfl⟩
theorem tw_820 : Cond.selects RX11 yX11_push yX11_push ∈ am_tb := List.mem_filter.mpr ⟨am_tk4 (List.mem_of_getElem? (i := 25) rfl), rfl⟩
theorem tw_818 : Cond.methodLink RL 49 yX11_push ∈ am_tb := List.mem_filter.mpr ⟨am_tk4 (List.mem_of_getElem? (i := 23) rfl), rfl⟩
theorem tw_1371 : Cond.instanceMethod yX12_push ∈ am_tb := List.mem_filter.mpr ⟨am_tk6 (List.mem_of_getElem? (i := 96) rfl), rfl⟩
theorem tw_1372 : Cond.selects RX12 yX12_push yX12_push ∈ am_tb := List.mem_filter.mpr ⟨am_tk6 (List.mem_of_getElem? (i := 97) rfl), rfl⟩
theorem tw_1370 : Cond.methodLink RL 53 yX12_push ∈ am_tb := List.mem_filter.mpr ⟨am_tk6 (List.mem_of_getElem? (i := 95) rfl), rfl⟩
theorem tw_835 : Cond.instanceMethod yX11_stick ∈ am_tb := List.mem_filter.mpr ⟨am_tk4 (List.mem_of_getElem? (i := 40) rfl), rfl⟩
theorem tw_836 : Cond.selects RX11 yX11_stick yX11_stick ∈ am_tb := List.mem_filter.mpr ⟨am_tk4 (List.mem_of_getElem? (i := 41) rfl), rfl⟩
theorem tw_834 : Cond.methodLink RL 54 yX11_stick ∈ am_tb := List.mem_filter.mpr ⟨am_tk4 (List.mem_of_getElem? (i := 39) rfl), rfl⟩
theorem tw_1386 : Cond.instanceMethod yX12_stick ∈ am_tb := List.mem_filter.mpr ⟨am_tk6 (List.mem_of_getElem? (i := 111) rfl), rfl⟩
theorem tw_1387 : Cond.selects RX12 yX12_stick yX12_stick ∈ am_tb := List.mem_filter.mpr ⟨am_tk6 (List.mem_of_getElem? (i := 112) rfl), rfl⟩
theorem tw_1385 : Cond.methodLink RL 57 yX12_stick ∈ am_tb := List.mem_filter.mpr ⟨am_tk6 (List.mem_of_getElem? (i := 110) rfl), rfl⟩
theorem tw_840 : Cond.instanceMethod yX11_set ∈ am_tb := List.mem_filter.mpr ⟨am_tk4 (List.mem_of_getElem? (i := 45) rfl), rfl⟩
theorem tw_841 : Cond.selects RX11 yX11_set yX11_set ∈ am_tb := List.mem_filter.mpr ⟨am_tk4 (List.mem_of_getElem? (i := 46) rfl), rfl⟩
theorem tw_839 : Cond.methodLink RL 58 yX11_set ∈ am_tb := List.mem_filter.mpr ⟨am_tk4 (List.mem_of_getElem? (i := 44) rfl), rfl⟩
theorem tw_1390 : Cond.instanceMethod yX12_set ∈ am_tb := List.mem_filter.mpr ⟨am_tk6 (List.mem_of_getElem? (i := 115) rfl), rfl⟩
theorem tw_1391 : Cond.selects RX12 yX12_set yX12_set ∈ am_tb := List.mem_filter.mpr ⟨am_tk6 (List.mem_of_getElem? (i := 116) rfl), rfl⟩
theorem tw_1389 : Cond.methodLink RL 61 yX12_set ∈ am_tb := List.mem_filter.mpr ⟨am_tk6 (List.mem_of_getElem? (i := 114) rfl), rfl⟩
theorem tw_852 : Cond.instanceMethod yX11_carry ∈ am_tb := List.mem_filter.mpr ⟨am_tk4 (List.mem_of_getElem? (i := 57) rfl), rfl⟩
theorem tw_853 : Cond.selects RX11 yX11_carry yX11_carry ∈ am_tb := List.mem_filter.mpr ⟨am_tk4 (List.mem_of_getElem? (i := 58) rfl), rfl⟩
theorem tw_851 : Cond.methodLink RL 62 yX11_carry ∈ am_tb := List.mem_filter.mpr ⟨am_tk4 (List.mem_of_getElem? (i := 56) rfl), rfl⟩
theorem tw_1397 : Cond.instanceMethod yX12_carry ∈ am_tb := List.mem_filter.mpr ⟨am_tk6 (List.mem_of_getElem? (i := 122) rfl), rfl⟩
theorem tw_1398 : Cond.selects RX12 yX12_carry yX12_carry ∈ am_tb := List.mem_filter.mpr ⟨am_tk6 (List.mem_of_getElem? (i := 123) rfl), rfl⟩
theorem tw_1396 : Cond.methodLink RL 65 yX12_carry ∈ am_tb := List.mem_filter.mpr ⟨am_tk6 (List.mem_of_getElem? (i := 121) rfl), rfl⟩
theorem tw_856 : Cond.instanceMethod yX11_undo ∈ am_tb := List.mem_filter.mpr ⟨am_tk4 (List.mem_of_getElem? (i := 61) rfl), rfl⟩
theorem tw_857 : Cond.selects RX11 yX11_undo yX11_undo ∈ am_tb := List.mem_filter.mpr ⟨am_tk4 (List.mem_of_getElem? (i := 62) rfl), rfl⟩
theorem tw_855 : Cond.methodLink RL 66 yX11_undo ∈ am_tb := List.mem_filter.mpr ⟨am_tk4 (List.mem_of_getElem? (i := 60) rfl), rfl⟩
theorem tw_1405 : Cond.instanceMethod yX12_undo ∈ am_tb := List.mem_filter.mpr ⟨am_tk6 (List.mem_of_getElem? (i := 130) rfl), rfl⟩
theorem tw_1406 : Cond.selects RX12 yX12_undo yX12_undo ∈ am_tb := List.mem_filter.mpr ⟨am_tk6 (List.mem_of_getElem? (i := 131) rfl), rfl⟩
theorem tw_1404 : Cond.methodLink RL 69 yX12_undo ∈ am_tb := List.mem_filter.mpr ⟨am_tk6 (List.mem_of_getElem? (i := 129) rfl), rfl⟩
theorem tw_860 : Cond.instanceMethod yX11_keep ∈ am_tb := List.mem_filter.mpr ⟨am_tk4 (List.mem_of_getElem? (i := 65) rfl), rfl⟩
theorem tw_861 : Cond.selects RX11 yX11_keep yX11_keep ∈ am_tb := List.mem_filter.mpr ⟨am_tk4 (List.mem_of_getElem? (i := 66) rfl), rfl⟩
theorem tw_859 : Cond.methodLink RL 70 yX11_keep ∈ am_tb := List.mem_filter.mpr ⟨am_tk4 (List.mem_of_getElem? (i := 64) rfl), rfl⟩
theorem tw_1409 : Cond.instanceMethod yX12_keep ∈ am_tb := List.mem_filter.mpr ⟨am_tk6 (List.mem_of_getElem? (i := 134) rfl), rfl⟩
theorem tw_1410 : Cond.selects RX12 yX12_keep yX12_keep ∈ am_tb := List.mem_filter.mpr ⟨am_tk6 (List.mem_of_getElem? (i := 135) rfl), rfl⟩
theorem tw_1408 : Cond.methodLink RL 73 yX12_keep ∈ am_tb := List.mem_filter.mpr ⟨am_tk6 (List.mem_of_getElem? (i := 133) rfl), rfl⟩
theorem tw_868 : Cond.instanceMethod yX11_back ∈ am_tb := List.mem_filter.mpr ⟨am_tk4 (List.mem_of_getElem? (i := 73) rfl), rfl⟩
theorem tw_869 : Cond.selects RX11 yX11_back yX11_back ∈ am_tb := List.mem_filter.mpr ⟨am_tk4 (List.mem_of_getElem? (i := 74) rfl), rfl⟩
theorem tw_867 : Cond.methodLink RL 74 yX11_back ∈ am_tb := List.mem_filter.mpr ⟨am_tk4 (List.mem_of_getElem? (i := 72) rfl), rfl⟩
theorem tw_1417 : Cond.instanceMethod yX12_back ∈ am_tb := List.mem_filter.mpr ⟨am_tk6 (List.mem_of_getElem? (i := 142) rfl), rfl⟩
theorem tw_1418 : Cond.selects RX12 yX12_back yX12_back ∈ am_tb := List.mem_filter.mpr ⟨am_tk6 (List.mem_of_getElem? (i := 143) rfl), rfl⟩
theorem tw_1416 : Cond.methodLink RL 77 yX12_back ∈ am_tb := List.mem_filter.mpr ⟨am_tk6 (List.mem_of_getElem? (i := 141) rfl), rfl⟩
theorem tw_872 : Cond.instanceMethod yX11_ways ∈ am_tb := List.mem_filter.mpr ⟨am_tk4 (List.mem_of_getElem? (i := 77) rfl), rfl⟩
theorem tw_873 : Cond.selects RX11 yX11_ways yX11_ways ∈ am_tb := List.mem_filter.mpr ⟨am_tk4 (List.mem_of_getElem? (i := 78) rfl), rfl⟩
theorem tw_871 : Cond.methodLink RL 78 yX11_ways ∈ am_tb := List.mem_filter.mpr ⟨am_tk4 (List.mem_of_getElem? (i := 76) rfl), rfl⟩
theorem tw_1421 : Cond.instanceMethod yX12_ways ∈ am_tb := List.mem_filter.mpr ⟨am_tk6 (List.mem_of_getElem? (i := 146) rfl), rfl⟩
theorem tw_1422 : Cond.selects RX12 yX12_ways yX12_ways ∈ am_tb := List.mem_filter.mpr ⟨am_tk6 (List.mem_of_getElem? (i := 147) rfl), rfl⟩
theorem tw_1420 : Cond.methodLink RL 81 yX12_ways ∈ am_tb := List.mem_filter.mpr ⟨am_tk6 (List.mem_of_getElem? (i := 145) rfl), rfl⟩
theorem tw_884 : Cond.instanceMethod yX11_time ∈ am_tb := List.mem_filter.mpr ⟨am_tk4 (List.mem_of_getElem? (i := 89) rfl), rfl⟩
theorem tw_885 : Cond.selects RX11 yX11_time yX11_time ∈ am_tb := List.mem_filter.mpr ⟨am_tk4 (List.mem_of_getElem? (i := 90) rfl), rfl⟩
theorem tw_883 : Cond.methodLink RL 82 yX11_time ∈ am_tb := List.mem_filter.mpr ⟨am_tk4 (List.mem_of_getElem? (i := 88) rfl), rfl⟩
theorem tw_1425 : Cond.instanceMethod yX12_time ∈ am_tb := List.mem_filter.mpr ⟨am_tk6 (List.mem_of_getElem? (i := 150) rfl), rfl⟩
theorem tw_1426 : Cond.selects RX12 yX12_time yX12_time ∈ am_tb := List.mem_filter.mpr ⟨am_tk6 (List.mem_of_getElem? (i := 151) rfl), rfl⟩
theorem tw_1424 : Cond.methodLink RL 85 yX12_time ∈ am_tb := List.mem_filter.mpr ⟨am_tk6 (List.mem_of_getElem? (i := 149) rfl), rfl⟩
theorem tw_892 : Cond.instanceMethod yX11_pushed ∈ am_tb := List.mem_filter.mpr ⟨am_tk4 (List.mem_of_getElem? (i := 97) rfl), rfl⟩
theorem tw_893 : Cond.selects RX11 yX11_pushed yX11_pushed ∈ am_tb := List.mem_filter.mpr ⟨am_tk4 (List.mem_of_getElem? (i := 98) rfl), rfl⟩
theorem tw_891 : Cond.methodLink RL 86 yX11_pushed ∈ am_tb := List.mem_filter.mpr ⟨am_tk4 (List.mem_of_getElem? (i := 96) rfl), rfl⟩
theorem tw_1429 : Cond.instanceMethod yX12_pushed ∈ am_tb := List.mem_filter.mpr ⟨am_tk6 (List.mem_of_getElem? (i := 154) rfl), rfl⟩
theorem tw_1430 : Cond.selects RX12 yX12_pushed yX12_pushed ∈ am_tb := List.mem_filter.mpr ⟨am_tk6 (List.mem_of_getElem? (i := 155) rfl), rfl⟩
theorem tw_1428 : Cond.methodLink RL 89 yX12_pushed ∈ am_tb := List.mem_filter.mpr ⟨am_tk6 (List.mem_of_getElem? (i := 153) rfl), rfl⟩
theorem tw_896 : Cond.instanceMethod yX11_span ∈ am_tb := List.mem_filter.mpr ⟨am_tk4 (List.mem_of_getElem? (i := 101) rfl), rfl⟩
theorem tw_897 : Cond.selects RX11 yX11_span yX11_span ∈ am_tb := List.mem_filter.mpr ⟨am_tk4 (List.mem_of_getElem? (i := 102) rfl), rfl⟩
theorem tw_895 : Cond.methodLink RL 90 yX11_span ∈ am_tb := List.mem_filter.mpr ⟨am_tk4 (List.mem_of_getElem? (i := 100) rfl), rfl⟩
theorem tw_1433 : Cond.instanceMethod yX12_span ∈ am_tb := List.mem_filter.mpr ⟨am_tk6 (List.mem_of_getElem? (i := 158) rfl), rfl⟩
theorem tw_1434 : Cond.selects RX12 yX12_span yX12_span ∈ am_tb := List.mem_filter.mpr ⟨am_tk6 (List.mem_of_getElem? (i := 159) rfl), rfl⟩
theorem tw_1432 : Cond.methodLink RL 94 yX12_span ∈ am_tb := List.mem_filter.mpr ⟨am_tk6 (List.mem_of_getElem? (i := 157) rfl), rfl⟩
theorem tw_931 : Cond.instanceMethod yX11_nearest ∈ am_tb := List.mem_filter.mpr ⟨am_tk4 (List.mem_of_getElem? (i := 136) rfl), rfl⟩
theorem tw_932 : Cond.selects RX11 yX11_nearest yX11_nearest ∈ am_tb := List.mem_filter.mpr ⟨am_tk4 (List.mem_of_getElem? (i := 137) rfl), rfl⟩
theorem tw_930 : Cond.methodLink RL 95 yX11_nearest ∈ am_tb := List.mem_filter.mpr ⟨am_tk4 (List.mem_of_getElem? (i := 135) rfl), rfl⟩
theorem tw_1444 : Cond.instanceMethod yX12_nearest ∈ am_tb := List.mem_filter.mpr ⟨am_tk6 (List.mem_of_getElem? (i := 169) rfl), rfl⟩
theorem tw_1445 : Cond.selects RX12 yX12_nearest yX12_nearest ∈ am_tb := List.mem_filter.mpr ⟨am_tk6 (List.mem_of_getElem? (i := 170) rfl), rfl⟩
theorem tw_1443 : Cond.methodLink RL 98 yX12_nearest ∈ am_tb := List.mem_filter.mpr ⟨am_tk6 (List.mem_of_getElem? (i := 168) rfl), rfl⟩
theorem tw_940 : Cond.instanceMethod yX11_loosen ∈ am_tb := List.mem_filter.mpr ⟨am_tk4 (List.mem_of_getElem? (i := 145) rfl), rfl⟩
theorem tw_941 : Cond.selects RX11 yX11_loosen yX11_loosen ∈ am_tb := List.mem_filter.mpr ⟨am_tk4 (List.mem_of_getElem? (i := 146) rfl), rfl⟩
theorem tw_939 : Cond.methodLink RL 99 yX11_loosen ∈ am_tb := List.mem_filter.mpr ⟨am_tk4 (List.mem_of_getElem? (i := 144) rfl), rfl⟩
theorem tw_1448 : Cond.instanceMethod yX12_loosen ∈ am_tb := List.mem_filter.mpr ⟨am_tk6 (List.mem_of_getElem? (i := 173) rfl), rfl⟩
theorem tw_1449 : Cond.selects RX12 yX12_loosen yX12_loosen ∈ am_tb := List.mem_filter.mpr ⟨am_tk6 (List.mem_of_getElem? (i := 174) rfl), rfl⟩
theorem tw_1447 : Cond.methodLink RL 102 yX12_loosen ∈ am_tb := List.mem_filter.mpr ⟨am_tk6 (List.mem_of_getElem? (i := 172) rfl), rfl⟩
theorem tw_944 : Cond.instanceMethod yX11_tour ∈ am_tb := List.mem_filter.mpr ⟨am_tk4 (List.mem_of_getElem? (i := 149) rfl), rfl⟩
theorem tw_945 : Cond.selects RX11 yX11_tour yX11_tour ∈ am_tb := List.mem_filter.mpr ⟨am_tk4 (List.mem_of_getElem? (i := 150) rfl), rfl⟩
theorem tw_943 : Cond.methodLink RL 103 yX11_tour ∈ am_tb := List.mem_filter.mpr ⟨am_tk4 (List.mem_of_getElem? (i := 148) rfl), rfl⟩
theorem tw_1455 : Cond.instanceMethod yX12_tour ∈ am_tb := List.mem_filter.mpr ⟨am_tk6 (List.mem_of_getElem? (i := 180) rfl), rfl⟩
theorem tw_1456 : Cond.selects RX12 yX12_tour yX12_tour ∈ am_tb := List.mem_filter.mpr ⟨am_tk6 (List.mem_of_getElem? (i := 181) rfl), rfl⟩
theorem tw_1454 : Cond.methodLink RL 107 yX12_tour ∈ am_tb := List.mem_filter.mpr ⟨am_tk6 (List.mem_of_getElem? (i := 179) rfl), rfl⟩
theorem tw_966 : Cond.instanceMethod yX11_seen ∈ am_tb := List.mem_filter.mpr ⟨am_tk4 (List.mem_of_getElem? (i := 171) rfl), rfl⟩
theorem tw_967 : Cond.selects RX11 yX11_seen yX11_seen ∈ am_tb := List.mem_filter.mpr ⟨am_tk4 (List.mem_of_getElem? (i := 172) rfl), rfl⟩
theorem tw_965 : Cond.methodLink RL 108 yX11_seen ∈ am_tb := List.mem_filter.mpr ⟨am_tk4 (List.mem_of_getElem? (i := 170) rfl), rfl⟩
theorem tw_1463 : Cond.instanceMethod yX12_seen ∈ am_tb := List.mem_filter.mpr ⟨am_tk6 (List.mem_of_getElem? (i := 188) rfl), rfl⟩
theorem tw_1464 : Cond.selects RX12 yX12_seen yX12_seen ∈ am_tb := List.mem_filter.mpr ⟨am_tk6 (List.mem_of_getElem? (i := 189) rfl), rfl⟩
theorem tw_1462 : Cond.methodLink RL 111 yX12_seen ∈ am_tb := List.mem_filter.mpr ⟨am_tk6 (List.mem_of_getElem? (i := 187) rfl), rfl⟩
theorem tw_971 : Cond.instanceMethod yX11_forget ∈ am_tb := List.mem_filter.mpr ⟨am_tk4 (List.mem_of_getElem? (i := 176) rfl), rfl⟩
theorem tw_972 : Cond.selects RX11 yX11_forget yX11_forget ∈ am_tb := List.mem_filter.mpr ⟨am_tk4 (List.mem_of_getElem? (i := 177) rfl), rfl⟩
theorem tw_970 : Cond.methodLink RL 112 yX11_forget ∈ am_tb := List.mem_filter.mpr ⟨am_tk4 (List.mem_of_getElem? (i := 175) rfl), rfl⟩
theorem tw_1469 : Cond.instanceMethod yX12_forget ∈ am_tb := List.mem_filter.mpr ⟨am_tk6 (List.mem_of_getElem? (i := 194) rfl), rfl⟩
theorem tw_1470 : Cond.selects RX12 yX12_forget yX12_forget ∈ am_tb := List.mem_filter.mpr ⟨am_tk6 (List.mem_of_getElem? (i := 195) rfl), rfl⟩
theorem tw_1468 : Cond.methodLink RL 115 yX12_forget ∈ am_tb := List.mem_filter.mpr ⟨am_tk6 (List.mem_of_getElem? (i := 193) rfl), rfl⟩
theorem tw_975 : Cond.instanceMethod yX11_kinds ∈ am_tb := List.mem_filter.mpr ⟨am_tk4 (List.mem_of_getElem? (i := 180) rfl), rfl⟩
theorem tw_976 : Cond.selects RX11 yX11_kinds yX11_kinds ∈ am_tb := List.mem_filter.mpr ⟨am_tk4 (List.mem_of_getElem? (i := 181) rfl), rfl⟩
theorem tw_974 : Cond.methodLink RL 116 yX11_kinds ∈ am_tb := List.mem_filter.mpr ⟨am_tk4 (List.mem_of_getElem? (i := 179) rfl), rfl⟩
theorem tw_1473 : Cond.instanceMethod yX12_kinds ∈ am_tb := List.mem_filter.mpr ⟨am_tk6 (List.mem_of_getElem? (i := 198) rfl), rfl⟩
theorem tw_1474 : Cond.selects RX12 yX12_kinds yX12_kinds ∈ am_tb := List.mem_filter.mpr ⟨am_tk6 (List.mem_of_getElem? (i := 199) rfl), rfl⟩
theorem tw_1472 : Cond.methodLink RL 119 yX12_kinds ∈ am_tb := List.mem_filter.mpr ⟨am_tk6 (List.mem_of_getElem? (i := 197) rfl), rfl⟩
theorem tw_993 : Cond.instanceMethod yX11_slips ∈ am_tb := List.mem_filter.mpr ⟨am_tk4 (List.mem_of_getElem? (i := 198) rfl), rfl⟩
theorem tw_994 : Cond.selects RX11 yX11_slips yX11_slips ∈ am_tb := List.mem_filter.mpr ⟨am_tk4 (List.mem_of_getElem? (i := 199) rfl), rfl⟩
theorem tw_992 : Cond.methodLink RL 120 yX11_slips ∈ am_tb := List.mem_filter.mpr ⟨am_tk4 (List.mem_of_getElem? (i := 197) rfl), rfl⟩
theorem tw_1481 : Cond.instanceMethod yX12_slips ∈ am_tb := List.mem_filter.mpr ⟨am_tk6 (List.mem_of_getElem? (i := 206) rfl), rfl⟩
theorem tw_1482 : Cond.selects RX12 yX12_slips yX12_slips ∈ am_tb := List.mem_filter.mpr ⟨am_tk6 (List.mem_of_getElem? (i := 207) rfl), rfl⟩
theorem tw_1480 : Cond.methodLink RL 124 yX12_slips ∈ am_tb := List.mem_filter.mpr ⟨am_tk6 (List.mem_of_getElem? (i := 205) rfl), rfl⟩
theorem tw_1008 : Cond.instanceMethod yX11_count ∈ am_tb := List.mem_filter.mpr ⟨am_tk4 (List.mem_of_getElem? (i := 213) rfl), rfl⟩
theorem tw_1009 : Cond.selects RX11 yX11_count yX11_count ∈ am_tb := List.mem_filter.mpr ⟨am_tk4 (List.mem_of_getElem? (i := 214) rfl), rfl⟩
theorem tw_1007 : Cond.methodLink RL 125 yX11_count ∈ am_tb := List.mem_filter.mpr ⟨am_tk4 (List.mem_of_getElem? (i := 212) rfl), rfl⟩
theorem tw_1493 : Cond.instanceMethod yX12_count ∈ am_tb := List.mem_filter.mpr ⟨am_tk6 (List.mem_of_getElem? (i := 218) rfl), rfl⟩
theorem tw_1494 : Cond.selects RX12 yX12_count yX12_count ∈ am_tb := List.mem_filter.mpr ⟨am_tk6 (List.mem_of_getElem? (i := 219) rfl), rfl⟩
theorem tw_1492 : Cond.methodLink RL 128 yX12_count ∈ am_tb := List.mem_filter.mpr ⟨am_tk6 (List.mem_of_getElem? (i := 217) rfl), rfl⟩
