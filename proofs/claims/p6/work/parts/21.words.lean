/-! The tables say what the program needs. -/
theorem am_dis_nil {Q : Nat → Nat → Prop} (ci M : Nat) (h : am_dis [] ci = some M) : Q ci M := by cases h
theorem am_dis_cons {Q : Nat → Nat → Prop} {a b : Nat} {r : List Nat} (h1 : Q a b) (h2 : ∀ ci M, am_dis r ci = some M → Q ci M) (ci M : Nat) (h : am_dis (a :: b :: r) ci = some M) : Q ci M := by
  unfold am_dis at h
  split at h
  · rename_i e
    subst e
    cases h
    exact h1
  · exact h2 ci M h
theorem am_tsw_ok {pc : Nat} {rs : List Nat} {offs : Array Int} (h : (rs.drop 1).map (fun t : Nat => (t : Int)) = offs.toList.map (fun o : Int => (pc : Int) + o)) : ∀ (i t : Nat), rs[i + 1]? = some t → ∃ o, offs[i]? = some o ∧ (pc : Int) + o = (t : Int) := by
  intro i t ht
  have h1 : ((rs.drop 1).map (fun t : Nat => (t : Int)))[i]? = some (t : Int) := by
    rw [List.getElem?_map, List.getElem?_drop, Nat.add_comm 1 i, ht]
    rfl
  rw [h, List.getElem?_map, Array.getElem?_toList] at h1
  cases ho : offs[i]? with
  | none => rw [ho] at h1; cases h1
  | some o =>
    rw [ho] at h1
    exact ⟨o, rfl, Option.some.inj h1⟩
theorem am_dfp {fs : List Value} (h : fs.all (fun v => match v with | .ref _ => false | .retAddr _ => false | _ => true) = true) : ∀ v ∈ fs, (∀ i, v ≠ .ref i) ∧ ∀ i, v ≠ .retAddr i := by
  intro v hv
  have h1 := List.all_eq_true.mp h v hv
  cases v with
  | ref i => cases h1
  | retAddr i => cases h1
  | _ => exact ⟨(fun i e => by cases e), (fun i e => by cases e)⟩
theorem am_tk1 {w : Cond} (h : w ∈ tables_1_1) : w ∈ lw_tbl := List.mem_append_right _ (List.mem_append_left _ h)
theorem am_tk2 {w : Cond} (h : w ∈ tables_1_2) : w ∈ lw_tbl := List.mem_append_right _ (List.mem_append_right _ (List.mem_append_left _ h))
theorem am_tk3 {w : Cond} (h : w ∈ tables_1_3) : w ∈ lw_tbl := List.mem_append_right _ (List.mem_append_right _ (List.mem_append_right _ (List.mem_append_left _ h)))
theorem am_tk4 {w : Cond} (h : w ∈ tables_1_4) : w ∈ lw_tbl := List.mem_append_right _ (List.mem_append_right _ (List.mem_append_right _ (List.mem_append_right _ (List.mem_append_left _ h))))
theorem am_tk5 {w : Cond} (h : w ∈ tables_1_5) : w ∈ lw_tbl := List.mem_append_right _ (List.mem_append_right _ (List.mem_append_right _ (List.mem_append_right _ (List.mem_append_right _ (List.mem_append_left _ h)))))
theorem am_tk6 {w : Cond} (h : w ∈ tables_1_6) : w ∈ lw_tbl := List.mem_append_right _ (List.mem_append_right _ (List.mem_append_right _ (List.mem_append_right _ (List.mem_append_right _ (List.mem_append_right _ (h))))))
theorem am_wsk {C : String} {T : u_T} {N : Nat} {l : List Cond} {a s : Nat} (h : ∀ j, j < N → l[a + s * j]? = some (u_lay C T j)) : ∀ w ∈ u_ws C T N, w ∈ l := fun w hw => by
  obtain ⟨j, hj, rfl⟩ := List.mem_map.mp hw
  exact List.mem_of_getElem? (h j (List.mem_range.mp hj))
theorem cl_0 : am_cl RX0 TX0 3 tyX0 0 := ⟨rfl, fun w h => List.mem_filter.mpr ⟨am_tk2 (am_wsk (C := RX0) (T := TX0) (N := 3) (l := tables_1_2) (a := 152) (s := 2) (by decide +kernel) w h), (show ∀ w ∈ wsX00, goodWord w = true by decide +kernel) w h⟩, tyX0_ok, nmX0⟩
theorem am_dfp_0 : ∀ v ∈ am_df 0, (∀ i, v ≠ .ref i) ∧ ∀ i, v ≠ .retAddr i := am_dfp (by decide +kernel)
theorem cl_1 : am_cl RX1 TX1 3 tyX1 1 := ⟨rfl, fun w h => List.mem_filter.mpr ⟨am_tk1 (am_wsk (C := RX1) (T := TX1) (N := 3) (l := tables_1_1) (a := 142) (s := 2) (by decide +kernel) w h), (show ∀ w ∈ wsX10, goodWord w = true by decide +kernel) w h⟩, tyX1_ok, nmX1⟩
theorem am_dfp_1 : ∀ v ∈ am_df 1, (∀ i, v ≠ .ref i) ∧ ∀ i, v ≠ .retAddr i := am_dfp (by decide +kernel)
theorem cl_2 : am_cl RX2 TX2 3 tyX2 2 := ⟨rfl, fun w h => List.mem_filter.mpr ⟨am_tk2 (am_wsk (C := RX2) (T := TX2) (N := 3) (l := tables_1_2) (a := 176) (s := 1) (by decide +kernel) w h), (show ∀ w ∈ wsX20, goodWord w = true by decide +kernel) w h⟩, tyX2_ok, nmX2⟩
theorem am_dfp_2 : ∀ v ∈ am_df 2, (∀ i, v ≠ .ref i) ∧ ∀ i, v ≠ .retAddr i := am_dfp (by decide +kernel)
theorem cl_3 : am_cl RX3 TX3 3 tyX3 3 := ⟨rfl, fun w h => List.mem_filter.mpr ⟨am_tk2 (am_wsk (C := RX3) (T := TX3) (N := 3) (l := tables_1_2) (a := 186) (s := 1) (by decide +kernel) w h), (show ∀ w ∈ wsX30, goodWord w = true by decide +kernel) w h⟩, tyX3_ok, nmX3⟩
theorem am_dfp_3 : ∀ v ∈ am_df 3, (∀ i, v ≠ .ref i) ∧ ∀ i, v ≠ .retAddr i := am_dfp (by decide +kernel)
theorem cl_4 : am_cl RX6 TX6 3 tyX6 4 := ⟨rfl, fun w h => List.mem_filter.mpr ⟨am_tk2 (am_wsk (C := RX6) (T := TX6) (N := 3) (l := tables_1_2) (a := 166) (s := 1) (by decide +kernel) w h), (show ∀ w ∈ wsX60, goodWord w = true by decide +kernel) w h⟩, tyX6_ok, nmX6⟩
theorem am_dfp_4 : ∀ v ∈ am_df 4, (∀ i, v ≠ .ref i) ∧ ∀ i, v ≠ .retAddr i := am_dfp (by decide +kernel)
theorem cl_5 : am_cl RX7 TX7 4 tyX7 5 := ⟨rfl, fun w h => List.mem_filter.mpr ⟨am_tk1 (am_wsk (C := RX7) (T := TX7) (N := 4) (l := tables_1_1) (a := 161) (s := 2) (by decide +kernel) w h), (show ∀ w ∈ wsX70, goodWord w = true by decide +kernel) w h⟩, tyX7_ok, nmX7⟩
theorem am_dfp_5 : ∀ v ∈ am_df 5, (∀ i, v ≠ .ref i) ∧ ∀ i, v ≠ .retAddr i := am_dfp (by decide +kernel)
theorem cl_6 : am_cl RX8 TX8 4 tyX8 6 := ⟨rfl, fun w h => List.mem_filter.mpr ⟨am_tk1 (am_wsk (C := RX8) (T := TX8) (N := 4) (l := tables_1_1) (a := 70) (s := 2) (by decide +kernel) w h), (show ∀ w ∈ wsX80, goodWord w = true by decide +kernel) w h⟩, tyX8_ok, nmX8⟩
theorem am_dfp_6 : ∀ v ∈ am_df 6, (∀ i, v ≠ .ref i) ∧ ∀ i, v ≠ .retAddr i := am_dfp (by decide +kernel)
theorem cl_7 : am_cl RX9 TX9 6 tyX9 7 := ⟨rfl, fun w h => List.mem_filter.mpr ⟨am_tk1 (am_wsk (C := RX9) (T := TX9) (N := 6) (l := tables_1_1) (a := 43) (s := 2) (by decide +kernel) w h), (show ∀ w ∈ wsX90, goodWord w = true by decide +kernel) w h⟩, tyX9_ok, nmX9⟩
theorem am_dfp_7 : ∀ v ∈ am_df 7, (∀ i, v ≠ .ref i) ∧ ∀ i, v ≠ .retAddr i := am_dfp (by decide +kernel)
theorem cl_8 : am_cl RX10 TX10 14 tyX10 8 := ⟨rfl, fun w h => List.mem_filter.mpr ⟨am_tk1 (am_wsk (C := RX10) (T := TX10) (N := 14) (l := tables_1_1) (a := 99) (s := 2) (by decide +kernel) w h), (show ∀ w ∈ wsX100, goodWord w = true by decide +kernel) w h⟩, tyX10_ok, nmX10⟩
theorem am_dfp_8 : ∀ v ∈ am_df 8, (∀ i, v ≠ .ref i) ∧ ∀ i, v ≠ .retAddr i := am_dfp (by decide +kernel)
theorem cl_9 : am_cl RX11 TX11 16 tyX11 9 := ⟨rfl, fun w h => List.mem_filter.mpr ⟨am_tk1 (am_wsk (C := RX11) (T := TX11) (N := 16) (l := tables_1_1) (a := 193) (s := 2) (by decide +kernel) w h), (show ∀ w ∈ wsX110, goodWord w = true by decide +kernel) w h⟩, tyX11_ok, nmX11⟩
theorem am_dfp_9 : ∀ v ∈ am_df 9, (∀ i, v ≠ .ref i) ∧ ∀ i, v ≠ .retAddr i := am_dfp (by decide +kernel)
theorem cl_10 : am_cl RX12 TX12 44 tyX12 10 := ⟨rfl, fun w h => List.mem_filter.mpr ⟨am_tk5 (am_wsk (C := RX12) (T := TX12) (N := 44) (l := tables_1_5) (a := 30) (s := 2) (by decide +kernel) w h), (show ∀ w ∈ wsX120, goodWord w = true by decide +kernel) w h⟩, tyX12_ok, nmX12⟩
theorem am_dfp_10 : ∀ v ∈ am_df 10, (∀ i, v ≠ .ref i) ∧ ∀ i, v ≠ .retAddr i := am_dfp (by decide +kernel)
theorem tw_454 : Cond.code yX4_init cX4_init 4 none ∈ am_tb := List.mem_filter.mpr ⟨am_tk2 (List.mem_of_getElem? (i := 139) (by decide +kernel)), by decide +kernel⟩
theorem tw_89 : Cond.initialized RX4 ∈ am_tb := List.mem_filter.mpr ⟨am_tk1 (List.mem_of_getElem? (i := 14) (by decide +kernel)), by decide +kernel⟩
theorem tw_452 : Cond.methodLink RX0 1 yX4_init ∈ am_tb := List.mem_filter.mpr ⟨am_tk2 (List.mem_of_getElem? (i := 137) (by decide +kernel)), by decide +kernel⟩
theorem tw_453 : Cond.instanceMethod yX4_init ∈ am_tb := List.mem_filter.mpr ⟨am_tk2 (List.mem_of_getElem? (i := 138) (by decide +kernel)), by decide +kernel⟩
theorem tw_451 : Cond.code yX0_init cX0_init 4 none ∈ am_tb := List.mem_filter.mpr ⟨am_tk2 (List.mem_of_getElem? (i := 136) (by decide +kernel)), by decide +kernel⟩
theorem tw_90 : Cond.initialized RX0 ∈ am_tb := List.mem_filter.mpr ⟨am_tk1 (List.mem_of_getElem? (i := 15) (by decide +kernel)), by decide +kernel⟩
theorem tw_791 : Cond.code yX0_kindNumber cX0_kindNumber 1 (some .int) ∈ am_tb := List.mem_filter.mpr ⟨am_tk3 (List.mem_of_getElem? (i := 236) (by decide +kernel)), by decide +kernel⟩
theorem tw_624 : Cond.code yX0_highWorth cX0_highWorth 1 (some .int) ∈ am_tb := List.mem_filter.mpr ⟨am_tk3 (List.mem_of_getElem? (i := 69) (by decide +kernel)), by decide +kernel⟩
theorem tw_208 : Cond.methodLink RX1 3 Lib.objectInit ∈ am_tb := List.mem_filter.mpr ⟨am_tk1 (List.mem_of_getElem? (i := 133) (by decide +kernel)), by decide +kernel⟩
theorem tw_101 : Cond.instanceMethod Lib.objectInit ∈ am_tb := List.mem_filter.mpr ⟨am_tk1 (List.mem_of_getElem? (i := 26) (by decide +kernel)), by decide +kernel⟩
theorem tw_102 : Cond.code Lib.objectInit ⟨#[0xb1]⟩ 1 none ∈ am_tb := List.mem_filter.mpr ⟨am_tk1 (List.mem_of_getElem? (i := 27) (by decide +kernel)), by decide +kernel⟩
theorem tw_209 : Cond.classLink RX1 9 "RodBeads$Rod" ∈ am_tb := List.mem_filter.mpr ⟨am_tk1 (List.mem_of_getElem? (i := 134) (by decide +kernel)), by decide +kernel⟩
theorem tw_211 : Cond.fieldLink RX1 11 "RodBeads$Frame" "rods" "[LRodBeads$Rod;" ∈ am_tb := List.mem_filter.mpr ⟨am_tk1 (List.mem_of_getElem? (i := 136) (by decide +kernel)), by decide +kernel⟩
theorem tw_212 : Cond.fieldLink RX1 17 "RodBeads$Frame" "size" "I" ∈ am_tb := List.mem_filter.mpr ⟨am_tk1 (List.mem_of_getElem? (i := 137) (by decide +kernel)), by decide +kernel⟩
theorem tw_215 : Cond.fieldLink RX1 21 "RodBeads$Frame" "told" "I" ∈ am_tb := List.mem_filter.mpr ⟨am_tk1 (List.mem_of_getElem? (i := 140) (by decide +kernel)), by decide +kernel⟩
theorem tw_207 : Cond.code yX1_init cX1_init 1 none ∈ am_tb := List.mem_filter.mpr ⟨am_tk1 (List.mem_of_getElem? (i := 132) (by decide +kernel)), by decide +kernel⟩
theorem tw_80 : Cond.initialized RX1 ∈ am_tb := List.mem_filter.mpr ⟨am_tk1 (List.mem_of_getElem? (i := 5) (by decide +kernel)), by decide +kernel⟩
theorem tw_331 : Cond.code yX1_rodAt cX1_rodAt 2 (some (.object "RodBeads$Rod")) ∈ am_tb := List.mem_filter.mpr ⟨am_tk2 (List.mem_of_getElem? (i := 16) (by decide +kernel)), by decide +kernel⟩
theorem tw_329 : Cond.instanceMethod yX1_rodAt ∈ am_tb := List.mem_filter.mpr ⟨am_tk2 (List.mem_of_getElem? (i := 14) (by decide +kernel)), by decide +kernel⟩
theorem tw_330 : Cond.selects RX1 yX1_rodAt yX1_rodAt ∈ am_tb := List.mem_filter.mpr ⟨am_tk2 (List.mem_of_getElem? (i := 15) (by decide +kernel)), by decide +kernel⟩
theorem tw_328 : Cond.methodLink RX1 24 yX1_rodAt ∈ am_tb := List.mem_filter.mpr ⟨am_tk2 (List.mem_of_getElem? (i := 13) (by decide +kernel)), by decide +kernel⟩
theorem tw_327 : Cond.code yX1_copy cX1_copy 3 none ∈ am_tb := List.mem_filter.mpr ⟨am_tk2 (List.mem_of_getElem? (i := 12) (by decide +kernel)), by decide +kernel⟩
theorem tw_339 : Cond.code yX9_begin cX9_begin 1 none ∈ am_tb := List.mem_filter.mpr ⟨am_tk2 (List.mem_of_getElem? (i := 24) (by decide +kernel)), by decide +kernel⟩
theorem tw_77 : Cond.initialized RX9 ∈ am_tb := List.mem_filter.mpr ⟨am_tk1 (List.mem_of_getElem? (i := 2) (by decide +kernel)), by decide +kernel⟩
theorem tw_337 : Cond.instanceMethod yX9_begin ∈ am_tb := List.mem_filter.mpr ⟨am_tk2 (List.mem_of_getElem? (i := 22) (by decide +kernel)), by decide +kernel⟩
theorem tw_338 : Cond.selects RX9 yX9_begin yX9_begin ∈ am_tb := List.mem_filter.mpr ⟨am_tk2 (List.mem_of_getElem? (i := 23) (by decide +kernel)), by decide +kernel⟩
theorem tw_336 : Cond.methodLink RX1 28 yX9_begin ∈ am_tb := List.mem_filter.mpr ⟨am_tk2 (List.mem_of_getElem? (i := 21) (by decide +kernel)), by decide +kernel⟩
theorem tw_360 : Cond.code yX1_readClause cX1_readClause 4 none ∈ am_tb := List.mem_filter.mpr ⟨am_tk2 (List.mem_of_getElem? (i := 45) (by decide +kernel)), by decide +kernel⟩
theorem tw_359 : Cond.instanceMethod yX1_readClause ∈ am_tb := List.mem_filter.mpr ⟨am_tk2 (List.mem_of_getElem? (i := 44) (by decide +kernel)), by decide +kernel⟩
theorem tw_2 : Cond.selects RX1 yX1_readClause yX1_readClause ∈ am_tb := List.mem_filter.mpr ⟨List.mem_of_getElem? (i := 2) (by decide +kernel), by decide +kernel⟩
theorem tw_357 : Cond.methodLink RX1 33 yX1_readClause ∈ am_tb := List.mem_filter.mpr ⟨am_tk2 (List.mem_of_getElem? (i := 42) (by decide +kernel)), by decide +kernel⟩
theorem tw_508 : Cond.code yX9_another cX9_another 2 (some .boolean) ∈ am_tb := List.mem_filter.mpr ⟨am_tk2 (List.mem_of_getElem? (i := 193) (by decide +kernel)), by decide +kernel⟩
theorem tw_506 : Cond.instanceMethod yX9_another ∈ am_tb := List.mem_filter.mpr ⟨am_tk2 (List.mem_of_getElem? (i := 191) (by decide +kernel)), by decide +kernel⟩
theorem tw_507 : Cond.selects RX9 yX9_another yX9_another ∈ am_tb := List.mem_filter.mpr ⟨am_tk2 (List.mem_of_getElem? (i := 192) (by decide +kernel)), by decide +kernel⟩
theorem tw_505 : Cond.methodLink RX1 37 yX9_another ∈ am_tb := List.mem_filter.mpr ⟨am_tk2 (List.mem_of_getElem? (i := 190) (by decide +kernel)), by decide +kernel⟩
theorem tw_335 : Cond.code yX1_read cX1_read 4 (some .int) ∈ am_tb := List.mem_filter.mpr ⟨am_tk2 (List.mem_of_getElem? (i := 20) (by decide +kernel)), by decide +kernel⟩
theorem tw_365 : Cond.code yX9_isWord cX9_isWord 3 (some .boolean) ∈ am_tb := List.mem_filter.mpr ⟨am_tk2 (List.mem_of_getElem? (i := 50) (by decide +kernel)), by decide +kernel⟩
theorem tw_363 : Cond.instanceMethod yX9_isWord ∈ am_tb := List.mem_filter.mpr ⟨am_tk2 (List.mem_of_getElem? (i := 48) (by decide +kernel)), by decide +kernel⟩
theorem tw_364 : Cond.selects RX9 yX9_isWord yX9_isWord ∈ am_tb := List.mem_filter.mpr ⟨am_tk2 (List.mem_of_getElem? (i := 49) (by decide +kernel)), by decide +kernel⟩
theorem tw_362 : Cond.methodLink RX1 43 yX9_isWord ∈ am_tb := List.mem_filter.mpr ⟨am_tk2 (List.mem_of_getElem? (i := 47) (by decide +kernel)), by decide +kernel⟩
theorem tw_343 : Cond.code yX9_step cX9_step 3 none ∈ am_tb := List.mem_filter.mpr ⟨am_tk2 (List.mem_of_getElem? (i := 28) (by decide +kernel)), by decide +kernel⟩
theorem tw_341 : Cond.instanceMethod yX9_step ∈ am_tb := List.mem_filter.mpr ⟨am_tk2 (List.mem_of_getElem? (i := 26) (by decide +kernel)), by decide +kernel⟩
theorem tw_342 : Cond.selects RX9 yX9_step yX9_step ∈ am_tb := List.mem_filter.mpr ⟨am_tk2 (List.mem_of_getElem? (i := 27) (by decide +kernel)), by decide +kernel⟩
theorem tw_414 : Cond.methodLink RX1 47 yX9_step ∈ am_tb := List.mem_filter.mpr ⟨am_tk2 (List.mem_of_getElem? (i := 99) (by decide +kernel)), by decide +kernel⟩
theorem tw_419 : Cond.code yX9_takeNumber cX9_takeNumber 7 (some .int) ∈ am_tb := List.mem_filter.mpr ⟨am_tk2 (List.mem_of_getElem? (i := 104) (by decide +kernel)), by decide +kernel⟩
theorem tw_417 : Cond.instanceMethod yX9_takeNumber ∈ am_tb := List.mem_filter.mpr ⟨am_tk2 (List.mem_of_getElem? (i := 102) (by decide +kernel)), by decide +kernel⟩
theorem tw_418 : Cond.selects RX9 yX9_takeNumber yX9_takeNumber ∈ am_tb := List.mem_filter.mpr ⟨am_tk2 (List.mem_of_getElem? (i := 103) (by decide +kernel)), by decide +kernel⟩
theorem tw_416 : Cond.methodLink RX1 52 yX9_takeNumber ∈ am_tb := List.mem_filter.mpr ⟨am_tk2 (List.mem_of_getElem? (i := 101) (by decide +kernel)), by decide +kernel⟩
theorem tw_423 : Cond.code yX9_isSound cX9_isSound 1 (some .boolean) ∈ am_tb := List.mem_filter.mpr ⟨am_tk2 (List.mem_of_getElem? (i := 108) (by decide +kernel)), by decide +kernel⟩
theorem tw_421 : Cond.instanceMethod yX9_isSound ∈ am_tb := List.mem_filter.mpr ⟨am_tk2 (List.mem_of_getElem? (i := 106) (by decide +kernel)), by decide +kernel⟩
theorem tw_422 : Cond.selects RX9 yX9_isSound yX9_isSound ∈ am_tb := List.mem_filter.mpr ⟨am_tk2 (List.mem_of_getElem? (i := 107) (by decide +kernel)), by decide +kernel⟩
theorem tw_428 : Cond.methodLink RX1 56 yX9_isSound ∈ am_tb := List.mem_filter.mpr ⟨am_tk2 (List.mem_of_getElem? (i := 113) (by decide +kernel)), by decide +kernel⟩
theorem tw_431 : Cond.code yX7_partBit cX7_partBit 2 (some .int) ∈ am_tb := List.mem_filter.mpr ⟨am_tk2 (List.mem_of_getElem? (i := 116) (by decide +kernel)), by decide +kernel⟩
theorem tw_81 : Cond.initialized RX7 ∈ am_tb := List.mem_filter.mpr ⟨am_tk1 (List.mem_of_getElem? (i := 6) (by decide +kernel)), by decide +kernel⟩
theorem tw_429 : Cond.methodLink RX1 60 yX7_partBit ∈ am_tb := List.mem_filter.mpr ⟨am_tk2 (List.mem_of_getElem? (i := 114) (by decide +kernel)), by decide +kernel⟩
theorem tw_430 : Cond.static yX7_partBit ∈ am_tb := List.mem_filter.mpr ⟨am_tk2 (List.mem_of_getElem? (i := 115) (by decide +kernel)), by decide +kernel⟩
theorem tw_434 : Cond.code yX1_kindTold cX1_kindTold 1 (some .int) ∈ am_tb := List.mem_filter.mpr ⟨am_tk2 (List.mem_of_getElem? (i := 119) (by decide +kernel)), by decide +kernel⟩
theorem tw_432 : Cond.methodLink RX1 66 yX1_kindTold ∈ am_tb := List.mem_filter.mpr ⟨am_tk2 (List.mem_of_getElem? (i := 117) (by decide +kernel)), by decide +kernel⟩
theorem tw_433 : Cond.static yX1_kindTold ∈ am_tb := List.mem_filter.mpr ⟨am_tk2 (List.mem_of_getElem? (i := 118) (by decide +kernel)), by decide +kernel⟩
theorem tw_442 : Cond.code yX1_readRod cX1_readRod 6 none ∈ am_tb := List.mem_filter.mpr ⟨am_tk2 (List.mem_of_getElem? (i := 127) (by decide +kernel)), by decide +kernel⟩
theorem tw_441 : Cond.instanceMethod yX1_readRod ∈ am_tb := List.mem_filter.mpr ⟨am_tk2 (List.mem_of_getElem? (i := 126) (by decide +kernel)), by decide +kernel⟩
theorem tw_3 : Cond.selects RX1 yX1_readRod yX1_readRod ∈ am_tb := List.mem_filter.mpr ⟨List.mem_of_getElem? (i := 3) (by decide +kernel), by decide +kernel⟩
theorem tw_439 : Cond.methodLink RX1 70 yX1_readRod ∈ am_tb := List.mem_filter.mpr ⟨am_tk2 (List.mem_of_getElem? (i := 124) (by decide +kernel)), by decide +kernel⟩
theorem tw_427 : Cond.code yX9_fail cX9_fail 1 none ∈ am_tb := List.mem_filter.mpr ⟨am_tk2 (List.mem_of_getElem? (i := 112) (by decide +kernel)), by decide +kernel⟩
theorem tw_425 : Cond.instanceMethod yX9_fail ∈ am_tb := List.mem_filter.mpr ⟨am_tk2 (List.mem_of_getElem? (i := 110) (by decide +kernel)), by decide +kernel⟩
theorem tw_426 : Cond.selects RX9 yX9_fail yX9_fail ∈ am_tb := List.mem_filter.mpr ⟨am_tk2 (List.mem_of_getElem? (i := 111) (by decide +kernel)), by decide +kernel⟩
theorem tw_443 : Cond.methodLink RX1 82 yX9_fail ∈ am_tb := List.mem_filter.mpr ⟨am_tk2 (List.mem_of_getElem? (i := 128) (by decide +kernel)), by decide +kernel⟩
theorem tw_446 : Cond.code yX1_makeRod cX1_makeRod 4 (some (.object "RodBeads$Rod")) ∈ am_tb := List.mem_filter.mpr ⟨am_tk2 (List.mem_of_getElem? (i := 131) (by decide +kernel)), by decide +kernel⟩
theorem tw_444 : Cond.methodLink RX1 85 yX1_makeRod ∈ am_tb := List.mem_filter.mpr ⟨am_tk2 (List.mem_of_getElem? (i := 129) (by decide +kernel)), by decide +kernel⟩
theorem tw_445 : Cond.static yX1_makeRod ∈ am_tb := List.mem_filter.mpr ⟨am_tk2 (List.mem_of_getElem? (i := 130) (by decide +kernel)), by decide +kernel⟩
theorem tw_447 : Cond.classLink RX1 89 RX0 ∈ am_tb := List.mem_filter.mpr ⟨am_tk2 (List.mem_of_getElem? (i := 132) (by decide +kernel)), by decide +kernel⟩
theorem tw_448 : Cond.instantiable RX0 3 ∈ am_tb := List.mem_filter.mpr ⟨am_tk2 (List.mem_of_getElem? (i := 133) (by decide +kernel)), by decide +kernel⟩
theorem tw_449 : Cond.methodLink RX1 91 yX0_init ∈ am_tb := List.mem_filter.mpr ⟨am_tk2 (List.mem_of_getElem? (i := 134) (by decide +kernel)), by decide +kernel⟩
theorem tw_450 : Cond.instanceMethod yX0_init ∈ am_tb := List.mem_filter.mpr ⟨am_tk2 (List.mem_of_getElem? (i := 135) (by decide +kernel)), by decide +kernel⟩
theorem tw_475 : Cond.classLink RX1 94 RX6 ∈ am_tb := List.mem_filter.mpr ⟨am_tk2 (List.mem_of_getElem? (i := 160) (by decide +kernel)), by decide +kernel⟩
theorem tw_476 : Cond.instantiable RX6 3 ∈ am_tb := List.mem_filter.mpr ⟨am_tk2 (List.mem_of_getElem? (i := 161) (by decide +kernel)), by decide +kernel⟩
theorem tw_91 : Cond.initialized RX6 ∈ am_tb := List.mem_filter.mpr ⟨am_tk1 (List.mem_of_getElem? (i := 16) (by decide +kernel)), by decide +kernel⟩
theorem tw_479 : Cond.code yX6_init cX6_init 4 none ∈ am_tb := List.mem_filter.mpr ⟨am_tk2 (List.mem_of_getElem? (i := 164) (by decide +kernel)), by decide +kernel⟩
theorem tw_477 : Cond.methodLink RX1 96 yX6_init ∈ am_tb := List.mem_filter.mpr ⟨am_tk2 (List.mem_of_getElem? (i := 162) (by decide +kernel)), by decide +kernel⟩
theorem tw_478 : Cond.instanceMethod yX6_init ∈ am_tb := List.mem_filter.mpr ⟨am_tk2 (List.mem_of_getElem? (i := 163) (by decide +kernel)), by decide +kernel⟩
theorem tw_485 : Cond.classLink RX1 97 RX2 ∈ am_tb := List.mem_filter.mpr ⟨am_tk2 (List.mem_of_getElem? (i := 170) (by decide +kernel)), by decide +kernel⟩
theorem tw_486 : Cond.instantiable RX2 3 ∈ am_tb := List.mem_filter.mpr ⟨am_tk2 (List.mem_of_getElem? (i := 171) (by decide +kernel)), by decide +kernel⟩
theorem tw_92 : Cond.initialized RX2 ∈ am_tb := List.mem_filter.mpr ⟨am_tk1 (List.mem_of_getElem? (i := 17) (by decide +kernel)), by decide +kernel⟩
theorem tw_489 : Cond.code yX2_init cX2_init 4 none ∈ am_tb := List.mem_filter.mpr ⟨am_tk2 (List.mem_of_getElem? (i := 174) (by decide +kernel)), by decide +kernel⟩
theorem tw_487 : Cond.methodLink RX1 99 yX2_init ∈ am_tb := List.mem_filter.mpr ⟨am_tk2 (List.mem_of_getElem? (i := 172) (by decide +kernel)), by decide +kernel⟩
theorem tw_488 : Cond.instanceMethod yX2_init ∈ am_tb := List.mem_filter.mpr ⟨am_tk2 (List.mem_of_getElem? (i := 173) (by decide +kernel)), by decide +kernel⟩
theorem tw_495 : Cond.classLink RX1 100 RX3 ∈ am_tb := List.mem_filter.mpr ⟨am_tk2 (List.mem_of_getElem? (i := 180) (by decide +kernel)), by decide +kernel⟩
theorem tw_496 : Cond.instantiable RX3 3 ∈ am_tb := List.mem_filter.mpr ⟨am_tk2 (List.mem_of_getElem? (i := 181) (by decide +kernel)), by decide +kernel⟩
theorem tw_93 : Cond.initialized RX3 ∈ am_tb := List.mem_filter.mpr ⟨am_tk1 (List.mem_of_getElem? (i := 18) (by decide +kernel)), by decide +kernel⟩
theorem tw_499 : Cond.code yX3_init cX3_init 3 none ∈ am_tb := List.mem_filter.mpr ⟨am_tk2 (List.mem_of_getElem? (i := 184) (by decide +kernel)), by decide +kernel⟩
theorem tw_497 : Cond.methodLink RX1 102 yX3_init ∈ am_tb := List.mem_filter.mpr ⟨am_tk2 (List.mem_of_getElem? (i := 182) (by decide +kernel)), by decide +kernel⟩
theorem tw_498 : Cond.instanceMethod yX3_init ∈ am_tb := List.mem_filter.mpr ⟨am_tk2 (List.mem_of_getElem? (i := 183) (by decide +kernel)), by decide +kernel⟩
theorem tw_490 : Cond.methodLink RX2 1 yX0_init ∈ am_tb := List.mem_filter.mpr ⟨am_tk2 (List.mem_of_getElem? (i := 175) (by decide +kernel)), by decide +kernel⟩
theorem tw_794 : Cond.code yX2_kindNumber cX2_kindNumber 1 (some .int) ∈ am_tb := List.mem_filter.mpr ⟨am_tk3 (List.mem_of_getElem? (i := 239) (by decide +kernel)), by decide +kernel⟩
theorem tw_460 : Cond.fieldLink RX2 7 "RodBeads$Heir" "lowBeads" "I" ∈ am_tb := List.mem_filter.mpr ⟨am_tk2 (List.mem_of_getElem? (i := 145) (by decide +kernel)), by decide +kernel⟩
theorem tw_461 : Cond.sameField "RodBeads$Heir" "RodBeads$Rod" "lowBeads" "I" ∈ am_tb := List.mem_filter.mpr ⟨am_tk2 (List.mem_of_getElem? (i := 146) (by decide +kernel)), by decide +kernel⟩
theorem tw_627 : Cond.code yX2_highWorth cX2_highWorth 1 (some .int) ∈ am_tb := List.mem_filter.mpr ⟨am_tk3 (List.mem_of_getElem? (i := 72) (by decide +kernel)), by decide +kernel⟩
theorem tw_682 : Cond.code yX2_highTime cX2_highTime 1 (some .int) ∈ am_tb := List.mem_filter.mpr ⟨am_tk3 (List.mem_of_getElem? (i := 127) (by decide +kernel)), by decide +kernel⟩
theorem tw_500 : Cond.methodLink RX3 1 yX4_init ∈ am_tb := List.mem_filter.mpr ⟨am_tk2 (List.mem_of_getElem? (i := 185) (by decide +kernel)), by decide +kernel⟩
theorem tw_797 : Cond.code yX3_kindNumber cX3_kindNumber 1 (some .int) ∈ am_tb := List.mem_filter.mpr ⟨am_tk4 (List.mem_of_getElem? (i := 2) (by decide +kernel)), by decide +kernel⟩
theorem tw_630 : Cond.code yX3_highWorth cX3_highWorth 1 (some .int) ∈ am_tb := List.mem_filter.mpr ⟨am_tk3 (List.mem_of_getElem? (i := 75) (by decide +kernel)), by decide +kernel⟩
theorem tw_455 : Cond.methodLink RX4 3 Lib.objectInit ∈ am_tb := List.mem_filter.mpr ⟨am_tk2 (List.mem_of_getElem? (i := 140) (by decide +kernel)), by decide +kernel⟩
theorem tw_456 : Cond.fieldLink RX4 9 "RodBeads$Rod" "base" "I" ∈ am_tb := List.mem_filter.mpr ⟨am_tk2 (List.mem_of_getElem? (i := 141) (by decide +kernel)), by decide +kernel⟩
theorem tw_459 : Cond.fieldLink RX4 15 "RodBeads$Rod" "lowBeads" "I" ∈ am_tb := List.mem_filter.mpr ⟨am_tk2 (List.mem_of_getElem? (i := 144) (by decide +kernel)), by decide +kernel⟩
theorem tw_464 : Cond.fieldLink RX4 18 "RodBeads$Rod" "highBeads" "I" ∈ am_tb := List.mem_filter.mpr ⟨am_tk2 (List.mem_of_getElem? (i := 149) (by decide +kernel)), by decide +kernel⟩
theorem tw_697 : Cond.code yX4_lowTime cX4_lowTime 1 (some .int) ∈ am_tb := List.mem_filter.mpr ⟨am_tk3 (List.mem_of_getElem? (i := 142) (by decide +kernel)), by decide +kernel⟩
theorem tw_687 : Cond.code yX4_highTime cX4_highTime 1 (some .int) ∈ am_tb := List.mem_filter.mpr ⟨am_tk3 (List.mem_of_getElem? (i := 132) (by decide +kernel)), by decide +kernel⟩
theorem tw_832 : Cond.code yX4_beadsOf cX4_beadsOf 2 (some .int) ∈ am_tb := List.mem_filter.mpr ⟨am_tk4 (List.mem_of_getElem? (i := 37) (by decide +kernel)), by decide +kernel⟩
theorem tw_677 : Cond.instanceMethod yX4_highTime ∈ am_tb := List.mem_filter.mpr ⟨am_tk3 (List.mem_of_getElem? (i := 122) (by decide +kernel)), by decide +kernel⟩
theorem tw_679 : Cond.selects RX0 yX4_highTime yX4_highTime ∈ am_tb := List.mem_filter.mpr ⟨am_tk3 (List.mem_of_getElem? (i := 124) (by decide +kernel)), by decide +kernel⟩
theorem tw_676 : Cond.methodLink RX4 21 yX4_highTime ∈ am_tb := List.mem_filter.mpr ⟨am_tk3 (List.mem_of_getElem? (i := 121) (by decide +kernel)), by decide +kernel⟩
theorem tw_681 : Cond.instanceMethod yX2_highTime ∈ am_tb := List.mem_filter.mpr ⟨am_tk3 (List.mem_of_getElem? (i := 126) (by decide +kernel)), by decide +kernel⟩
theorem tw_680 : Cond.selects RX2 yX4_highTime yX2_highTime ∈ am_tb := List.mem_filter.mpr ⟨am_tk3 (List.mem_of_getElem? (i := 125) (by decide +kernel)), by decide +kernel⟩
theorem tw_678 : Cond.sameMethod "RodBeads$Rod" "RodBeads$Rod" "highTime" "()I" ∈ am_tb := List.mem_filter.mpr ⟨am_tk3 (List.mem_of_getElem? (i := 123) (by decide +kernel)), by decide +kernel⟩
theorem tw_683 : Cond.selects RX3 yX4_highTime yX4_highTime ∈ am_tb := List.mem_filter.mpr ⟨am_tk3 (List.mem_of_getElem? (i := 128) (by decide +kernel)), by decide +kernel⟩
theorem tw_686 : Cond.code yX6_highTime cX6_highTime 1 (some .int) ∈ am_tb := List.mem_filter.mpr ⟨am_tk3 (List.mem_of_getElem? (i := 131) (by decide +kernel)), by decide +kernel⟩
theorem tw_685 : Cond.instanceMethod yX6_highTime ∈ am_tb := List.mem_filter.mpr ⟨am_tk3 (List.mem_of_getElem? (i := 130) (by decide +kernel)), by decide +kernel⟩
theorem tw_684 : Cond.selects RX6 yX4_highTime yX6_highTime ∈ am_tb := List.mem_filter.mpr ⟨am_tk3 (List.mem_of_getElem? (i := 129) (by decide +kernel)), by decide +kernel⟩
theorem tw_689 : Cond.instanceMethod yX4_lowTime ∈ am_tb := List.mem_filter.mpr ⟨am_tk3 (List.mem_of_getElem? (i := 134) (by decide +kernel)), by decide +kernel⟩
theorem tw_691 : Cond.selects RX0 yX4_lowTime yX4_lowTime ∈ am_tb := List.mem_filter.mpr ⟨am_tk3 (List.mem_of_getElem? (i := 136) (by decide +kernel)), by decide +kernel⟩
theorem tw_688 : Cond.methodLink RX4 25 yX4_lowTime ∈ am_tb := List.mem_filter.mpr ⟨am_tk3 (List.mem_of_getElem? (i := 133) (by decide +kernel)), by decide +kernel⟩
theorem tw_692 : Cond.selects RX2 yX4_lowTime yX4_lowTime ∈ am_tb := List.mem_filter.mpr ⟨am_tk3 (List.mem_of_getElem? (i := 137) (by decide +kernel)), by decide +kernel⟩
theorem tw_693 : Cond.selects RX3 yX4_lowTime yX4_lowTime ∈ am_tb := List.mem_filter.mpr ⟨am_tk3 (List.mem_of_getElem? (i := 138) (by decide +kernel)), by decide +kernel⟩
theorem tw_696 : Cond.code yX6_lowTime cX6_lowTime 1 (some .int) ∈ am_tb := List.mem_filter.mpr ⟨am_tk3 (List.mem_of_getElem? (i := 141) (by decide +kernel)), by decide +kernel⟩
theorem tw_695 : Cond.instanceMethod yX6_lowTime ∈ am_tb := List.mem_filter.mpr ⟨am_tk3 (List.mem_of_getElem? (i := 140) (by decide +kernel)), by decide +kernel⟩
theorem tw_694 : Cond.selects RX6 yX4_lowTime yX6_lowTime ∈ am_tb := List.mem_filter.mpr ⟨am_tk3 (List.mem_of_getElem? (i := 139) (by decide +kernel)), by decide +kernel⟩
theorem tw_690 : Cond.sameMethod "RodBeads$Rod" "RodBeads$Rod" "lowTime" "()I" ∈ am_tb := List.mem_filter.mpr ⟨am_tk3 (List.mem_of_getElem? (i := 135) (by decide +kernel)), by decide +kernel⟩
theorem tw_675 : Cond.code yX4_timeOf cX4_timeOf 2 (some .int) ∈ am_tb := List.mem_filter.mpr ⟨am_tk3 (List.mem_of_getElem? (i := 120) (by decide +kernel)), by decide +kernel⟩
theorem tw_623 : Cond.instanceMethod yX0_highWorth ∈ am_tb := List.mem_filter.mpr ⟨am_tk3 (List.mem_of_getElem? (i := 68) (by decide +kernel)), by decide +kernel⟩
theorem tw_622 : Cond.selects RX0 ⟨"RodBeads$Rod", "highWorth", "()I"⟩ yX0_highWorth ∈ am_tb := List.mem_filter.mpr ⟨am_tk3 (List.mem_of_getElem? (i := 67) (by decide +kernel)), by decide +kernel⟩
theorem tw_619 : Cond.methodLink RX4 28 ⟨"RodBeads$Rod", "highWorth", "()I"⟩ ∈ am_tb := List.mem_filter.mpr ⟨am_tk3 (List.mem_of_getElem? (i := 64) (by decide +kernel)), by decide +kernel⟩
theorem tw_621 : Cond.sameMethod "RodBeads$Rod" "RodBeads$Rod" "highWorth" "()I" ∈ am_tb := List.mem_filter.mpr ⟨am_tk3 (List.mem_of_getElem? (i := 66) (by decide +kernel)), by decide +kernel⟩
theorem tw_620 : Cond.declares ⟨"RodBeads$Rod", "highWorth", "()I"⟩ ∈ am_xw := List.mem_filter.mpr ⟨am_tk3 (List.mem_of_getElem? (i := 65) (by decide +kernel)), by decide +kernel⟩
theorem tw_626 : Cond.instanceMethod yX2_highWorth ∈ am_tb := List.mem_filter.mpr ⟨am_tk3 (List.mem_of_getElem? (i := 71) (by decide +kernel)), by decide +kernel⟩
theorem tw_625 : Cond.selects RX2 ⟨"RodBeads$Rod", "highWorth", "()I"⟩ yX2_highWorth ∈ am_tb := List.mem_filter.mpr ⟨am_tk3 (List.mem_of_getElem? (i := 70) (by decide +kernel)), by decide +kernel⟩
theorem tw_629 : Cond.instanceMethod yX3_highWorth ∈ am_tb := List.mem_filter.mpr ⟨am_tk3 (List.mem_of_getElem? (i := 74) (by decide +kernel)), by decide +kernel⟩
theorem tw_628 : Cond.selects RX3 ⟨"RodBeads$Rod", "highWorth", "()I"⟩ yX3_highWorth ∈ am_tb := List.mem_filter.mpr ⟨am_tk3 (List.mem_of_getElem? (i := 73) (by decide +kernel)), by decide +kernel⟩
theorem tw_631 : Cond.selects RX6 ⟨"RodBeads$Rod", "highWorth", "()I"⟩ yX0_highWorth ∈ am_tb := List.mem_filter.mpr ⟨am_tk3 (List.mem_of_getElem? (i := 76) (by decide +kernel)), by decide +kernel⟩
theorem tw_618 : Cond.code yX4_worthOf cX4_worthOf 3 (some .int) ∈ am_tb := List.mem_filter.mpr ⟨am_tk3 (List.mem_of_getElem? (i := 63) (by decide +kernel)), by decide +kernel⟩
theorem tw_991 : Cond.code yX4_leastTimeFor cX4_leastTimeFor 6 (some .int) ∈ am_tb := List.mem_filter.mpr ⟨am_tk4 (List.mem_of_getElem? (i := 196) (by decide +kernel)), by decide +kernel⟩
theorem tw_595 : Cond.code yX5_at cX5_at 2 (some .int) ∈ am_tb := List.mem_filter.mpr ⟨am_tk3 (List.mem_of_getElem? (i := 40) (by decide +kernel)), by decide +kernel⟩
theorem tw_84 : Cond.initialized RX5 ∈ am_tb := List.mem_filter.mpr ⟨am_tk1 (List.mem_of_getElem? (i := 9) (by decide +kernel)), by decide +kernel⟩
theorem tw_311 : Cond.code yX5_put cX5_put 3 none ∈ am_tb := List.mem_filter.mpr ⟨am_tk1 (List.mem_of_getElem? (i := 236) (by decide +kernel)), by decide +kernel⟩
theorem tw_480 : Cond.methodLink RX6 1 yX0_init ∈ am_tb := List.mem_filter.mpr ⟨am_tk2 (List.mem_of_getElem? (i := 165) (by decide +kernel)), by decide +kernel⟩
theorem tw_800 : Cond.code yX6_kindNumber cX6_kindNumber 1 (some .int) ∈ am_tb := List.mem_filter.mpr ⟨am_tk4 (List.mem_of_getElem? (i := 5) (by decide +kernel)), by decide +kernel⟩
theorem tw_229 : Cond.methodLink RX7 3 Lib.objectInit ∈ am_tb := List.mem_filter.mpr ⟨am_tk1 (List.mem_of_getElem? (i := 154) (by decide +kernel)), by decide +kernel⟩
theorem tw_131 : Cond.arrayClass (newarray.typeOf .int) ∈ am_tb := List.mem_filter.mpr ⟨am_tk1 (List.mem_of_getElem? (i := 56) (by decide +kernel)), by decide +kernel⟩
theorem tw_230 : Cond.fieldLink RX7 9 "RodBeads$Standing" "low" "[I" ∈ am_tb := List.mem_filter.mpr ⟨am_tk1 (List.mem_of_getElem? (i := 155) (by decide +kernel)), by decide +kernel⟩
theorem tw_231 : Cond.fieldLink RX7 15 "RodBeads$Standing" "high" "[I" ∈ am_tb := List.mem_filter.mpr ⟨am_tk1 (List.mem_of_getElem? (i := 156) (by decide +kernel)), by decide +kernel⟩
theorem tw_232 : Cond.fieldLink RX7 18 "RodBeads$Standing" "stuck" "I" ∈ am_tb := List.mem_filter.mpr ⟨am_tk1 (List.mem_of_getElem? (i := 157) (by decide +kernel)), by decide +kernel⟩
theorem tw_234 : Cond.fieldLink RX7 22 "RodBeads$Standing" "spent" "I" ∈ am_tb := List.mem_filter.mpr ⟨am_tk1 (List.mem_of_getElem? (i := 159) (by decide +kernel)), by decide +kernel⟩
theorem tw_228 : Cond.code yX7_init cX7_init 1 none ∈ am_tb := List.mem_filter.mpr ⟨am_tk1 (List.mem_of_getElem? (i := 153) (by decide +kernel)), by decide +kernel⟩
theorem tw_577 : Cond.code yJ7_fill_53178 cJ7_fill_53178 4 none ∈ am_tb := List.mem_filter.mpr ⟨am_tk3 (List.mem_of_getElem? (i := 22) (by decide +kernel)), by decide +kernel⟩
theorem tw_94 : Cond.initialized RJ7 ∈ am_tb := List.mem_filter.mpr ⟨am_tk1 (List.mem_of_getElem? (i := 19) (by decide +kernel)), by decide +kernel⟩
theorem tw_575 : Cond.methodLink RX7 25 yJ7_fill_53178 ∈ am_tb := List.mem_filter.mpr ⟨am_tk3 (List.mem_of_getElem? (i := 20) (by decide +kernel)), by decide +kernel⟩
theorem tw_576 : Cond.static yJ7_fill_53178 ∈ am_tb := List.mem_filter.mpr ⟨am_tk3 (List.mem_of_getElem? (i := 21) (by decide +kernel)), by decide +kernel⟩
theorem tw_574 : Cond.code yX7_begin cX7_begin 2 none ∈ am_tb := List.mem_filter.mpr ⟨am_tk3 (List.mem_of_getElem? (i := 19) (by decide +kernel)), by decide +kernel⟩
theorem tw_593 : Cond.methodLink RX7 31 yX5_at ∈ am_tb := List.mem_filter.mpr ⟨am_tk3 (List.mem_of_getElem? (i := 38) (by decide +kernel)), by decide +kernel⟩
theorem tw_594 : Cond.static yX5_at ∈ am_tb := List.mem_filter.mpr ⟨am_tk3 (List.mem_of_getElem? (i := 39) (by decide +kernel)), by decide +kernel⟩
theorem tw_596 : Cond.methodLink RX7 37 yX5_put ∈ am_tb := List.mem_filter.mpr ⟨am_tk3 (List.mem_of_getElem? (i := 41) (by decide +kernel)), by decide +kernel⟩
theorem tw_310 : Cond.static yX5_put ∈ am_tb := List.mem_filter.mpr ⟨am_tk1 (List.mem_of_getElem? (i := 235) (by decide +kernel)), by decide +kernel⟩
theorem tw_592 : Cond.code yX7_copy cX7_copy 3 none ∈ am_tb := List.mem_filter.mpr ⟨am_tk3 (List.mem_of_getElem? (i := 37) (by decide +kernel)), by decide +kernel⟩
theorem tw_610 : Cond.code yX7_beads cX7_beads 3 (some .int) ∈ am_tb := List.mem_filter.mpr ⟨am_tk3 (List.mem_of_getElem? (i := 55) (by decide +kernel)), by decide +kernel⟩
theorem tw_760 : Cond.code yX7_place cX7_place 4 none ∈ am_tb := List.mem_filter.mpr ⟨am_tk3 (List.mem_of_getElem? (i := 205) (by decide +kernel)), by decide +kernel⟩
theorem tw_666 : Cond.methodLink RX7 41 yX7_partBit ∈ am_tb := List.mem_filter.mpr ⟨am_tk3 (List.mem_of_getElem? (i := 111) (by decide +kernel)), by decide +kernel⟩
theorem tw_665 : Cond.code yX7_isStuck cX7_isStuck 3 (some .boolean) ∈ am_tb := List.mem_filter.mpr ⟨am_tk3 (List.mem_of_getElem? (i := 110) (by decide +kernel)), by decide +kernel⟩
theorem tw_608 : Cond.instanceMethod yX7_beads ∈ am_tb := List.mem_filter.mpr ⟨am_tk3 (List.mem_of_getElem? (i := 53) (by decide +kernel)), by decide +kernel⟩
theorem tw_609 : Cond.selects RX7 yX7_beads yX7_beads ∈ am_tb := List.mem_filter.mpr ⟨am_tk3 (List.mem_of_getElem? (i := 54) (by decide +kernel)), by decide +kernel⟩
theorem tw_607 : Cond.methodLink RX7 45 yX7_beads ∈ am_tb := List.mem_filter.mpr ⟨am_tk3 (List.mem_of_getElem? (i := 52) (by decide +kernel)), by decide +kernel⟩
theorem tw_612 : Cond.instanceMethod yX4_worthOf ∈ am_tb := List.mem_filter.mpr ⟨am_tk3 (List.mem_of_getElem? (i := 57) (by decide +kernel)), by decide +kernel⟩
theorem tw_614 : Cond.selects RX0 yX4_worthOf yX4_worthOf ∈ am_tb := List.mem_filter.mpr ⟨am_tk3 (List.mem_of_getElem? (i := 59) (by decide +kernel)), by decide +kernel⟩
theorem tw_611 : Cond.methodLink RX7 48 yX4_worthOf ∈ am_tb := List.mem_filter.mpr ⟨am_tk3 (List.mem_of_getElem? (i := 56) (by decide +kernel)), by decide +kernel⟩
theorem tw_615 : Cond.selects RX2 yX4_worthOf yX4_worthOf ∈ am_tb := List.mem_filter.mpr ⟨am_tk3 (List.mem_of_getElem? (i := 60) (by decide +kernel)), by decide +kernel⟩
theorem tw_616 : Cond.selects RX3 yX4_worthOf yX4_worthOf ∈ am_tb := List.mem_filter.mpr ⟨am_tk3 (List.mem_of_getElem? (i := 61) (by decide +kernel)), by decide +kernel⟩
theorem tw_617 : Cond.selects RX6 yX4_worthOf yX4_worthOf ∈ am_tb := List.mem_filter.mpr ⟨am_tk3 (List.mem_of_getElem? (i := 62) (by decide +kernel)), by decide +kernel⟩
theorem tw_606 : Cond.code yX7_shows cX7_shows 3 (some .int) ∈ am_tb := List.mem_filter.mpr ⟨am_tk3 (List.mem_of_getElem? (i := 51) (by decide +kernel)), by decide +kernel⟩
theorem tw_866 : Cond.code yX7_beadsInAll cX7_beadsInAll 3 (some .int) ∈ am_tb := List.mem_filter.mpr ⟨am_tk4 (List.mem_of_getElem? (i := 71) (by decide +kernel)), by decide +kernel⟩
theorem tw_765 : Cond.constant RX7 53 (1000000) ∈ am_tb := List.mem_filter.mpr ⟨am_tk3 (List.mem_of_getElem? (i := 210) (by decide +kernel)), by decide +kernel⟩
theorem tw_82 : Cond.initialized "java/lang/Math" ∈ am_tb := List.mem_filter.mpr ⟨am_tk1 (List.mem_of_getElem? (i := 7) (by decide +kernel)), by decide +kernel⟩
theorem tw_766 : Cond.methodLink RX7 54 Lib.Math.min.name ∈ am_tb := List.mem_filter.mpr ⟨am_tk3 (List.mem_of_getElem? (i := 211) (by decide +kernel)), by decide +kernel⟩
theorem tw_355 : Cond.static Lib.Math.min.name ∈ am_tb := List.mem_filter.mpr ⟨am_tk2 (List.mem_of_getElem? (i := 40) (by decide +kernel)), by decide +kernel⟩
theorem tw_356 : Cond.code Lib.Math.min.name Lib.Math.min.code 2 (some .int) ∈ am_tb := List.mem_filter.mpr ⟨am_tk2 (List.mem_of_getElem? (i := 41) (by decide +kernel)), by decide +kernel⟩
theorem tw_764 : Cond.code yX7_spend cX7_spend 2 none ∈ am_tb := List.mem_filter.mpr ⟨am_tk3 (List.mem_of_getElem? (i := 209) (by decide +kernel)), by decide +kernel⟩
theorem tw_137 : Cond.methodLink RX8 3 Lib.objectInit ∈ am_tb := List.mem_filter.mpr ⟨am_tk1 (List.mem_of_getElem? (i := 62) (by decide +kernel)), by decide +kernel⟩
theorem tw_138 : Cond.fieldLink RX8 11 "RodBeads$Sums" "verb" "I" ∈ am_tb := List.mem_filter.mpr ⟨am_tk1 (List.mem_of_getElem? (i := 63) (by decide +kernel)), by decide +kernel⟩
theorem tw_140 : Cond.fieldLink RX8 15 "RodBeads$Sums" "value" "J" ∈ am_tb := List.mem_filter.mpr ⟨am_tk1 (List.mem_of_getElem? (i := 65) (by decide +kernel)), by decide +kernel⟩
theorem tw_142 : Cond.fieldLink RX8 19 "RodBeads$Sums" "possible" "Z" ∈ am_tb := List.mem_filter.mpr ⟨am_tk1 (List.mem_of_getElem? (i := 67) (by decide +kernel)), by decide +kernel⟩
theorem tw_144 : Cond.fieldLink RX8 23 "RodBeads$Sums" "theNumber" "J" ∈ am_tb := List.mem_filter.mpr ⟨am_tk1 (List.mem_of_getElem? (i := 69) (by decide +kernel)), by decide +kernel⟩
theorem tw_136 : Cond.code yX8_init cX8_init 1 none ∈ am_tb := List.mem_filter.mpr ⟨am_tk1 (List.mem_of_getElem? (i := 61) (by decide +kernel)), by decide +kernel⟩
theorem tw_78 : Cond.initialized RX8 ∈ am_tb := List.mem_filter.mpr ⟨am_tk1 (List.mem_of_getElem? (i := 3) (by decide +kernel)), by decide +kernel⟩
theorem tw_521 : Cond.methodLink RX8 26 yX9_begin ∈ am_tb := List.mem_filter.mpr ⟨am_tk2 (List.mem_of_getElem? (i := 206) (by decide +kernel)), by decide +kernel⟩
theorem tw_525 : Cond.code yX8_readStatement cX8_readStatement 5 none ∈ am_tb := List.mem_filter.mpr ⟨am_tk2 (List.mem_of_getElem? (i := 210) (by decide +kernel)), by decide +kernel⟩
theorem tw_523 : Cond.instanceMethod yX8_readStatement ∈ am_tb := List.mem_filter.mpr ⟨am_tk2 (List.mem_of_getElem? (i := 208) (by decide +kernel)), by decide +kernel⟩
theorem tw_524 : Cond.selects RX8 yX8_readStatement yX8_readStatement ∈ am_tb := List.mem_filter.mpr ⟨am_tk2 (List.mem_of_getElem? (i := 209) (by decide +kernel)), by decide +kernel⟩
theorem tw_522 : Cond.methodLink RX8 31 yX8_readStatement ∈ am_tb := List.mem_filter.mpr ⟨am_tk2 (List.mem_of_getElem? (i := 207) (by decide +kernel)), by decide +kernel⟩
theorem tw_566 : Cond.methodLink RX8 35 yX9_another ∈ am_tb := List.mem_filter.mpr ⟨am_tk3 (List.mem_of_getElem? (i := 11) (by decide +kernel)), by decide +kernel⟩
theorem tw_113 : Cond.fieldLink RX8 39 "RodBeads$Text" "fault" "I" ∈ am_tb := List.mem_filter.mpr ⟨am_tk1 (List.mem_of_getElem? (i := 38) (by decide +kernel)), by decide +kernel⟩
theorem tw_520 : Cond.code yX8_check cX8_check 5 (some .int) ∈ am_tb := List.mem_filter.mpr ⟨am_tk2 (List.mem_of_getElem? (i := 205) (by decide +kernel)), by decide +kernel⟩
theorem tw_528 : Cond.code yX8_verbTold cX8_verbTold 1 (some .int) ∈ am_tb := List.mem_filter.mpr ⟨am_tk2 (List.mem_of_getElem? (i := 213) (by decide +kernel)), by decide +kernel⟩
theorem tw_526 : Cond.methodLink RX8 42 yX8_verbTold ∈ am_tb := List.mem_filter.mpr ⟨am_tk2 (List.mem_of_getElem? (i := 211) (by decide +kernel)), by decide +kernel⟩
theorem tw_527 : Cond.static yX8_verbTold ∈ am_tb := List.mem_filter.mpr ⟨am_tk2 (List.mem_of_getElem? (i := 212) (by decide +kernel)), by decide +kernel⟩
theorem tw_535 : Cond.methodLink RX8 46 yX9_fail ∈ am_tb := List.mem_filter.mpr ⟨am_tk2 (List.mem_of_getElem? (i := 220) (by decide +kernel)), by decide +kernel⟩
theorem tw_536 : Cond.methodLink RX8 49 yX9_step ∈ am_tb := List.mem_filter.mpr ⟨am_tk2 (List.mem_of_getElem? (i := 221) (by decide +kernel)), by decide +kernel⟩
theorem tw_537 : Cond.methodLink RX8 52 yX9_takeNumber ∈ am_tb := List.mem_filter.mpr ⟨am_tk2 (List.mem_of_getElem? (i := 222) (by decide +kernel)), by decide +kernel⟩
theorem tw_541 : Cond.code yX8_expression cX8_expression 9 (some .long) ∈ am_tb := List.mem_filter.mpr ⟨am_tk2 (List.mem_of_getElem? (i := 226) (by decide +kernel)), by decide +kernel⟩
theorem tw_540 : Cond.instanceMethod yX8_expression ∈ am_tb := List.mem_filter.mpr ⟨am_tk2 (List.mem_of_getElem? (i := 225) (by decide +kernel)), by decide +kernel⟩
theorem tw_4 : Cond.selects RX8 yX8_expression yX8_expression ∈ am_tb := List.mem_filter.mpr ⟨List.mem_of_getElem? (i := 4) (by decide +kernel), by decide +kernel⟩
theorem tw_538 : Cond.methodLink RX8 56 yX8_expression ∈ am_tb := List.mem_filter.mpr ⟨am_tk2 (List.mem_of_getElem? (i := 223) (by decide +kernel)), by decide +kernel⟩
theorem tw_530 : Cond.methodLink RX8 62 yX9_isWord ∈ am_tb := List.mem_filter.mpr ⟨am_tk2 (List.mem_of_getElem? (i := 215) (by decide +kernel)), by decide +kernel⟩
theorem tw_545 : Cond.code yX8_part cX8_part 5 (some .long) ∈ am_tb := List.mem_filter.mpr ⟨am_tk2 (List.mem_of_getElem? (i := 230) (by decide +kernel)), by decide +kernel⟩
theorem tw_544 : Cond.instanceMethod yX8_part ∈ am_tb := List.mem_filter.mpr ⟨am_tk2 (List.mem_of_getElem? (i := 229) (by decide +kernel)), by decide +kernel⟩
theorem tw_5 : Cond.selects RX8 yX8_part yX8_part ∈ am_tb := List.mem_filter.mpr ⟨List.mem_of_getElem? (i := 5) (by decide +kernel), by decide +kernel⟩
theorem tw_542 : Cond.methodLink RX8 74 yX8_part ∈ am_tb := List.mem_filter.mpr ⟨am_tk2 (List.mem_of_getElem? (i := 227) (by decide +kernel)), by decide +kernel⟩
theorem tw_548 : Cond.methodLink RX8 77 yX9_isSound ∈ am_tb := List.mem_filter.mpr ⟨am_tk2 (List.mem_of_getElem? (i := 233) (by decide +kernel)), by decide +kernel⟩
theorem tw_516 : Cond.code yX9_isSign cX9_isSign 2 (some .boolean) ∈ am_tb := List.mem_filter.mpr ⟨am_tk2 (List.mem_of_getElem? (i := 201) (by decide +kernel)), by decide +kernel⟩
theorem tw_514 : Cond.instanceMethod yX9_isSign ∈ am_tb := List.mem_filter.mpr ⟨am_tk2 (List.mem_of_getElem? (i := 199) (by decide +kernel)), by decide +kernel⟩
theorem tw_515 : Cond.selects RX9 yX9_isSign yX9_isSign ∈ am_tb := List.mem_filter.mpr ⟨am_tk2 (List.mem_of_getElem? (i := 200) (by decide +kernel)), by decide +kernel⟩
theorem tw_546 : Cond.methodLink RX8 81 yX9_isSign ∈ am_tb := List.mem_filter.mpr ⟨am_tk2 (List.mem_of_getElem? (i := 231) (by decide +kernel)), by decide +kernel⟩
theorem tw_552 : Cond.code yX8_multiplied cX8_multiplied 5 (some .long) ∈ am_tb := List.mem_filter.mpr ⟨am_tk2 (List.mem_of_getElem? (i := 237) (by decide +kernel)), by decide +kernel⟩
theorem tw_551 : Cond.instanceMethod yX8_multiplied ∈ am_tb := List.mem_filter.mpr ⟨am_tk2 (List.mem_of_getElem? (i := 236) (by decide +kernel)), by decide +kernel⟩
theorem tw_6 : Cond.selects RX8 yX8_multiplied yX8_multiplied ∈ am_tb := List.mem_filter.mpr ⟨List.mem_of_getElem? (i := 6) (by decide +kernel), by decide +kernel⟩
theorem tw_549 : Cond.methodLink RX8 85 yX8_multiplied ∈ am_tb := List.mem_filter.mpr ⟨am_tk2 (List.mem_of_getElem? (i := 234) (by decide +kernel)), by decide +kernel⟩
theorem tw_560 : Cond.code yX8_divided cX8_divided 5 (some .long) ∈ am_tb := List.mem_filter.mpr ⟨am_tk3 (List.mem_of_getElem? (i := 5) (by decide +kernel)), by decide +kernel⟩
theorem tw_559 : Cond.instanceMethod yX8_divided ∈ am_tb := List.mem_filter.mpr ⟨am_tk3 (List.mem_of_getElem? (i := 4) (by decide +kernel)), by decide +kernel⟩
theorem tw_7 : Cond.selects RX8 yX8_divided yX8_divided ∈ am_tb := List.mem_filter.mpr ⟨List.mem_of_getElem? (i := 7) (by decide +kernel), by decide +kernel⟩
theorem tw_557 : Cond.methodLink RX8 89 yX8_divided ∈ am_tb := List.mem_filter.mpr ⟨am_tk3 (List.mem_of_getElem? (i := 2) (by decide +kernel)), by decide +kernel⟩
theorem tw_564 : Cond.code yX8_bounded cX8_bounded 3 (some .long) ∈ am_tb := List.mem_filter.mpr ⟨am_tk3 (List.mem_of_getElem? (i := 9) (by decide +kernel)), by decide +kernel⟩
theorem tw_563 : Cond.instanceMethod yX8_bounded ∈ am_tb := List.mem_filter.mpr ⟨am_tk3 (List.mem_of_getElem? (i := 8) (by decide +kernel)), by decide +kernel⟩
theorem tw_8 : Cond.selects RX8 yX8_bounded yX8_bounded ∈ am_tb := List.mem_filter.mpr ⟨List.mem_of_getElem? (i := 8) (by decide +kernel), by decide +kernel⟩
theorem tw_561 : Cond.methodLink RX8 92 yX8_bounded ∈ am_tb := List.mem_filter.mpr ⟨am_tk3 (List.mem_of_getElem? (i := 6) (by decide +kernel)), by decide +kernel⟩
theorem tw_547 : Cond.constant RX8 96 (1000000000) ∈ am_tb := List.mem_filter.mpr ⟨am_tk2 (List.mem_of_getElem? (i := 232) (by decide +kernel)), by decide +kernel⟩
theorem tw_556 : Cond.constantLong RX8 97 (1000000000000) ∈ am_tb := List.mem_filter.mpr ⟨am_tk3 (List.mem_of_getElem? (i := 1) (by decide +kernel)), by decide +kernel⟩
theorem tw_565 : Cond.constantLong RX8 99 (-1000000000000) ∈ am_tb := List.mem_filter.mpr ⟨am_tk3 (List.mem_of_getElem? (i := 10) (by decide +kernel)), by decide +kernel⟩
theorem tw_553 : Cond.methodLink RX8 101 Lib.MathLoose.abs_long.x ∈ am_tb := List.mem_filter.mpr ⟨am_tk2 (List.mem_of_getElem? (i := 238) (by decide +kernel)), by decide +kernel⟩
theorem tw_554 : Cond.static Lib.MathLoose.abs_long.x ∈ am_tb := List.mem_filter.mpr ⟨am_tk2 (List.mem_of_getElem? (i := 239) (by decide +kernel)), by decide +kernel⟩
theorem tw_555 : Cond.code Lib.MathLoose.abs_long.x Lib.MathLoose.abs_long.code 2 (some .long) ∈ am_tb := List.mem_filter.mpr ⟨am_tk3 (List.mem_of_getElem? (i := 0) (by decide +kernel)), by decide +kernel⟩
theorem tw_108 : Cond.methodLink RX9 3 Lib.objectInit ∈ am_tb := List.mem_filter.mpr ⟨am_tk1 (List.mem_of_getElem? (i := 33) (by decide +kernel)), by decide +kernel⟩
theorem tw_109 : Cond.fieldLink RX9 11 "RodBeads$Text" "letters" "[I" ∈ am_tb := List.mem_filter.mpr ⟨am_tk1 (List.mem_of_getElem? (i := 34) (by decide +kernel)), by decide +kernel⟩
theorem tw_110 : Cond.fieldLink RX9 15 "RodBeads$Text" "size" "I" ∈ am_tb := List.mem_filter.mpr ⟨am_tk1 (List.mem_of_getElem? (i := 35) (by decide +kernel)), by decide +kernel⟩
theorem tw_112 : Cond.fieldLink RX9 19 "RodBeads$Text" "fault" "I" ∈ am_tb := List.mem_filter.mpr ⟨am_tk1 (List.mem_of_getElem? (i := 37) (by decide +kernel)), by decide +kernel⟩
theorem tw_115 : Cond.fieldLink RX9 22 "RodBeads$Text" "start" "I" ∈ am_tb := List.mem_filter.mpr ⟨am_tk1 (List.mem_of_getElem? (i := 40) (by decide +kernel)), by decide +kernel⟩
theorem tw_116 : Cond.fieldLink RX9 25 "RodBeads$Text" "stop" "I" ∈ am_tb := List.mem_filter.mpr ⟨am_tk1 (List.mem_of_getElem? (i := 41) (by decide +kernel)), by decide +kernel⟩
theorem tw_117 : Cond.fieldLink RX9 28 "RodBeads$Text" "isNumber" "Z" ∈ am_tb := List.mem_filter.mpr ⟨am_tk1 (List.mem_of_getElem? (i := 42) (by decide +kernel)), by decide +kernel⟩
theorem tw_107 : Cond.code yX9_init cX9_init 1 none ∈ am_tb := List.mem_filter.mpr ⟨am_tk1 (List.mem_of_getElem? (i := 32) (by decide +kernel)), by decide +kernel⟩
theorem tw_309 : Cond.methodLink RX9 32 yX5_put ∈ am_tb := List.mem_filter.mpr ⟨am_tk1 (List.mem_of_getElem? (i := 234) (by decide +kernel)), by decide +kernel⟩
theorem tw_308 : Cond.code yX9_add cX9_add 2 (some .boolean) ∈ am_tb := List.mem_filter.mpr ⟨am_tk1 (List.mem_of_getElem? (i := 233) (by decide +kernel)), by decide +kernel⟩
theorem tw_340 : Cond.methodLink RX9 38 yX9_step ∈ am_tb := List.mem_filter.mpr ⟨am_tk2 (List.mem_of_getElem? (i := 25) (by decide +kernel)), by decide +kernel⟩
theorem tw_347 : Cond.code yX9_letterAt cX9_letterAt 2 (some .int) ∈ am_tb := List.mem_filter.mpr ⟨am_tk2 (List.mem_of_getElem? (i := 32) (by decide +kernel)), by decide +kernel⟩
theorem tw_346 : Cond.instanceMethod yX9_letterAt ∈ am_tb := List.mem_filter.mpr ⟨am_tk2 (List.mem_of_getElem? (i := 31) (by decide +kernel)), by decide +kernel⟩
theorem tw_1 : Cond.selects RX9 yX9_letterAt yX9_letterAt ∈ am_tb := List.mem_filter.mpr ⟨List.mem_of_getElem? (i := 1) (by decide +kernel), by decide +kernel⟩
theorem tw_344 : Cond.methodLink RX9 41 yX9_letterAt ∈ am_tb := List.mem_filter.mpr ⟨am_tk2 (List.mem_of_getElem? (i := 29) (by decide +kernel)), by decide +kernel⟩
theorem tw_350 : Cond.code yX9_isDigit cX9_isDigit 1 (some .boolean) ∈ am_tb := List.mem_filter.mpr ⟨am_tk2 (List.mem_of_getElem? (i := 35) (by decide +kernel)), by decide +kernel⟩
theorem tw_348 : Cond.methodLink RX9 45 yX9_isDigit ∈ am_tb := List.mem_filter.mpr ⟨am_tk2 (List.mem_of_getElem? (i := 33) (by decide +kernel)), by decide +kernel⟩
theorem tw_349 : Cond.static yX9_isDigit ∈ am_tb := List.mem_filter.mpr ⟨am_tk2 (List.mem_of_getElem? (i := 34) (by decide +kernel)), by decide +kernel⟩
theorem tw_353 : Cond.code yX9_isSmall cX9_isSmall 1 (some .boolean) ∈ am_tb := List.mem_filter.mpr ⟨am_tk2 (List.mem_of_getElem? (i := 38) (by decide +kernel)), by decide +kernel⟩
theorem tw_351 : Cond.methodLink RX9 49 yX9_isSmall ∈ am_tb := List.mem_filter.mpr ⟨am_tk2 (List.mem_of_getElem? (i := 36) (by decide +kernel)), by decide +kernel⟩
theorem tw_352 : Cond.static yX9_isSmall ∈ am_tb := List.mem_filter.mpr ⟨am_tk2 (List.mem_of_getElem? (i := 37) (by decide +kernel)), by decide +kernel⟩
theorem tw_354 : Cond.methodLink RX9 52 Lib.Math.min.name ∈ am_tb := List.mem_filter.mpr ⟨am_tk2 (List.mem_of_getElem? (i := 39) (by decide +kernel)), by decide +kernel⟩
theorem tw_512 : Cond.code yX9_isAtEnd cX9_isAtEnd 1 (some .boolean) ∈ am_tb := List.mem_filter.mpr ⟨am_tk2 (List.mem_of_getElem? (i := 197) (by decide +kernel)), by decide +kernel⟩
theorem tw_369 : Cond.code yJ0_length_8abf5 cJ0_length_8abf5 1 (some .int) ∈ am_tb := List.mem_filter.mpr ⟨am_tk2 (List.mem_of_getElem? (i := 54) (by decide +kernel)), by decide +kernel⟩
theorem tw_85 : Cond.initialized RJ0 ∈ am_tb := List.mem_filter.mpr ⟨am_tk1 (List.mem_of_getElem? (i := 10) (by decide +kernel)), by decide +kernel⟩
theorem tw_367 : Cond.instanceMethod yJ0_length_8abf5 ∈ am_tb := List.mem_filter.mpr ⟨am_tk2 (List.mem_of_getElem? (i := 52) (by decide +kernel)), by decide +kernel⟩
theorem tw_368 : Cond.selects RJ0 yJ0_length_8abf5 yJ0_length_8abf5 ∈ am_tb := List.mem_filter.mpr ⟨am_tk2 (List.mem_of_getElem? (i := 53) (by decide +kernel)), by decide +kernel⟩
theorem tw_366 : Cond.methodLink RX9 58 yJ0_length_8abf5 ∈ am_tb := List.mem_filter.mpr ⟨am_tk2 (List.mem_of_getElem? (i := 51) (by decide +kernel)), by decide +kernel⟩
theorem tw_379 : Cond.code yJ0_charAt_5068e cJ0_charAt_5068e 2 (some .char) ∈ am_tb := List.mem_filter.mpr ⟨am_tk2 (List.mem_of_getElem? (i := 64) (by decide +kernel)), by decide +kernel⟩
theorem tw_377 : Cond.instanceMethod yJ0_charAt_5068e ∈ am_tb := List.mem_filter.mpr ⟨am_tk2 (List.mem_of_getElem? (i := 62) (by decide +kernel)), by decide +kernel⟩
theorem tw_378 : Cond.selects RJ0 yJ0_charAt_5068e yJ0_charAt_5068e ∈ am_tb := List.mem_filter.mpr ⟨am_tk2 (List.mem_of_getElem? (i := 63) (by decide +kernel)), by decide +kernel⟩
theorem tw_376 : Cond.methodLink RX9 64 yJ0_charAt_5068e ∈ am_tb := List.mem_filter.mpr ⟨am_tk2 (List.mem_of_getElem? (i := 61) (by decide +kernel)), by decide +kernel⟩
theorem tw_420 : Cond.methodLink RX9 68 yX9_isSound ∈ am_tb := List.mem_filter.mpr ⟨am_tk2 (List.mem_of_getElem? (i := 105) (by decide +kernel)), by decide +kernel⟩
theorem tw_424 : Cond.methodLink RX9 72 yX9_fail ∈ am_tb := List.mem_filter.mpr ⟨am_tk2 (List.mem_of_getElem? (i := 109) (by decide +kernel)), by decide +kernel⟩
theorem tw_510 : Cond.instanceMethod yX9_isAtEnd ∈ am_tb := List.mem_filter.mpr ⟨am_tk2 (List.mem_of_getElem? (i := 195) (by decide +kernel)), by decide +kernel⟩
theorem tw_511 : Cond.selects RX9 yX9_isAtEnd yX9_isAtEnd ∈ am_tb := List.mem_filter.mpr ⟨am_tk2 (List.mem_of_getElem? (i := 196) (by decide +kernel)), by decide +kernel⟩
theorem tw_509 : Cond.methodLink RX9 75 yX9_isAtEnd ∈ am_tb := List.mem_filter.mpr ⟨am_tk2 (List.mem_of_getElem? (i := 194) (by decide +kernel)), by decide +kernel⟩
theorem tw_513 : Cond.methodLink RX9 78 yX9_isSign ∈ am_tb := List.mem_filter.mpr ⟨am_tk2 (List.mem_of_getElem? (i := 198) (by decide +kernel)), by decide +kernel⟩
theorem tw_159 : Cond.methodLink RX10 3 Lib.objectInit ∈ am_tb := List.mem_filter.mpr ⟨am_tk1 (List.mem_of_getElem? (i := 84) (by decide +kernel)), by decide +kernel⟩
theorem tw_160 : Cond.fieldLink RX10 11 "RodBeads$Ways" "cost" "[I" ∈ am_tb := List.mem_filter.mpr ⟨am_tk1 (List.mem_of_getElem? (i := 85) (by decide +kernel)), by decide +kernel⟩
theorem tw_161 : Cond.fieldLink RX10 15 "RodBeads$Ways" "highs" "[I" ∈ am_tb := List.mem_filter.mpr ⟨am_tk1 (List.mem_of_getElem? (i := 86) (by decide +kernel)), by decide +kernel⟩
theorem tw_162 : Cond.fieldLink RX10 18 "RodBeads$Ways" "choices" "[I" ∈ am_tb := List.mem_filter.mpr ⟨am_tk1 (List.mem_of_getElem? (i := 87) (by decide +kernel)), by decide +kernel⟩
theorem tw_163 : Cond.fieldLink RX10 21 "RodBeads$Ways" "bases" "[I" ∈ am_tb := List.mem_filter.mpr ⟨am_tk1 (List.mem_of_getElem? (i := 88) (by decide +kernel)), by decide +kernel⟩
theorem tw_164 : Cond.fieldLink RX10 24 "RodBeads$Ways" "worths" "[I" ∈ am_tb := List.mem_filter.mpr ⟨am_tk1 (List.mem_of_getElem? (i := 89) (by decide +kernel)), by decide +kernel⟩
theorem tw_165 : Cond.fieldLink RX10 27 "RodBeads$Ways" "most" "[I" ∈ am_tb := List.mem_filter.mpr ⟨am_tk1 (List.mem_of_getElem? (i := 90) (by decide +kernel)), by decide +kernel⟩
theorem tw_166 : Cond.fieldLink RX10 30 "RodBeads$Ways" "fewest" "[I" ∈ am_tb := List.mem_filter.mpr ⟨am_tk1 (List.mem_of_getElem? (i := 91) (by decide +kernel)), by decide +kernel⟩
theorem tw_167 : Cond.fieldLink RX10 33 "RodBeads$Ways" "known" "[I" ∈ am_tb := List.mem_filter.mpr ⟨am_tk1 (List.mem_of_getElem? (i := 92) (by decide +kernel)), by decide +kernel⟩
theorem tw_168 : Cond.fieldLink RX10 36 "RodBeads$Ways" "top" "[I" ∈ am_tb := List.mem_filter.mpr ⟨am_tk1 (List.mem_of_getElem? (i := 93) (by decide +kernel)), by decide +kernel⟩
theorem tw_169 : Cond.fieldLink RX10 39 "RodBeads$Ways" "sieveFrom" "[I" ∈ am_tb := List.mem_filter.mpr ⟨am_tk1 (List.mem_of_getElem? (i := 94) (by decide +kernel)), by decide +kernel⟩
theorem tw_170 : Cond.fieldLink RX10 42 "RodBeads$Ways" "sieveUpTo" "[I" ∈ am_tb := List.mem_filter.mpr ⟨am_tk1 (List.mem_of_getElem? (i := 95) (by decide +kernel)), by decide +kernel⟩
theorem tw_171 : Cond.fieldLink RX10 45 "RodBeads$Ways" "evenSieve" "[I" ∈ am_tb := List.mem_filter.mpr ⟨am_tk1 (List.mem_of_getElem? (i := 96) (by decide +kernel)), by decide +kernel⟩
theorem tw_172 : Cond.fieldLink RX10 48 "RodBeads$Ways" "oddSieve" "[I" ∈ am_tb := List.mem_filter.mpr ⟨am_tk1 (List.mem_of_getElem? (i := 97) (by decide +kernel)), by decide +kernel⟩
theorem tw_173 : Cond.fieldLink RX10 51 "RodBeads$Ways" "size" "I" ∈ am_tb := List.mem_filter.mpr ⟨am_tk1 (List.mem_of_getElem? (i := 98) (by decide +kernel)), by decide +kernel⟩
theorem tw_158 : Cond.code yX10_init cX10_init 1 none ∈ am_tb := List.mem_filter.mpr ⟨am_tk1 (List.mem_of_getElem? (i := 83) (by decide +kernel)), by decide +kernel⟩
theorem tw_79 : Cond.initialized RX10 ∈ am_tb := List.mem_filter.mpr ⟨am_tk1 (List.mem_of_getElem? (i := 4) (by decide +kernel)), by decide +kernel⟩
theorem tw_213 : Cond.fieldLink RX10 55 "RodBeads$Frame" "size" "I" ∈ am_tb := List.mem_filter.mpr ⟨am_tk1 (List.mem_of_getElem? (i := 138) (by decide +kernel)), by decide +kernel⟩
theorem tw_645 : Cond.methodLink RX10 58 Lib.Math.min.name ∈ am_tb := List.mem_filter.mpr ⟨am_tk3 (List.mem_of_getElem? (i := 90) (by decide +kernel)), by decide +kernel⟩
theorem tw_646 : Cond.constant RX10 64 (1048576) ∈ am_tb := List.mem_filter.mpr ⟨am_tk3 (List.mem_of_getElem? (i := 91) (by decide +kernel)), by decide +kernel⟩
