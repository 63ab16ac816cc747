/-! The tables say what the program needs. -/
theorem am_dis_nil {Q : Nat → Nat → Prop} (ci M : Nat) (h : am_dis [] ci = some M) : Q ci M := by cases h
theorem am_dis_cons {Q : Nat → Nat → Prop} {a b : Nat} {r : List Nat} (h1 : Q a b) (h2 : ∀ ci M, am_dis r ci = some M → Q ci M) (ci M : Nat) (h : am_dis (a :: b :: r) ci = some M) : Q ci M := by
  unfold am_dis at h
  split at h
  · rename_i e
    subst e
    cases h
    exact h1
  · exact h2 ci M h
theorem am_tsw_ok {pc : Nat} {rs : List Nat} {offs : Array Int} (h : (rs.drop 1).map (fun t : Nat => (t : Int)) = offs.toList.map (fun o : Int => (pc : Int) + o)) : ∀ (i t : Nat), rs[i + 1]? = some t → ∃ o, offs[i]? = some o ∧ (pc : Int) + o = (t : Int) := by
  intro i t ht
  have h1 : ((rs.drop 1).map (fun t : Nat => (t : Int)))[i]? = some (t : Int) := by
    rw [List.getElem?_map, List.getElem?_drop, Nat.add_comm 1 i, ht]
    rfl
  rw [h, List.getElem?_map, Array.getElem?_toList] at h1
  cases ho : offs[i]? with
  | none => rw [ho] at h1; cases h1
  | some o =>
    rw [ho] at h1
    exact ⟨o, rfl, Option.some.inj h1⟩
theorem am_dfp {fs : List Value} (h : fs.all (fun v => match v with | .ref _ => false | .retAddr _ => false | _ => true) = true) : ∀ v ∈ fs, (∀ i, v ≠ .ref i) ∧ ∀ i, v ≠ .retAddr i := by
  intro v hv
  have h1 := List.all_eq_true.mp h v hv
  cases v with
  | ref i => cases h1
  | retAddr i => cases h1
  | _ => exact ⟨(fun i e => by cases e), (fun i e => by cases e)⟩
theorem cl_0 : am_cl RX0 TX0 3 tyX0 0 := ⟨rfl, fun w h => List.mem_filter.mpr ⟨(show ∀ w ∈ wsX00, w ∈ lw_tbl by decide +kernel) w h, (show ∀ w ∈ wsX00, goodWord w = true by decide +kernel) w h⟩, tyX0_ok, nmX0⟩
theorem am_dfp_0 : ∀ v ∈ am_df 0, (∀ i, v ≠ .ref i) ∧ ∀ i, v ≠ .retAddr i := am_dfp (by decide +kernel)
theorem cl_1 : am_cl RX1 TX1 3 tyX1 1 := ⟨rfl, fun w h => List.mem_filter.mpr ⟨(show ∀ w ∈ wsX10, w ∈ lw_tbl by decide +kernel) w h, (show ∀ w ∈ wsX10, goodWord w = true by decide +kernel) w h⟩, tyX1_ok, nmX1⟩
theorem am_dfp_1 : ∀ v ∈ am_df 1, (∀ i, v ≠ .ref i) ∧ ∀ i, v ≠ .retAddr i := am_dfp (by decide +kernel)
theorem cl_2 : am_cl RX2 TX2 3 tyX2 2 := ⟨rfl, fun w h => List.mem_filter.mpr ⟨(show ∀ w ∈ wsX20, w ∈ lw_tbl by decide +kernel) w h, (show ∀ w ∈ wsX20, goodWord w = true by decide +kernel) w h⟩, tyX2_ok, nmX2⟩
theorem am_dfp_2 : ∀ v ∈ am_df 2, (∀ i, v ≠ .ref i) ∧ ∀ i, v ≠ .retAddr i := am_dfp (by decide +kernel)
theorem cl_3 : am_cl RX3 TX3 3 tyX3 3 := ⟨rfl, fun w h => List.mem_filter.mpr ⟨(show ∀ w ∈ wsX30, w ∈ lw_tbl by decide +kernel) w h, (show ∀ w ∈ wsX30, goodWord w = true by decide +kernel) w h⟩, tyX3_ok, nmX3⟩
theorem am_dfp_3 : ∀ v ∈ am_df 3, (∀ i, v ≠ .ref i) ∧ ∀ i, v ≠ .retAddr i := am_dfp (by decide +kernel)
theorem cl_4 : am_cl RX6 TX6 3 tyX6 4 := ⟨rfl, fun w h => List.mem_filter.mpr ⟨(show ∀ w ∈ wsX60, w ∈ lw_tbl by decide +kernel) w h, (show ∀ w ∈ wsX60, goodWord w = true by decide +kernel) w h⟩, tyX6_ok, nmX6⟩
theorem am_dfp_4 : ∀ v ∈ am_df 4, (∀ i, v ≠ .ref i) ∧ ∀ i, v ≠ .retAddr i := am_dfp (by decide +kernel)
theorem cl_5 : am_cl RX7 TX7 4 tyX7 5 := ⟨rfl, fun w h => List.mem_filter.mpr ⟨(show ∀ w ∈ wsX70, w ∈ lw_tbl by decide +kernel) w h, (show ∀ w ∈ wsX70, goodWord w = true by decide +kernel) w h⟩, tyX7_ok, nmX7⟩
theorem am_dfp_5 : ∀ v ∈ am_df 5, (∀ i, v ≠ .ref i) ∧ ∀ i, v ≠ .retAddr i := am_dfp (by decide +kernel)
theorem cl_6 : am_cl RX8 TX8 4 tyX8 6 := ⟨rfl, fun w h => List.mem_filter.mpr ⟨(show ∀ w ∈ wsX80, w ∈ lw_tbl by decide +kernel) w h, (show ∀ w ∈ wsX80, goodWord w = true by decide +kernel) w h⟩, tyX8_ok, nmX8⟩
theorem am_dfp_6 : ∀ v ∈ am_df 6, (∀ i, v ≠ .ref i) ∧ ∀ i, v ≠ .retAddr i := am_dfp (by decide +kernel)
theorem cl_7 : am_cl RX9 TX9 6 tyX9 7 := ⟨rfl, fun w h => List.mem_filter.mpr ⟨(show ∀ w ∈ wsX90, w ∈ lw_tbl by decide +kernel) w h, (show ∀ w ∈ wsX90, goodWord w = true by decide +kernel) w h⟩, tyX9_ok, nmX9⟩
theorem am_dfp_7 : ∀ v ∈ am_df 7, (∀ i, v ≠ .ref i) ∧ ∀ i, v ≠ .retAddr i := am_dfp (by decide +kernel)
theorem cl_8 : am_cl RX10 TX10 14 tyX10 8 := ⟨rfl, fun w h => List.mem_filter.mpr ⟨(show ∀ w ∈ wsX100, w ∈ lw_tbl by decide +kernel) w h, (show ∀ w ∈ wsX100, goodWord w = true by decide +kernel) w h⟩, tyX10_ok, nmX10⟩
theorem am_dfp_8 : ∀ v ∈ am_df 8, (∀ i, v ≠ .ref i) ∧ ∀ i, v ≠ .retAddr i := am_dfp (by decide +kernel)
theorem cl_9 : am_cl RX11 TX11 16 tyX11 9 := ⟨rfl, fun w h => List.mem_filter.mpr ⟨(show ∀ w ∈ wsX110, w ∈ lw_tbl by decide +kernel) w h, (show ∀ w ∈ wsX110, goodWord w = true by decide +kernel) w h⟩, tyX11_ok, nmX11⟩
theorem am_dfp_9 : ∀ v ∈ am_df 9, (∀ i, v ≠ .ref i) ∧ ∀ i, v ≠ .retAddr i := am_dfp (by decide +kernel)
theorem cl_10 : am_cl RX12 TX12 44 tyX12 10 := ⟨rfl, fun w h => List.mem_filter.mpr ⟨(show ∀ w ∈ wsX120, w ∈ lw_tbl by decide +kernel) w h, (show ∀ w ∈ wsX120, goodWord w = true by decide +kernel) w h⟩, tyX12_ok, nmX12⟩
theorem am_dfp_10 : ∀ v ∈ am_df 10, (∀ i, v ≠ .ref i) ∧ ∀ i, v ≠ .retAddr i := am_dfp (by decide +kernel)
theorem tw_454 : Cond.code yX4_init cX4_init 4 none ∈ am_tb := List.mem_filter.mpr ⟨List.mem_of_getElem? (i := 454) (by decide +kernel), by decide +kernel⟩
theorem tw_89 : Cond.initialized RX4 ∈ am_tb := List.mem_filter.mpr ⟨List.mem_of_getElem? (i := 89) (by decide +kernel), by decide +kernel⟩
theorem tw_452 : Cond.methodLink RX0 1 yX4_init ∈ am_tb := List.mem_filter.mpr ⟨List.mem_of_getElem? (i := 452) (by decide +kernel), by decide +kernel⟩
theorem tw_453 : Cond.instanceMethod yX4_init ∈ am_tb := List.mem_filter.mpr ⟨List.mem_of_getElem? (i := 453) (by decide +kernel), by decide +kernel⟩
theorem tw_451 : Cond.code yX0_init cX0_init 4 none ∈ am_tb := List.mem_filter.mpr ⟨List.mem_of_getElem? (i := 451) (by decide +kernel), by decide +kernel⟩
theorem tw_90 : Cond.initialized RX0 ∈ am_tb := List.mem_filter.mpr ⟨List.mem_of_getElem? (i := 90) (by decide +kernel), by decide +kernel⟩
theorem tw_791 : Cond.code yX0_kindNumber cX0_kindNumber 1 (some .int) ∈ am_tb := List.mem_filter.mpr ⟨List.mem_of_getElem? (i := 791) (by decide +kernel), by decide +kernel⟩
theorem tw_624 : Cond.code yX0_highWorth cX0_highWorth 1 (some .int) ∈ am_tb := List.mem_filter.mpr ⟨List.mem_of_getElem? (i := 624) (by decide +kernel), by decide +kernel⟩
theorem tw_208 : Cond.methodLink RX1 3 Lib.objectInit ∈ am_tb := List.mem_filter.mpr ⟨List.mem_of_getElem? (i := 208) (by decide +kernel), by decide +kernel⟩
theorem tw_101 : Cond.instanceMethod Lib.objectInit ∈ am_tb := List.mem_filter.mpr ⟨List.mem_of_getElem? (i := 101) (by decide +kernel), by decide +kernel⟩
theorem tw_102 : Cond.code Lib.objectInit ⟨#[0xb1]⟩ 1 none ∈ am_tb := List.mem_filter.mpr ⟨List.mem_of_getElem? (i := 102) (by decide +kernel), by decide +kernel⟩
theorem tw_209 : Cond.classLink RX1 9 "RodBeads$Rod" ∈ am_tb := List.mem_filter.mpr ⟨List.mem_of_getElem? (i := 209) (by decide +kernel), by decide +kernel⟩
theorem tw_211 : Cond.fieldLink RX1 11 "RodBeads$Frame" "rods" "[LRodBeads$Rod;" ∈ am_tb := List.mem_filter.mpr ⟨List.mem_of_getElem? (i := 211) (by decide +kernel), by decide +kernel⟩
theorem tw_212 : Cond.fieldLink RX1 17 "RodBeads$Frame" "size" "I" ∈ am_tb := List.mem_filter.mpr ⟨List.mem_of_getElem? (i := 212) (by decide +kernel), by decide +kernel⟩
theorem tw_215 : Cond.fieldLink RX1 21 "RodBeads$Frame" "told" "I" ∈ am_tb := List.mem_filter.mpr ⟨List.mem_of_getElem? (i := 215) (by decide +kernel), by decide +kernel⟩
theorem tw_207 : Cond.code yX1_init cX1_init 1 none ∈ am_tb := List.mem_filter.mpr ⟨List.mem_of_getElem? (i := 207) (by decide +kernel), by decide +kernel⟩
theorem tw_80 : Cond.initialized RX1 ∈ am_tb := List.mem_filter.mpr ⟨List.mem_of_getElem? (i := 80) (by decide +kernel), by decide +kernel⟩
theorem tw_331 : Cond.code yX1_rodAt cX1_rodAt 2 (some (.object "RodBeads$Rod")) ∈ am_tb := List.mem_filter.mpr ⟨List.mem_of_getElem? (i := 331) (by decide +kernel), by decide +kernel⟩
theorem tw_329 : Cond.instanceMethod yX1_rodAt ∈ am_tb := List.mem_filter.mpr ⟨List.mem_of_getElem? (i := 329) (by decide +kernel), by decide +kernel⟩
theorem tw_330 : Cond.selects RX1 yX1_rodAt yX1_rodAt ∈ am_tb := List.mem_filter.mpr ⟨List.mem_of_getElem? (i := 330) (by decide +kernel), by decide +kernel⟩
theorem tw_328 : Cond.methodLink RX1 24 yX1_rodAt ∈ am_tb := List.mem_filter.mpr ⟨List.mem_of_getElem? (i := 328) (by decide +kernel), by decide +kernel⟩
theorem tw_327 : Cond.code yX1_copy cX1_copy 3 none ∈ am_tb := List.mem_filter.mpr ⟨List.mem_of_getElem? (i := 327) (by decide +kernel), by decide +kernel⟩
theorem tw_339 : Cond.code yX9_begin cX9_begin 1 none ∈ am_tb := List.mem_filter.mpr ⟨List.mem_of_getElem? (i := 339) (by decide +kernel), by decide +kernel⟩
theorem tw_77 : Cond.initialized RX9 ∈ am_tb := List.mem_filter.mpr ⟨List.mem_of_getElem? (i := 77) (by decide +kernel), by decide +kernel⟩
theorem tw_337 : Cond.instanceMethod yX9_begin ∈ am_tb := List.mem_filter.mpr ⟨List.mem_of_getElem? (i := 337) (by decide +kernel), by decide +kernel⟩
theorem tw_338 : Cond.selects RX9 yX9_begin yX9_begin ∈ am_tb := List.mem_filter.mpr ⟨List.mem_of_getElem? (i := 338) (by decide +kernel), by decide +kernel⟩
theorem tw_336 : Cond.methodLink RX1 28 yX9_begin ∈ am_tb := List.mem_filter.mpr ⟨List.mem_of_getElem? (i := 336) (by decide +kernel), by decide +kernel⟩
theorem tw_360 : Cond.code yX1_readClause cX1_readClause 4 none ∈ am_tb := List.mem_filter.mpr ⟨List.mem_of_getElem? (i := 360) (by decide +kernel), by decide +kernel⟩
theorem tw_359 : Cond.instanceMethod yX1_readClause ∈ am_tb := List.mem_filter.mpr ⟨List.mem_of_getElem? (i := 359) (by decide +kernel), by decide +kernel⟩
theorem tw_2 : Cond.selects RX1 yX1_readClause yX1_readClause ∈ am_tb := List.mem_filter.mpr ⟨List.mem_of_getElem? (i := 2) (by decide +kernel), by decide +kernel⟩
theorem tw_357 : Cond.methodLink RX1 33 yX1_readClause ∈ am_tb := List.mem_filter.mpr ⟨List.mem_of_getElem? (i := 357) (by decide +kernel), by decide +kernel⟩
theorem tw_508 : Cond.code yX9_another cX9_another 2 (some .boolean) ∈ am_tb := List.mem_filter.mpr ⟨List.mem_of_getElem? (i := 508) (by decide +kernel), by decide +kernel⟩
theorem tw_506 : Cond.instanceMethod yX9_another ∈ am_tb := List.mem_filter.mpr ⟨List.mem_of_getElem? (i := 506) (by decide +kernel), by decide +kernel⟩
theorem tw_507 : Cond.selects RX9 yX9_another yX9_another ∈ am_tb := List.mem_filter.mpr ⟨List.mem_of_getElem? (i := 507) (by decide +kernel), by decide +kernel⟩
theorem tw_505 : Cond.methodLink RX1 37 yX9_another ∈ am_tb := List.mem_filter.mpr ⟨List.mem_of_getElem? (i := 505) (by decide +kernel), by decide +kernel⟩
theorem tw_335 : Cond.code yX1_read cX1_read 4 (some .int) ∈ am_tb := List.mem_filter.mpr ⟨List.mem_of_getElem? (i := 335) (by decide +kernel), by decide +kernel⟩
theorem tw_365 : Cond.code yX9_isWord cX9_isWord 3 (some .boolean) ∈ am_tb := List.mem_filter.mpr ⟨List.mem_of_getElem? (i := 365) (by decide +kernel), by decide +kernel⟩
theorem tw_363 : Cond.instanceMethod yX9_isWord ∈ am_tb := List.mem_filter.mpr ⟨List.mem_of_getElem? (i := 363) (by decide +kernel), by decide +kernel⟩
theorem tw_364 : Cond.selects RX9 yX9_isWord yX9_isWord ∈ am_tb := List.mem_filter.mpr ⟨List.mem_of_getElem? (i := 364) (by decide +kernel), by decide +kernel⟩
theorem tw_362 : Cond.methodLink RX1 43 yX9_isWord ∈ am_tb := List.mem_filter.mpr ⟨List.mem_of_getElem? (i := 362) (by decide +kernel), by decide +kernel⟩
theorem tw_343 : Cond.code yX9_step cX9_step 3 none ∈ am_tb := List.mem_filter.mpr ⟨List.mem_of_getElem? (i := 343) (by decide +kernel), by decide +kernel⟩
theorem tw_341 : Cond.instanceMethod yX9_step ∈ am_tb := List.mem_filter.mpr ⟨List.mem_of_getElem? (i := 341) (by decide +kernel), by decide +kernel⟩
theorem tw_342 : Cond.selects RX9 yX9_step yX9_step ∈ am_tb := List.mem_filter.mpr ⟨List.mem_of_getElem? (i := 342) (by decide +kernel), by decide +kernel⟩
theorem tw_414 : Cond.methodLink RX1 47 yX9_step ∈ am_tb := List.mem_filter.mpr ⟨List.mem_of_getElem? (i := 414) (by decide +kernel), by decide +kernel⟩
theorem tw_419 : Cond.code yX9_takeNumber cX9_takeNumber 7 (some .int) ∈ am_tb := List.mem_filter.mpr ⟨List.mem_of_getElem? (i := 419) (by decide +kernel), by decide +kernel⟩
theorem tw_417 : Cond.instanceMethod yX9_takeNumber ∈ am_tb := List.mem_filter.mpr ⟨List.mem_of_getElem? (i := 417) (by decide +kernel), by decide +kernel⟩
theorem tw_418 : Cond.selects RX9 yX9_takeNumber yX9_takeNumber ∈ am_tb := List.mem_filter.mpr ⟨List.mem_of_getElem? (i := 418) (by decide +kernel), by decide +kernel⟩
theorem tw_416 : Cond.methodLink RX1 52 yX9_takeNumber ∈ am_tb := List.mem_filter.mpr ⟨List.mem_of_getElem? (i := 416) (by decide +kernel), by decide +kernel⟩
theorem tw_423 : Cond.code yX9_isSound cX9_isSound 1 (some .boolean) ∈ am_tb := List.mem_filter.mpr ⟨List.mem_of_getElem? (i := 423) (by decide +kernel), by decide +kernel⟩
theorem tw_421 : Cond.instanceMethod yX9_isSound ∈ am_tb := List.mem_filter.mpr ⟨List.mem_of_getElem? (i := 421) (by decide +kernel), by decide +kernel⟩
theorem tw_422 : Cond.selects RX9 yX9_isSound yX9_isSound ∈ am_tb := List.mem_filter.mpr ⟨List.mem_of_getElem? (i := 422) (by decide +kernel), by decide +kernel⟩
theorem tw_428 : Cond.methodLink RX1 56 yX9_isSound ∈ am_tb := List.mem_filter.mpr ⟨List.mem_of_getElem? (i := 428) (by decide +kernel), by decide +kernel⟩
theorem tw_431 : Cond.code yX7_partBit cX7_partBit 2 (some .int) ∈ am_tb := List.mem_filter.mpr ⟨List.mem_of_getElem? (i := 431) (by decide +kernel), by decide +kernel⟩
theorem tw_81 : Cond.initialized RX7 ∈ am_tb := List.mem_filter.mpr ⟨List.mem_of_getElem? (i := 81) (by decide +kernel), by decide +kernel⟩
theorem tw_429 : Cond.methodLink RX1 60 yX7_partBit ∈ am_tb := List.mem_filter.mpr ⟨List.mem_of_getElem? (i := 429) (by decide +kernel), by decide +kernel⟩
theorem tw_430 : Cond.static yX7_partBit ∈ am_tb := List.mem_filter.mpr ⟨List.mem_of_getElem? (i := 430) (by decide +kernel), by decide +kernel⟩
theorem tw_434 : Cond.code yX1_kindTold cX1_kindTold 1 (some .int) ∈ am_tb := List.mem_filter.mpr ⟨List.mem_of_getElem? (i := 434) (by decide +kernel), by decide +kernel⟩
theorem tw_432 : Cond.methodLink RX1 66 yX1_kindTold ∈ am_tb := List.mem_filter.mpr ⟨List.mem_of_getElem? (i := 432) (by decide +kernel), by decide +kernel⟩
theorem tw_433 : Cond.static yX1_kindTold ∈ am_tb := List.mem_filter.mpr ⟨List.mem_of_getElem? (i := 433) (by decide +kernel), by decide +kernel⟩
theorem tw_442 : Cond.code yX1_readRod cX1_readRod 6 none ∈ am_tb := List.mem_filter.mpr ⟨List.mem_of_getElem? (i := 442) (by decide +kernel), by decide +kernel⟩
theorem tw_441 : Cond.instanceMethod yX1_readRod ∈ am_tb := List.mem_filter.mpr ⟨List.mem_of_getElem? (i := 441) (by decide +kernel), by decide +kernel⟩
theorem tw_3 : Cond.selects RX1 yX1_readRod yX1_readRod ∈ am_tb := List.mem_filter.mpr ⟨List.mem_of_getElem? (i := 3) (by decide +kernel), by decide +kernel⟩
theorem tw_439 : Cond.methodLink RX1 70 yX1_readRod ∈ am_tb := List.mem_filter.mpr ⟨List.mem_of_getElem? (i := 439) (by decide +kernel), by decide +kernel⟩
theorem tw_427 : Cond.code yX9_fail cX9_fail 1 none ∈ am_tb := List.mem_filter.mpr ⟨List.mem_of_getElem? (i := 427) (by decide +kernel), by decide +kernel⟩
theorem tw_425 : Cond.instanceMethod yX9_fail ∈ am_tb := List.mem_filter.mpr ⟨List.mem_of_getElem? (i := 425) (by decide +kernel), by decide +kernel⟩
theorem tw_426 : Cond.selects RX9 yX9_fail yX9_fail ∈ am_tb := List.mem_filter.mpr ⟨List.mem_of_getElem? (i := 426) (by decide +kernel), by decide +kernel⟩
theorem tw_443 : Cond.methodLink RX1 82 yX9_fail ∈ am_tb := List.mem_filter.mpr ⟨List.mem_of_getElem? (i := 443) (by decide +kernel), by decide +kernel⟩
theorem tw_446 : Cond.code yX1_makeRod cX1_makeRod 4 (some (.object "RodBeads$Rod")) ∈ am_tb := List.mem_filter.mpr ⟨List.mem_of_getElem? (i := 446) (by decide +kernel), by decide +kernel⟩
theorem tw_444 : Cond.methodLink RX1 85 yX1_makeRod ∈ am_tb := List.mem_filter.mpr ⟨List.mem_of_getElem? (i := 444) (by decide +kernel), by decide +kernel⟩
theorem tw_445 : Cond.static yX1_makeRod ∈ am_tb := List.mem_filter.mpr ⟨List.mem_of_getElem? (i := 445) (by decide +kernel), by decide +kernel⟩
theorem tw_447 : Cond.classLink RX1 89 RX0 ∈ am_tb := List.mem_filter.mpr ⟨List.mem_of_getElem? (i := 447) (by decide +kernel), by decide +kernel⟩
theorem tw_448 : Cond.instantiable RX0 3 ∈ am_tb := List.mem_filter.mpr ⟨List.mem_of_getElem? (i := 448) (by decide +kernel), by decide +kernel⟩
theorem tw_449 : Cond.methodLink RX1 91 yX0_init ∈ am_tb := List.mem_filter.mpr ⟨List.mem_of_getElem? (i := 449) (by decide +kernel), by decide +kernel⟩
theorem tw_450 : Cond.instanceMethod yX0_init ∈ am_tb := List.mem_filter.mpr ⟨List.mem_of_getElem? (i := 450) (by decide +kernel), by decide +kernel⟩
theorem tw_475 : Cond.classLink RX1 94 RX6 ∈ am_tb := List.mem_filter.mpr ⟨List.mem_of_getElem? (i := 475) (by decide +kernel), by decide +kernel⟩
theorem tw_476 : Cond.instantiable RX6 3 ∈ am_tb := List.mem_filter.mpr ⟨List.mem_of_getElem? (i := 476) (by decide +kernel), by decide +kernel⟩
theorem tw_91 : Cond.initialized RX6 ∈ am_tb := List.mem_filter.mpr ⟨List.mem_of_getElem? (i := 91) (by decide +kernel), by decide +kernel⟩
theorem tw_479 : Cond.code yX6_init cX6_init 4 none ∈ am_tb := List.mem_filter.mpr ⟨List.mem_of_getElem? (i := 479) (by decide +kernel), by decide +kernel⟩
theorem tw_477 : Cond.methodLink RX1 96 yX6_init ∈ am_tb := List.mem_filter.mpr ⟨List.mem_of_getElem? (i := 477) (by decide +kernel), by decide +kernel⟩
theorem tw_478 : Cond.instanceMethod yX6_init ∈ am_tb := List.mem_filter.mpr ⟨List.mem_of_getElem? (i := 478) (by decide +kernel), by decide +kernel⟩
theorem tw_485 : Cond.classLink RX1 97 RX2 ∈ am_tb := List.mem_filter.mpr ⟨List.mem_of_getElem? (i := 485) (by decide +kernel), by decide +kernel⟩
theorem tw_486 : Cond.instantiable RX2 3 ∈ am_tb := List.mem_filter.mpr ⟨List.mem_of_getElem? (i := 486) (by decide +kernel), by decide +kernel⟩
theorem tw_92 : Cond.initialized RX2 ∈ am_tb := List.mem_filter.mpr ⟨List.mem_of_getElem? (i := 92) (by decide +kernel), by decide +kernel⟩
theorem tw_489 : Cond.code yX2_init cX2_init 4 none ∈ am_tb := List.mem_filter.mpr ⟨List.mem_of_getElem? (i := 489) (by decide +kernel), by decide +kernel⟩
theorem tw_487 : Cond.methodLink RX1 99 yX2_init ∈ am_tb := List.mem_filter.mpr ⟨List.mem_of_getElem? (i := 487) (by decide +kernel), by decide +kernel⟩
theorem tw_488 : Cond.instanceMethod yX2_init ∈ am_tb := List.mem_filter.mpr ⟨List.mem_of_getElem? (i := 488) (by decide +kernel), by decide +kernel⟩
theorem tw_495 : Cond.classLink RX1 100 RX3 ∈ am_tb := List.mem_filter.mpr ⟨List.mem_of_getElem? (i := 495) (by decide +kernel), by decide +kernel⟩
theorem tw_496 : Cond.instantiable RX3 3 ∈ am_tb := List.mem_filter.mpr ⟨List.mem_of_getElem? (i := 496) (by decide +kernel), by decide +kernel⟩
theorem tw_93 : Cond.initialized RX3 ∈ am_tb := List.mem_filter.mpr ⟨List.mem_of_getElem? (i := 93) (by decide +kernel), by decide +kernel⟩
theorem tw_499 : Cond.code yX3_init cX3_init 3 none ∈ am_tb := List.mem_filter.mpr ⟨List.mem_of_getElem? (i := 499) (by decide +kernel), by decide +kernel⟩
theorem tw_497 : Cond.methodLink RX1 102 yX3_init ∈ am_tb := List.mem_filter.mpr ⟨List.mem_of_getElem? (i := 497) (by decide +kernel), by decide +kernel⟩
theorem tw_498 : Cond.instanceMethod yX3_init ∈ am_tb := List.mem_filter.mpr ⟨List.mem_of_getElem? (i := 498) (by decide +kernel), by decide +kernel⟩
theorem tw_490 : Cond.methodLink RX2 1 yX0_init ∈ am_tb := List.mem_filter.mpr ⟨List.mem_of_getElem? (i := 490) (by decide +kernel), by decide +kernel⟩
theorem tw_794 : Cond.code yX2_kindNumber cX2_kindNumber 1 (some .int) ∈ am_tb := List.mem_filter.mpr ⟨List.mem_of_getElem? (i := 794) (by decide +kernel), by decide +kernel⟩
theorem tw_460 : Cond.fieldLink RX2 7 "RodBeads$Heir" "lowBeads" "I" ∈ am_tb := List.mem_filter.mpr ⟨List.mem_of_getElem? (i := 460) (by decide +kernel), by decide +kernel⟩
theorem tw_461 : Cond.sameField "RodBeads$Heir" "RodBeads$Rod" "lowBeads" "I" ∈ am_tb := List.mem_filter.mpr ⟨List.mem_of_getElem? (i := 461) (by decide +kernel), by decide +kernel⟩
theorem tw_627 : Cond.code yX2_highWorth cX2_highWorth 1 (some .int) ∈ am_tb := List.mem_filter.mpr ⟨List.mem_of_getElem? (i := 627) (by decide +kernel), by decide +kernel⟩
theorem tw_682 : Cond.code yX2_highTime cX2_highTime 1 (some .int) ∈ am_tb := List.mem_filter.mpr ⟨List.mem_of_getElem? (i := 682) (by decide +kernel), by decide +kernel⟩
theorem tw_500 : Cond.methodLink RX3 1 yX4_init ∈ am_tb := List.mem_filter.mpr ⟨List.mem_of_getElem? (i := 500) (by decide +kernel), by decide +kernel⟩
theorem tw_797 : Cond.code yX3_kindNumber cX3_kindNumber 1 (some .int) ∈ am_tb := List.mem_filter.mpr ⟨List.mem_of_getElem? (i := 797) (by decide +kernel), by decide +kernel⟩
theorem tw_630 : Cond.code yX3_highWorth cX3_highWorth 1 (some .int) ∈ am_tb := List.mem_filter.mpr ⟨List.mem_of_getElem? (i := 630) (by decide +kernel), by decide +kernel⟩
theorem tw_455 : Cond.methodLink RX4 3 Lib.objectInit ∈ am_tb := List.mem_filter.mpr ⟨List.mem_of_getElem? (i := 455) (by decide +kernel), by decide +kernel⟩
theorem tw_456 : Cond.fieldLink RX4 9 "RodBeads$Rod" "base" "I" ∈ am_tb := List.mem_filter.mpr ⟨List.mem_of_getElem? (i := 456) (by decide +kernel), by decide +kernel⟩
theorem tw_459 : Cond.fieldLink RX4 15 "RodBeads$Rod" "lowBeads" "I" ∈ am_tb := List.mem_filter.mpr ⟨List.mem_of_getElem? (i := 459) (by decide +kernel), by decide +kernel⟩
theorem tw_464 : Cond.fieldLink RX4 18 "RodBeads$Rod" "highBeads" "I" ∈ am_tb := List.mem_filter.mpr ⟨List.mem_of_getElem? (i := 464) (by decide +kernel), by decide +kernel⟩
theorem tw_697 : Cond.code yX4_lowTime cX4_lowTime 1 (some .int) ∈ am_tb := List.mem_filter.mpr ⟨List.mem_of_getElem? (i := 697) (by decide +kernel), by decide +kernel⟩
theorem tw_687 : Cond.code yX4_highTime cX4_highTime 1 (some .int) ∈ am_tb := List.mem_filter.mpr ⟨List.mem_of_getElem? (i := 687) (by decide +kernel), by decide +kernel⟩
theorem tw_832 : Cond.code yX4_beadsOf cX4_beadsOf 2 (some .int) ∈ am_tb := List.mem_filter.mpr ⟨List.mem_of_getElem? (i := 832) (by decide +kernel), by decide +kernel⟩
theorem tw_677 : Cond.instanceMethod yX4_highTime ∈ am_tb := List.mem_filter.mpr ⟨List.mem_of_getElem? (i := 677) (by decide +kernel), by decide +kernel⟩
theorem tw_679 : Cond.selects RX0 yX4_highTime yX4_highTime ∈ am_tb := List.mem_filter.mpr ⟨List.mem_of_getElem? (i := 679) (by decide +kernel), by decide +kernel⟩
theorem tw_676 : Cond.methodLink RX4 21 yX4_highTime ∈ am_tb := List.mem_filter.mpr ⟨List.mem_of_getElem? (i := 676) (by decide +kernel), by decide +kernel⟩
theorem tw_681 : Cond.instanceMethod yX2_highTime ∈ am_tb := List.mem_filter.mpr ⟨List.mem_of_getElem? (i := 681) (by decide +kernel), by decide +kernel⟩
theorem tw_680 : Cond.selects RX2 yX4_highTime yX2_highTime ∈ am_tb := List.mem_filter.mpr ⟨List.mem_of_getElem? (i := 680) (by decide +kernel), by decide +kernel⟩
theorem tw_678 : Cond.sameMethod "RodBeads$Rod" "RodBeads$Rod" "highTime" "()I" ∈ am_tb := List.mem_filter.mpr ⟨List.mem_of_getElem? (i := 678) (by decide +kernel), by decide +kernel⟩
theorem tw_683 : Cond.selects RX3 yX4_highTime yX4_highTime ∈ am_tb := List.mem_filter.mpr ⟨List.mem_of_getElem? (i := 683) (by decide +kernel), by decide +kernel⟩
theorem tw_686 : Cond.code yX6_highTime cX6_highTime 1 (some .int) ∈ am_tb := List.mem_filter.mpr ⟨List.mem_of_getElem? (i := 686) (by decide +kernel), by decide +kernel⟩
theorem tw_685 : Cond.instanceMethod yX6_highTime ∈ am_tb := List.mem_filter.mpr ⟨List.mem_of_getElem? (i := 685) (by decide +kernel), by decide +kernel⟩
theorem tw_684 : Cond.selects RX6 yX4_highTime yX6_highTime ∈ am_tb := List.mem_filter.mpr ⟨List.mem_of_getElem? (i := 684) (by decide +kernel), by decide +kernel⟩
theorem tw_689 : Cond.instanceMethod yX4_lowTime ∈ am_tb := List.mem_filter.mpr ⟨List.mem_of_getElem? (i := 689) (by decide +kernel), by decide +kernel⟩
theorem tw_691 : Cond.selects RX0 yX4_lowTime yX4_lowTime ∈ am_tb := List.mem_filter.mpr ⟨List.mem_of_getElem? (i := 691) (by decide +kernel), by decide +kernel⟩
theorem tw_688 : Cond.methodLink RX4 25 yX4_lowTime ∈ am_tb := List.mem_filter.mpr ⟨List.mem_of_getElem? (i := 688) (by decide +kernel), by decide +kernel⟩
theorem tw_692 : Cond.selects RX2 yX4_lowTime yX4_lowTime ∈ am_tb := List.mem_filter.mpr ⟨List.mem_of_getElem? (i := 692) (by decide +kernel), by decide +kernel⟩
theorem tw_693 : Cond.selects RX3 yX4_lowTime yX4_lowTime ∈ am_tb := List.mem_filter.mpr ⟨List.mem_of_getElem? (i := 693) (by decide +kernel), by decide +kernel⟩
theorem tw_696 : Cond.code yX6_lowTime cX6_lowTime 1 (some .int) ∈ am_tb := List.mem_filter.mpr ⟨List.mem_of_getElem? (i := 696) (by decide +kernel), by decide +kernel⟩
theorem tw_695 : Cond.instanceMethod yX6_lowTime ∈ am_tb := List.mem_filter.mpr ⟨List.mem_of_getElem? (i := 695) (by decide +kernel), by decide +kernel⟩
theorem tw_694 : Cond.selects RX6 yX4_lowTime yX6_lowTime ∈ am_tb := List.mem_filter.mpr ⟨List.mem_of_getElem? (i := 694) (by decide +kernel), by decide +kernel⟩
theorem tw_690 : Cond.sameMethod "RodBeads$Rod" "RodBeads$Rod" "lowTime" "()I" ∈ am_tb := List.mem_filter.mpr ⟨List.mem_of_getElem? (i := 690) (by decide +kernel), by decide +kernel⟩
theorem tw_675 : Cond.code yX4_timeOf cX4_timeOf 2 (some .int) ∈ am_tb := List.mem_filter.mpr ⟨List.mem_of_getElem? (i := 675) (by decide +kernel), by decide +kernel⟩
theorem tw_623 : Cond.instanceMethod yX0_highWorth ∈ am_tb := List.mem_filter.mpr ⟨List.mem_of_getElem? (i := 623) (by decide +kernel), by decide +kernel⟩
theorem tw_622 : Cond.selects RX0 ⟨"RodBeads$Rod", "highWorth", "()I"⟩ yX0_highWorth ∈ am_tb := List.mem_filter.mpr ⟨List.mem_of_getElem? (i := 622) (by decide +kernel), by decide +kernel⟩
theorem tw_619 : Cond.methodLink RX4 28 ⟨"RodBeads$Rod", "highWorth", "()I"⟩ ∈ am_tb := List.mem_filter.mpr ⟨List.mem_of_getElem? (i := 619) (by decide +kernel), by decide +kernel⟩
theorem tw_621 : Cond.sameMethod "RodBeads$Rod" "RodBeads$Rod" "highWorth" "()I" ∈ am_tb := List.mem_filter.mpr ⟨List.mem_of_getElem? (i := 621) (by decide +kernel), by decide +kernel⟩
theorem tw_620 : Cond.declares ⟨"RodBeads$Rod", "highWorth", "()I"⟩ ∈ am_xw := List.mem_filter.mpr ⟨List.mem_of_getElem? (i := 620) (by decide +kernel), by decide +kernel⟩
theorem tw_626 : Cond.instanceMethod yX2_highWorth ∈ am_tb := List.mem_filter.mpr ⟨List.mem_of_getElem? (i := 626) (by decide +kernel), by decide +kernel⟩
theorem tw_625 : Cond.selects RX2 ⟨"RodBeads$Rod", "highWorth", "()I"⟩ yX2_highWorth ∈ am_tb := List.mem_filter.mpr ⟨List.mem_of_getElem? (i := 625) (by decide +kernel), by decide +kernel⟩
theorem tw_629 : Cond.instanceMethod yX3_highWorth ∈ am_tb := List.mem_filter.mpr ⟨List.mem_of_getElem? (i := 629) (by decide +kernel), by decide +kernel⟩
theorem tw_628 : Cond.selects RX3 ⟨"RodBeads$Rod", "highWorth", "()I"⟩ yX3_highWorth ∈ am_tb := List.mem_filter.mpr ⟨List.mem_of_getElem? (i := 628) (by decide +kernel), by decide +kernel⟩
theorem tw_631 : Cond.selects RX6 ⟨"RodBeads$Rod", "highWorth", "()I"⟩ yX0_highWorth ∈ am_tb := List.mem_filter.mpr ⟨List.mem_of_getElem? (i := 631) (by decide +kernel), by decide +kernel⟩
theorem tw_618 : Cond.code yX4_worthOf cX4_worthOf 3 (some .int) ∈ am_tb := List.mem_filter.mpr ⟨List.mem_of_getElem? (i := 618) (by decide +kernel), by decide +kernel⟩
theorem tw_991 : Cond.code yX4_leastTimeFor cX4_leastTimeFor 6 (some .int) ∈ am_tb := List.mem_filter.mpr ⟨List.mem_of_getElem? (i := 991) (by decide +kernel), by decide +kernel⟩
theorem tw_595 : Cond.code yX5_at cX5_at 2 (some .int) ∈ am_tb := List.mem_filter.mpr ⟨List.mem_of_getElem? (i := 595) (by decide +kernel), by decide +kernel⟩
theorem tw_84 : Cond.initialized RX5 ∈ am_tb := List.mem_filter.mpr ⟨List.mem_of_getElem? (i := 84) (by decide +kernel), by decide +kernel⟩
theorem tw_311 : Cond.code yX5_put cX5_put 3 none ∈ am_tb := List.mem_filter.mpr ⟨List.mem_of_getElem? (i := 311) (by decide +kernel), by decide +kernel⟩
theorem tw_480 : Cond.methodLink RX6 1 yX0_init ∈ am_tb := List.mem_filter.mpr ⟨List.mem_of_getElem? (i := 480) (by decide +kernel), by decide +kernel⟩
theorem tw_800 : Cond.code yX6_kindNumber cX6_kindNumber 1 (some .int) ∈ am_tb := List.mem_filter.mpr ⟨List.mem_of_getElem? (i := 800) (by decide +kernel), by decide +kernel⟩
theorem tw_229 : Cond.methodLink RX7 3 Lib.objectInit ∈ am_tb := List.mem_filter.mpr ⟨List.mem_of_getElem? (i := 229) (by decide +kernel), by decide +kernel⟩
theorem tw_131 : Cond.arrayClass (newarray.typeOf .int) ∈ am_tb := List.mem_filter.mpr ⟨List.mem_of_getElem? (i := 131) (by decide +kernel), by decide +kernel⟩
theorem tw_230 : Cond.fieldLink RX7 9 "RodBeads$Standing" "low" "[I" ∈ am_tb := List.mem_filter.mpr ⟨List.mem_of_getElem? (i := 230) (by decide +kernel), by decide +kernel⟩
theorem tw_231 : Cond.fieldLink RX7 15 "RodBeads$Standing" "high" "[I" ∈ am_tb := List.mem_filter.mpr ⟨List.mem_of_getElem? (i := 231) (by decide +kernel), by decide +kernel⟩
theorem tw_232 : Cond.fieldLink RX7 18 "RodBeads$Standing" "stuck" "I" ∈ am_tb := List.mem_filter.mpr ⟨List.mem_of_getElem? (i := 232) (by decide +kernel), by decide +kernel⟩
theorem tw_234 : Cond.fieldLink RX7 22 "RodBeads$Standing" "spent" "I" ∈ am_tb := List.mem_filter.mpr ⟨List.mem_of_getElem? (i := 234) (by decide +kernel), by decide +kernel⟩
theorem tw_228 : Cond.code yX7_init cX7_init 1 none ∈ am_tb := List.mem_filter.mpr ⟨List.mem_of_getElem? (i := 228) (by decide +kernel), by decide +kernel⟩
theorem tw_577 : Cond.code yJ7_fill_53178 cJ7_fill_53178 4 none ∈ am_tb := List.mem_filter.mpr ⟨List.mem_of_getElem? (i := 577) (by decide +kernel), by decide +kernel⟩
theorem tw_94 : Cond.initialized RJ7 ∈ am_tb := List.mem_filter.mpr ⟨List.mem_of_getElem? (i := 94) (by decide +kernel), by decide +kernel⟩
theorem tw_575 : Cond.methodLink RX7 25 yJ7_fill_53178 ∈ am_tb := List.mem_filter.mpr ⟨List.mem_of_getElem? (i := 575) (by decide +kernel), by decide +kernel⟩
theorem tw_576 : Cond.static yJ7_fill_53178 ∈ am_tb := List.mem_filter.mpr ⟨List.mem_of_getElem? (i := 576) (by decide +kernel), by decide +kernel⟩
theorem tw_574 : Cond.code yX7_begin cX7_begin 2 none ∈ am_tb := List.mem_filter.mpr ⟨List.mem_of_getElem? (i := 574) (by decide +kernel), by decide +kernel⟩
theorem tw_593 : Cond.methodLink RX7 31 yX5_at ∈ am_tb := List.mem_filter.mpr ⟨List.mem_of_getElem? (i := 593) (by decide +kernel), by decide +kernel⟩
theorem tw_594 : Cond.static yX5_at ∈ am_tb := List.mem_filter.mpr ⟨List.mem_of_getElem? (i := 594) (by decide +kernel), by decide +kernel⟩
theorem tw_596 : Cond.methodLink RX7 37 yX5_put ∈ am_tb := List.mem_filter.mpr ⟨List.mem_of_getElem? (i := 596) (by decide +kernel), by decide +kernel⟩
theorem tw_310 : Cond.static yX5_put ∈ am_tb := List.mem_filter.mpr ⟨List.mem_of_getElem? (i := 310) (by decide +kernel), by decide +kernel⟩
theorem tw_592 : Cond.code yX7_copy cX7_copy 3 none ∈ am_tb := List.mem_filter.mpr ⟨List.mem_of_getElem? (i := 592) (by decide +kernel), by decide +kernel⟩
theorem tw_610 : Cond.code yX7_beads cX7_beads 3 (some .int) ∈ am_tb := List.mem_filter.mpr ⟨List.mem_of_getElem? (i := 610) (by decide +kernel), by decide +kernel⟩
theorem tw_760 : Cond.code yX7_place cX7_place 4 none ∈ am_tb := List.mem_filter.mpr ⟨List.mem_of_getElem? (i := 760) (by decide +kernel), by decide +kernel⟩
theorem tw_666 : Cond.methodLink RX7 41 yX7_partBit ∈ am_tb := List.mem_filter.mpr ⟨List.mem_of_getElem? (i := 666) (by decide +kernel), by decide +kernel⟩
theorem tw_665 : Cond.code yX7_isStuck cX7_isStuck 3 (some .boolean) ∈ am_tb := List.mem_filter.mpr ⟨List.mem_of_getElem? (i := 665) (by decide +kernel), by decide +kernel⟩
theorem tw_608 : Cond.instanceMethod yX7_beads ∈ am_tb := List.mem_filter.mpr ⟨List.mem_of_getElem? (i := 608) (by decide +kernel), by decide +kernel⟩
theorem tw_609 : Cond.selects RX7 yX7_beads yX7_beads ∈ am_tb := List.mem_filter.mpr ⟨List.mem_of_getElem? (i := 609) (by decide +kernel), by decide +kernel⟩
theorem tw_607 : Cond.methodLink RX7 45 yX7_beads ∈ am_tb := List.mem_filter.mpr ⟨List.mem_of_getElem? (i := 607) (by decide +kernel), by decide +kernel⟩
theorem tw_612 : Cond.instanceMethod yX4_worthOf ∈ am_tb := List.mem_filter.mpr ⟨List.mem_of_getElem? (i := 612) (by decide +kernel), by decide +kernel⟩
theorem tw_614 : Cond.selects RX0 yX4_worthOf yX4_worthOf ∈ am_tb := List.mem_filter.mpr ⟨List.mem_of_getElem? (i := 614) (by decide +kernel), by decide +kernel⟩
theorem tw_611 : Cond.methodLink RX7 48 yX4_worthOf ∈ am_tb := List.mem_filter.mpr ⟨List.mem_of_getElem? (i := 611) (by decide +kernel), by decide +kernel⟩
theorem tw_615 : Cond.selects RX2 yX4_worthOf yX4_worthOf ∈ am_tb := List.mem_filter.mpr ⟨List.mem_of_getElem? (i := 615) (by decide +kernel), by decide +kernel⟩
theorem tw_616 : Cond.selects RX3 yX4_worthOf yX4_worthOf ∈ am_tb := List.mem_filter.mpr ⟨List.mem_of_getElem? (i := 616) (by decide +kernel), by decide +kernel⟩
theorem tw_617 : Cond.selects RX6 yX4_worthOf yX4_worthOf ∈ am_tb := List.mem_filter.mpr ⟨List.mem_of_getElem? (i := 617) (by decide +kernel), by decide +kernel⟩
theorem tw_606 : Cond.code yX7_shows cX7_shows 3 (some .int) ∈ am_tb := List.mem_filter.mpr ⟨List.mem_of_getElem? (i := 606) (by decide +kernel), by decide +kernel⟩
theorem tw_866 : Cond.code yX7_beadsInAll cX7_beadsInAll 3 (some .int) ∈ am_tb := List.mem_filter.mpr ⟨List.mem_of_getElem? (i := 866) (by decide +kernel), by decide +kernel⟩
theorem tw_765 : Cond.constant RX7 53 (1000000) ∈ am_tb := List.mem_filter.mpr ⟨List.mem_of_getElem? (i := 765) (by decide +kernel), by decide +kernel⟩
theorem tw_82 : Cond.initialized "java/lang/Math" ∈ am_tb := List.mem_filter.mpr ⟨List.mem_of_getElem? (i := 82) (by decide +kernel), by decide +kernel⟩
theorem tw_766 : Cond.methodLink RX7 54 Lib.Math.min.name ∈ am_tb := List.mem_filter.mpr ⟨List.mem_of_getElem? (i := 766) (by decide +kernel), by decide +kernel⟩
theorem tw_355 : Cond.static Lib.Math.min.name ∈ am_tb := List.mem_filter.mpr ⟨List.mem_of_getElem? (i := 355) (by decide +kernel), by decide +kernel⟩
theorem tw_356 : Cond.code Lib.Math.min.name Lib.Math.min.code 2 (some .int) ∈ am_tb := List.mem_filter.mpr ⟨List.mem_of_getElem? (i := 356) (by decide +kernel), by decide +kernel⟩
theorem tw_764 : Cond.code yX7_spend cX7_spend 2 none ∈ am_tb := List.mem_filter.mpr ⟨List.mem_of_getElem? (i := 764) (by decide +kernel), by decide +kernel⟩
theorem tw_137 : Cond.methodLink RX8 3 Lib.objectInit ∈ am_tb := List.mem_filter.mpr ⟨List.mem_of_getElem? (i := 137) (by decide +kernel), by decide +kernel⟩
theorem tw_138 : Cond.fieldLink RX8 11 "RodBeads$Sums" "verb" "I" ∈ am_tb := List.mem_filter.mpr ⟨List.mem_of_getElem? (i := 138) (by decide +kernel), by decide +kernel⟩
theorem tw_140 : Cond.fieldLink RX8 15 "RodBeads$Sums" "value" "J" ∈ am_tb := List.mem_filter.mpr ⟨List.mem_of_getElem? (i := 140) (by decide +kernel), by decide +kernel⟩
theorem tw_142 : Cond.fieldLink RX8 19 "RodBeads$Sums" "possible" "Z" ∈ am_tb := List.mem_filter.mpr ⟨List.mem_of_getElem? (i := 142) (by decide +kernel), by decide +kernel⟩
theorem tw_144 : Cond.fieldLink RX8 23 "RodBeads$Sums" "theNumber" "J" ∈ am_tb := List.mem_filter.mpr ⟨List.mem_of_getElem? (i := 144) (by decide +kernel), by decide +kernel⟩
theorem tw_136 : Cond.code yX8_init cX8_init 1 none ∈ am_tb := List.mem_filter.mpr ⟨List.mem_of_getElem? (i := 136) (by decide +kernel), by decide +kernel⟩
theorem tw_78 : Cond.initialized RX8 ∈ am_tb := List.mem_filter.mpr ⟨List.mem_of_getElem? (i := 78) (by decide +kernel), by decide +kernel⟩
theorem tw_521 : Cond.methodLink RX8 26 yX9_begin ∈ am_tb := List.mem_filter.mpr ⟨List.mem_of_getElem? (i := 521) (by decide +kernel), by decide +kernel⟩
theorem tw_525 : Cond.code yX8_readStatement cX8_readStatement 5 none ∈ am_tb := List.mem_filter.mpr ⟨List.mem_of_getElem? (i := 525) (by decide +kernel), by decide +kernel⟩
theorem tw_523 : Cond.instanceMethod yX8_readStatement ∈ am_tb := List.mem_filter.mpr ⟨List.mem_of_getElem? (i := 523) (by decide +kernel), by decide +kernel⟩
theorem tw_524 : Cond.selects RX8 yX8_readStatement yX8_readStatement ∈ am_tb := List.mem_filter.mpr ⟨List.mem_of_getElem? (i := 524) (by decide +kernel), by decide +kernel⟩
theorem tw_522 : Cond.methodLink RX8 31 yX8_readStatement ∈ am_tb := List.mem_filter.mpr ⟨List.mem_of_getElem? (i := 522) (by decide +kernel), by decide +kernel⟩
theorem tw_566 : Cond.methodLink RX8 35 yX9_another ∈ am_tb := List.mem_filter.mpr ⟨List.mem_of_getElem? (i := 566) (by decide +kernel), by decide +kernel⟩
theorem tw_113 : Cond.fieldLink RX8 39 "RodBeads$Text" "fault" "I" ∈ am_tb := List.mem_filter.mpr ⟨List.mem_of_getElem? (i := 113) (by decide +kernel), by decide +kernel⟩
theorem tw_520 : Cond.code yX8_check cX8_check 5 (some .int) ∈ am_tb := List.mem_filter.mpr ⟨List.mem_of_getElem? (i := 520) (by decide +kernel), by decide +kernel⟩
theorem tw_528 : Cond.code yX8_verbTold cX8_verbTold 1 (some .int) ∈ am_tb := List.mem_filter.mpr ⟨List.mem_of_getElem? (i := 528) (by decide +kernel), by decide +kernel⟩
theorem tw_526 : Cond.methodLink RX8 42 yX8_verbTold ∈ am_tb := List.mem_filter.mpr ⟨List.mem_of_getElem? (i := 526) (by decide +kernel), by decide +kernel⟩
theorem tw_527 : Cond.static yX8_verbTold ∈ am_tb := List.mem_filter.mpr ⟨List.mem_of_getElem? (i := 527) (by decide +kernel), by decide +kernel⟩
theorem tw_535 : Cond.methodLink RX8 46 yX9_fail ∈ am_tb := List.mem_filter.mpr ⟨List.mem_of_getElem? (i := 535) (by decide +kernel), by decide +kernel⟩
theorem tw_536 : Cond.methodLink RX8 49 yX9_step ∈ am_tb := List.mem_filter.mpr ⟨List.mem_of_getElem? (i := 536) (by decide +kernel), by decide +kernel⟩
theorem tw_537 : Cond.methodLink RX8 52 yX9_takeNumber ∈ am_tb := List.mem_filter.mpr ⟨List.mem_of_getElem? (i := 537) (by decide +kernel), by decide +kernel⟩
theorem tw_541 : Cond.code yX8_expression cX8_expression 9 (some .long) ∈ am_tb := List.mem_filter.mpr ⟨List.mem_of_getElem? (i := 541) (by decide +kernel), by decide +kernel⟩
theorem tw_540 : Cond.instanceMethod yX8_expression ∈ am_tb := List.mem_filter.mpr ⟨List.mem_of_getElem? (i := 540) (by decide +kernel), by decide +kernel⟩
theorem tw_4 : Cond.selects RX8 yX8_expression yX8_expression ∈ am_tb := List.mem_filter.mpr ⟨List.mem_of_getElem? (i := 4) (by decide +kernel), by decide +kernel⟩
theorem tw_538 : Cond.methodLink RX8 56 yX8_expression ∈ am_tb := List.mem_filter.mpr ⟨List.mem_of_getElem? (i := 538) (by decide +kernel), by decide +kernel⟩
theorem tw_530 : Cond.methodLink RX8 62 yX9_isWord ∈ am_tb := List.mem_filter.mpr ⟨List.mem_of_getElem? (i := 530) (by decide +kernel), by decide +kernel⟩
theorem tw_545 : Cond.code yX8_part cX8_part 5 (some .long) ∈ am_tb := List.mem_filter.mpr ⟨List.mem_of_getElem? (i := 545) (by decide +kernel), by decide +kernel⟩
theorem tw_544 : Cond.instanceMethod yX8_part ∈ am_tb := List.mem_filter.mpr ⟨List.mem_of_getElem? (i := 544) (by decide +kernel), by decide +kernel⟩
theorem tw_5 : Cond.selects RX8 yX8_part yX8_part ∈ am_tb := List.mem_filter.mpr ⟨List.mem_of_getElem? (i := 5) (by decide +kernel), by decide +kernel⟩
theorem tw_542 : Cond.methodLink RX8 74 yX8_part ∈ am_tb := List.mem_filter.mpr ⟨List.mem_of_getElem? (i := 542) (by decide +kernel), by decide +kernel⟩
theorem tw_548 : Cond.methodLink RX8 77 yX9_isSound ∈ am_tb := List.mem_filter.mpr ⟨List.mem_of_getElem? (i := 548) (by decide +kernel), by decide +kernel⟩
theorem tw_516 : Cond.code yX9_isSign cX9_isSign 2 (some .boolean) ∈ am_tb := List.mem_filter.mpr ⟨List.mem_of_getElem? (i := 516) (by decide +kernel), by decide +kernel⟩
theorem tw_514 : Cond.instanceMethod yX9_isSign ∈ am_tb := List.mem_filter.mpr ⟨List.mem_of_getElem? (i := 514) (by decide +kernel), by decide +kernel⟩
theorem tw_515 : Cond.selects RX9 yX9_isSign yX9_isSign ∈ am_tb := List.mem_filter.mpr ⟨List.mem_of_getElem? (i := 515) (by decide +kernel), by decide +kernel⟩
theorem tw_546 : Cond.methodLink RX8 81 yX9_isSign ∈ am_tb := List.mem_filter.mpr ⟨List.mem_of_getElem? (i := 546) (by decide +kernel), by decide +kernel⟩
theorem tw_552 : Cond.code yX8_multiplied cX8_multiplied 5 (some .long) ∈ am_tb := List.mem_filter.mpr ⟨List.mem_of_getElem? (i := 552) (by decide +kernel), by decide +kernel⟩
theorem tw_551 : Cond.instanceMethod yX8_multiplied ∈ am_tb := List.mem_filter.mpr ⟨List.mem_of_getElem? (i := 551) (by decide +kernel), by decide +kernel⟩
theorem tw_6 : Cond.selects RX8 yX8_multiplied yX8_multiplied ∈ am_tb := List.mem_filter.mpr ⟨List.mem_of_getElem? (i := 6) (by decide +kernel), by decide +kernel⟩
theorem tw_549 : Cond.methodLink RX8 85 yX8_multiplied ∈ am_tb := List.mem_filter.mpr ⟨List.mem_of_getElem? (i := 549) (by decide +kernel), by decide +kernel⟩
theorem tw_560 : Cond.code yX8_divided cX8_divided 5 (some .long) ∈ am_tb := List.mem_filter.mpr ⟨List.mem_of_getElem? (i := 560) (by decide +kernel), by decide +kernel⟩
theorem tw_559 : Cond.instanceMethod yX8_divided ∈ am_tb := List.mem_filter.mpr ⟨List.mem_of_getElem? (i := 559) (by decide +kernel), by decide +kernel⟩
theorem tw_7 : Cond.selects RX8 yX8_divided yX8_divided ∈ am_tb := List.mem_filter.mpr ⟨List.mem_of_getElem? (i := 7) (by decide +kernel), by decide +kernel⟩
theorem tw_557 : Cond.methodLink RX8 89 yX8_divided ∈ am_tb := List.mem_filter.mpr ⟨List.mem_of_getElem? (i := 557) (by decide +kernel), by decide +kernel⟩
theorem tw_564 : Cond.code yX8_bounded cX8_bounded 3 (some .long) ∈ am_tb := List.mem_filter.mpr ⟨List.mem_of_getElem? (i := 564) (by decide +kernel), by decide +kernel⟩
theorem tw_563 : Cond.instanceMethod yX8_bounded ∈ am_tb := List.mem_filter.mpr ⟨List.mem_of_getElem? (i := 563) (by decide +kernel), by decide +kernel⟩
theorem tw_8 : Cond.selects RX8 yX8_bounded yX8_bounded ∈ am_tb := List.mem_filter.mpr ⟨List.mem_of_getElem? (i := 8) (by decide +kernel), by decide +kernel⟩
theorem tw_561 : Cond.methodLink RX8 92 yX8_bounded ∈ am_tb := List.mem_filter.mpr ⟨List.mem_of_getElem? (i := 561) (by decide +kernel), by decide +kernel⟩
theorem tw_547 : Cond.constant RX8 96 (1000000000) ∈ am_tb := List.mem_filter.mpr ⟨List.mem_of_getElem? (i := 547) (by decide +kernel), by decide +kernel⟩
theorem tw_556 : Cond.constantLong RX8 97 (1000000000000) ∈ am_tb := List.mem_filter.mpr ⟨List.mem_of_getElem? (i := 556) (by decide +kernel), by decide +kernel⟩
theorem tw_565 : Cond.constantLong RX8 99 (-1000000000000) ∈ am_tb := List.mem_filter.mpr ⟨List.mem_of_getElem? (i := 565) (by decide +kernel), by decide +kernel⟩
theorem tw_553 : Cond.methodLink RX8 101 Lib.MathLoose.abs_long.x ∈ am_tb := List.mem_filter.mpr ⟨List.mem_of_getElem? (i := 553) (by decide +kernel), by decide +kernel⟩
theorem tw_554 : Cond.static Lib.MathLoose.abs_long.x ∈ am_tb := List.mem_filter.mpr ⟨List.mem_of_getElem? (i := 554) (by decide +kernel), by decide +kernel⟩
theorem tw_555 : Cond.code Lib.MathLoose.abs_long.x Lib.MathLoose.abs_long.code 2 (some .long) ∈ am_tb := List.mem_filter.mpr ⟨List.mem_of_getElem? (i := 555) (by decide +kernel), by decide +kernel⟩
theorem tw_108 : Cond.methodLink RX9 3 Lib.objectInit ∈ am_tb := List.mem_filter.mpr ⟨List.mem_of_getElem? (i := 108) (by decide +kernel), by decide +kernel⟩
theorem tw_109 : Cond.fieldLink RX9 11 "RodBeads$Text" "letters" "[I" ∈ am_tb := List.mem_filter.mpr ⟨List.mem_of_getElem? (i := 109) (by decide +kernel), by decide +kernel⟩
theorem tw_110 : Cond.fieldLink RX9 15 "RodBeads$Text" "size" "I" ∈ am_tb := List.mem_filter.mpr ⟨List.mem_of_getElem? (i := 110) (by decide +kernel), by decide +kernel⟩
theorem tw_112 : Cond.fieldLink RX9 19 "RodBeads$Text" "fault" "I" ∈ am_tb := List.mem_filter.mpr ⟨List.mem_of_getElem? (i := 112) (by decide +kernel), by decide +kernel⟩
theorem tw_115 : Cond.fieldLink RX9 22 "RodBeads$Text" "start" "I" ∈ am_tb := List.mem_filter.mpr ⟨List.mem_of_getElem? (i := 115) (by decide +kernel), by decide +kernel⟩
theorem tw_116 : Cond.fieldLink RX9 25 "RodBeads$Text" "stop" "I" ∈ am_tb := List.mem_filter.mpr ⟨List.mem_of_getElem? (i := 116) (by decide +kernel), by decide +kernel⟩
theorem tw_117 : Cond.fieldLink RX9 28 "RodBeads$Text" "isNumber" "Z" ∈ am_tb := List.mem_filter.mpr ⟨List.mem_of_getElem? (i := 117) (by decide +kernel), by decide +kernel⟩
theorem tw_107 : Cond.code yX9_init cX9_init 1 none ∈ am_tb := List.mem_filter.mpr ⟨List.mem_of_getElem? (i := 107) (by decide +kernel), by decide +kernel⟩
theorem tw_309 : Cond.methodLink RX9 32 yX5_put ∈ am_tb := List.mem_filter.mpr ⟨List.mem_of_getElem? (i := 309) (by decide +kernel), by decide +kernel⟩
theorem tw_308 : Cond.code yX9_add cX9_add 2 (some .boolean) ∈ am_tb := List.mem_filter.mpr ⟨List.mem_of_getElem? (i := 308) (by decide +kernel), by decide +kernel⟩
theorem tw_340 : Cond.methodLink RX9 38 yX9_step ∈ am_tb := List.mem_filter.mpr ⟨List.mem_of_getElem? (i := 340) (by decide +kernel), by decide +kernel⟩
theorem tw_347 : Cond.code yX9_letterAt cX9_letterAt 2 (some .int) ∈ am_tb := List.mem_filter.mpr ⟨List.mem_of_getElem? (i := 347) (by decide +kernel), by decide +kernel⟩
theorem tw_346 : Cond.instanceMethod yX9_letterAt ∈ am_tb := List.mem_filter.mpr ⟨List.mem_of_getElem? (i := 346) (by decide +kernel), by decide +kernel⟩
theorem tw_1 : Cond.selects RX9 yX9_letterAt yX9_letterAt ∈ am_tb := List.mem_filter.mpr ⟨List.mem_of_getElem? (i := 1) (by decide +kernel), by decide +kernel⟩
theorem tw_344 : Cond.methodLink RX9 41 yX9_letterAt ∈ am_tb := List.mem_filter.mpr ⟨List.mem_of_getElem? (i := 344) (by decide +kernel), by decide +kernel⟩
theorem tw_350 : Cond.code yX9_isDigit cX9_isDigit 1 (some .boolean) ∈ am_tb := List.mem_filter.mpr ⟨List.mem_of_getElem? (i := 350) (by decide +kernel), by decide +kernel⟩
theorem tw_348 : Cond.methodLink RX9 45 yX9_isDigit ∈ am_tb := List.mem_filter.mpr ⟨List.mem_of_getElem? (i := 348) (by decide +kernel), by decide +kernel⟩
theorem tw_349 : Cond.static yX9_isDigit ∈ am_tb := List.mem_filter.mpr ⟨List.mem_of_getElem? (i := 349) (by decide +kernel), by decide +kernel⟩
theorem tw_353 : Cond.code yX9_isSmall cX9_isSmall 1 (some .boolean) ∈ am_tb := List.mem_filter.mpr ⟨List.mem_of_getElem? (i := 353) (by decide +kernel), by decide +kernel⟩
theorem tw_351 : Cond.methodLink RX9 49 yX9_isSmall ∈ am_tb := List.mem_filter.mpr ⟨List.mem_of_getElem? (i := 351) (by decide +kernel), by decide +kernel⟩
theorem tw_352 : Cond.static yX9_isSmall ∈ am_tb := List.mem_filter.mpr ⟨List.mem_of_getElem? (i := 352) (by decide +kernel), by decide +kernel⟩
theorem tw_354 : Cond.methodLink RX9 52 Lib.Math.min.name ∈ am_tb := List.mem_filter.mpr ⟨List.mem_of_getElem? (i := 354) (by decide +kernel), by decide +kernel⟩
theorem tw_512 : Cond.code yX9_isAtEnd cX9_isAtEnd 1 (some .boolean) ∈ am_tb := List.mem_filter.mpr ⟨List.mem_of_getElem? (i := 512) (by decide +kernel), by decide +kernel⟩
theorem tw_369 : Cond.code yJ0_length_8abf5 cJ0_length_8abf5 1 (some .int) ∈ am_tb := List.mem_filter.mpr ⟨List.mem_of_getElem? (i := 369) (by decide +kernel), by decide +kernel⟩
theorem tw_85 : Cond.initialized RJ0 ∈ am_tb := List.mem_filter.mpr ⟨List.mem_of_getElem? (i := 85) (by decide +kernel), by decide +kernel⟩
theorem tw_367 : Cond.instanceMethod yJ0_length_8abf5 ∈ am_tb := List.mem_filter.mpr ⟨List.mem_of_getElem? (i := 367) (by decide +kernel), by decide +kernel⟩
theorem tw_368 : Cond.selects RJ0 yJ0_length_8abf5 yJ0_length_8abf5 ∈ am_tb := List.mem_filter.mpr ⟨List.mem_of_getElem? (i := 368) (by decide +kernel), by decide +kernel⟩
theorem tw_366 : Cond.methodLink RX9 58 yJ0_length_8abf5 ∈ am_tb := List.mem_filter.mpr ⟨List.mem_of_getElem? (i := 366) (by decide +kernel), by decide +kernel⟩
theorem tw_379 : Cond.code yJ0_charAt_5068e cJ0_charAt_5068e 2 (some .char) ∈ am_tb := List.mem_filter.mpr ⟨List.mem_of_getElem? (i := 379) (by decide +kernel), by decide +kernel⟩
theorem tw_377 : Cond.instanceMethod yJ0_charAt_5068e ∈ am_tb := List.mem_filter.mpr ⟨List.mem_of_getElem? (i := 377) (by decide +kernel), by decide +kernel⟩
theorem tw_378 : Cond.selects RJ0 yJ0_charAt_5068e yJ0_charAt_5068e ∈ am_tb := List.mem_filter.mpr ⟨List.mem_of_getElem? (i := 378) (by decide +kernel), by decide +kernel⟩
theorem tw_376 : Cond.methodLink RX9 64 yJ0_charAt_5068e ∈ am_tb := List.mem_filter.mpr ⟨List.mem_of_getElem? (i := 376) (by decide +kernel), by decide +kernel⟩
theorem tw_420 : Cond.methodLink RX9 68 yX9_isSound ∈ am_tb := List.mem_filter.mpr ⟨List.mem_of_getElem? (i := 420) (by decide +kernel), by decide +kernel⟩
theorem tw_424 : Cond.methodLink RX9 72 yX9_fail ∈ am_tb := List.mem_filter.mpr ⟨List.mem_of_getElem? (i := 424) (by decide +kernel), by decide +kernel⟩
theorem tw_510 : Cond.instanceMethod yX9_isAtEnd ∈ am_tb := List.mem_filter.mpr ⟨List.mem_of_getElem? (i := 510) (by decide +kernel), by decide +kernel⟩
theorem tw_511 : Cond.selects RX9 yX9_isAtEnd yX9_isAtEnd ∈ am_tb := List.mem_filter.mpr ⟨List.mem_of_getElem? (i := 511) (by decide +kernel), by decide +kernel⟩
theorem tw_509 : Cond.methodLink RX9 75 yX9_isAtEnd ∈ am_tb := List.mem_filter.mpr ⟨List.mem_of_getElem? (i := 509) (by decide +kernel), by decide +kernel⟩
theorem tw_513 : Cond.methodLink RX9 78 yX9_isSign ∈ am_tb := List.mem_filter.mpr ⟨List.mem_of_getElem? (i := 513) (by decide +kernel), by decide +kernel⟩
theorem tw_159 : Cond.methodLink RX10 3 Lib.objectInit ∈ am_tb := List.mem_filter.mpr ⟨List.mem_of_getElem? (i := 159) (by decide +kernel), by decide +kernel⟩
theorem tw_160 : Cond.fieldLink RX10 11 "RodBeads$Ways" "cost" "[I" ∈ am_tb := List.mem_filter.mpr ⟨List.mem_of_getElem? (i := 160) (by decide +kernel), by decide +kernel⟩
theorem tw_161 : Cond.fieldLink RX10 15 "RodBeads$Ways" "highs" "[I" ∈ am_tb := List.mem_filter.mpr ⟨List.mem_of_getElem? (i := 161) (by decide +kernel), by decide +kernel⟩
theorem tw_162 : Cond.fieldLink RX10 18 "RodBeads$Ways" "choices" "[I" ∈ am_tb := List.mem_filter.mpr ⟨List.mem_of_getElem? (i := 162) (by decide +kernel), by decide +kernel⟩
theorem tw_163 : Cond.fieldLink RX10 21 "RodBeads$Ways" "bases" "[I" ∈ am_tb := List.mem_filter.mpr ⟨List.mem_of_getElem? (i := 163) (by decide +kernel), by decide +kernel⟩
theorem tw_164 : Cond.fieldLink RX10 24 "RodBeads$Ways" "worths" "[I" ∈ am_tb := List.mem_filter.mpr ⟨List.mem_of_getElem? (i := 164) (by decide +kernel), by decide +kernel⟩
theorem tw_165 : Cond.fieldLink RX10 27 "RodBeads$Ways" "most" "[I" ∈ am_tb := List.mem_filter.mpr ⟨List.mem_of_getElem? (i := 165) (by decide +kernel), by decide +kernel⟩
theorem tw_166 : Cond.fieldLink RX10 30 "RodBeads$Ways" "fewest" "[I" ∈ am_tb := List.mem_filter.mpr ⟨List.mem_of_getElem? (i := 166) (by decide +kernel), by decide +kernel⟩
theorem tw_167 : Cond.fieldLink RX10 33 "RodBeads$Ways" "known" "[I" ∈ am_tb := List.mem_filter.mpr ⟨List.mem_of_getElem? (i := 167) (by decide +kernel), by decide +kernel⟩
theorem tw_168 : Cond.fieldLink RX10 36 "RodBeads$Ways" "top" "[I" ∈ am_tb := List.mem_filter.mpr ⟨List.mem_of_getElem? (i := 168) (by decide +kernel), by decide +kernel⟩
theorem tw_169 : Cond.fieldLink RX10 39 "RodBeads$Ways" "sieveFrom" "[I" ∈ am_tb := List.mem_filter.mpr ⟨List.mem_of_getElem? (i := 169) (by decide +kernel), by decide +kernel⟩
theorem tw_170 : Cond.fieldLink RX10 42 "RodBeads$Ways" "sieveUpTo" "[I" ∈ am_tb := List.mem_filter.mpr ⟨List.mem_of_getElem? (i := 170) (by decide +kernel), by decide +kernel⟩
theorem tw_171 : Cond.fieldLink RX10 45 "RodBeads$Ways" "evenSieve" "[I" ∈ am_tb := List.mem_filter.mpr ⟨List.mem_of_getElem? (i := 171) (by decide +kernel), by decide +kernel⟩
theorem tw_172 : Cond.fieldLink RX10 48 "RodBeads$Ways" "oddSieve" "[I" ∈ am_tb := List.mem_filter.mpr ⟨List.mem_of_getElem? (i := 172) (by decide +kernel), by decide +kernel⟩
theorem tw_173 : Cond.fieldLink RX10 51 "RodBeads$Ways" "size" "I" ∈ am_tb := List.mem_filter.mpr ⟨List.mem_of_getElem? (i := 173) (by decide +kernel), by decide +kernel⟩
theorem tw_158 : Cond.code yX10_init cX10_init 1 none ∈ am_tb := List.mem_filter.mpr ⟨List.mem_of_getElem? (i := 158) (by decide +kernel), by decide +kernel⟩
theorem tw_79 : Cond.initialized RX10 ∈ am_tb := List.mem_filter.mpr ⟨List.mem_of_getElem? (i := 79) (by decide +kernel), by decide +kernel⟩
theorem tw_213 : Cond.fieldLink RX10 55 "RodBeads$Frame" "size" "I" ∈ am_tb := List.mem_filter.mpr ⟨List.mem_of_getElem? (i := 213) (by decide +kernel), by decide +kernel⟩
theorem tw_645 : Cond.methodLink RX10 58 Lib.Math.min.name ∈ am_tb := List.mem_filter.mpr ⟨List.mem_of_getElem? (i := 645) (by decide +kernel), by decide +kernel⟩
theorem tw_646 : Cond.constant RX10 64 (1048576) ∈ am_tb := List.mem_filter.mpr ⟨List.mem_of_getElem? (i := 646) (by decide +kernel), by decide +kernel⟩
theorem tw_647 : Cond.methodLink RX10 65 yJ7_fill_53178 ∈ am_tb := List.mem_filter.mpr ⟨List.mem_of_getElem? (i := 647) (by decide +kernel), by decide +kernel⟩
theorem tw_648 : Cond.methodLink RX10 71 yX5_put ∈ am_tb := List.mem_filter.mpr ⟨List.mem_of_getElem? (i := 648) (by decide +kernel), by decide +kernel⟩
theorem tw_649 : Cond.methodLink RX10 77 yX1_rodAt ∈ am_tb := List.mem_filter.mpr ⟨List.mem_of_getElem? (i := 649) (by decide +kernel), by decide +kernel⟩
theorem tw_653 : Cond.code yX10_loadRod cX10_loadRod 9 none ∈ am_tb := List.mem_filter.mpr ⟨List.mem_of_getElem? (i := 653) (by decide +kernel), by decide +kernel⟩
theorem tw_652 : Cond.instanceMethod yX10_loadRod ∈ am_tb := List.mem_filter.mpr ⟨List.mem_of_getElem? (i := 652) (by decide +kernel), by decide +kernel⟩
theorem tw_13 : Cond.selects RX10 yX10_loadRod yX10_loadRod ∈ am_tb := List.mem_filter.mpr ⟨List.mem_of_getElem? (i := 13) (by decide +kernel), by decide +kernel⟩
theorem tw_650 : Cond.methodLink RX10 81 yX10_loadRod ∈ am_tb := List.mem_filter.mpr ⟨List.mem_of_getElem? (i := 650) (by decide +kernel), by decide +kernel⟩
theorem tw_457 : Cond.fieldLink RX10 85 "RodBeads$Rod" "base" "I" ∈ am_tb := List.mem_filter.mpr ⟨List.mem_of_getElem? (i := 457) (by decide +kernel), by decide +kernel⟩
theorem tw_710 : Cond.code yX10_loadBounds cX10_loadBounds 6 none ∈ am_tb := List.mem_filter.mpr ⟨List.mem_of_getElem? (i := 710) (by decide +kernel), by decide +kernel⟩
theorem tw_709 : Cond.instanceMethod yX10_loadBounds ∈ am_tb := List.mem_filter.mpr ⟨List.mem_of_getElem? (i := 709) (by decide +kernel), by decide +kernel⟩
theorem tw_15 : Cond.selects RX10 yX10_loadBounds yX10_loadBounds ∈ am_tb := List.mem_filter.mpr ⟨List.mem_of_getElem? (i := 15) (by decide +kernel), by decide +kernel⟩
theorem tw_707 : Cond.methodLink RX10 90 yX10_loadBounds ∈ am_tb := List.mem_filter.mpr ⟨List.mem_of_getElem? (i := 707) (by decide +kernel), by decide +kernel⟩
theorem tw_644 : Cond.code yX10_load cX10_load 6 none ∈ am_tb := List.mem_filter.mpr ⟨List.mem_of_getElem? (i := 644) (by decide +kernel), by decide +kernel⟩
theorem tw_654 : Cond.methodLink RX10 94 ⟨"RodBeads$Rod", "highWorth", "()I"⟩ ∈ am_tb := List.mem_filter.mpr ⟨List.mem_of_getElem? (i := 654) (by decide +kernel), by decide +kernel⟩
theorem tw_465 : Cond.fieldLink RX10 98 "RodBeads$Rod" "highBeads" "I" ∈ am_tb := List.mem_filter.mpr ⟨List.mem_of_getElem? (i := 465) (by decide +kernel), by decide +kernel⟩
theorem tw_657 : Cond.code yX10_price cX10_price 8 (some .int) ∈ am_tb := List.mem_filter.mpr ⟨List.mem_of_getElem? (i := 657) (by decide +kernel), by decide +kernel⟩
theorem tw_655 : Cond.methodLink RX10 101 yX10_price ∈ am_tb := List.mem_filter.mpr ⟨List.mem_of_getElem? (i := 655) (by decide +kernel), by decide +kernel⟩
theorem tw_656 : Cond.static yX10_price ∈ am_tb := List.mem_filter.mpr ⟨List.mem_of_getElem? (i := 656) (by decide +kernel), by decide +kernel⟩
theorem tw_462 : Cond.fieldLink RX10 105 "RodBeads$Rod" "lowBeads" "I" ∈ am_tb := List.mem_filter.mpr ⟨List.mem_of_getElem? (i := 462) (by decide +kernel), by decide +kernel⟩
theorem tw_698 : Cond.methodLink RX10 108 yX4_worthOf ∈ am_tb := List.mem_filter.mpr ⟨List.mem_of_getElem? (i := 698) (by decide +kernel), by decide +kernel⟩
theorem tw_701 : Cond.code yX10_slot cX10_slot 2 (some .int) ∈ am_tb := List.mem_filter.mpr ⟨List.mem_of_getElem? (i := 701) (by decide +kernel), by decide +kernel⟩
theorem tw_699 : Cond.methodLink RX10 111 yX10_slot ∈ am_tb := List.mem_filter.mpr ⟨List.mem_of_getElem? (i := 699) (by decide +kernel), by decide +kernel⟩
theorem tw_700 : Cond.static yX10_slot ∈ am_tb := List.mem_filter.mpr ⟨List.mem_of_getElem? (i := 700) (by decide +kernel), by decide +kernel⟩
theorem tw_705 : Cond.code yX10_addChoice cX10_addChoice 4 none ∈ am_tb := List.mem_filter.mpr ⟨List.mem_of_getElem? (i := 705) (by decide +kernel), by decide +kernel⟩
theorem tw_704 : Cond.instanceMethod yX10_addChoice ∈ am_tb := List.mem_filter.mpr ⟨List.mem_of_getElem? (i := 704) (by decide +kernel), by decide +kernel⟩
theorem tw_14 : Cond.selects RX10 yX10_addChoice yX10_addChoice ∈ am_tb := List.mem_filter.mpr ⟨List.mem_of_getElem? (i := 14) (by decide +kernel), by decide +kernel⟩
theorem tw_702 : Cond.methodLink RX10 114 yX10_addChoice ∈ am_tb := List.mem_filter.mpr ⟨List.mem_of_getElem? (i := 702) (by decide +kernel), by decide +kernel⟩
theorem tw_658 : Cond.methodLink RX10 118 yX7_beads ∈ am_tb := List.mem_filter.mpr ⟨List.mem_of_getElem? (i := 658) (by decide +kernel), by decide +kernel⟩
theorem tw_659 : Cond.methodLink RX10 123 Lib.Math.abs.name ∈ am_tb := List.mem_filter.mpr ⟨List.mem_of_getElem? (i := 659) (by decide +kernel), by decide +kernel⟩
theorem tw_660 : Cond.static Lib.Math.abs.name ∈ am_tb := List.mem_filter.mpr ⟨List.mem_of_getElem? (i := 660) (by decide +kernel), by decide +kernel⟩
theorem tw_661 : Cond.code Lib.Math.abs.name Lib.Math.abs.code 1 (some .int) ∈ am_tb := List.mem_filter.mpr ⟨List.mem_of_getElem? (i := 661) (by decide +kernel), by decide +kernel⟩
theorem tw_663 : Cond.instanceMethod yX7_isStuck ∈ am_tb := List.mem_filter.mpr ⟨List.mem_of_getElem? (i := 663) (by decide +kernel), by decide +kernel⟩
theorem tw_664 : Cond.selects RX7 yX7_isStuck yX7_isStuck ∈ am_tb := List.mem_filter.mpr ⟨List.mem_of_getElem? (i := 664) (by decide +kernel), by decide +kernel⟩
theorem tw_662 : Cond.methodLink RX10 127 yX7_isStuck ∈ am_tb := List.mem_filter.mpr ⟨List.mem_of_getElem? (i := 662) (by decide +kernel), by decide +kernel⟩
theorem tw_667 : Cond.methodLink RX10 131 yX7_partBit ∈ am_tb := List.mem_filter.mpr ⟨List.mem_of_getElem? (i := 667) (by decide +kernel), by decide +kernel⟩
theorem tw_669 : Cond.instanceMethod yX4_timeOf ∈ am_tb := List.mem_filter.mpr ⟨List.mem_of_getElem? (i := 669) (by decide +kernel), by decide +kernel⟩
theorem tw_671 : Cond.selects RX0 yX4_timeOf yX4_timeOf ∈ am_tb := List.mem_filter.mpr ⟨List.mem_of_getElem? (i := 671) (by decide +kernel), by decide +kernel⟩
theorem tw_668 : Cond.methodLink RX10 134 yX4_timeOf ∈ am_tb := List.mem_filter.mpr ⟨List.mem_of_getElem? (i := 668) (by decide +kernel), by decide +kernel⟩
theorem tw_672 : Cond.selects RX2 yX4_timeOf yX4_timeOf ∈ am_tb := List.mem_filter.mpr ⟨List.mem_of_getElem? (i := 672) (by decide +kernel), by decide +kernel⟩
theorem tw_673 : Cond.selects RX3 yX4_timeOf yX4_timeOf ∈ am_tb := List.mem_filter.mpr ⟨List.mem_of_getElem? (i := 673) (by decide +kernel), by decide +kernel⟩
theorem tw_674 : Cond.selects RX6 yX4_timeOf yX4_timeOf ∈ am_tb := List.mem_filter.mpr ⟨List.mem_of_getElem? (i := 674) (by decide +kernel), by decide +kernel⟩
theorem tw_706 : Cond.methodLink RX10 137 yX5_at ∈ am_tb := List.mem_filter.mpr ⟨List.mem_of_getElem? (i := 706) (by decide +kernel), by decide +kernel⟩
theorem tw_714 : Cond.code yX10_costOf cX10_costOf 4 (some .int) ∈ am_tb := List.mem_filter.mpr ⟨List.mem_of_getElem? (i := 714) (by decide +kernel), by decide +kernel⟩
theorem tw_712 : Cond.instanceMethod yX10_costOf ∈ am_tb := List.mem_filter.mpr ⟨List.mem_of_getElem? (i := 712) (by decide +kernel), by decide +kernel⟩
theorem tw_713 : Cond.selects RX10 yX10_costOf yX10_costOf ∈ am_tb := List.mem_filter.mpr ⟨List.mem_of_getElem? (i := 713) (by decide +kernel), by decide +kernel⟩
theorem tw_711 : Cond.methodLink RX10 141 yX10_costOf ∈ am_tb := List.mem_filter.mpr ⟨List.mem_of_getElem? (i := 711) (by decide +kernel), by decide +kernel⟩
theorem tw_718 : Cond.code yX10_mostFrom cX10_mostFrom 2 (some .int) ∈ am_tb := List.mem_filter.mpr ⟨List.mem_of_getElem? (i := 718) (by decide +kernel), by decide +kernel⟩
theorem tw_716 : Cond.instanceMethod yX10_mostFrom ∈ am_tb := List.mem_filter.mpr ⟨List.mem_of_getElem? (i := 716) (by decide +kernel), by decide +kernel⟩
theorem tw_717 : Cond.selects RX10 yX10_mostFrom yX10_mostFrom ∈ am_tb := List.mem_filter.mpr ⟨List.mem_of_getElem? (i := 717) (by decide +kernel), by decide +kernel⟩
theorem tw_715 : Cond.methodLink RX10 144 yX10_mostFrom ∈ am_tb := List.mem_filter.mpr ⟨List.mem_of_getElem? (i := 715) (by decide +kernel), by decide +kernel⟩
theorem tw_722 : Cond.code yX10_fewestFrom cX10_fewestFrom 2 (some .int) ∈ am_tb := List.mem_filter.mpr ⟨List.mem_of_getElem? (i := 722) (by decide +kernel), by decide +kernel⟩
theorem tw_720 : Cond.instanceMethod yX10_fewestFrom ∈ am_tb := List.mem_filter.mpr ⟨List.mem_of_getElem? (i := 720) (by decide +kernel), by decide +kernel⟩
theorem tw_721 : Cond.selects RX10 yX10_fewestFrom yX10_fewestFrom ∈ am_tb := List.mem_filter.mpr ⟨List.mem_of_getElem? (i := 721) (by decide +kernel), by decide +kernel⟩
theorem tw_719 : Cond.methodLink RX10 147 yX10_fewestFrom ∈ am_tb := List.mem_filter.mpr ⟨List.mem_of_getElem? (i := 719) (by decide +kernel), by decide +kernel⟩
theorem tw_735 : Cond.methodLink RX10 150 Lib.Math.max.name ∈ am_tb := List.mem_filter.mpr ⟨List.mem_of_getElem? (i := 735) (by decide +kernel), by decide +kernel⟩
theorem tw_249 : Cond.static Lib.Math.max.name ∈ am_tb := List.mem_filter.mpr ⟨List.mem_of_getElem? (i := 249) (by decide +kernel), by decide +kernel⟩
theorem tw_250 : Cond.code Lib.Math.max.name Lib.Math.max.code 2 (some .int) ∈ am_tb := List.mem_filter.mpr ⟨List.mem_of_getElem? (i := 250) (by decide +kernel), by decide +kernel⟩
theorem tw_734 : Cond.code yX10_baseOf cX10_baseOf 2 (some .int) ∈ am_tb := List.mem_filter.mpr ⟨List.mem_of_getElem? (i := 734) (by decide +kernel), by decide +kernel⟩
theorem tw_730 : Cond.code yX10_aim cX10_aim 4 none ∈ am_tb := List.mem_filter.mpr ⟨List.mem_of_getElem? (i := 730) (by decide +kernel), by decide +kernel⟩
theorem tw_729 : Cond.instanceMethod yX10_aim ∈ am_tb := List.mem_filter.mpr ⟨List.mem_of_getElem? (i := 729) (by decide +kernel), by decide +kernel⟩
theorem tw_16 : Cond.selects RX10 yX10_aim yX10_aim ∈ am_tb := List.mem_filter.mpr ⟨List.mem_of_getElem? (i := 16) (by decide +kernel), by decide +kernel⟩
theorem tw_727 : Cond.methodLink RX10 153 yX10_aim ∈ am_tb := List.mem_filter.mpr ⟨List.mem_of_getElem? (i := 727) (by decide +kernel), by decide +kernel⟩
theorem tw_739 : Cond.code yX10_leastFrom cX10_leastFrom 8 (some .int) ∈ am_tb := List.mem_filter.mpr ⟨List.mem_of_getElem? (i := 739) (by decide +kernel), by decide +kernel⟩
theorem tw_738 : Cond.instanceMethod yX10_leastFrom ∈ am_tb := List.mem_filter.mpr ⟨List.mem_of_getElem? (i := 738) (by decide +kernel), by decide +kernel⟩
theorem tw_18 : Cond.selects RX10 yX10_leastFrom yX10_leastFrom ∈ am_tb := List.mem_filter.mpr ⟨List.mem_of_getElem? (i := 18) (by decide +kernel), by decide +kernel⟩
theorem tw_736 : Cond.methodLink RX10 157 yX10_leastFrom ∈ am_tb := List.mem_filter.mpr ⟨List.mem_of_getElem? (i := 736) (by decide +kernel), by decide +kernel⟩
theorem tw_726 : Cond.code yX10_least cX10_least 3 (some .int) ∈ am_tb := List.mem_filter.mpr ⟨List.mem_of_getElem? (i := 726) (by decide +kernel), by decide +kernel⟩
theorem tw_882 : Cond.code yX10_howManyFrom cX10_howManyFrom 8 (some .int) ∈ am_tb := List.mem_filter.mpr ⟨List.mem_of_getElem? (i := 882) (by decide +kernel), by decide +kernel⟩
theorem tw_881 : Cond.instanceMethod yX10_howManyFrom ∈ am_tb := List.mem_filter.mpr ⟨List.mem_of_getElem? (i := 881) (by decide +kernel), by decide +kernel⟩
theorem tw_24 : Cond.selects RX10 yX10_howManyFrom yX10_howManyFrom ∈ am_tb := List.mem_filter.mpr ⟨List.mem_of_getElem? (i := 24) (by decide +kernel), by decide +kernel⟩
theorem tw_879 : Cond.methodLink RX10 160 yX10_howManyFrom ∈ am_tb := List.mem_filter.mpr ⟨List.mem_of_getElem? (i := 879) (by decide +kernel), by decide +kernel⟩
theorem tw_878 : Cond.code yX10_howMany cX10_howMany 3 (some .int) ∈ am_tb := List.mem_filter.mpr ⟨List.mem_of_getElem? (i := 878) (by decide +kernel), by decide +kernel⟩
theorem tw_733 : Cond.instanceMethod yX10_baseOf ∈ am_tb := List.mem_filter.mpr ⟨List.mem_of_getElem? (i := 733) (by decide +kernel), by decide +kernel⟩
theorem tw_17 : Cond.selects RX10 yX10_baseOf yX10_baseOf ∈ am_tb := List.mem_filter.mpr ⟨List.mem_of_getElem? (i := 17) (by decide +kernel), by decide +kernel⟩
theorem tw_731 : Cond.methodLink RX10 163 yX10_baseOf ∈ am_tb := List.mem_filter.mpr ⟨List.mem_of_getElem? (i := 731) (by decide +kernel), by decide +kernel⟩
theorem tw_743 : Cond.code yX10_isInReach cX10_isInReach 3 (some .boolean) ∈ am_tb := List.mem_filter.mpr ⟨List.mem_of_getElem? (i := 743) (by decide +kernel), by decide +kernel⟩
theorem tw_742 : Cond.instanceMethod yX10_isInReach ∈ am_tb := List.mem_filter.mpr ⟨List.mem_of_getElem? (i := 742) (by decide +kernel), by decide +kernel⟩
theorem tw_19 : Cond.selects RX10 yX10_isInReach yX10_isInReach ∈ am_tb := List.mem_filter.mpr ⟨List.mem_of_getElem? (i := 19) (by decide +kernel), by decide +kernel⟩
theorem tw_740 : Cond.methodLink RX10 166 yX10_isInReach ∈ am_tb := List.mem_filter.mpr ⟨List.mem_of_getElem? (i := 740) (by decide +kernel), by decide +kernel⟩
theorem tw_752 : Cond.code yX10_shownByWay cX10_shownByWay 13 (some .int) ∈ am_tb := List.mem_filter.mpr ⟨List.mem_of_getElem? (i := 752) (by decide +kernel), by decide +kernel⟩
theorem tw_751 : Cond.instanceMethod yX10_shownByWay ∈ am_tb := List.mem_filter.mpr ⟨List.mem_of_getElem? (i := 751) (by decide +kernel), by decide +kernel⟩
theorem tw_20 : Cond.selects RX10 yX10_shownByWay yX10_shownByWay ∈ am_tb := List.mem_filter.mpr ⟨List.mem_of_getElem? (i := 20) (by decide +kernel), by decide +kernel⟩
theorem tw_749 : Cond.methodLink RX10 169 yX10_shownByWay ∈ am_tb := List.mem_filter.mpr ⟨List.mem_of_getElem? (i := 749) (by decide +kernel), by decide +kernel⟩
theorem tw_756 : Cond.code yX10_placeRod cX10_placeRod 5 none ∈ am_tb := List.mem_filter.mpr ⟨List.mem_of_getElem? (i := 756) (by decide +kernel), by decide +kernel⟩
theorem tw_754 : Cond.instanceMethod yX10_placeRod ∈ am_tb := List.mem_filter.mpr ⟨List.mem_of_getElem? (i := 754) (by decide +kernel), by decide +kernel⟩
theorem tw_755 : Cond.selects RX10 yX10_placeRod yX10_placeRod ∈ am_tb := List.mem_filter.mpr ⟨List.mem_of_getElem? (i := 755) (by decide +kernel), by decide +kernel⟩
theorem tw_753 : Cond.methodLink RX10 172 yX10_placeRod ∈ am_tb := List.mem_filter.mpr ⟨List.mem_of_getElem? (i := 753) (by decide +kernel), by decide +kernel⟩
theorem tw_748 : Cond.code yX10_placeAll cX10_placeAll 5 none ∈ am_tb := List.mem_filter.mpr ⟨List.mem_of_getElem? (i := 748) (by decide +kernel), by decide +kernel⟩
theorem tw_758 : Cond.instanceMethod yX7_place ∈ am_tb := List.mem_filter.mpr ⟨List.mem_of_getElem? (i := 758) (by decide +kernel), by decide +kernel⟩
theorem tw_759 : Cond.selects RX7 yX7_place yX7_place ∈ am_tb := List.mem_filter.mpr ⟨List.mem_of_getElem? (i := 759) (by decide +kernel), by decide +kernel⟩
theorem tw_757 : Cond.methodLink RX10 176 yX7_place ∈ am_tb := List.mem_filter.mpr ⟨List.mem_of_getElem? (i := 757) (by decide +kernel), by decide +kernel⟩
theorem tw_913 : Cond.code yX10_siftFrom cX10_siftFrom 7 none ∈ am_tb := List.mem_filter.mpr ⟨List.mem_of_getElem? (i := 913) (by decide +kernel), by decide +kernel⟩
theorem tw_912 : Cond.instanceMethod yX10_siftFrom ∈ am_tb := List.mem_filter.mpr ⟨List.mem_of_getElem? (i := 912) (by decide +kernel), by decide +kernel⟩
theorem tw_27 : Cond.selects RX10 yX10_siftFrom yX10_siftFrom ∈ am_tb := List.mem_filter.mpr ⟨List.mem_of_getElem? (i := 27) (by decide +kernel), by decide +kernel⟩
theorem tw_910 : Cond.methodLink RX10 179 yX10_siftFrom ∈ am_tb := List.mem_filter.mpr ⟨List.mem_of_getElem? (i := 910) (by decide +kernel), by decide +kernel⟩
theorem tw_909 : Cond.code yX10_sift cX10_sift 5 none ∈ am_tb := List.mem_filter.mpr ⟨List.mem_of_getElem? (i := 909) (by decide +kernel), by decide +kernel⟩
theorem tw_917 : Cond.code yX10_sieveOf cX10_sieveOf 2 (some (.array .int)) ∈ am_tb := List.mem_filter.mpr ⟨List.mem_of_getElem? (i := 917) (by decide +kernel), by decide +kernel⟩
theorem tw_916 : Cond.instanceMethod yX10_sieveOf ∈ am_tb := List.mem_filter.mpr ⟨List.mem_of_getElem? (i := 916) (by decide +kernel), by decide +kernel⟩
theorem tw_28 : Cond.selects RX10 yX10_sieveOf yX10_sieveOf ∈ am_tb := List.mem_filter.mpr ⟨List.mem_of_getElem? (i := 28) (by decide +kernel), by decide +kernel⟩
theorem tw_914 : Cond.methodLink RX10 182 yX10_sieveOf ∈ am_tb := List.mem_filter.mpr ⟨List.mem_of_getElem? (i := 914) (by decide +kernel), by decide +kernel⟩
theorem tw_921 : Cond.code yX10_canShow cX10_canShow 5 (some .boolean) ∈ am_tb := List.mem_filter.mpr ⟨List.mem_of_getElem? (i := 921) (by decide +kernel), by decide +kernel⟩
theorem tw_920 : Cond.instanceMethod yX10_canShow ∈ am_tb := List.mem_filter.mpr ⟨List.mem_of_getElem? (i := 920) (by decide +kernel), by decide +kernel⟩
theorem tw_29 : Cond.selects RX10 yX10_canShow yX10_canShow ∈ am_tb := List.mem_filter.mpr ⟨List.mem_of_getElem? (i := 29) (by decide +kernel), by decide +kernel⟩
theorem tw_918 : Cond.methodLink RX10 186 yX10_canShow ∈ am_tb := List.mem_filter.mpr ⟨List.mem_of_getElem? (i := 918) (by decide +kernel), by decide +kernel⟩
theorem tw_925 : Cond.code yX10_isSiftedFrom cX10_isSiftedFrom 4 (some .boolean) ∈ am_tb := List.mem_filter.mpr ⟨List.mem_of_getElem? (i := 925) (by decide +kernel), by decide +kernel⟩
theorem tw_924 : Cond.instanceMethod yX10_isSiftedFrom ∈ am_tb := List.mem_filter.mpr ⟨List.mem_of_getElem? (i := 924) (by decide +kernel), by decide +kernel⟩
theorem tw_30 : Cond.selects RX10 yX10_isSiftedFrom yX10_isSiftedFrom ∈ am_tb := List.mem_filter.mpr ⟨List.mem_of_getElem? (i := 30) (by decide +kernel), by decide +kernel⟩
theorem tw_922 : Cond.methodLink RX10 189 yX10_isSiftedFrom ∈ am_tb := List.mem_filter.mpr ⟨List.mem_of_getElem? (i := 922) (by decide +kernel), by decide +kernel⟩
theorem tw_929 : Cond.code yX10_isSifted cX10_isSifted 2 (some .boolean) ∈ am_tb := List.mem_filter.mpr ⟨List.mem_of_getElem? (i := 929) (by decide +kernel), by decide +kernel⟩
theorem tw_100 : Cond.methodLink RX11 1 Lib.objectInit ∈ am_tb := List.mem_filter.mpr ⟨List.mem_of_getElem? (i := 100) (by decide +kernel), by decide +kernel⟩
theorem tw_103 : Cond.classLink RX11 7 RX9 ∈ am_tb := List.mem_filter.mpr ⟨List.mem_of_getElem? (i := 103) (by decide +kernel), by decide +kernel⟩
theorem tw_104 : Cond.instantiable RX9 6 ∈ am_tb := List.mem_filter.mpr ⟨List.mem_of_getElem? (i := 104) (by decide +kernel), by decide +kernel⟩
theorem tw_105 : Cond.methodLinkNest RX11 9 yX9_init "RodBeads" ∈ am_xw := List.mem_filter.mpr ⟨List.mem_of_getElem? (i := 105) (by decide +kernel), by decide +kernel⟩
theorem tw_106 : Cond.instanceMethod yX9_init ∈ am_tb := List.mem_filter.mpr ⟨List.mem_of_getElem? (i := 106) (by decide +kernel), by decide +kernel⟩
theorem tw_252 : Cond.fieldLink RX11 10 "RodBeads" "text" "LRodBeads$Text;" ∈ am_tb := List.mem_filter.mpr ⟨List.mem_of_getElem? (i := 252) (by decide +kernel), by decide +kernel⟩
theorem tw_132 : Cond.classLink RX11 16 RX8 ∈ am_tb := List.mem_filter.mpr ⟨List.mem_of_getElem? (i := 132) (by decide +kernel), by decide +kernel⟩
theorem tw_133 : Cond.instantiable RX8 4 ∈ am_tb := List.mem_filter.mpr ⟨List.mem_of_getElem? (i := 133) (by decide +kernel), by decide +kernel⟩
theorem tw_134 : Cond.methodLinkNest RX11 18 yX8_init "RodBeads" ∈ am_xw := List.mem_filter.mpr ⟨List.mem_of_getElem? (i := 134) (by decide +kernel), by decide +kernel⟩
theorem tw_135 : Cond.instanceMethod yX8_init ∈ am_tb := List.mem_filter.mpr ⟨List.mem_of_getElem? (i := 135) (by decide +kernel), by decide +kernel⟩
theorem tw_253 : Cond.fieldLink RX11 19 "RodBeads" "sums" "LRodBeads$Sums;" ∈ am_tb := List.mem_filter.mpr ⟨List.mem_of_getElem? (i := 253) (by decide +kernel), by decide +kernel⟩
theorem tw_154 : Cond.classLink RX11 23 RX10 ∈ am_tb := List.mem_filter.mpr ⟨List.mem_of_getElem? (i := 154) (by decide +kernel), by decide +kernel⟩
theorem tw_155 : Cond.instantiable RX10 14 ∈ am_tb := List.mem_filter.mpr ⟨List.mem_of_getElem? (i := 155) (by decide +kernel), by decide +kernel⟩
theorem tw_156 : Cond.methodLinkNest RX11 25 yX10_init "RodBeads" ∈ am_xw := List.mem_filter.mpr ⟨List.mem_of_getElem? (i := 156) (by decide +kernel), by decide +kernel⟩
theorem tw_157 : Cond.instanceMethod yX10_init ∈ am_tb := List.mem_filter.mpr ⟨List.mem_of_getElem? (i := 157) (by decide +kernel), by decide +kernel⟩
theorem tw_254 : Cond.fieldLink RX11 26 "RodBeads" "ways" "LRodBeads$Ways;" ∈ am_tb := List.mem_filter.mpr ⟨List.mem_of_getElem? (i := 254) (by decide +kernel), by decide +kernel⟩
theorem tw_203 : Cond.classLink RX11 30 RX1 ∈ am_tb := List.mem_filter.mpr ⟨List.mem_of_getElem? (i := 203) (by decide +kernel), by decide +kernel⟩
theorem tw_204 : Cond.instantiable RX1 3 ∈ am_tb := List.mem_filter.mpr ⟨List.mem_of_getElem? (i := 204) (by decide +kernel), by decide +kernel⟩
theorem tw_205 : Cond.methodLinkNest RX11 32 yX1_init "RodBeads" ∈ am_xw := List.mem_filter.mpr ⟨List.mem_of_getElem? (i := 205) (by decide +kernel), by decide +kernel⟩
theorem tw_206 : Cond.instanceMethod yX1_init ∈ am_tb := List.mem_filter.mpr ⟨List.mem_of_getElem? (i := 206) (by decide +kernel), by decide +kernel⟩
theorem tw_255 : Cond.fieldLink RX11 33 "RodBeads" "frame" "LRodBeads$Frame;" ∈ am_tb := List.mem_filter.mpr ⟨List.mem_of_getElem? (i := 255) (by decide +kernel), by decide +kernel⟩
theorem tw_256 : Cond.fieldLink RX11 37 "RodBeads" "draft" "LRodBeads$Frame;" ∈ am_tb := List.mem_filter.mpr ⟨List.mem_of_getElem? (i := 256) (by decide +kernel), by decide +kernel⟩
theorem tw_224 : Cond.classLink RX11 40 RX7 ∈ am_tb := List.mem_filter.mpr ⟨List.mem_of_getElem? (i := 224) (by decide +kernel), by decide +kernel⟩
theorem tw_225 : Cond.instantiable RX7 4 ∈ am_tb := List.mem_filter.mpr ⟨List.mem_of_getElem? (i := 225) (by decide +kernel), by decide +kernel⟩
theorem tw_226 : Cond.methodLinkNest RX11 42 yX7_init "RodBeads" ∈ am_xw := List.mem_filter.mpr ⟨List.mem_of_getElem? (i := 226) (by decide +kernel), by decide +kernel⟩
theorem tw_227 : Cond.instanceMethod yX7_init ∈ am_tb := List.mem_filter.mpr ⟨List.mem_of_getElem? (i := 227) (by decide +kernel), by decide +kernel⟩
theorem tw_257 : Cond.fieldLink RX11 43 "RodBeads" "now" "LRodBeads$Standing;" ∈ am_tb := List.mem_filter.mpr ⟨List.mem_of_getElem? (i := 257) (by decide +kernel), by decide +kernel⟩
theorem tw_258 : Cond.fieldLink RX11 47 "RodBeads" "trial" "LRodBeads$Standing;" ∈ am_tb := List.mem_filter.mpr ⟨List.mem_of_getElem? (i := 258) (by decide +kernel), by decide +kernel⟩
theorem tw_247 : Cond.code yX11_newStandings cX11_newStandings 3 (some (.array (.object "RodBeads$Standing"))) ∈ am_tb := List.mem_filter.mpr ⟨List.mem_of_getElem? (i := 247) (by decide +kernel), by decide +kernel⟩
theorem tw_76 : Cond.initialized RX11 ∈ am_tb := List.mem_filter.mpr ⟨List.mem_of_getElem? (i := 76) (by decide +kernel), by decide +kernel⟩
theorem tw_245 : Cond.methodLink RX11 50 yX11_newStandings ∈ am_tb := List.mem_filter.mpr ⟨List.mem_of_getElem? (i := 245) (by decide +kernel), by decide +kernel⟩
theorem tw_246 : Cond.static yX11_newStandings ∈ am_tb := List.mem_filter.mpr ⟨List.mem_of_getElem? (i := 246) (by decide +kernel), by decide +kernel⟩
theorem tw_259 : Cond.fieldLink RX11 54 "RodBeads" "path" "[LRodBeads$Standing;" ∈ am_tb := List.mem_filter.mpr ⟨List.mem_of_getElem? (i := 259) (by decide +kernel), by decide +kernel⟩
theorem tw_260 : Cond.fieldLink RX11 58 "RodBeads" "past" "[LRodBeads$Standing;" ∈ am_tb := List.mem_filter.mpr ⟨List.mem_of_getElem? (i := 260) (by decide +kernel), by decide +kernel⟩
theorem tw_261 : Cond.fieldLink RX11 61 "RodBeads" "pastSize" "I" ∈ am_tb := List.mem_filter.mpr ⟨List.mem_of_getElem? (i := 261) (by decide +kernel), by decide +kernel⟩
theorem tw_262 : Cond.fieldLink RX11 65 "RodBeads" "kept" "[LRodBeads$Standing;" ∈ am_tb := List.mem_filter.mpr ⟨List.mem_of_getElem? (i := 262) (by decide +kernel), by decide +kernel⟩
theorem tw_263 : Cond.fieldLink RX11 68 "RodBeads" "keptBits" "I" ∈ am_tb := List.mem_filter.mpr ⟨List.mem_of_getElem? (i := 263) (by decide +kernel), by decide +kernel⟩
theorem tw_264 : Cond.fieldLink RX11 71 "RodBeads" "seenRod" "[I" ∈ am_tb := List.mem_filter.mpr ⟨List.mem_of_getElem? (i := 264) (by decide +kernel), by decide +kernel⟩
theorem tw_265 : Cond.fieldLink RX11 75 "RodBeads" "seenShown" "[I" ∈ am_tb := List.mem_filter.mpr ⟨List.mem_of_getElem? (i := 265) (by decide +kernel), by decide +kernel⟩
theorem tw_266 : Cond.fieldLink RX11 78 "RodBeads" "seenTime" "[I" ∈ am_tb := List.mem_filter.mpr ⟨List.mem_of_getElem? (i := 266) (by decide +kernel), by decide +kernel⟩
theorem tw_267 : Cond.fieldLink RX11 81 "RodBeads" "seenSize" "I" ∈ am_tb := List.mem_filter.mpr ⟨List.mem_of_getElem? (i := 267) (by decide +kernel), by decide +kernel⟩
theorem tw_99 : Cond.code yX11_init cX11_init 1 none ∈ am_tb := List.mem_filter.mpr ⟨List.mem_of_getElem? (i := 99) (by decide +kernel), by decide +kernel⟩
theorem tw_306 : Cond.instanceMethod yX9_add ∈ am_tb := List.mem_filter.mpr ⟨List.mem_of_getElem? (i := 306) (by decide +kernel), by decide +kernel⟩
theorem tw_307 : Cond.selects RX9 yX9_add yX9_add ∈ am_tb := List.mem_filter.mpr ⟨List.mem_of_getElem? (i := 307) (by decide +kernel), by decide +kernel⟩
theorem tw_305 : Cond.methodLink RX11 84 yX9_add ∈ am_tb := List.mem_filter.mpr ⟨List.mem_of_getElem? (i := 305) (by decide +kernel), by decide +kernel⟩
theorem tw_111 : Cond.fieldLink RX11 88 "RodBeads$Text" "size" "I" ∈ am_tb := List.mem_filter.mpr ⟨List.mem_of_getElem? (i := 111) (by decide +kernel), by decide +kernel⟩
theorem tw_304 : Cond.code yX11_write cX11_write 2 (some .int) ∈ am_tb := List.mem_filter.mpr ⟨List.mem_of_getElem? (i := 304) (by decide +kernel), by decide +kernel⟩
theorem tw_315 : Cond.code yX11_erase cX11_erase 2 (some .int) ∈ am_tb := List.mem_filter.mpr ⟨List.mem_of_getElem? (i := 315) (by decide +kernel), by decide +kernel⟩
theorem tw_323 : Cond.code yX11_readDraft cX11_readDraft 1 (some .int) ∈ am_tb := List.mem_filter.mpr ⟨List.mem_of_getElem? (i := 323) (by decide +kernel), by decide +kernel⟩
theorem tw_322 : Cond.instanceMethod yX11_readDraft ∈ am_tb := List.mem_filter.mpr ⟨List.mem_of_getElem? (i := 322) (by decide +kernel), by decide +kernel⟩
theorem tw_0 : Cond.selects RX11 yX11_readDraft yX11_readDraft ∈ am_tb := List.mem_filter.mpr ⟨List.mem_of_getElem? (i := 0) (by decide +kernel), by decide +kernel⟩
theorem tw_320 : Cond.methodLink RX11 91 yX11_readDraft ∈ am_tb := List.mem_filter.mpr ⟨List.mem_of_getElem? (i := 320) (by decide +kernel), by decide +kernel⟩
theorem tw_114 : Cond.fieldLink RX11 95 "RodBeads$Text" "fault" "I" ∈ am_tb := List.mem_filter.mpr ⟨List.mem_of_getElem? (i := 114) (by decide +kernel), by decide +kernel⟩
theorem tw_214 : Cond.fieldLink RX11 98 "RodBeads$Frame" "size" "I" ∈ am_tb := List.mem_filter.mpr ⟨List.mem_of_getElem? (i := 214) (by decide +kernel), by decide +kernel⟩
theorem tw_518 : Cond.instanceMethod yX8_check ∈ am_tb := List.mem_filter.mpr ⟨List.mem_of_getElem? (i := 518) (by decide +kernel), by decide +kernel⟩
theorem tw_519 : Cond.selects RX8 yX8_check yX8_check ∈ am_tb := List.mem_filter.mpr ⟨List.mem_of_getElem? (i := 519) (by decide +kernel), by decide +kernel⟩
theorem tw_517 : Cond.methodLink RX11 99 yX8_check ∈ am_tb := List.mem_filter.mpr ⟨List.mem_of_getElem? (i := 517) (by decide +kernel), by decide +kernel⟩
theorem tw_319 : Cond.code yX11_fault cX11_fault 2 (some .int) ∈ am_tb := List.mem_filter.mpr ⟨List.mem_of_getElem? (i := 319) (by decide +kernel), by decide +kernel⟩
theorem tw_325 : Cond.instanceMethod yX1_copy ∈ am_tb := List.mem_filter.mpr ⟨List.mem_of_getElem? (i := 325) (by decide +kernel), by decide +kernel⟩
theorem tw_326 : Cond.selects RX1 yX1_copy yX1_copy ∈ am_tb := List.mem_filter.mpr ⟨List.mem_of_getElem? (i := 326) (by decide +kernel), by decide +kernel⟩
theorem tw_324 : Cond.methodLink RX11 103 yX1_copy ∈ am_tb := List.mem_filter.mpr ⟨List.mem_of_getElem? (i := 324) (by decide +kernel), by decide +kernel⟩
theorem tw_216 : Cond.fieldLink RX11 107 "RodBeads$Frame" "told" "I" ∈ am_tb := List.mem_filter.mpr ⟨List.mem_of_getElem? (i := 216) (by decide +kernel), by decide +kernel⟩
theorem tw_572 : Cond.instanceMethod yX7_begin ∈ am_tb := List.mem_filter.mpr ⟨List.mem_of_getElem? (i := 572) (by decide +kernel), by decide +kernel⟩
theorem tw_573 : Cond.selects RX7 yX7_begin yX7_begin ∈ am_tb := List.mem_filter.mpr ⟨List.mem_of_getElem? (i := 573) (by decide +kernel), by decide +kernel⟩
theorem tw_571 : Cond.methodLink RX11 110 yX7_begin ∈ am_tb := List.mem_filter.mpr ⟨List.mem_of_getElem? (i := 571) (by decide +kernel), by decide +kernel⟩
theorem tw_570 : Cond.code yX11_frame cX11_frame 2 (some .int) ∈ am_tb := List.mem_filter.mpr ⟨List.mem_of_getElem? (i := 570) (by decide +kernel), by decide +kernel⟩
theorem tw_585 : Cond.code yX11_remember cX11_remember 3 none ∈ am_tb := List.mem_filter.mpr ⟨List.mem_of_getElem? (i := 585) (by decide +kernel), by decide +kernel⟩
theorem tw_584 : Cond.instanceMethod yX11_remember ∈ am_tb := List.mem_filter.mpr ⟨List.mem_of_getElem? (i := 584) (by decide +kernel), by decide +kernel⟩
theorem tw_9 : Cond.selects RX11 yX11_remember yX11_remember ∈ am_tb := List.mem_filter.mpr ⟨List.mem_of_getElem? (i := 9) (by decide +kernel), by decide +kernel⟩
theorem tw_582 : Cond.methodLink RX11 114 yX11_remember ∈ am_tb := List.mem_filter.mpr ⟨List.mem_of_getElem? (i := 582) (by decide +kernel), by decide +kernel⟩
theorem tw_597 : Cond.methodLink RX11 117 yX9_begin ∈ am_tb := List.mem_filter.mpr ⟨List.mem_of_getElem? (i := 597) (by decide +kernel), by decide +kernel⟩
theorem tw_601 : Cond.code yX11_theNumber cX11_theNumber 7 (some .long) ∈ am_tb := List.mem_filter.mpr ⟨List.mem_of_getElem? (i := 601) (by decide +kernel), by decide +kernel⟩
theorem tw_600 : Cond.instanceMethod yX11_theNumber ∈ am_tb := List.mem_filter.mpr ⟨List.mem_of_getElem? (i := 600) (by decide +kernel), by decide +kernel⟩
theorem tw_10 : Cond.selects RX11 yX11_theNumber yX11_theNumber ∈ am_tb := List.mem_filter.mpr ⟨List.mem_of_getElem? (i := 10) (by decide +kernel), by decide +kernel⟩
theorem tw_598 : Cond.methodLink RX11 119 yX11_theNumber ∈ am_tb := List.mem_filter.mpr ⟨List.mem_of_getElem? (i := 598) (by decide +kernel), by decide +kernel⟩
theorem tw_632 : Cond.methodLink RX11 123 yX8_readStatement ∈ am_tb := List.mem_filter.mpr ⟨List.mem_of_getElem? (i := 632) (by decide +kernel), by decide +kernel⟩
theorem tw_636 : Cond.code yX11_doStatement cX11_doStatement 1 (some .boolean) ∈ am_tb := List.mem_filter.mpr ⟨List.mem_of_getElem? (i := 636) (by decide +kernel), by decide +kernel⟩
theorem tw_635 : Cond.instanceMethod yX11_doStatement ∈ am_tb := List.mem_filter.mpr ⟨List.mem_of_getElem? (i := 635) (by decide +kernel), by decide +kernel⟩
theorem tw_11 : Cond.selects RX11 yX11_doStatement yX11_doStatement ∈ am_tb := List.mem_filter.mpr ⟨List.mem_of_getElem? (i := 11) (by decide +kernel), by decide +kernel⟩
theorem tw_633 : Cond.methodLink RX11 127 yX11_doStatement ∈ am_tb := List.mem_filter.mpr ⟨List.mem_of_getElem? (i := 633) (by decide +kernel), by decide +kernel⟩
theorem tw_781 : Cond.methodLink RX11 131 yX9_another ∈ am_tb := List.mem_filter.mpr ⟨List.mem_of_getElem? (i := 781) (by decide +kernel), by decide +kernel⟩
theorem tw_581 : Cond.code yX11_run cX11_run 3 (some .int) ∈ am_tb := List.mem_filter.mpr ⟨List.mem_of_getElem? (i := 581) (by decide +kernel), by decide +kernel⟩
theorem tw_602 : Cond.methodLink RX11 134 yX1_rodAt ∈ am_tb := List.mem_filter.mpr ⟨List.mem_of_getElem? (i := 602) (by decide +kernel), by decide +kernel⟩
theorem tw_790 : Cond.instanceMethod yX0_kindNumber ∈ am_tb := List.mem_filter.mpr ⟨List.mem_of_getElem? (i := 790) (by decide +kernel), by decide +kernel⟩
theorem tw_789 : Cond.selects RX0 ⟨"RodBeads$Rod", "kindNumber", "()I"⟩ yX0_kindNumber ∈ am_tb := List.mem_filter.mpr ⟨List.mem_of_getElem? (i := 789) (by decide +kernel), by decide +kernel⟩
theorem tw_786 : Cond.methodLink RX11 138 ⟨"RodBeads$Rod", "kindNumber", "()I"⟩ ∈ am_tb := List.mem_filter.mpr ⟨List.mem_of_getElem? (i := 786) (by decide +kernel), by decide +kernel⟩
theorem tw_788 : Cond.sameMethod "RodBeads$Rod" "RodBeads$Rod" "kindNumber" "()I" ∈ am_tb := List.mem_filter.mpr ⟨List.mem_of_getElem? (i := 788) (by decide +kernel), by decide +kernel⟩
theorem tw_787 : Cond.declares ⟨"RodBeads$Rod", "kindNumber", "()I"⟩ ∈ am_xw := List.mem_filter.mpr ⟨List.mem_of_getElem? (i := 787) (by decide +kernel), by decide +kernel⟩
theorem tw_793 : Cond.instanceMethod yX2_kindNumber ∈ am_tb := List.mem_filter.mpr ⟨List.mem_of_getElem? (i := 793) (by decide +kernel), by decide +kernel⟩
theorem tw_792 : Cond.selects RX2 ⟨"RodBeads$Rod", "kindNumber", "()I"⟩ yX2_kindNumber ∈ am_tb := List.mem_filter.mpr ⟨List.mem_of_getElem? (i := 792) (by decide +kernel), by decide +kernel⟩
theorem tw_796 : Cond.instanceMethod yX3_kindNumber ∈ am_tb := List.mem_filter.mpr ⟨List.mem_of_getElem? (i := 796) (by decide +kernel), by decide +kernel⟩
theorem tw_795 : Cond.selects RX3 ⟨"RodBeads$Rod", "kindNumber", "()I"⟩ yX3_kindNumber ∈ am_tb := List.mem_filter.mpr ⟨List.mem_of_getElem? (i := 795) (by decide +kernel), by decide +kernel⟩
theorem tw_799 : Cond.instanceMethod yX6_kindNumber ∈ am_tb := List.mem_filter.mpr ⟨List.mem_of_getElem? (i := 799) (by decide +kernel), by decide +kernel⟩
theorem tw_798 : Cond.selects RX6 ⟨"RodBeads$Rod", "kindNumber", "()I"⟩ yX6_kindNumber ∈ am_tb := List.mem_filter.mpr ⟨List.mem_of_getElem? (i := 798) (by decide +kernel), by decide +kernel⟩
theorem tw_458 : Cond.fieldLink RX11 143 "RodBeads$Rod" "base" "I" ∈ am_tb := List.mem_filter.mpr ⟨List.mem_of_getElem? (i := 458) (by decide +kernel), by decide +kernel⟩
theorem tw_463 : Cond.fieldLink RX11 146 "RodBeads$Rod" "lowBeads" "I" ∈ am_tb := List.mem_filter.mpr ⟨List.mem_of_getElem? (i := 463) (by decide +kernel), by decide +kernel⟩
theorem tw_466 : Cond.fieldLink RX11 149 "RodBeads$Rod" "highBeads" "I" ∈ am_tb := List.mem_filter.mpr ⟨List.mem_of_getElem? (i := 466) (by decide +kernel), by decide +kernel⟩
theorem tw_778 : Cond.methodLink RX11 152 yX7_beads ∈ am_tb := List.mem_filter.mpr ⟨List.mem_of_getElem? (i := 778) (by decide +kernel), by decide +kernel⟩
theorem tw_777 : Cond.methodLink RX11 156 yX7_isStuck ∈ am_tb := List.mem_filter.mpr ⟨List.mem_of_getElem? (i := 777) (by decide +kernel), by decide +kernel⟩
theorem tw_604 : Cond.instanceMethod yX7_shows ∈ am_tb := List.mem_filter.mpr ⟨List.mem_of_getElem? (i := 604) (by decide +kernel), by decide +kernel⟩
theorem tw_605 : Cond.selects RX7 yX7_shows yX7_shows ∈ am_tb := List.mem_filter.mpr ⟨List.mem_of_getElem? (i := 605) (by decide +kernel), by decide +kernel⟩
theorem tw_603 : Cond.methodLink RX11 160 yX7_shows ∈ am_tb := List.mem_filter.mpr ⟨List.mem_of_getElem? (i := 603) (by decide +kernel), by decide +kernel⟩
theorem tw_801 : Cond.methodLink RX11 164 yX4_worthOf ∈ am_tb := List.mem_filter.mpr ⟨List.mem_of_getElem? (i := 801) (by decide +kernel), by decide +kernel⟩
theorem tw_785 : Cond.code yX11_rod cX11_rod 4 (some .int) ∈ am_tb := List.mem_filter.mpr ⟨List.mem_of_getElem? (i := 785) (by decide +kernel), by decide +kernel⟩
theorem tw_805 : Cond.code yX11_number cX11_number 1 (some .long) ∈ am_tb := List.mem_filter.mpr ⟨List.mem_of_getElem? (i := 805) (by decide +kernel), by decide +kernel⟩
theorem tw_812 : Cond.code yX11_isUnder cX11_isUnder 2 (some .boolean) ∈ am_tb := List.mem_filter.mpr ⟨List.mem_of_getElem? (i := 812) (by decide +kernel), by decide +kernel⟩
theorem tw_810 : Cond.methodLink RX11 167 yX11_isUnder ∈ am_tb := List.mem_filter.mpr ⟨List.mem_of_getElem? (i := 810) (by decide +kernel), by decide +kernel⟩
theorem tw_811 : Cond.static yX11_isUnder ∈ am_tb := List.mem_filter.mpr ⟨List.mem_of_getElem? (i := 811) (by decide +kernel), by decide +kernel⟩
theorem tw_817 : Cond.methodLink RX11 171 ⟨"RodBeads$Rod", "highWorth", "()I"⟩ ∈ am_tb := List.mem_filter.mpr ⟨List.mem_of_getElem? (i := 817) (by decide +kernel), by decide +kernel⟩
theorem tw_809 : Cond.code yX11_as cX11_as 4 (some .int) ∈ am_tb := List.mem_filter.mpr ⟨List.mem_of_getElem? (i := 809) (by decide +kernel), by decide +kernel⟩
theorem tw_824 : Cond.code yX11_isPart cX11_isPart 1 (some .boolean) ∈ am_tb := List.mem_filter.mpr ⟨List.mem_of_getElem? (i := 824) (by decide +kernel), by decide +kernel⟩
theorem tw_822 : Cond.methodLink RX11 174 yX11_isPart ∈ am_tb := List.mem_filter.mpr ⟨List.mem_of_getElem? (i := 822) (by decide +kernel), by decide +kernel⟩
theorem tw_823 : Cond.static yX11_isPart ∈ am_tb := List.mem_filter.mpr ⟨List.mem_of_getElem? (i := 823) (by decide +kernel), by decide +kernel⟩
theorem tw_826 : Cond.instanceMethod yX4_beadsOf ∈ am_tb := List.mem_filter.mpr ⟨List.mem_of_getElem? (i := 826) (by decide +kernel), by decide +kernel⟩
theorem tw_828 : Cond.selects RX0 yX4_beadsOf yX4_beadsOf ∈ am_tb := List.mem_filter.mpr ⟨List.mem_of_getElem? (i := 828) (by decide +kernel), by decide +kernel⟩
theorem tw_825 : Cond.methodLink RX11 177 yX4_beadsOf ∈ am_tb := List.mem_filter.mpr ⟨List.mem_of_getElem? (i := 825) (by decide +kernel), by decide +kernel⟩
theorem tw_829 : Cond.selects RX2 yX4_beadsOf yX4_beadsOf ∈ am_tb := List.mem_filter.mpr ⟨List.mem_of_getElem? (i := 829) (by decide +kernel), by decide +kernel⟩
theorem tw_830 : Cond.selects RX3 yX4_beadsOf yX4_beadsOf ∈ am_tb := List.mem_filter.mpr ⟨List.mem_of_getElem? (i := 830) (by decide +kernel), by decide +kernel⟩
theorem tw_831 : Cond.selects RX6 yX4_beadsOf yX4_beadsOf ∈ am_tb := List.mem_filter.mpr ⟨List.mem_of_getElem? (i := 831) (by decide +kernel), by decide +kernel⟩
theorem tw_833 : Cond.methodLink RX11 181 Lib.Math.abs.name ∈ am_tb := List.mem_filter.mpr ⟨List.mem_of_getElem? (i := 833) (by decide +kernel), by decide +kernel⟩
theorem tw_779 : Cond.methodLink RX11 186 yX4_timeOf ∈ am_tb := List.mem_filter.mpr ⟨List.mem_of_getElem? (i := 779) (by decide +kernel), by decide +kernel⟩
theorem tw_780 : Cond.methodLink RX11 189 yX7_place ∈ am_tb := List.mem_filter.mpr ⟨List.mem_of_getElem? (i := 780) (by decide +kernel), by decide +kernel⟩
theorem tw_762 : Cond.instanceMethod yX7_spend ∈ am_tb := List.mem_filter.mpr ⟨List.mem_of_getElem? (i := 762) (by decide +kernel), by decide +kernel⟩
theorem tw_763 : Cond.selects RX7 yX7_spend yX7_spend ∈ am_tb := List.mem_filter.mpr ⟨List.mem_of_getElem? (i := 763) (by decide +kernel), by decide +kernel⟩
theorem tw_761 : Cond.methodLink RX11 193 yX7_spend ∈ am_tb := List.mem_filter.mpr ⟨List.mem_of_getElem? (i := 761) (by decide +kernel), by decide +kernel⟩
theorem tw_821 : Cond.code yX11_push cX11_push 6 (some .int) ∈ am_tb := List.mem_filter.mpr ⟨List.mem_of_getElem? (i := 821) (by decide +kernel), by decide +kernel⟩
theorem tw_233 : Cond.fieldLink RX11 196 "RodBeads$Standing" "stuck" "I" ∈ am_tb := List.mem_filter.mpr ⟨List.mem_of_getElem? (i := 233) (by decide +kernel), by decide +kernel⟩
theorem tw_838 : Cond.methodLink RX11 199 yX7_partBit ∈ am_tb := List.mem_filter.mpr ⟨List.mem_of_getElem? (i := 838) (by decide +kernel), by decide +kernel⟩
theorem tw_837 : Cond.code yX11_stick cX11_stick 3 (some .int) ∈ am_tb := List.mem_filter.mpr ⟨List.mem_of_getElem? (i := 837) (by decide +kernel), by decide +kernel⟩
theorem tw_845 : Cond.code yX11_isNumber cX11_isNumber 1 (some .boolean) ∈ am_tb := List.mem_filter.mpr ⟨List.mem_of_getElem? (i := 845) (by decide +kernel), by decide +kernel⟩
theorem tw_843 : Cond.methodLink RX11 202 yX11_isNumber ∈ am_tb := List.mem_filter.mpr ⟨List.mem_of_getElem? (i := 843) (by decide +kernel), by decide +kernel⟩
theorem tw_844 : Cond.static yX11_isNumber ∈ am_tb := List.mem_filter.mpr ⟨List.mem_of_getElem? (i := 844) (by decide +kernel), by decide +kernel⟩
theorem tw_590 : Cond.instanceMethod yX7_copy ∈ am_tb := List.mem_filter.mpr ⟨List.mem_of_getElem? (i := 590) (by decide +kernel), by decide +kernel⟩
theorem tw_591 : Cond.selects RX7 yX7_copy yX7_copy ∈ am_tb := List.mem_filter.mpr ⟨List.mem_of_getElem? (i := 591) (by decide +kernel), by decide +kernel⟩
theorem tw_589 : Cond.methodLink RX11 205 yX7_copy ∈ am_tb := List.mem_filter.mpr ⟨List.mem_of_getElem? (i := 589) (by decide +kernel), by decide +kernel⟩
theorem tw_640 : Cond.code yX11_settle cX11_settle 5 (some .int) ∈ am_tb := List.mem_filter.mpr ⟨List.mem_of_getElem? (i := 640) (by decide +kernel), by decide +kernel⟩
theorem tw_639 : Cond.instanceMethod yX11_settle ∈ am_tb := List.mem_filter.mpr ⟨List.mem_of_getElem? (i := 639) (by decide +kernel), by decide +kernel⟩
theorem tw_12 : Cond.selects RX11 yX11_settle yX11_settle ∈ am_tb := List.mem_filter.mpr ⟨List.mem_of_getElem? (i := 12) (by decide +kernel), by decide +kernel⟩
theorem tw_637 : Cond.methodLink RX11 208 yX11_settle ∈ am_tb := List.mem_filter.mpr ⟨List.mem_of_getElem? (i := 637) (by decide +kernel), by decide +kernel⟩
theorem tw_850 : Cond.code yX11_doneByTrial cX11_doneByTrial 2 (some .int) ∈ am_tb := List.mem_filter.mpr ⟨List.mem_of_getElem? (i := 850) (by decide +kernel), by decide +kernel⟩
theorem tw_849 : Cond.instanceMethod yX11_doneByTrial ∈ am_tb := List.mem_filter.mpr ⟨List.mem_of_getElem? (i := 849) (by decide +kernel), by decide +kernel⟩
theorem tw_23 : Cond.selects RX11 yX11_doneByTrial yX11_doneByTrial ∈ am_tb := List.mem_filter.mpr ⟨List.mem_of_getElem? (i := 23) (by decide +kernel), by decide +kernel⟩
theorem tw_847 : Cond.methodLink RX11 212 yX11_doneByTrial ∈ am_tb := List.mem_filter.mpr ⟨List.mem_of_getElem? (i := 847) (by decide +kernel), by decide +kernel⟩
theorem tw_842 : Cond.code yX11_set cX11_set 2 (some .int) ∈ am_tb := List.mem_filter.mpr ⟨List.mem_of_getElem? (i := 842) (by decide +kernel), by decide +kernel⟩
theorem tw_770 : Cond.code yX11_carryOver cX11_carryOver 8 (some .int) ∈ am_tb := List.mem_filter.mpr ⟨List.mem_of_getElem? (i := 770) (by decide +kernel), by decide +kernel⟩
theorem tw_769 : Cond.instanceMethod yX11_carryOver ∈ am_tb := List.mem_filter.mpr ⟨List.mem_of_getElem? (i := 769) (by decide +kernel), by decide +kernel⟩
theorem tw_21 : Cond.selects RX11 yX11_carryOver yX11_carryOver ∈ am_tb := List.mem_filter.mpr ⟨List.mem_of_getElem? (i := 21) (by decide +kernel), by decide +kernel⟩
theorem tw_767 : Cond.methodLink RX11 215 yX11_carryOver ∈ am_tb := List.mem_filter.mpr ⟨List.mem_of_getElem? (i := 767) (by decide +kernel), by decide +kernel⟩
theorem tw_854 : Cond.code yX11_carry cX11_carry 2 (some .int) ∈ am_tb := List.mem_filter.mpr ⟨List.mem_of_getElem? (i := 854) (by decide +kernel), by decide +kernel⟩
theorem tw_588 : Cond.code yX11_standingAt cX11_standingAt 2 (some (.object "RodBeads$Standing")) ∈ am_tb := List.mem_filter.mpr ⟨List.mem_of_getElem? (i := 588) (by decide +kernel), by decide +kernel⟩
theorem tw_586 : Cond.methodLink RX11 219 yX11_standingAt ∈ am_tb := List.mem_filter.mpr ⟨List.mem_of_getElem? (i := 586) (by decide +kernel), by decide +kernel⟩
theorem tw_587 : Cond.static yX11_standingAt ∈ am_tb := List.mem_filter.mpr ⟨List.mem_of_getElem? (i := 587) (by decide +kernel), by decide +kernel⟩
theorem tw_858 : Cond.code yX11_undo cX11_undo 1 (some .int) ∈ am_tb := List.mem_filter.mpr ⟨List.mem_of_getElem? (i := 858) (by decide +kernel), by decide +kernel⟩
theorem tw_864 : Cond.instanceMethod yX7_beadsInAll ∈ am_tb := List.mem_filter.mpr ⟨List.mem_of_getElem? (i := 864) (by decide +kernel), by decide +kernel⟩
theorem tw_865 : Cond.selects RX7 yX7_beadsInAll yX7_beadsInAll ∈ am_tb := List.mem_filter.mpr ⟨List.mem_of_getElem? (i := 865) (by decide +kernel), by decide +kernel⟩
theorem tw_863 : Cond.methodLink RX11 223 yX7_beadsInAll ∈ am_tb := List.mem_filter.mpr ⟨List.mem_of_getElem? (i := 863) (by decide +kernel), by decide +kernel⟩
theorem tw_862 : Cond.code yX11_keep cX11_keep 3 (some .int) ∈ am_tb := List.mem_filter.mpr ⟨List.mem_of_getElem? (i := 862) (by decide +kernel), by decide +kernel⟩
theorem tw_870 : Cond.code yX11_back cX11_back 3 (some .int) ∈ am_tb := List.mem_filter.mpr ⟨List.mem_of_getElem? (i := 870) (by decide +kernel), by decide +kernel⟩
theorem tw_642 : Cond.instanceMethod yX10_load ∈ am_tb := List.mem_filter.mpr ⟨List.mem_of_getElem? (i := 642) (by decide +kernel), by decide +kernel⟩
theorem tw_643 : Cond.selects RX10 yX10_load yX10_load ∈ am_tb := List.mem_filter.mpr ⟨List.mem_of_getElem? (i := 643) (by decide +kernel), by decide +kernel⟩
theorem tw_641 : Cond.methodLink RX11 226 yX10_load ∈ am_tb := List.mem_filter.mpr ⟨List.mem_of_getElem? (i := 641) (by decide +kernel), by decide +kernel⟩
theorem tw_876 : Cond.instanceMethod yX10_howMany ∈ am_tb := List.mem_filter.mpr ⟨List.mem_of_getElem? (i := 876) (by decide +kernel), by decide +kernel⟩
theorem tw_877 : Cond.selects RX10 yX10_howMany yX10_howMany ∈ am_tb := List.mem_filter.mpr ⟨List.mem_of_getElem? (i := 877) (by decide +kernel), by decide +kernel⟩
theorem tw_875 : Cond.methodLink RX11 230 yX10_howMany ∈ am_tb := List.mem_filter.mpr ⟨List.mem_of_getElem? (i := 875) (by decide +kernel), by decide +kernel⟩
theorem tw_874 : Cond.code yX11_ways cX11_ways 2 (some .int) ∈ am_tb := List.mem_filter.mpr ⟨List.mem_of_getElem? (i := 874) (by decide +kernel), by decide +kernel⟩
theorem tw_890 : Cond.code yX11_leastCost cX11_leastCost 4 (some .int) ∈ am_tb := List.mem_filter.mpr ⟨List.mem_of_getElem? (i := 890) (by decide +kernel), by decide +kernel⟩
theorem tw_889 : Cond.instanceMethod yX11_leastCost ∈ am_tb := List.mem_filter.mpr ⟨List.mem_of_getElem? (i := 889) (by decide +kernel), by decide +kernel⟩
theorem tw_25 : Cond.selects RX11 yX11_leastCost yX11_leastCost ∈ am_tb := List.mem_filter.mpr ⟨List.mem_of_getElem? (i := 25) (by decide +kernel), by decide +kernel⟩
theorem tw_887 : Cond.methodLink RX11 234 yX11_leastCost ∈ am_tb := List.mem_filter.mpr ⟨List.mem_of_getElem? (i := 887) (by decide +kernel), by decide +kernel⟩
theorem tw_886 : Cond.code yX11_time cX11_time 2 (some .int) ∈ am_tb := List.mem_filter.mpr ⟨List.mem_of_getElem? (i := 886) (by decide +kernel), by decide +kernel⟩
theorem tw_894 : Cond.code yX11_pushed cX11_pushed 4 (some .int) ∈ am_tb := List.mem_filter.mpr ⟨List.mem_of_getElem? (i := 894) (by decide +kernel), by decide +kernel⟩
theorem tw_899 : Cond.constantLong RX11 238 (-3) ∈ am_tb := List.mem_filter.mpr ⟨List.mem_of_getElem? (i := 899) (by decide +kernel), by decide +kernel⟩
theorem tw_900 : Cond.methodLink RX11 240 yX10_mostFrom ∈ am_tb := List.mem_filter.mpr ⟨List.mem_of_getElem? (i := 900) (by decide +kernel), by decide +kernel⟩
theorem tw_901 : Cond.methodLink RX11 243 yX10_fewestFrom ∈ am_tb := List.mem_filter.mpr ⟨List.mem_of_getElem? (i := 901) (by decide +kernel), by decide +kernel⟩
theorem tw_905 : Cond.code yX11_gap cX11_gap 3 (some .int) ∈ am_tb := List.mem_filter.mpr ⟨List.mem_of_getElem? (i := 905) (by decide +kernel), by decide +kernel⟩
theorem tw_904 : Cond.instanceMethod yX11_gap ∈ am_tb := List.mem_filter.mpr ⟨List.mem_of_getElem? (i := 904) (by decide +kernel), by decide +kernel⟩
theorem tw_26 : Cond.selects RX11 yX11_gap yX11_gap ∈ am_tb := List.mem_filter.mpr ⟨List.mem_of_getElem? (i := 26) (by decide +kernel), by decide +kernel⟩
theorem tw_902 : Cond.methodLink RX11 246 yX11_gap ∈ am_tb := List.mem_filter.mpr ⟨List.mem_of_getElem? (i := 902) (by decide +kernel), by decide +kernel⟩
theorem tw_898 : Cond.code yX11_span cX11_span 2 (some .long) ∈ am_tb := List.mem_filter.mpr ⟨List.mem_of_getElem? (i := 898) (by decide +kernel), by decide +kernel⟩
theorem tw_937 : Cond.code yX11_nearestShown cX11_nearestShown 5 (some .int) ∈ am_tb := List.mem_filter.mpr ⟨List.mem_of_getElem? (i := 937) (by decide +kernel), by decide +kernel⟩
theorem tw_936 : Cond.instanceMethod yX11_nearestShown ∈ am_tb := List.mem_filter.mpr ⟨List.mem_of_getElem? (i := 936) (by decide +kernel), by decide +kernel⟩
theorem tw_31 : Cond.selects RX11 yX11_nearestShown yX11_nearestShown ∈ am_tb := List.mem_filter.mpr ⟨List.mem_of_getElem? (i := 31) (by decide +kernel), by decide +kernel⟩
theorem tw_934 : Cond.methodLink RX11 249 yX11_nearestShown ∈ am_tb := List.mem_filter.mpr ⟨List.mem_of_getElem? (i := 934) (by decide +kernel), by decide +kernel⟩
theorem tw_933 : Cond.code yX11_nearest cX11_nearest 2 (some .int) ∈ am_tb := List.mem_filter.mpr ⟨List.mem_of_getElem? (i := 933) (by decide +kernel), by decide +kernel⟩
theorem tw_942 : Cond.code yX11_loosen cX11_loosen 3 (some .int) ∈ am_tb := List.mem_filter.mpr ⟨List.mem_of_getElem? (i := 942) (by decide +kernel), by decide +kernel⟩
theorem tw_949 : Cond.code yX11_isOfTour cX11_isOfTour 1 (some .boolean) ∈ am_tb := List.mem_filter.mpr ⟨List.mem_of_getElem? (i := 949) (by decide +kernel), by decide +kernel⟩
theorem tw_947 : Cond.methodLink RX11 252 yX11_isOfTour ∈ am_tb := List.mem_filter.mpr ⟨List.mem_of_getElem? (i := 947) (by decide +kernel), by decide +kernel⟩
theorem tw_948 : Cond.static yX11_isOfTour ∈ am_tb := List.mem_filter.mpr ⟨List.mem_of_getElem? (i := 948) (by decide +kernel), by decide +kernel⟩
theorem tw_744 : Cond.constant RX11 255 (1048576) ∈ am_tb := List.mem_filter.mpr ⟨List.mem_of_getElem? (i := 744) (by decide +kernel), by decide +kernel⟩
theorem tw_953 : Cond.code yX11_secondOf cX11_secondOf 4 (some .int) ∈ am_tb := List.mem_filter.mpr ⟨List.mem_of_getElem? (i := 953) (by decide +kernel), by decide +kernel⟩
theorem tw_951 : Cond.methodLink RX11 256 yX11_secondOf ∈ am_tb := List.mem_filter.mpr ⟨List.mem_of_getElem? (i := 951) (by decide +kernel), by decide +kernel⟩
theorem tw_952 : Cond.static yX11_secondOf ∈ am_tb := List.mem_filter.mpr ⟨List.mem_of_getElem? (i := 952) (by decide +kernel), by decide +kernel⟩
theorem tw_956 : Cond.code yX11_pick cX11_pick 4 (some .int) ∈ am_tb := List.mem_filter.mpr ⟨List.mem_of_getElem? (i := 956) (by decide +kernel), by decide +kernel⟩
theorem tw_954 : Cond.methodLink RX11 259 yX11_pick ∈ am_tb := List.mem_filter.mpr ⟨List.mem_of_getElem? (i := 954) (by decide +kernel), by decide +kernel⟩
theorem tw_955 : Cond.static yX11_pick ∈ am_tb := List.mem_filter.mpr ⟨List.mem_of_getElem? (i := 955) (by decide +kernel), by decide +kernel⟩
theorem tw_960 : Cond.code yX11_goOn cX11_goOn 5 (some .boolean) ∈ am_tb := List.mem_filter.mpr ⟨List.mem_of_getElem? (i := 960) (by decide +kernel), by decide +kernel⟩
theorem tw_959 : Cond.instanceMethod yX11_goOn ∈ am_tb := List.mem_filter.mpr ⟨List.mem_of_getElem? (i := 959) (by decide +kernel), by decide +kernel⟩
theorem tw_32 : Cond.selects RX11 yX11_goOn yX11_goOn ∈ am_tb := List.mem_filter.mpr ⟨List.mem_of_getElem? (i := 32) (by decide +kernel), by decide +kernel⟩
theorem tw_957 : Cond.methodLink RX11 263 yX11_goOn ∈ am_tb := List.mem_filter.mpr ⟨List.mem_of_getElem? (i := 957) (by decide +kernel), by decide +kernel⟩
theorem tw_964 : Cond.code yX11_spentOnPath cX11_spentOnPath 2 (some .int) ∈ am_tb := List.mem_filter.mpr ⟨List.mem_of_getElem? (i := 964) (by decide +kernel), by decide +kernel⟩
theorem tw_963 : Cond.instanceMethod yX11_spentOnPath ∈ am_tb := List.mem_filter.mpr ⟨List.mem_of_getElem? (i := 963) (by decide +kernel), by decide +kernel⟩
theorem tw_33 : Cond.selects RX11 yX11_spentOnPath yX11_spentOnPath ∈ am_tb := List.mem_filter.mpr ⟨List.mem_of_getElem? (i := 33) (by decide +kernel), by decide +kernel⟩
theorem tw_961 : Cond.methodLink RX11 267 yX11_spentOnPath ∈ am_tb := List.mem_filter.mpr ⟨List.mem_of_getElem? (i := 961) (by decide +kernel), by decide +kernel⟩
theorem tw_946 : Cond.code yX11_tour cX11_tour 11 (some .int) ∈ am_tb := List.mem_filter.mpr ⟨List.mem_of_getElem? (i := 946) (by decide +kernel), by decide +kernel⟩
theorem tw_969 : Cond.methodLink RX11 270 yX5_put ∈ am_tb := List.mem_filter.mpr ⟨List.mem_of_getElem? (i := 969) (by decide +kernel), by decide +kernel⟩
theorem tw_968 : Cond.code yX11_seen cX11_seen 4 (some .int) ∈ am_tb := List.mem_filter.mpr ⟨List.mem_of_getElem? (i := 968) (by decide +kernel), by decide +kernel⟩
theorem tw_973 : Cond.code yX11_forget cX11_forget 2 (some .int) ∈ am_tb := List.mem_filter.mpr ⟨List.mem_of_getElem? (i := 973) (by decide +kernel), by decide +kernel⟩
theorem tw_978 : Cond.methodLink RX11 276 yX1_makeRod ∈ am_tb := List.mem_filter.mpr ⟨List.mem_of_getElem? (i := 978) (by decide +kernel), by decide +kernel⟩
theorem tw_982 : Cond.code yX11_fitsSeen cX11_fitsSeen 4 (some .boolean) ∈ am_tb := List.mem_filter.mpr ⟨List.mem_of_getElem? (i := 982) (by decide +kernel), by decide +kernel⟩
theorem tw_981 : Cond.instanceMethod yX11_fitsSeen ∈ am_tb := List.mem_filter.mpr ⟨List.mem_of_getElem? (i := 981) (by decide +kernel), by decide +kernel⟩
theorem tw_34 : Cond.selects RX11 yX11_fitsSeen yX11_fitsSeen ∈ am_tb := List.mem_filter.mpr ⟨List.mem_of_getElem? (i := 34) (by decide +kernel), by decide +kernel⟩
theorem tw_979 : Cond.methodLink RX11 280 yX11_fitsSeen ∈ am_tb := List.mem_filter.mpr ⟨List.mem_of_getElem? (i := 979) (by decide +kernel), by decide +kernel⟩
theorem tw_977 : Cond.code yX11_kinds cX11_kinds 5 (some .int) ∈ am_tb := List.mem_filter.mpr ⟨List.mem_of_getElem? (i := 977) (by decide +kernel), by decide +kernel⟩
theorem tw_996 : Cond.constantLong RX11 284 (-2) ∈ am_tb := List.mem_filter.mpr ⟨List.mem_of_getElem? (i := 996) (by decide +kernel), by decide +kernel⟩
theorem tw_999 : Cond.code yX11_chancesToStay cX11_chancesToStay 6 (some .long) ∈ am_tb := List.mem_filter.mpr ⟨List.mem_of_getElem? (i := 999) (by decide +kernel), by decide +kernel⟩
theorem tw_997 : Cond.methodLink RX11 286 yX11_chancesToStay ∈ am_tb := List.mem_filter.mpr ⟨List.mem_of_getElem? (i := 997) (by decide +kernel), by decide +kernel⟩
theorem tw_998 : Cond.static yX11_chancesToStay ∈ am_tb := List.mem_filter.mpr ⟨List.mem_of_getElem? (i := 998) (by decide +kernel), by decide +kernel⟩
theorem tw_1003 : Cond.constantLong RX11 290 (10) ∈ am_tb := List.mem_filter.mpr ⟨List.mem_of_getElem? (i := 1003) (by decide +kernel), by decide +kernel⟩
theorem tw_1002 : Cond.code yX11_power cX11_power 6 (some .long) ∈ am_tb := List.mem_filter.mpr ⟨List.mem_of_getElem? (i := 1002) (by decide +kernel), by decide +kernel⟩
theorem tw_1000 : Cond.methodLink RX11 292 yX11_power ∈ am_tb := List.mem_filter.mpr ⟨List.mem_of_getElem? (i := 1000) (by decide +kernel), by decide +kernel⟩
theorem tw_1001 : Cond.static yX11_power ∈ am_tb := List.mem_filter.mpr ⟨List.mem_of_getElem? (i := 1001) (by decide +kernel), by decide +kernel⟩
theorem tw_1006 : Cond.code yX11_commonDivisor cX11_commonDivisor 11 (some .long) ∈ am_tb := List.mem_filter.mpr ⟨List.mem_of_getElem? (i := 1006) (by decide +kernel), by decide +kernel⟩
theorem tw_1004 : Cond.methodLink RX11 296 yX11_commonDivisor ∈ am_tb := List.mem_filter.mpr ⟨List.mem_of_getElem? (i := 1004) (by decide +kernel), by decide +kernel⟩
theorem tw_1005 : Cond.static yX11_commonDivisor ∈ am_tb := List.mem_filter.mpr ⟨List.mem_of_getElem? (i := 1005) (by decide +kernel), by decide +kernel⟩
theorem tw_995 : Cond.code yX11_slips cX11_slips 14 (some .long) ∈ am_tb := List.mem_filter.mpr ⟨List.mem_of_getElem? (i := 995) (by decide +kernel), by decide +kernel⟩
theorem tw_235 : Cond.fieldLink RX11 300 "RodBeads$Standing" "spent" "I" ∈ am_tb := List.mem_filter.mpr ⟨List.mem_of_getElem? (i := 235) (by decide +kernel), by decide +kernel⟩
theorem tw_1014 : Cond.code yX11_fullRods cX11_fullRods 4 (some .int) ∈ am_tb := List.mem_filter.mpr ⟨List.mem_of_getElem? (i := 1014) (by decide +kernel), by decide +kernel⟩
theorem tw_1013 : Cond.instanceMethod yX11_fullRods ∈ am_tb := List.mem_filter.mpr ⟨List.mem_of_getElem? (i := 1013) (by decide +kernel), by decide +kernel⟩
theorem tw_35 : Cond.selects RX11 yX11_fullRods yX11_fullRods ∈ am_tb := List.mem_filter.mpr ⟨List.mem_of_getElem? (i := 35) (by decide +kernel), by decide +kernel⟩
theorem tw_1011 : Cond.methodLink RX11 303 yX11_fullRods ∈ am_tb := List.mem_filter.mpr ⟨List.mem_of_getElem? (i := 1011) (by decide +kernel), by decide +kernel⟩
theorem tw_1010 : Cond.code yX11_count cX11_count 2 (some .int) ∈ am_tb := List.mem_filter.mpr ⟨List.mem_of_getElem? (i := 1010) (by decide +kernel), by decide +kernel⟩
theorem tw_846 : Cond.constant RX11 306 (1000000000) ∈ am_tb := List.mem_filter.mpr ⟨List.mem_of_getElem? (i := 846) (by decide +kernel), by decide +kernel⟩
theorem tw_950 : Cond.constant RX11 307 (1000000) ∈ am_tb := List.mem_filter.mpr ⟨List.mem_of_getElem? (i := 950) (by decide +kernel), by decide +kernel⟩
theorem tw_248 : Cond.methodLink RX11 308 Lib.Math.max.name ∈ am_tb := List.mem_filter.mpr ⟨List.mem_of_getElem? (i := 248) (by decide +kernel), by decide +kernel⟩
theorem tw_813 : Cond.classLink RX11 311 "RodBeads$Plain" ∈ am_tb := List.mem_filter.mpr ⟨List.mem_of_getElem? (i := 813) (by decide +kernel), by decide +kernel⟩
theorem tw_814 : Cond.classLink RX11 313 "RodBeads$Five" ∈ am_tb := List.mem_filter.mpr ⟨List.mem_of_getElem? (i := 814) (by decide +kernel), by decide +kernel⟩
theorem tw_1496 : Cond.castable RX2 "RodBeads$Five" ∈ am_xw := List.mem_filter.mpr ⟨List.mem_of_getElem? (i := 1496) (by decide +kernel), by decide +kernel⟩
theorem tw_1497 : Cond.castable RX6 "RodBeads$Five" ∈ am_xw := List.mem_filter.mpr ⟨List.mem_of_getElem? (i := 1497) (by decide +kernel), by decide +kernel⟩
theorem tw_815 : Cond.classLink RX11 315 "RodBeads$Slow" ∈ am_tb := List.mem_filter.mpr ⟨List.mem_of_getElem? (i := 815) (by decide +kernel), by decide +kernel⟩
theorem tw_816 : Cond.classLink RX11 317 "RodBeads$Heir" ∈ am_tb := List.mem_filter.mpr ⟨List.mem_of_getElem? (i := 816) (by decide +kernel), by decide +kernel⟩
theorem tw_333 : Cond.instanceMethod yX1_read ∈ am_tb := List.mem_filter.mpr ⟨List.mem_of_getElem? (i := 333) (by decide +kernel), by decide +kernel⟩
theorem tw_334 : Cond.selects RX1 yX1_read yX1_read ∈ am_tb := List.mem_filter.mpr ⟨List.mem_of_getElem? (i := 334) (by decide +kernel), by decide +kernel⟩
theorem tw_332 : Cond.methodLink RX11 319 yX1_read ∈ am_tb := List.mem_filter.mpr ⟨List.mem_of_getElem? (i := 332) (by decide +kernel), by decide +kernel⟩
theorem tw_724 : Cond.instanceMethod yX10_least ∈ am_tb := List.mem_filter.mpr ⟨List.mem_of_getElem? (i := 724) (by decide +kernel), by decide +kernel⟩
theorem tw_725 : Cond.selects RX10 yX10_least yX10_least ∈ am_tb := List.mem_filter.mpr ⟨List.mem_of_getElem? (i := 725) (by decide +kernel), by decide +kernel⟩
theorem tw_723 : Cond.methodLink RX11 323 yX10_least ∈ am_tb := List.mem_filter.mpr ⟨List.mem_of_getElem? (i := 723) (by decide +kernel), by decide +kernel⟩
theorem tw_746 : Cond.instanceMethod yX10_placeAll ∈ am_tb := List.mem_filter.mpr ⟨List.mem_of_getElem? (i := 746) (by decide +kernel), by decide +kernel⟩
theorem tw_747 : Cond.selects RX10 yX10_placeAll yX10_placeAll ∈ am_tb := List.mem_filter.mpr ⟨List.mem_of_getElem? (i := 747) (by decide +kernel), by decide +kernel⟩
theorem tw_745 : Cond.methodLink RX11 326 yX10_placeAll ∈ am_tb := List.mem_filter.mpr ⟨List.mem_of_getElem? (i := 745) (by decide +kernel), by decide +kernel⟩
theorem tw_771 : Cond.methodLink RX11 329 yX10_costOf ∈ am_tb := List.mem_filter.mpr ⟨List.mem_of_getElem? (i := 771) (by decide +kernel), by decide +kernel⟩
theorem tw_772 : Cond.methodLink RX11 332 yX10_placeRod ∈ am_tb := List.mem_filter.mpr ⟨List.mem_of_getElem? (i := 772) (by decide +kernel), by decide +kernel⟩
theorem tw_776 : Cond.code yX11_pushAllBack cX11_pushAllBack 4 none ∈ am_tb := List.mem_filter.mpr ⟨List.mem_of_getElem? (i := 776) (by decide +kernel), by decide +kernel⟩
theorem tw_143 : Cond.fieldLink RX11 336 "RodBeads$Sums" "possible" "Z" ∈ am_tb := List.mem_filter.mpr ⟨List.mem_of_getElem? (i := 143) (by decide +kernel), by decide +kernel⟩
theorem tw_139 : Cond.fieldLink RX11 340 "RodBeads$Sums" "verb" "I" ∈ am_tb := List.mem_filter.mpr ⟨List.mem_of_getElem? (i := 139) (by decide +kernel), by decide +kernel⟩
theorem tw_141 : Cond.fieldLink RX11 343 "RodBeads$Sums" "value" "J" ∈ am_tb := List.mem_filter.mpr ⟨List.mem_of_getElem? (i := 141) (by decide +kernel), by decide +kernel⟩
theorem tw_775 : Cond.instanceMethod yX11_pushAllBack ∈ am_tb := List.mem_filter.mpr ⟨List.mem_of_getElem? (i := 775) (by decide +kernel), by decide +kernel⟩
theorem tw_22 : Cond.selects RX11 yX11_pushAllBack yX11_pushAllBack ∈ am_tb := List.mem_filter.mpr ⟨List.mem_of_getElem? (i := 22) (by decide +kernel), by decide +kernel⟩
theorem tw_773 : Cond.methodLink RX11 347 yX11_pushAllBack ∈ am_tb := List.mem_filter.mpr ⟨List.mem_of_getElem? (i := 773) (by decide +kernel), by decide +kernel⟩
theorem tw_907 : Cond.instanceMethod yX10_sift ∈ am_tb := List.mem_filter.mpr ⟨List.mem_of_getElem? (i := 907) (by decide +kernel), by decide +kernel⟩
theorem tw_908 : Cond.selects RX10 yX10_sift yX10_sift ∈ am_tb := List.mem_filter.mpr ⟨List.mem_of_getElem? (i := 908) (by decide +kernel), by decide +kernel⟩
theorem tw_906 : Cond.methodLink RX11 350 yX10_sift ∈ am_tb := List.mem_filter.mpr ⟨List.mem_of_getElem? (i := 906) (by decide +kernel), by decide +kernel⟩
theorem tw_927 : Cond.instanceMethod yX10_isSifted ∈ am_tb := List.mem_filter.mpr ⟨List.mem_of_getElem? (i := 927) (by decide +kernel), by decide +kernel⟩
theorem tw_928 : Cond.selects RX10 yX10_isSifted yX10_isSifted ∈ am_tb := List.mem_filter.mpr ⟨List.mem_of_getElem? (i := 928) (by decide +kernel), by decide +kernel⟩
theorem tw_926 : Cond.methodLink RX11 354 yX10_isSifted ∈ am_tb := List.mem_filter.mpr ⟨List.mem_of_getElem? (i := 926) (by decide +kernel), by decide +kernel⟩
theorem tw_938 : Cond.methodLink RX11 357 Lib.Math.min.name ∈ am_tb := List.mem_filter.mpr ⟨List.mem_of_getElem? (i := 938) (by decide +kernel), by decide +kernel⟩
theorem tw_983 : Cond.methodLink RX11 360 yX5_at ∈ am_tb := List.mem_filter.mpr ⟨List.mem_of_getElem? (i := 983) (by decide +kernel), by decide +kernel⟩
theorem tw_985 : Cond.instanceMethod yX4_leastTimeFor ∈ am_tb := List.mem_filter.mpr ⟨List.mem_of_getElem? (i := 985) (by decide +kernel), by decide +kernel⟩
theorem tw_987 : Cond.selects RX0 yX4_leastTimeFor yX4_leastTimeFor ∈ am_tb := List.mem_filter.mpr ⟨List.mem_of_getElem? (i := 987) (by decide +kernel), by decide +kernel⟩
theorem tw_984 : Cond.methodLink RX11 364 yX4_leastTimeFor ∈ am_tb := List.mem_filter.mpr ⟨List.mem_of_getElem? (i := 984) (by decide +kernel), by decide +kernel⟩
theorem tw_988 : Cond.selects RX2 yX4_leastTimeFor yX4_leastTimeFor ∈ am_tb := List.mem_filter.mpr ⟨List.mem_of_getElem? (i := 988) (by decide +kernel), by decide +kernel⟩
theorem tw_989 : Cond.selects RX3 yX4_leastTimeFor yX4_leastTimeFor ∈ am_tb := List.mem_filter.mpr ⟨List.mem_of_getElem? (i := 989) (by decide +kernel), by decide +kernel⟩
theorem tw_990 : Cond.selects RX6 yX4_leastTimeFor yX4_leastTimeFor ∈ am_tb := List.mem_filter.mpr ⟨List.mem_of_getElem? (i := 990) (by decide +kernel), by decide +kernel⟩
theorem tw_1020 : Cond.methodLink RX12 1 Lib.objectInit ∈ am_tb := List.mem_filter.mpr ⟨List.mem_of_getElem? (i := 1020) (by decide +kernel), by decide +kernel⟩
theorem tw_1022 : Cond.fieldLink RX12 7 "RodBeadsModel" "kindOf" "[I" ∈ am_tb := List.mem_filter.mpr ⟨List.mem_of_getElem? (i := 1022) (by decide +kernel), by decide +kernel⟩
theorem tw_1023 : Cond.fieldLink RX12 13 "RodBeadsModel" "bases" "[I" ∈ am_tb := List.mem_filter.mpr ⟨List.mem_of_getElem? (i := 1023) (by decide +kernel), by decide +kernel⟩
theorem tw_1024 : Cond.fieldLink RX12 16 "RodBeadsModel" "lows" "[I" ∈ am_tb := List.mem_filter.mpr ⟨List.mem_of_getElem? (i := 1024) (by decide +kernel), by decide +kernel⟩
theorem tw_1025 : Cond.fieldLink RX12 19 "RodBeadsModel" "highs" "[I" ∈ am_tb := List.mem_filter.mpr ⟨List.mem_of_getElem? (i := 1025) (by decide +kernel), by decide +kernel⟩
theorem tw_1026 : Cond.fieldLink RX12 22 "RodBeadsModel" "now" "[I" ∈ am_tb := List.mem_filter.mpr ⟨List.mem_of_getElem? (i := 1026) (by decide +kernel), by decide +kernel⟩
theorem tw_1027 : Cond.fieldLink RX12 25 "RodBeadsModel" "tried" "[I" ∈ am_tb := List.mem_filter.mpr ⟨List.mem_of_getElem? (i := 1027) (by decide +kernel), by decide +kernel⟩
theorem tw_1154 : Cond.arrayClass (newarray.typeOf .long) ∈ am_tb := List.mem_filter.mpr ⟨List.mem_of_getElem? (i := 1154) (by decide +kernel), by decide +kernel⟩
theorem tw_1029 : Cond.fieldLink RX12 28 "RodBeadsModel" "dues" "[J" ∈ am_tb := List.mem_filter.mpr ⟨List.mem_of_getElem? (i := 1029) (by decide +kernel), by decide +kernel⟩
theorem tw_1030 : Cond.fieldLink RX12 32 "RodBeadsModel" "wayMany" "[J" ∈ am_tb := List.mem_filter.mpr ⟨List.mem_of_getElem? (i := 1030) (by decide +kernel), by decide +kernel⟩
theorem tw_1031 : Cond.fieldLink RX12 35 "RodBeadsModel" "times" "[I" ∈ am_tb := List.mem_filter.mpr ⟨List.mem_of_getElem? (i := 1031) (by decide +kernel), by decide +kernel⟩
theorem tw_1032 : Cond.fieldLink RX12 38 "RodBeadsModel" "due" "[I" ∈ am_tb := List.mem_filter.mpr ⟨List.mem_of_getElem? (i := 1032) (by decide +kernel), by decide +kernel⟩
theorem tw_1034 : Cond.fieldLink RX12 41 "RodBeadsModel" "text" "[I" ∈ am_tb := List.mem_filter.mpr ⟨List.mem_of_getElem? (i := 1034) (by decide +kernel), by decide +kernel⟩
theorem tw_1044 : Cond.fieldLink RX12 44 "RodBeadsModel" "readKind" "[I" ∈ am_tb := List.mem_filter.mpr ⟨List.mem_of_getElem? (i := 1044) (by decide +kernel), by decide +kernel⟩
theorem tw_1045 : Cond.fieldLink RX12 47 "RodBeadsModel" "readBase" "[I" ∈ am_tb := List.mem_filter.mpr ⟨List.mem_of_getElem? (i := 1045) (by decide +kernel), by decide +kernel⟩
theorem tw_1046 : Cond.fieldLink RX12 50 "RodBeadsModel" "readLow" "[I" ∈ am_tb := List.mem_filter.mpr ⟨List.mem_of_getElem? (i := 1046) (by decide +kernel), by decide +kernel⟩
theorem tw_1047 : Cond.fieldLink RX12 53 "RodBeadsModel" "readHigh" "[I" ∈ am_tb := List.mem_filter.mpr ⟨List.mem_of_getElem? (i := 1047) (by decide +kernel), by decide +kernel⟩
theorem tw_1051 : Cond.fieldLink RX12 56 "RodBeadsModel" "sums" "[J" ∈ am_tb := List.mem_filter.mpr ⟨List.mem_of_getElem? (i := 1051) (by decide +kernel), by decide +kernel⟩
theorem tw_1052 : Cond.fieldLink RX12 59 "RodBeadsModel" "terms" "[J" ∈ am_tb := List.mem_filter.mpr ⟨List.mem_of_getElem? (i := 1052) (by decide +kernel), by decide +kernel⟩
theorem tw_1053 : Cond.fieldLink RX12 62 "RodBeadsModel" "sumSigns" "[I" ∈ am_tb := List.mem_filter.mpr ⟨List.mem_of_getElem? (i := 1053) (by decide +kernel), by decide +kernel⟩
theorem tw_1054 : Cond.fieldLink RX12 65 "RodBeadsModel" "termSigns" "[I" ∈ am_tb := List.mem_filter.mpr ⟨List.mem_of_getElem? (i := 1054) (by decide +kernel), by decide +kernel⟩
theorem tw_1058 : Cond.fieldLink RX12 68 "RodBeadsModel" "undos" "[I" ∈ am_tb := List.mem_filter.mpr ⟨List.mem_of_getElem? (i := 1058) (by decide +kernel), by decide +kernel⟩
theorem tw_1155 : Cond.arrayClass (newarray.typeOf .boolean) ∈ am_tb := List.mem_filter.mpr ⟨List.mem_of_getElem? (i := 1155) (by decide +kernel), by decide +kernel⟩
theorem tw_1059 : Cond.fieldLink RX12 71 "RodBeadsModel" "isKept" "[Z" ∈ am_tb := List.mem_filter.mpr ⟨List.mem_of_getElem? (i := 1059) (by decide +kernel), by decide +kernel⟩
theorem tw_1060 : Cond.fieldLink RX12 75 "RodBeadsModel" "kept" "[I" ∈ am_tb := List.mem_filter.mpr ⟨List.mem_of_getElem? (i := 1060) (by decide +kernel), by decide +kernel⟩
theorem tw_1062 : Cond.fieldLink RX12 78 "RodBeadsModel" "seenRod" "[I" ∈ am_tb := List.mem_filter.mpr ⟨List.mem_of_getElem? (i := 1062) (by decide +kernel), by decide +kernel⟩
theorem tw_1063 : Cond.fieldLink RX12 81 "RodBeadsModel" "seenShown" "[I" ∈ am_tb := List.mem_filter.mpr ⟨List.mem_of_getElem? (i := 1063) (by decide +kernel), by decide +kernel⟩
theorem tw_1064 : Cond.fieldLink RX12 84 "RodBeadsModel" "seenTime" "[I" ∈ am_tb := List.mem_filter.mpr ⟨List.mem_of_getElem? (i := 1064) (by decide +kernel), by decide +kernel⟩
theorem tw_1019 : Cond.code yX12_init cX12_init 1 none ∈ am_tb := List.mem_filter.mpr ⟨List.mem_of_getElem? (i := 1019) (by decide +kernel), by decide +kernel⟩
theorem tw_83 : Cond.initialized RX12 ∈ am_tb := List.mem_filter.mpr ⟨List.mem_of_getElem? (i := 83) (by decide +kernel), by decide +kernel⟩
theorem tw_1186 : Cond.code yX12_in cX12_in 6 (some .boolean) ∈ am_tb := List.mem_filter.mpr ⟨List.mem_of_getElem? (i := 1186) (by decide +kernel), by decide +kernel⟩
theorem tw_1192 : Cond.code yX12_has cX12_has 2 (some .boolean) ∈ am_tb := List.mem_filter.mpr ⟨List.mem_of_getElem? (i := 1192) (by decide +kernel), by decide +kernel⟩
theorem tw_1453 : Cond.code yX12_bits cX12_bits 3 (some .int) ∈ am_tb := List.mem_filter.mpr ⟨List.mem_of_getElem? (i := 1453) (by decide +kernel), by decide +kernel⟩
theorem tw_1334 : Cond.code yX12_apart cX12_apart 2 (some .int) ∈ am_tb := List.mem_filter.mpr ⟨List.mem_of_getElem? (i := 1334) (by decide +kernel), by decide +kernel⟩
theorem tw_1021 : Cond.fieldLink RX12 87 "RodBeadsModel" "n" "I" ∈ am_tb := List.mem_filter.mpr ⟨List.mem_of_getElem? (i := 1021) (by decide +kernel), by decide +kernel⟩
theorem tw_1184 : Cond.methodLink RX12 91 yX12_in ∈ am_tb := List.mem_filter.mpr ⟨List.mem_of_getElem? (i := 1184) (by decide +kernel), by decide +kernel⟩
theorem tw_1185 : Cond.static yX12_in ∈ am_tb := List.mem_filter.mpr ⟨List.mem_of_getElem? (i := 1185) (by decide +kernel), by decide +kernel⟩
theorem tw_1183 : Cond.code yX12_isRod cX12_isRod 2 (some .boolean) ∈ am_tb := List.mem_filter.mpr ⟨List.mem_of_getElem? (i := 1183) (by decide +kernel), by decide +kernel⟩
theorem tw_1175 : Cond.code yX12_worthBy cX12_worthBy 3 (some .int) ∈ am_tb := List.mem_filter.mpr ⟨List.mem_of_getElem? (i := 1175) (by decide +kernel), by decide +kernel⟩
theorem tw_1174 : Cond.instanceMethod yX12_worthBy ∈ am_tb := List.mem_filter.mpr ⟨List.mem_of_getElem? (i := 1174) (by decide +kernel), by decide +kernel⟩
theorem tw_39 : Cond.selects RX12 yX12_worthBy yX12_worthBy ∈ am_tb := List.mem_filter.mpr ⟨List.mem_of_getElem? (i := 39) (by decide +kernel), by decide +kernel⟩
theorem tw_1172 : Cond.methodLink RX12 95 yX12_worthBy ∈ am_tb := List.mem_filter.mpr ⟨List.mem_of_getElem? (i := 1172) (by decide +kernel), by decide +kernel⟩
theorem tw_1171 : Cond.code yX12_worth cX12_worth 2 (some .int) ∈ am_tb := List.mem_filter.mpr ⟨List.mem_of_getElem? (i := 1171) (by decide +kernel), by decide +kernel⟩
theorem tw_1337 : Cond.code yX12_takes cX12_takes 2 (some .int) ∈ am_tb := List.mem_filter.mpr ⟨List.mem_of_getElem? (i := 1337) (by decide +kernel), by decide +kernel⟩
theorem tw_1384 : Cond.code yX12_pushedOf cX12_pushedOf 3 (some .int) ∈ am_tb := List.mem_filter.mpr ⟨List.mem_of_getElem? (i := 1384) (by decide +kernel), by decide +kernel⟩
theorem tw_1170 : Cond.instanceMethod yX12_worth ∈ am_tb := List.mem_filter.mpr ⟨List.mem_of_getElem? (i := 1170) (by decide +kernel), by decide +kernel⟩
theorem tw_38 : Cond.selects RX12 yX12_worth yX12_worth ∈ am_tb := List.mem_filter.mpr ⟨List.mem_of_getElem? (i := 38) (by decide +kernel), by decide +kernel⟩
theorem tw_1168 : Cond.methodLink RX12 99 yX12_worth ∈ am_tb := List.mem_filter.mpr ⟨List.mem_of_getElem? (i := 1168) (by decide +kernel), by decide +kernel⟩
theorem tw_1167 : Cond.code yX12_shows cX12_shows 3 (some .int) ∈ am_tb := List.mem_filter.mpr ⟨List.mem_of_getElem? (i := 1167) (by decide +kernel), by decide +kernel⟩
theorem tw_1381 : Cond.code yX12_beads cX12_beads 3 (some .int) ∈ am_tb := List.mem_filter.mpr ⟨List.mem_of_getElem? (i := 1381) (by decide +kernel), by decide +kernel⟩
theorem tw_1190 : Cond.methodLink RX12 103 yX12_has ∈ am_tb := List.mem_filter.mpr ⟨List.mem_of_getElem? (i := 1190) (by decide +kernel), by decide +kernel⟩
theorem tw_1191 : Cond.static yX12_has ∈ am_tb := List.mem_filter.mpr ⟨List.mem_of_getElem? (i := 1191) (by decide +kernel), by decide +kernel⟩
theorem tw_1189 : Cond.code yX12_isStuck cX12_isStuck 3 (some .boolean) ∈ am_tb := List.mem_filter.mpr ⟨List.mem_of_getElem? (i := 1189) (by decide +kernel), by decide +kernel⟩
theorem tw_1187 : Cond.methodLink RX12 107 yX12_isStuck ∈ am_tb := List.mem_filter.mpr ⟨List.mem_of_getElem? (i := 1187) (by decide +kernel), by decide +kernel⟩
theorem tw_1188 : Cond.static yX12_isStuck ∈ am_tb := List.mem_filter.mpr ⟨List.mem_of_getElem? (i := 1188) (by decide +kernel), by decide +kernel⟩
theorem tw_1322 : Cond.code yX12_may cX12_may 5 (some .boolean) ∈ am_tb := List.mem_filter.mpr ⟨List.mem_of_getElem? (i := 1322) (by decide +kernel), by decide +kernel⟩
theorem tw_1332 : Cond.methodLink RX12 111 yX12_apart ∈ am_tb := List.mem_filter.mpr ⟨List.mem_of_getElem? (i := 1332) (by decide +kernel), by decide +kernel⟩
theorem tw_1333 : Cond.static yX12_apart ∈ am_tb := List.mem_filter.mpr ⟨List.mem_of_getElem? (i := 1333) (by decide +kernel), by decide +kernel⟩
theorem tw_1335 : Cond.methodLink RX12 114 yX12_takes ∈ am_tb := List.mem_filter.mpr ⟨List.mem_of_getElem? (i := 1335) (by decide +kernel), by decide +kernel⟩
theorem tw_1336 : Cond.static yX12_takes ∈ am_tb := List.mem_filter.mpr ⟨List.mem_of_getElem? (i := 1336) (by decide +kernel), by decide +kernel⟩
theorem tw_1331 : Cond.code yX12_change cX12_change 5 (some .int) ∈ am_tb := List.mem_filter.mpr ⟨List.mem_of_getElem? (i := 1331) (by decide +kernel), by decide +kernel⟩
theorem tw_1166 : Cond.instanceMethod yX12_shows ∈ am_tb := List.mem_filter.mpr ⟨List.mem_of_getElem? (i := 1166) (by decide +kernel), by decide +kernel⟩
theorem tw_37 : Cond.selects RX12 yX12_shows yX12_shows ∈ am_tb := List.mem_filter.mpr ⟨List.mem_of_getElem? (i := 37) (by decide +kernel), by decide +kernel⟩
theorem tw_1164 : Cond.methodLink RX12 117 yX12_shows ∈ am_tb := List.mem_filter.mpr ⟨List.mem_of_getElem? (i := 1164) (by decide +kernel), by decide +kernel⟩
theorem tw_1163 : Cond.code yX12_numberOf cX12_numberOf 5 (some .long) ∈ am_tb := List.mem_filter.mpr ⟨List.mem_of_getElem? (i := 1163) (by decide +kernel), by decide +kernel⟩
theorem tw_1162 : Cond.instanceMethod yX12_numberOf ∈ am_tb := List.mem_filter.mpr ⟨List.mem_of_getElem? (i := 1162) (by decide +kernel), by decide +kernel⟩
theorem tw_36 : Cond.selects RX12 yX12_numberOf yX12_numberOf ∈ am_tb := List.mem_filter.mpr ⟨List.mem_of_getElem? (i := 36) (by decide +kernel), by decide +kernel⟩
theorem tw_1160 : Cond.methodLink RX12 121 yX12_numberOf ∈ am_tb := List.mem_filter.mpr ⟨List.mem_of_getElem? (i := 1160) (by decide +kernel), by decide +kernel⟩
theorem tw_1159 : Cond.code yX12_number cX12_number 1 (some .long) ∈ am_tb := List.mem_filter.mpr ⟨List.mem_of_getElem? (i := 1159) (by decide +kernel), by decide +kernel⟩
theorem tw_1182 : Cond.instanceMethod yX12_isRod ∈ am_tb := List.mem_filter.mpr ⟨List.mem_of_getElem? (i := 1182) (by decide +kernel), by decide +kernel⟩
theorem tw_40 : Cond.selects RX12 yX12_isRod yX12_isRod ∈ am_tb := List.mem_filter.mpr ⟨List.mem_of_getElem? (i := 40) (by decide +kernel), by decide +kernel⟩
theorem tw_1180 : Cond.methodLink RX12 125 yX12_isRod ∈ am_tb := List.mem_filter.mpr ⟨List.mem_of_getElem? (i := 1180) (by decide +kernel), by decide +kernel⟩
theorem tw_1179 : Cond.code yX12_rod cX12_rod 3 (some .int) ∈ am_tb := List.mem_filter.mpr ⟨List.mem_of_getElem? (i := 1179) (by decide +kernel), by decide +kernel⟩
theorem tw_1197 : Cond.constantLong RX12 129 (4) ∈ am_tb := List.mem_filter.mpr ⟨List.mem_of_getElem? (i := 1197) (by decide +kernel), by decide +kernel⟩
theorem tw_1196 : Cond.code yX12_as cX12_as 5 (some .int) ∈ am_tb := List.mem_filter.mpr ⟨List.mem_of_getElem? (i := 1196) (by decide +kernel), by decide +kernel⟩
theorem tw_1314 : Cond.code yX12_cell cX12_cell 2 (some .int) ∈ am_tb := List.mem_filter.mpr ⟨List.mem_of_getElem? (i := 1314) (by decide +kernel), by decide +kernel⟩
theorem tw_1312 : Cond.methodLink RX12 131 yX12_cell ∈ am_tb := List.mem_filter.mpr ⟨List.mem_of_getElem? (i := 1312) (by decide +kernel), by decide +kernel⟩
theorem tw_1313 : Cond.static yX12_cell ∈ am_tb := List.mem_filter.mpr ⟨List.mem_of_getElem? (i := 1313) (by decide +kernel), by decide +kernel⟩
theorem tw_1315 : Cond.constant RX12 134 (1000000000) ∈ am_tb := List.mem_filter.mpr ⟨List.mem_of_getElem? (i := 1315) (by decide +kernel), by decide +kernel⟩
theorem tw_1319 : Cond.code yX12_layCell cX12_layCell 12 none ∈ am_tb := List.mem_filter.mpr ⟨List.mem_of_getElem? (i := 1319) (by decide +kernel), by decide +kernel⟩
theorem tw_1318 : Cond.instanceMethod yX12_layCell ∈ am_tb := List.mem_filter.mpr ⟨List.mem_of_getElem? (i := 1318) (by decide +kernel), by decide +kernel⟩
theorem tw_61 : Cond.selects RX12 yX12_layCell yX12_layCell ∈ am_tb := List.mem_filter.mpr ⟨List.mem_of_getElem? (i := 61) (by decide +kernel), by decide +kernel⟩
theorem tw_1316 : Cond.methodLink RX12 135 yX12_layCell ∈ am_tb := List.mem_filter.mpr ⟨List.mem_of_getElem? (i := 1316) (by decide +kernel), by decide +kernel⟩
theorem tw_1311 : Cond.code yX12_lay cX12_lay 7 none ∈ am_tb := List.mem_filter.mpr ⟨List.mem_of_getElem? (i := 1311) (by decide +kernel), by decide +kernel⟩
theorem tw_1327 : Cond.constantLong RX12 139 (64) ∈ am_tb := List.mem_filter.mpr ⟨List.mem_of_getElem? (i := 1327) (by decide +kernel), by decide +kernel⟩
theorem tw_1326 : Cond.code yX12_onward cX12_onward 8 (some .int) ∈ am_tb := List.mem_filter.mpr ⟨List.mem_of_getElem? (i := 1326) (by decide +kernel), by decide +kernel⟩
theorem tw_1320 : Cond.methodLink RX12 141 yX12_may ∈ am_tb := List.mem_filter.mpr ⟨List.mem_of_getElem? (i := 1320) (by decide +kernel), by decide +kernel⟩
theorem tw_1321 : Cond.static yX12_may ∈ am_tb := List.mem_filter.mpr ⟨List.mem_of_getElem? (i := 1321) (by decide +kernel), by decide +kernel⟩
theorem tw_1325 : Cond.instanceMethod yX12_onward ∈ am_tb := List.mem_filter.mpr ⟨List.mem_of_getElem? (i := 1325) (by decide +kernel), by decide +kernel⟩
theorem tw_62 : Cond.selects RX12 yX12_onward yX12_onward ∈ am_tb := List.mem_filter.mpr ⟨List.mem_of_getElem? (i := 62) (by decide +kernel), by decide +kernel⟩
theorem tw_1323 : Cond.methodLink RX12 145 yX12_onward ∈ am_tb := List.mem_filter.mpr ⟨List.mem_of_getElem? (i := 1323) (by decide +kernel), by decide +kernel⟩
theorem tw_1330 : Cond.instanceMethod yX12_change ∈ am_tb := List.mem_filter.mpr ⟨List.mem_of_getElem? (i := 1330) (by decide +kernel), by decide +kernel⟩
theorem tw_63 : Cond.selects RX12 yX12_change yX12_change ∈ am_tb := List.mem_filter.mpr ⟨List.mem_of_getElem? (i := 63) (by decide +kernel), by decide +kernel⟩
theorem tw_1328 : Cond.methodLink RX12 149 yX12_change ∈ am_tb := List.mem_filter.mpr ⟨List.mem_of_getElem? (i := 1328) (by decide +kernel), by decide +kernel⟩
theorem tw_1307 : Cond.constantLong RX12 153 (1000000000) ∈ am_tb := List.mem_filter.mpr ⟨List.mem_of_getElem? (i := 1307) (by decide +kernel), by decide +kernel⟩
theorem tw_1310 : Cond.instanceMethod yX12_lay ∈ am_tb := List.mem_filter.mpr ⟨List.mem_of_getElem? (i := 1310) (by decide +kernel), by decide +kernel⟩
theorem tw_60 : Cond.selects RX12 yX12_lay yX12_lay ∈ am_tb := List.mem_filter.mpr ⟨List.mem_of_getElem? (i := 60) (by decide +kernel), by decide +kernel⟩
theorem tw_1308 : Cond.methodLink RX12 155 yX12_lay ∈ am_tb := List.mem_filter.mpr ⟨List.mem_of_getElem? (i := 1308) (by decide +kernel), by decide +kernel⟩
theorem tw_1306 : Cond.code yX12_isShown cX12_isShown 5 (some .boolean) ∈ am_tb := List.mem_filter.mpr ⟨List.mem_of_getElem? (i := 1306) (by decide +kernel), by decide +kernel⟩
theorem tw_1341 : Cond.code yX12_layDue cX12_layDue 11 none ∈ am_tb := List.mem_filter.mpr ⟨List.mem_of_getElem? (i := 1341) (by decide +kernel), by decide +kernel⟩
theorem tw_1345 : Cond.constant RX12 159 (1000000) ∈ am_tb := List.mem_filter.mpr ⟨List.mem_of_getElem? (i := 1345) (by decide +kernel), by decide +kernel⟩
theorem tw_1344 : Cond.code yX12_counted cX12_counted 1 (some .int) ∈ am_tb := List.mem_filter.mpr ⟨List.mem_of_getElem? (i := 1344) (by decide +kernel), by decide +kernel⟩
theorem tw_1305 : Cond.instanceMethod yX12_isShown ∈ am_tb := List.mem_filter.mpr ⟨List.mem_of_getElem? (i := 1305) (by decide +kernel), by decide +kernel⟩
theorem tw_59 : Cond.selects RX12 yX12_isShown yX12_isShown ∈ am_tb := List.mem_filter.mpr ⟨List.mem_of_getElem? (i := 59) (by decide +kernel), by decide +kernel⟩
theorem tw_1303 : Cond.methodLink RX12 160 yX12_isShown ∈ am_tb := List.mem_filter.mpr ⟨List.mem_of_getElem? (i := 1303) (by decide +kernel), by decide +kernel⟩
theorem tw_1340 : Cond.instanceMethod yX12_layDue ∈ am_tb := List.mem_filter.mpr ⟨List.mem_of_getElem? (i := 1340) (by decide +kernel), by decide +kernel⟩
theorem tw_64 : Cond.selects RX12 yX12_layDue yX12_layDue ∈ am_tb := List.mem_filter.mpr ⟨List.mem_of_getElem? (i := 64) (by decide +kernel), by decide +kernel⟩
theorem tw_1338 : Cond.methodLink RX12 164 yX12_layDue ∈ am_tb := List.mem_filter.mpr ⟨List.mem_of_getElem? (i := 1338) (by decide +kernel), by decide +kernel⟩
theorem tw_1342 : Cond.methodLink RX12 168 yX12_counted ∈ am_tb := List.mem_filter.mpr ⟨List.mem_of_getElem? (i := 1342) (by decide +kernel), by decide +kernel⟩
theorem tw_1343 : Cond.static yX12_counted ∈ am_tb := List.mem_filter.mpr ⟨List.mem_of_getElem? (i := 1343) (by decide +kernel), by decide +kernel⟩
theorem tw_1302 : Cond.code yX12_sets cX12_sets 6 (some .int) ∈ am_tb := List.mem_filter.mpr ⟨List.mem_of_getElem? (i := 1302) (by decide +kernel), by decide +kernel⟩
theorem tw_1357 : Cond.code yX12_alone cX12_alone 11 (some .int) ∈ am_tb := List.mem_filter.mpr ⟨List.mem_of_getElem? (i := 1357) (by decide +kernel), by decide +kernel⟩
theorem tw_1356 : Cond.instanceMethod yX12_alone ∈ am_tb := List.mem_filter.mpr ⟨List.mem_of_getElem? (i := 1356) (by decide +kernel), by decide +kernel⟩
theorem tw_67 : Cond.selects RX12 yX12_alone yX12_alone ∈ am_tb := List.mem_filter.mpr ⟨List.mem_of_getElem? (i := 67) (by decide +kernel), by decide +kernel⟩
theorem tw_1354 : Cond.methodLink RX12 171 yX12_alone ∈ am_tb := List.mem_filter.mpr ⟨List.mem_of_getElem? (i := 1354) (by decide +kernel), by decide +kernel⟩
theorem tw_1353 : Cond.code yX12_carries cX12_carries 6 (some .int) ∈ am_tb := List.mem_filter.mpr ⟨List.mem_of_getElem? (i := 1353) (by decide +kernel), by decide +kernel⟩
theorem tw_1349 : Cond.code yX12_clears cX12_clears 6 none ∈ am_tb := List.mem_filter.mpr ⟨List.mem_of_getElem? (i := 1349) (by decide +kernel), by decide +kernel⟩
theorem tw_1202 : Cond.constantLong RX12 175 (255) ∈ am_tb := List.mem_filter.mpr ⟨List.mem_of_getElem? (i := 1202) (by decide +kernel), by decide +kernel⟩
theorem tw_1033 : Cond.fieldLink RX12 177 "RodBeadsModel" "letterMany" "I" ∈ am_tb := List.mem_filter.mpr ⟨List.mem_of_getElem? (i := 1033) (by decide +kernel), by decide +kernel⟩
theorem tw_1201 : Cond.code yX12_write cX12_write 2 (some .int) ∈ am_tb := List.mem_filter.mpr ⟨List.mem_of_getElem? (i := 1201) (by decide +kernel), by decide +kernel⟩
theorem tw_1206 : Cond.code yX12_erase cX12_erase 2 (some .int) ∈ am_tb := List.mem_filter.mpr ⟨List.mem_of_getElem? (i := 1206) (by decide +kernel), by decide +kernel⟩
theorem tw_1222 : Cond.code yX12_letterAt cX12_letterAt 2 (some .int) ∈ am_tb := List.mem_filter.mpr ⟨List.mem_of_getElem? (i := 1222) (by decide +kernel), by decide +kernel⟩
theorem tw_1226 : Cond.constantLong RX12 180 (97) ∈ am_tb := List.mem_filter.mpr ⟨List.mem_of_getElem? (i := 1226) (by decide +kernel), by decide +kernel⟩
theorem tw_1227 : Cond.constantLong RX12 182 (122) ∈ am_tb := List.mem_filter.mpr ⟨List.mem_of_getElem? (i := 1227) (by decide +kernel), by decide +kernel⟩
theorem tw_1225 : Cond.code yX12_isSmall cX12_isSmall 1 (some .boolean) ∈ am_tb := List.mem_filter.mpr ⟨List.mem_of_getElem? (i := 1225) (by decide +kernel), by decide +kernel⟩
theorem tw_1239 : Cond.constantLong RX12 184 (48) ∈ am_tb := List.mem_filter.mpr ⟨List.mem_of_getElem? (i := 1239) (by decide +kernel), by decide +kernel⟩
theorem tw_1240 : Cond.constantLong RX12 186 (57) ∈ am_tb := List.mem_filter.mpr ⟨List.mem_of_getElem? (i := 1240) (by decide +kernel), by decide +kernel⟩
theorem tw_1238 : Cond.code yX12_isFigure cX12_isFigure 1 (some .boolean) ∈ am_tb := List.mem_filter.mpr ⟨List.mem_of_getElem? (i := 1238) (by decide +kernel), by decide +kernel⟩
theorem tw_1035 : Cond.fieldLink RX12 188 "RodBeadsModel" "readAt" "I" ∈ am_tb := List.mem_filter.mpr ⟨List.mem_of_getElem? (i := 1035) (by decide +kernel), by decide +kernel⟩
theorem tw_1221 : Cond.instanceMethod yX12_letterAt ∈ am_tb := List.mem_filter.mpr ⟨List.mem_of_getElem? (i := 1221) (by decide +kernel), by decide +kernel⟩
theorem tw_43 : Cond.selects RX12 yX12_letterAt yX12_letterAt ∈ am_tb := List.mem_filter.mpr ⟨List.mem_of_getElem? (i := 43) (by decide +kernel), by decide +kernel⟩
theorem tw_1219 : Cond.methodLink RX12 191 yX12_letterAt ∈ am_tb := List.mem_filter.mpr ⟨List.mem_of_getElem? (i := 1219) (by decide +kernel), by decide +kernel⟩
theorem tw_1036 : Cond.fieldLink RX12 194 "RodBeadsModel" "tokenAt" "I" ∈ am_tb := List.mem_filter.mpr ⟨List.mem_of_getElem? (i := 1036) (by decide +kernel), by decide +kernel⟩
theorem tw_1037 : Cond.fieldLink RX12 197 "RodBeadsModel" "token" "I" ∈ am_tb := List.mem_filter.mpr ⟨List.mem_of_getElem? (i := 1037) (by decide +kernel), by decide +kernel⟩
theorem tw_1223 : Cond.methodLink RX12 200 yX12_isSmall ∈ am_tb := List.mem_filter.mpr ⟨List.mem_of_getElem? (i := 1223) (by decide +kernel), by decide +kernel⟩
theorem tw_1224 : Cond.static yX12_isSmall ∈ am_tb := List.mem_filter.mpr ⟨List.mem_of_getElem? (i := 1224) (by decide +kernel), by decide +kernel⟩
theorem tw_1231 : Cond.code yX12_wordOf cX12_wordOf 6 (some .int) ∈ am_tb := List.mem_filter.mpr ⟨List.mem_of_getElem? (i := 1231) (by decide +kernel), by decide +kernel⟩
theorem tw_1230 : Cond.instanceMethod yX12_wordOf ∈ am_tb := List.mem_filter.mpr ⟨List.mem_of_getElem? (i := 1230) (by decide +kernel), by decide +kernel⟩
theorem tw_44 : Cond.selects RX12 yX12_wordOf yX12_wordOf ∈ am_tb := List.mem_filter.mpr ⟨List.mem_of_getElem? (i := 44) (by decide +kernel), by decide +kernel⟩
theorem tw_1228 : Cond.methodLink RX12 203 yX12_wordOf ∈ am_tb := List.mem_filter.mpr ⟨List.mem_of_getElem? (i := 1228) (by decide +kernel), by decide +kernel⟩
theorem tw_1040 : Cond.fieldLink RX12 206 "RodBeadsModel" "word" "I" ∈ am_tb := List.mem_filter.mpr ⟨List.mem_of_getElem? (i := 1040) (by decide +kernel), by decide +kernel⟩
theorem tw_1236 : Cond.methodLink RX12 209 yX12_isFigure ∈ am_tb := List.mem_filter.mpr ⟨List.mem_of_getElem? (i := 1236) (by decide +kernel), by decide +kernel⟩
theorem tw_1237 : Cond.static yX12_isFigure ∈ am_tb := List.mem_filter.mpr ⟨List.mem_of_getElem? (i := 1237) (by decide +kernel), by decide +kernel⟩
theorem tw_1244 : Cond.code yX12_readsNumber cX12_readsNumber 1 none ∈ am_tb := List.mem_filter.mpr ⟨List.mem_of_getElem? (i := 1244) (by decide +kernel), by decide +kernel⟩
theorem tw_1243 : Cond.instanceMethod yX12_readsNumber ∈ am_tb := List.mem_filter.mpr ⟨List.mem_of_getElem? (i := 1243) (by decide +kernel), by decide +kernel⟩
theorem tw_45 : Cond.selects RX12 yX12_readsNumber yX12_readsNumber ∈ am_tb := List.mem_filter.mpr ⟨List.mem_of_getElem? (i := 45) (by decide +kernel), by decide +kernel⟩
theorem tw_1241 : Cond.methodLink RX12 212 yX12_readsNumber ∈ am_tb := List.mem_filter.mpr ⟨List.mem_of_getElem? (i := 1241) (by decide +kernel), by decide +kernel⟩
theorem tw_1218 : Cond.code yX12_reads cX12_reads 2 none ∈ am_tb := List.mem_filter.mpr ⟨List.mem_of_getElem? (i := 1218) (by decide +kernel), by decide +kernel⟩
theorem tw_1039 : Cond.fieldLink RX12 215 "RodBeadsModel" "value" "J" ∈ am_tb := List.mem_filter.mpr ⟨List.mem_of_getElem? (i := 1039) (by decide +kernel), by decide +kernel⟩
theorem tw_1038 : Cond.fieldLink RX12 219 "RodBeadsModel" "digits" "I" ∈ am_tb := List.mem_filter.mpr ⟨List.mem_of_getElem? (i := 1038) (by decide +kernel), by decide +kernel⟩
theorem tw_1245 : Cond.constantLong RX12 222 (10) ∈ am_tb := List.mem_filter.mpr ⟨List.mem_of_getElem? (i := 1245) (by decide +kernel), by decide +kernel⟩
theorem tw_1232 : Cond.constantLong RX12 224 (256) ∈ am_tb := List.mem_filter.mpr ⟨List.mem_of_getElem? (i := 1232) (by decide +kernel), by decide +kernel⟩
theorem tw_1235 : Cond.code yX12_code cX12_code 5 (some .long) ∈ am_tb := List.mem_filter.mpr ⟨List.mem_of_getElem? (i := 1235) (by decide +kernel), by decide +kernel⟩
theorem tw_1233 : Cond.methodLink RX12 226 yX12_code ∈ am_tb := List.mem_filter.mpr ⟨List.mem_of_getElem? (i := 1233) (by decide +kernel), by decide +kernel⟩
theorem tw_1234 : Cond.static yX12_code ∈ am_tb := List.mem_filter.mpr ⟨List.mem_of_getElem? (i := 1234) (by decide +kernel), by decide +kernel⟩
theorem tw_1217 : Cond.instanceMethod yX12_reads ∈ am_tb := List.mem_filter.mpr ⟨List.mem_of_getElem? (i := 1217) (by decide +kernel), by decide +kernel⟩
theorem tw_42 : Cond.selects RX12 yX12_reads yX12_reads ∈ am_tb := List.mem_filter.mpr ⟨List.mem_of_getElem? (i := 42) (by decide +kernel), by decide +kernel⟩
theorem tw_1215 : Cond.methodLink RX12 230 yX12_reads ∈ am_tb := List.mem_filter.mpr ⟨List.mem_of_getElem? (i := 1215) (by decide +kernel), by decide +kernel⟩
theorem tw_1257 : Cond.code yX12_numbered cX12_numbered 3 (some .boolean) ∈ am_tb := List.mem_filter.mpr ⟨List.mem_of_getElem? (i := 1257) (by decide +kernel), by decide +kernel⟩
theorem tw_1041 : Cond.fieldLink RX12 233 "RodBeadsModel" "readMany" "I" ∈ am_tb := List.mem_filter.mpr ⟨List.mem_of_getElem? (i := 1041) (by decide +kernel), by decide +kernel⟩
theorem tw_1256 : Cond.instanceMethod yX12_numbered ∈ am_tb := List.mem_filter.mpr ⟨List.mem_of_getElem? (i := 1256) (by decide +kernel), by decide +kernel⟩
theorem tw_48 : Cond.selects RX12 yX12_numbered yX12_numbered ∈ am_tb := List.mem_filter.mpr ⟨List.mem_of_getElem? (i := 48) (by decide +kernel), by decide +kernel⟩
theorem tw_1254 : Cond.methodLink RX12 236 yX12_numbered ∈ am_tb := List.mem_filter.mpr ⟨List.mem_of_getElem? (i := 1254) (by decide +kernel), by decide +kernel⟩
theorem tw_1253 : Cond.code yX12_readsRod cX12_readsRod 3 (some .boolean) ∈ am_tb := List.mem_filter.mpr ⟨List.mem_of_getElem? (i := 1253) (by decide +kernel), by decide +kernel⟩
theorem tw_1042 : Cond.fieldLink RX12 239 "RodBeadsModel" "readStuck" "I" ∈ am_tb := List.mem_filter.mpr ⟨List.mem_of_getElem? (i := 1042) (by decide +kernel), by decide +kernel⟩
theorem tw_1261 : Cond.code yX12_readsStuck cX12_readsStuck 2 (some .boolean) ∈ am_tb := List.mem_filter.mpr ⟨List.mem_of_getElem? (i := 1261) (by decide +kernel), by decide +kernel⟩
theorem tw_1252 : Cond.instanceMethod yX12_readsRod ∈ am_tb := List.mem_filter.mpr ⟨List.mem_of_getElem? (i := 1252) (by decide +kernel), by decide +kernel⟩
theorem tw_47 : Cond.selects RX12 yX12_readsRod yX12_readsRod ∈ am_tb := List.mem_filter.mpr ⟨List.mem_of_getElem? (i := 47) (by decide +kernel), by decide +kernel⟩
theorem tw_1250 : Cond.methodLink RX12 242 yX12_readsRod ∈ am_tb := List.mem_filter.mpr ⟨List.mem_of_getElem? (i := 1250) (by decide +kernel), by decide +kernel⟩
theorem tw_1260 : Cond.instanceMethod yX12_readsStuck ∈ am_tb := List.mem_filter.mpr ⟨List.mem_of_getElem? (i := 1260) (by decide +kernel), by decide +kernel⟩
theorem tw_49 : Cond.selects RX12 yX12_readsStuck yX12_readsStuck ∈ am_tb := List.mem_filter.mpr ⟨List.mem_of_getElem? (i := 49) (by decide +kernel), by decide +kernel⟩
theorem tw_1258 : Cond.methodLink RX12 245 yX12_readsStuck ∈ am_tb := List.mem_filter.mpr ⟨List.mem_of_getElem? (i := 1258) (by decide +kernel), by decide +kernel⟩
theorem tw_1249 : Cond.code yX12_readsClause cX12_readsClause 1 (some .boolean) ∈ am_tb := List.mem_filter.mpr ⟨List.mem_of_getElem? (i := 1249) (by decide +kernel), by decide +kernel⟩
theorem tw_1043 : Cond.fieldLink RX12 249 "RodBeadsModel" "clauses" "I" ∈ am_tb := List.mem_filter.mpr ⟨List.mem_of_getElem? (i := 1043) (by decide +kernel), by decide +kernel⟩
theorem tw_1028 : Cond.fieldLink RX12 252 "RodBeadsModel" "told" "I" ∈ am_tb := List.mem_filter.mpr ⟨List.mem_of_getElem? (i := 1028) (by decide +kernel), by decide +kernel⟩
theorem tw_1248 : Cond.instanceMethod yX12_readsClause ∈ am_tb := List.mem_filter.mpr ⟨List.mem_of_getElem? (i := 1248) (by decide +kernel), by decide +kernel⟩
theorem tw_46 : Cond.selects RX12 yX12_readsClause yX12_readsClause ∈ am_tb := List.mem_filter.mpr ⟨List.mem_of_getElem? (i := 46) (by decide +kernel), by decide +kernel⟩
theorem tw_1246 : Cond.methodLink RX12 255 yX12_readsClause ∈ am_tb := List.mem_filter.mpr ⟨List.mem_of_getElem? (i := 1246) (by decide +kernel), by decide +kernel⟩
theorem tw_1214 : Cond.code yX12_readsFrame cX12_readsFrame 2 (some .boolean) ∈ am_tb := List.mem_filter.mpr ⟨List.mem_of_getElem? (i := 1214) (by decide +kernel), by decide +kernel⟩
theorem tw_1049 : Cond.fieldLink RX12 258 "RodBeadsModel" "isTrouble" "Z" ∈ am_tb := List.mem_filter.mpr ⟨List.mem_of_getElem? (i := 1049) (by decide +kernel), by decide +kernel⟩
theorem tw_1294 : Cond.constantLong RX12 262 (-1000000000000) ∈ am_tb := List.mem_filter.mpr ⟨List.mem_of_getElem? (i := 1294) (by decide +kernel), by decide +kernel⟩
theorem tw_1289 : Cond.constantLong RX12 264 (1000000000000) ∈ am_tb := List.mem_filter.mpr ⟨List.mem_of_getElem? (i := 1289) (by decide +kernel), by decide +kernel⟩
theorem tw_1293 : Cond.code yX12_bounded cX12_bounded 3 (some .long) ∈ am_tb := List.mem_filter.mpr ⟨List.mem_of_getElem? (i := 1293) (by decide +kernel), by decide +kernel⟩
theorem tw_1288 : Cond.code yX12_size cX12_size 2 (some .long) ∈ am_tb := List.mem_filter.mpr ⟨List.mem_of_getElem? (i := 1288) (by decide +kernel), by decide +kernel⟩
theorem tw_1286 : Cond.methodLink RX12 266 yX12_size ∈ am_tb := List.mem_filter.mpr ⟨List.mem_of_getElem? (i := 1286) (by decide +kernel), by decide +kernel⟩
theorem tw_1287 : Cond.static yX12_size ∈ am_tb := List.mem_filter.mpr ⟨List.mem_of_getElem? (i := 1287) (by decide +kernel), by decide +kernel⟩
theorem tw_1285 : Cond.code yX12_product cX12_product 5 (some .long) ∈ am_tb := List.mem_filter.mpr ⟨List.mem_of_getElem? (i := 1285) (by decide +kernel), by decide +kernel⟩
theorem tw_1050 : Cond.fieldLink RX12 270 "RodBeadsModel" "depth" "I" ∈ am_tb := List.mem_filter.mpr ⟨List.mem_of_getElem? (i := 1050) (by decide +kernel), by decide +kernel⟩
theorem tw_1277 : Cond.code yX12_opens cX12_opens 1 none ∈ am_tb := List.mem_filter.mpr ⟨List.mem_of_getElem? (i := 1277) (by decide +kernel), by decide +kernel⟩
theorem tw_1048 : Cond.fieldLink RX12 273 "RodBeadsModel" "isDoing" "Z" ∈ am_tb := List.mem_filter.mpr ⟨List.mem_of_getElem? (i := 1048) (by decide +kernel), by decide +kernel⟩
theorem tw_1284 : Cond.instanceMethod yX12_product ∈ am_tb := List.mem_filter.mpr ⟨List.mem_of_getElem? (i := 1284) (by decide +kernel), by decide +kernel⟩
theorem tw_55 : Cond.selects RX12 yX12_product yX12_product ∈ am_tb := List.mem_filter.mpr ⟨List.mem_of_getElem? (i := 55) (by decide +kernel), by decide +kernel⟩
theorem tw_1282 : Cond.methodLink RX12 276 yX12_product ∈ am_tb := List.mem_filter.mpr ⟨List.mem_of_getElem? (i := 1282) (by decide +kernel), by decide +kernel⟩
theorem tw_1292 : Cond.instanceMethod yX12_bounded ∈ am_tb := List.mem_filter.mpr ⟨List.mem_of_getElem? (i := 1292) (by decide +kernel), by decide +kernel⟩
theorem tw_56 : Cond.selects RX12 yX12_bounded yX12_bounded ∈ am_tb := List.mem_filter.mpr ⟨List.mem_of_getElem? (i := 56) (by decide +kernel), by decide +kernel⟩
theorem tw_1290 : Cond.methodLink RX12 280 yX12_bounded ∈ am_tb := List.mem_filter.mpr ⟨List.mem_of_getElem? (i := 1290) (by decide +kernel), by decide +kernel⟩
theorem tw_1281 : Cond.code yX12_part cX12_part 5 none ∈ am_tb := List.mem_filter.mpr ⟨List.mem_of_getElem? (i := 1281) (by decide +kernel), by decide +kernel⟩
theorem tw_1298 : Cond.code yX12_closesTerm cX12_closesTerm 1 none ∈ am_tb := List.mem_filter.mpr ⟨List.mem_of_getElem? (i := 1298) (by decide +kernel), by decide +kernel⟩
theorem tw_1276 : Cond.instanceMethod yX12_opens ∈ am_tb := List.mem_filter.mpr ⟨List.mem_of_getElem? (i := 1276) (by decide +kernel), by decide +kernel⟩
theorem tw_53 : Cond.selects RX12 yX12_opens yX12_opens ∈ am_tb := List.mem_filter.mpr ⟨List.mem_of_getElem? (i := 53) (by decide +kernel), by decide +kernel⟩
theorem tw_1274 : Cond.methodLink RX12 283 yX12_opens ∈ am_tb := List.mem_filter.mpr ⟨List.mem_of_getElem? (i := 1274) (by decide +kernel), by decide +kernel⟩
theorem tw_1280 : Cond.instanceMethod yX12_part ∈ am_tb := List.mem_filter.mpr ⟨List.mem_of_getElem? (i := 1280) (by decide +kernel), by decide +kernel⟩
theorem tw_54 : Cond.selects RX12 yX12_part yX12_part ∈ am_tb := List.mem_filter.mpr ⟨List.mem_of_getElem? (i := 54) (by decide +kernel), by decide +kernel⟩
theorem tw_1278 : Cond.methodLink RX12 286 yX12_part ∈ am_tb := List.mem_filter.mpr ⟨List.mem_of_getElem? (i := 1278) (by decide +kernel), by decide +kernel⟩
theorem tw_1297 : Cond.instanceMethod yX12_closesTerm ∈ am_tb := List.mem_filter.mpr ⟨List.mem_of_getElem? (i := 1297) (by decide +kernel), by decide +kernel⟩
theorem tw_57 : Cond.selects RX12 yX12_closesTerm yX12_closesTerm ∈ am_tb := List.mem_filter.mpr ⟨List.mem_of_getElem? (i := 57) (by decide +kernel), by decide +kernel⟩
theorem tw_1295 : Cond.methodLink RX12 290 yX12_closesTerm ∈ am_tb := List.mem_filter.mpr ⟨List.mem_of_getElem? (i := 1295) (by decide +kernel), by decide +kernel⟩
theorem tw_1055 : Cond.fieldLink RX12 293 "RodBeadsModel" "answer" "J" ∈ am_tb := List.mem_filter.mpr ⟨List.mem_of_getElem? (i := 1055) (by decide +kernel), by decide +kernel⟩
theorem tw_1273 : Cond.code yX12_readsExpr cX12_readsExpr 2 (some .boolean) ∈ am_tb := List.mem_filter.mpr ⟨List.mem_of_getElem? (i := 1273) (by decide +kernel), by decide +kernel⟩
theorem tw_1272 : Cond.instanceMethod yX12_readsExpr ∈ am_tb := List.mem_filter.mpr ⟨List.mem_of_getElem? (i := 1272) (by decide +kernel), by decide +kernel⟩
theorem tw_52 : Cond.selects RX12 yX12_readsExpr yX12_readsExpr ∈ am_tb := List.mem_filter.mpr ⟨List.mem_of_getElem? (i := 52) (by decide +kernel), by decide +kernel⟩
theorem tw_1270 : Cond.methodLink RX12 296 yX12_readsExpr ∈ am_tb := List.mem_filter.mpr ⟨List.mem_of_getElem? (i := 1270) (by decide +kernel), by decide +kernel⟩
theorem tw_1301 : Cond.instanceMethod yX12_sets ∈ am_tb := List.mem_filter.mpr ⟨List.mem_of_getElem? (i := 1301) (by decide +kernel), by decide +kernel⟩
theorem tw_58 : Cond.selects RX12 yX12_sets yX12_sets ∈ am_tb := List.mem_filter.mpr ⟨List.mem_of_getElem? (i := 58) (by decide +kernel), by decide +kernel⟩
theorem tw_1299 : Cond.methodLink RX12 300 yX12_sets ∈ am_tb := List.mem_filter.mpr ⟨List.mem_of_getElem? (i := 1299) (by decide +kernel), by decide +kernel⟩
theorem tw_1348 : Cond.instanceMethod yX12_clears ∈ am_tb := List.mem_filter.mpr ⟨List.mem_of_getElem? (i := 1348) (by decide +kernel), by decide +kernel⟩
theorem tw_65 : Cond.selects RX12 yX12_clears yX12_clears ∈ am_tb := List.mem_filter.mpr ⟨List.mem_of_getElem? (i := 65) (by decide +kernel), by decide +kernel⟩
theorem tw_1346 : Cond.methodLink RX12 304 yX12_clears ∈ am_tb := List.mem_filter.mpr ⟨List.mem_of_getElem? (i := 1346) (by decide +kernel), by decide +kernel⟩
theorem tw_1352 : Cond.instanceMethod yX12_carries ∈ am_tb := List.mem_filter.mpr ⟨List.mem_of_getElem? (i := 1352) (by decide +kernel), by decide +kernel⟩
theorem tw_66 : Cond.selects RX12 yX12_carries yX12_carries ∈ am_tb := List.mem_filter.mpr ⟨List.mem_of_getElem? (i := 66) (by decide +kernel), by decide +kernel⟩
theorem tw_1350 : Cond.methodLink RX12 308 yX12_carries ∈ am_tb := List.mem_filter.mpr ⟨List.mem_of_getElem? (i := 1350) (by decide +kernel), by decide +kernel⟩
theorem tw_1269 : Cond.code yX12_readsStatement cX12_readsStatement 5 (some .boolean) ∈ am_tb := List.mem_filter.mpr ⟨List.mem_of_getElem? (i := 1269) (by decide +kernel), by decide +kernel⟩
theorem tw_1268 : Cond.instanceMethod yX12_readsStatement ∈ am_tb := List.mem_filter.mpr ⟨List.mem_of_getElem? (i := 1268) (by decide +kernel), by decide +kernel⟩
theorem tw_51 : Cond.selects RX12 yX12_readsStatement yX12_readsStatement ∈ am_tb := List.mem_filter.mpr ⟨List.mem_of_getElem? (i := 51) (by decide +kernel), by decide +kernel⟩
theorem tw_1266 : Cond.methodLink RX12 311 yX12_readsStatement ∈ am_tb := List.mem_filter.mpr ⟨List.mem_of_getElem? (i := 1266) (by decide +kernel), by decide +kernel⟩
theorem tw_1265 : Cond.code yX12_readsSums cX12_readsSums 4 (some .boolean) ∈ am_tb := List.mem_filter.mpr ⟨List.mem_of_getElem? (i := 1265) (by decide +kernel), by decide +kernel⟩
theorem tw_1213 : Cond.instanceMethod yX12_readsFrame ∈ am_tb := List.mem_filter.mpr ⟨List.mem_of_getElem? (i := 1213) (by decide +kernel), by decide +kernel⟩
theorem tw_41 : Cond.selects RX12 yX12_readsFrame yX12_readsFrame ∈ am_tb := List.mem_filter.mpr ⟨List.mem_of_getElem? (i := 41) (by decide +kernel), by decide +kernel⟩
theorem tw_1211 : Cond.methodLink RX12 314 yX12_readsFrame ∈ am_tb := List.mem_filter.mpr ⟨List.mem_of_getElem? (i := 1211) (by decide +kernel), by decide +kernel⟩
theorem tw_1264 : Cond.instanceMethod yX12_readsSums ∈ am_tb := List.mem_filter.mpr ⟨List.mem_of_getElem? (i := 1264) (by decide +kernel), by decide +kernel⟩
theorem tw_50 : Cond.selects RX12 yX12_readsSums yX12_readsSums ∈ am_tb := List.mem_filter.mpr ⟨List.mem_of_getElem? (i := 50) (by decide +kernel), by decide +kernel⟩
theorem tw_1262 : Cond.methodLink RX12 317 yX12_readsSums ∈ am_tb := List.mem_filter.mpr ⟨List.mem_of_getElem? (i := 1262) (by decide +kernel), by decide +kernel⟩
theorem tw_1210 : Cond.code yX12_fault cX12_fault 3 (some .int) ∈ am_tb := List.mem_filter.mpr ⟨List.mem_of_getElem? (i := 1210) (by decide +kernel), by decide +kernel⟩
theorem tw_1061 : Cond.fieldLink RX12 321 "RodBeadsModel" "seenMany" "I" ∈ am_tb := List.mem_filter.mpr ⟨List.mem_of_getElem? (i := 1061) (by decide +kernel), by decide +kernel⟩
theorem tw_1056 : Cond.fieldLink RX12 324 "RodBeadsModel" "undoMany" "I" ∈ am_tb := List.mem_filter.mpr ⟨List.mem_of_getElem? (i := 1056) (by decide +kernel), by decide +kernel⟩
theorem tw_1361 : Cond.code yX12_frame cX12_frame 2 (some .int) ∈ am_tb := List.mem_filter.mpr ⟨List.mem_of_getElem? (i := 1361) (by decide +kernel), by decide +kernel⟩
theorem tw_1369 : Cond.code yX12_remember cX12_remember 2 none ∈ am_tb := List.mem_filter.mpr ⟨List.mem_of_getElem? (i := 1369) (by decide +kernel), by decide +kernel⟩
theorem tw_1368 : Cond.instanceMethod yX12_remember ∈ am_tb := List.mem_filter.mpr ⟨List.mem_of_getElem? (i := 1368) (by decide +kernel), by decide +kernel⟩
theorem tw_68 : Cond.selects RX12 yX12_remember yX12_remember ∈ am_tb := List.mem_filter.mpr ⟨List.mem_of_getElem? (i := 68) (by decide +kernel), by decide +kernel⟩
theorem tw_1366 : Cond.methodLink RX12 327 yX12_remember ∈ am_tb := List.mem_filter.mpr ⟨List.mem_of_getElem? (i := 1366) (by decide +kernel), by decide +kernel⟩
theorem tw_1365 : Cond.code yX12_run cX12_run 1 (some .int) ∈ am_tb := List.mem_filter.mpr ⟨List.mem_of_getElem? (i := 1365) (by decide +kernel), by decide +kernel⟩
theorem tw_1057 : Cond.fieldLink RX12 330 "RodBeadsModel" "undoAt" "I" ∈ am_tb := List.mem_filter.mpr ⟨List.mem_of_getElem? (i := 1057) (by decide +kernel), by decide +kernel⟩
theorem tw_1377 : Cond.code yX12_isPart cX12_isPart 3 (some .boolean) ∈ am_tb := List.mem_filter.mpr ⟨List.mem_of_getElem? (i := 1377) (by decide +kernel), by decide +kernel⟩
theorem tw_1376 : Cond.instanceMethod yX12_isPart ∈ am_tb := List.mem_filter.mpr ⟨List.mem_of_getElem? (i := 1376) (by decide +kernel), by decide +kernel⟩
theorem tw_69 : Cond.selects RX12 yX12_isPart yX12_isPart ∈ am_tb := List.mem_filter.mpr ⟨List.mem_of_getElem? (i := 69) (by decide +kernel), by decide +kernel⟩
theorem tw_1374 : Cond.methodLink RX12 333 yX12_isPart ∈ am_tb := List.mem_filter.mpr ⟨List.mem_of_getElem? (i := 1374) (by decide +kernel), by decide +kernel⟩
theorem tw_1380 : Cond.instanceMethod yX12_beads ∈ am_tb := List.mem_filter.mpr ⟨List.mem_of_getElem? (i := 1380) (by decide +kernel), by decide +kernel⟩
theorem tw_70 : Cond.selects RX12 yX12_beads yX12_beads ∈ am_tb := List.mem_filter.mpr ⟨List.mem_of_getElem? (i := 70) (by decide +kernel), by decide +kernel⟩
theorem tw_1378 : Cond.methodLink RX12 336 yX12_beads ∈ am_tb := List.mem_filter.mpr ⟨List.mem_of_getElem? (i := 1378) (by decide +kernel), by decide +kernel⟩
theorem tw_1382 : Cond.methodLink RX12 339 yX12_pushedOf ∈ am_tb := List.mem_filter.mpr ⟨List.mem_of_getElem? (i := 1382) (by decide +kernel), by decide +kernel⟩
theorem tw_1383 : Cond.static yX12_pushedOf ∈ am_tb := List.mem_filter.mpr ⟨List.mem_of_getElem? (i := 1383) (by decide +kernel), by decide +kernel⟩
theorem tw_1373 : Cond.code yX12_push cX12_push 5 (some .int) ∈ am_tb := List.mem_filter.mpr ⟨List.mem_of_getElem? (i := 1373) (by decide +kernel), by decide +kernel⟩
theorem tw_1388 : Cond.code yX12_stick cX12_stick 3 (some .int) ∈ am_tb := List.mem_filter.mpr ⟨List.mem_of_getElem? (i := 1388) (by decide +kernel), by decide +kernel⟩
theorem tw_1395 : Cond.code yX12_isNumber cX12_isNumber 1 (some .boolean) ∈ am_tb := List.mem_filter.mpr ⟨List.mem_of_getElem? (i := 1395) (by decide +kernel), by decide +kernel⟩
theorem tw_1393 : Cond.methodLink RX12 342 yX12_isNumber ∈ am_tb := List.mem_filter.mpr ⟨List.mem_of_getElem? (i := 1393) (by decide +kernel), by decide +kernel⟩
theorem tw_1394 : Cond.static yX12_isNumber ∈ am_tb := List.mem_filter.mpr ⟨List.mem_of_getElem? (i := 1394) (by decide +kernel), by decide +kernel⟩
theorem tw_1392 : Cond.code yX12_set cX12_set 2 (some .int) ∈ am_tb := List.mem_filter.mpr ⟨List.mem_of_getElem? (i := 1392) (by decide +kernel), by decide +kernel⟩
theorem tw_1403 : Cond.code yX12_copyNow cX12_copyNow 2 none ∈ am_tb := List.mem_filter.mpr ⟨List.mem_of_getElem? (i := 1403) (by decide +kernel), by decide +kernel⟩
theorem tw_1402 : Cond.instanceMethod yX12_copyNow ∈ am_tb := List.mem_filter.mpr ⟨List.mem_of_getElem? (i := 1402) (by decide +kernel), by decide +kernel⟩
theorem tw_71 : Cond.selects RX12 yX12_copyNow yX12_copyNow ∈ am_tb := List.mem_filter.mpr ⟨List.mem_of_getElem? (i := 71) (by decide +kernel), by decide +kernel⟩
theorem tw_1400 : Cond.methodLink RX12 345 yX12_copyNow ∈ am_tb := List.mem_filter.mpr ⟨List.mem_of_getElem? (i := 1400) (by decide +kernel), by decide +kernel⟩
theorem tw_1399 : Cond.code yX12_carry cX12_carry 2 (some .int) ∈ am_tb := List.mem_filter.mpr ⟨List.mem_of_getElem? (i := 1399) (by decide +kernel), by decide +kernel⟩
theorem tw_1407 : Cond.code yX12_undo cX12_undo 2 (some .int) ∈ am_tb := List.mem_filter.mpr ⟨List.mem_of_getElem? (i := 1407) (by decide +kernel), by decide +kernel⟩
theorem tw_1415 : Cond.code yX12_allPushed cX12_allPushed 3 (some .int) ∈ am_tb := List.mem_filter.mpr ⟨List.mem_of_getElem? (i := 1415) (by decide +kernel), by decide +kernel⟩
theorem tw_1414 : Cond.instanceMethod yX12_allPushed ∈ am_tb := List.mem_filter.mpr ⟨List.mem_of_getElem? (i := 1414) (by decide +kernel), by decide +kernel⟩
theorem tw_72 : Cond.selects RX12 yX12_allPushed yX12_allPushed ∈ am_tb := List.mem_filter.mpr ⟨List.mem_of_getElem? (i := 72) (by decide +kernel), by decide +kernel⟩
theorem tw_1412 : Cond.methodLink RX12 348 yX12_allPushed ∈ am_tb := List.mem_filter.mpr ⟨List.mem_of_getElem? (i := 1412) (by decide +kernel), by decide +kernel⟩
theorem tw_1411 : Cond.code yX12_keep cX12_keep 3 (some .int) ∈ am_tb := List.mem_filter.mpr ⟨List.mem_of_getElem? (i := 1411) (by decide +kernel), by decide +kernel⟩
theorem tw_1419 : Cond.code yX12_back cX12_back 3 (some .int) ∈ am_tb := List.mem_filter.mpr ⟨List.mem_of_getElem? (i := 1419) (by decide +kernel), by decide +kernel⟩
theorem tw_1423 : Cond.code yX12_ways cX12_ways 2 (some .int) ∈ am_tb := List.mem_filter.mpr ⟨List.mem_of_getElem? (i := 1423) (by decide +kernel), by decide +kernel⟩
theorem tw_1427 : Cond.code yX12_time cX12_time 2 (some .int) ∈ am_tb := List.mem_filter.mpr ⟨List.mem_of_getElem? (i := 1427) (by decide +kernel), by decide +kernel⟩
theorem tw_1431 : Cond.code yX12_pushed cX12_pushed 4 (some .int) ∈ am_tb := List.mem_filter.mpr ⟨List.mem_of_getElem? (i := 1431) (by decide +kernel), by decide +kernel⟩
theorem tw_1441 : Cond.code yX12_edge cX12_edge 7 (some .long) ∈ am_tb := List.mem_filter.mpr ⟨List.mem_of_getElem? (i := 1441) (by decide +kernel), by decide +kernel⟩
theorem tw_1436 : Cond.constantLong RX12 352 (2) ∈ am_tb := List.mem_filter.mpr ⟨List.mem_of_getElem? (i := 1436) (by decide +kernel), by decide +kernel⟩
theorem tw_1437 : Cond.constantLong RX12 354 (-3) ∈ am_tb := List.mem_filter.mpr ⟨List.mem_of_getElem? (i := 1437) (by decide +kernel), by decide +kernel⟩
theorem tw_1440 : Cond.instanceMethod yX12_edge ∈ am_tb := List.mem_filter.mpr ⟨List.mem_of_getElem? (i := 1440) (by decide +kernel), by decide +kernel⟩
theorem tw_73 : Cond.selects RX12 yX12_edge yX12_edge ∈ am_tb := List.mem_filter.mpr ⟨List.mem_of_getElem? (i := 73) (by decide +kernel), by decide +kernel⟩
theorem tw_1438 : Cond.methodLink RX12 356 yX12_edge ∈ am_tb := List.mem_filter.mpr ⟨List.mem_of_getElem? (i := 1438) (by decide +kernel), by decide +kernel⟩
theorem tw_1442 : Cond.constantLong RX12 360 (-1) ∈ am_tb := List.mem_filter.mpr ⟨List.mem_of_getElem? (i := 1442) (by decide +kernel), by decide +kernel⟩
theorem tw_1435 : Cond.code yX12_span cX12_span 5 (some .long) ∈ am_tb := List.mem_filter.mpr ⟨List.mem_of_getElem? (i := 1435) (by decide +kernel), by decide +kernel⟩
theorem tw_1446 : Cond.code yX12_nearest cX12_nearest 3 (some .int) ∈ am_tb := List.mem_filter.mpr ⟨List.mem_of_getElem? (i := 1446) (by decide +kernel), by decide +kernel⟩
theorem tw_1451 : Cond.methodLink RX12 362 yX12_bits ∈ am_tb := List.mem_filter.mpr ⟨List.mem_of_getElem? (i := 1451) (by decide +kernel), by decide +kernel⟩
theorem tw_1452 : Cond.static yX12_bits ∈ am_tb := List.mem_filter.mpr ⟨List.mem_of_getElem? (i := 1452) (by decide +kernel), by decide +kernel⟩
theorem tw_1450 : Cond.code yX12_loosen cX12_loosen 5 (some .int) ∈ am_tb := List.mem_filter.mpr ⟨List.mem_of_getElem? (i := 1450) (by decide +kernel), by decide +kernel⟩
theorem tw_1461 : Cond.code yX12_inOrder cX12_inOrder 5 (some .int) ∈ am_tb := List.mem_filter.mpr ⟨List.mem_of_getElem? (i := 1461) (by decide +kernel), by decide +kernel⟩
theorem tw_1458 : Cond.constantLong RX12 365 (1000000) ∈ am_tb := List.mem_filter.mpr ⟨List.mem_of_getElem? (i := 1458) (by decide +kernel), by decide +kernel⟩
theorem tw_1459 : Cond.methodLink RX12 367 yX12_inOrder ∈ am_tb := List.mem_filter.mpr ⟨List.mem_of_getElem? (i := 1459) (by decide +kernel), by decide +kernel⟩
theorem tw_1460 : Cond.static yX12_inOrder ∈ am_tb := List.mem_filter.mpr ⟨List.mem_of_getElem? (i := 1460) (by decide +kernel), by decide +kernel⟩
theorem tw_1457 : Cond.code yX12_tour cX12_tour 12 (some .int) ∈ am_tb := List.mem_filter.mpr ⟨List.mem_of_getElem? (i := 1457) (by decide +kernel), by decide +kernel⟩
theorem tw_1466 : Cond.constantLong RX12 370 (40) ∈ am_tb := List.mem_filter.mpr ⟨List.mem_of_getElem? (i := 1466) (by decide +kernel), by decide +kernel⟩
theorem tw_1467 : Cond.constantLong RX12 372 (99) ∈ am_tb := List.mem_filter.mpr ⟨List.mem_of_getElem? (i := 1467) (by decide +kernel), by decide +kernel⟩
theorem tw_1465 : Cond.code yX12_seen cX12_seen 4 (some .int) ∈ am_tb := List.mem_filter.mpr ⟨List.mem_of_getElem? (i := 1465) (by decide +kernel), by decide +kernel⟩
theorem tw_1471 : Cond.code yX12_forget cX12_forget 2 (some .int) ∈ am_tb := List.mem_filter.mpr ⟨List.mem_of_getElem? (i := 1471) (by decide +kernel), by decide +kernel⟩
theorem tw_1479 : Cond.code yX12_least cX12_least 8 (some .int) ∈ am_tb := List.mem_filter.mpr ⟨List.mem_of_getElem? (i := 1479) (by decide +kernel), by decide +kernel⟩
theorem tw_1478 : Cond.instanceMethod yX12_least ∈ am_tb := List.mem_filter.mpr ⟨List.mem_of_getElem? (i := 1478) (by decide +kernel), by decide +kernel⟩
theorem tw_74 : Cond.selects RX12 yX12_least yX12_least ∈ am_tb := List.mem_filter.mpr ⟨List.mem_of_getElem? (i := 74) (by decide +kernel), by decide +kernel⟩
theorem tw_1476 : Cond.methodLink RX12 374 yX12_least ∈ am_tb := List.mem_filter.mpr ⟨List.mem_of_getElem? (i := 1476) (by decide +kernel), by decide +kernel⟩
theorem tw_1475 : Cond.code yX12_kinds cX12_kinds 6 (some .int) ∈ am_tb := List.mem_filter.mpr ⟨List.mem_of_getElem? (i := 1475) (by decide +kernel), by decide +kernel⟩
theorem tw_1491 : Cond.code yX12_common cX12_common 10 (some .long) ∈ am_tb := List.mem_filter.mpr ⟨List.mem_of_getElem? (i := 1491) (by decide +kernel), by decide +kernel⟩
theorem tw_1488 : Cond.code yX12_partsOf cX12_partsOf 6 (some .long) ∈ am_tb := List.mem_filter.mpr ⟨List.mem_of_getElem? (i := 1488) (by decide +kernel), by decide +kernel⟩
theorem tw_1484 : Cond.constantLong RX12 377 (-2) ∈ am_tb := List.mem_filter.mpr ⟨List.mem_of_getElem? (i := 1484) (by decide +kernel), by decide +kernel⟩
theorem tw_1485 : Cond.constantLong RX12 379 (60) ∈ am_tb := List.mem_filter.mpr ⟨List.mem_of_getElem? (i := 1485) (by decide +kernel), by decide +kernel⟩
theorem tw_1486 : Cond.methodLink RX12 381 yX12_partsOf ∈ am_tb := List.mem_filter.mpr ⟨List.mem_of_getElem? (i := 1486) (by decide +kernel), by decide +kernel⟩
theorem tw_1487 : Cond.static yX12_partsOf ∈ am_tb := List.mem_filter.mpr ⟨List.mem_of_getElem? (i := 1487) (by decide +kernel), by decide +kernel⟩
theorem tw_1489 : Cond.methodLink RX12 385 yX12_common ∈ am_tb := List.mem_filter.mpr ⟨List.mem_of_getElem? (i := 1489) (by decide +kernel), by decide +kernel⟩
theorem tw_1490 : Cond.static yX12_common ∈ am_tb := List.mem_filter.mpr ⟨List.mem_of_getElem? (i := 1490) (by decide +kernel), by decide +kernel⟩
theorem tw_1483 : Cond.code yX12_slips cX12_slips 11 (some .long) ∈ am_tb := List.mem_filter.mpr ⟨List.mem_of_getElem? (i := 1483) (by decide +kernel), by decide +kernel⟩
theorem tw_1495 : Cond.code yX12_count cX12_count 4 (some .int) ∈ am_tb := List.mem_filter.mpr ⟨List.mem_of_getElem? (i := 1495) (by decide +kernel), by decide +kernel⟩
theorem tw_1502 : Cond.fieldLink RJ0 9 "java/lang/String" "value" "[B" ∈ am_tb := List.mem_filter.mpr ⟨List.mem_of_getElem? (i := 1502) (by decide +kernel), by decide +kernel⟩
theorem tw_373 : Cond.code yJ0_coder_7d493 cJ0_coder_7d493 1 (some .byte) ∈ am_tb := List.mem_filter.mpr ⟨List.mem_of_getElem? (i := 373) (by decide +kernel), by decide +kernel⟩
theorem tw_371 : Cond.instanceMethod yJ0_coder_7d493 ∈ am_tb := List.mem_filter.mpr ⟨List.mem_of_getElem? (i := 371) (by decide +kernel), by decide +kernel⟩
theorem tw_372 : Cond.selects RJ0 yJ0_coder_7d493 yJ0_coder_7d493 ∈ am_tb := List.mem_filter.mpr ⟨List.mem_of_getElem? (i := 372) (by decide +kernel), by decide +kernel⟩
theorem tw_370 : Cond.methodLink RJ0 335 yJ0_coder_7d493 ∈ am_tb := List.mem_filter.mpr ⟨List.mem_of_getElem? (i := 370) (by decide +kernel), by decide +kernel⟩
theorem tw_383 : Cond.code yJ0_isLatin1_aae02 cJ0_isLatin1_aae02 1 (some .boolean) ∈ am_tb := List.mem_filter.mpr ⟨List.mem_of_getElem? (i := 383) (by decide +kernel), by decide +kernel⟩
theorem tw_381 : Cond.instanceMethod yJ0_isLatin1_aae02 ∈ am_tb := List.mem_filter.mpr ⟨List.mem_of_getElem? (i := 381) (by decide +kernel), by decide +kernel⟩
theorem tw_382 : Cond.selects RJ0 yJ0_isLatin1_aae02 yJ0_isLatin1_aae02 ∈ am_tb := List.mem_filter.mpr ⟨List.mem_of_getElem? (i := 382) (by decide +kernel), by decide +kernel⟩
theorem tw_380 : Cond.methodLink RJ0 492 yJ0_isLatin1_aae02 ∈ am_tb := List.mem_filter.mpr ⟨List.mem_of_getElem? (i := 380) (by decide +kernel), by decide +kernel⟩
theorem tw_386 : Cond.code yJ1_charAt_3b067 cJ1_charAt_3b067 2 (some .char) ∈ am_tb := List.mem_filter.mpr ⟨List.mem_of_getElem? (i := 386) (by decide +kernel), by decide +kernel⟩
theorem tw_86 : Cond.initialized RJ1 ∈ am_tb := List.mem_filter.mpr ⟨List.mem_of_getElem? (i := 86) (by decide +kernel), by decide +kernel⟩
theorem tw_384 : Cond.methodLink RJ0 495 yJ1_charAt_3b067 ∈ am_tb := List.mem_filter.mpr ⟨List.mem_of_getElem? (i := 384) (by decide +kernel), by decide +kernel⟩
theorem tw_385 : Cond.static yJ1_charAt_3b067 ∈ am_tb := List.mem_filter.mpr ⟨List.mem_of_getElem? (i := 385) (by decide +kernel), by decide +kernel⟩
theorem tw_374 : Cond.fieldLink RJ0 38 "java/lang/String" "COMPACT_STRINGS" "Z" ∈ am_tb := List.mem_filter.mpr ⟨List.mem_of_getElem? (i := 374) (by decide +kernel), by decide +kernel⟩
theorem tw_1503 : Cond.fieldLink RJ0 15 "java/lang/String" "coder" "B" ∈ am_tb := List.mem_filter.mpr ⟨List.mem_of_getElem? (i := 1503) (by decide +kernel), by decide +kernel⟩
theorem tw_390 : Cond.fieldLink RJ0 1053 "jdk/internal/util/Preconditions" "SIOOBE_FORMATTER" "Ljava/util/function/BiFunction;" ∈ am_tb := List.mem_filter.mpr ⟨List.mem_of_getElem? (i := 390) (by decide +kernel), by decide +kernel⟩
theorem tw_394 : Cond.code yJ3_checkIndex_8e157 cJ3_checkIndex_8e157 3 (some .int) ∈ am_tb := List.mem_filter.mpr ⟨List.mem_of_getElem? (i := 394) (by decide +kernel), by decide +kernel⟩
theorem tw_87 : Cond.initialized RJ3 ∈ am_tb := List.mem_filter.mpr ⟨List.mem_of_getElem? (i := 87) (by decide +kernel), by decide +kernel⟩
theorem tw_392 : Cond.methodLink RJ0 1059 yJ3_checkIndex_8e157 ∈ am_tb := List.mem_filter.mpr ⟨List.mem_of_getElem? (i := 392) (by decide +kernel), by decide +kernel⟩
theorem tw_393 : Cond.static yJ3_checkIndex_8e157 ∈ am_tb := List.mem_filter.mpr ⟨List.mem_of_getElem? (i := 393) (by decide +kernel), by decide +kernel⟩
theorem tw_389 : Cond.code yJ0_checkIndex_df160 cJ0_checkIndex_df160 2 none ∈ am_tb := List.mem_filter.mpr ⟨List.mem_of_getElem? (i := 389) (by decide +kernel), by decide +kernel⟩
theorem tw_387 : Cond.methodLink RJ1 9 yJ0_checkIndex_df160 ∈ am_tb := List.mem_filter.mpr ⟨List.mem_of_getElem? (i := 387) (by decide +kernel), by decide +kernel⟩
theorem tw_388 : Cond.static yJ0_checkIndex_df160 ∈ am_tb := List.mem_filter.mpr ⟨List.mem_of_getElem? (i := 388) (by decide +kernel), by decide +kernel⟩
theorem tw_95 : Cond.classLink RL 7 RX11 ∈ am_tb := List.mem_filter.mpr ⟨List.mem_of_getElem? (i := 95) (by decide +kernel), by decide +kernel⟩
theorem tw_96 : Cond.instantiable RX11 16 ∈ am_tb := List.mem_filter.mpr ⟨List.mem_of_getElem? (i := 96) (by decide +kernel), by decide +kernel⟩
theorem tw_97 : Cond.methodLink RL 9 yX11_init ∈ am_tb := List.mem_filter.mpr ⟨List.mem_of_getElem? (i := 97) (by decide +kernel), by decide +kernel⟩
theorem tw_98 : Cond.instanceMethod yX11_init ∈ am_tb := List.mem_filter.mpr ⟨List.mem_of_getElem? (i := 98) (by decide +kernel), by decide +kernel⟩
theorem tw_1015 : Cond.classLink RL 10 RX12 ∈ am_tb := List.mem_filter.mpr ⟨List.mem_of_getElem? (i := 1015) (by decide +kernel), by decide +kernel⟩
theorem tw_1016 : Cond.instantiable RX12 44 ∈ am_tb := List.mem_filter.mpr ⟨List.mem_of_getElem? (i := 1016) (by decide +kernel), by decide +kernel⟩
theorem tw_1017 : Cond.methodLink RL 12 yX12_init ∈ am_tb := List.mem_filter.mpr ⟨List.mem_of_getElem? (i := 1017) (by decide +kernel), by decide +kernel⟩
theorem tw_1018 : Cond.instanceMethod yX12_init ∈ am_tb := List.mem_filter.mpr ⟨List.mem_of_getElem? (i := 1018) (by decide +kernel), by decide +kernel⟩
theorem tw_302 : Cond.instanceMethod yX11_write ∈ am_tb := List.mem_filter.mpr ⟨List.mem_of_getElem? (i := 302) (by decide +kernel), by decide +kernel⟩
theorem tw_303 : Cond.selects RX11 yX11_write yX11_write ∈ am_tb := List.mem_filter.mpr ⟨List.mem_of_getElem? (i := 303) (by decide +kernel), by decide +kernel⟩
theorem tw_301 : Cond.methodLink RL 13 yX11_write ∈ am_tb := List.mem_filter.mpr ⟨List.mem_of_getElem? (i := 301) (by decide +kernel), by decide +kernel⟩
theorem tw_1199 : Cond.instanceMethod yX12_write ∈ am_tb := List.mem_filter.mpr ⟨List.mem_of_getElem? (i := 1199) (by decide +kernel), by decide +kernel⟩
theorem tw_1200 : Cond.selects RX12 yX12_write yX12_write ∈ am_tb := List.mem_filter.mpr ⟨List.mem_of_getElem? (i := 1200) (by decide +kernel), by decide +kernel⟩
theorem tw_1198 : Cond.methodLink RL 17 yX12_write ∈ am_tb := List.mem_filter.mpr ⟨List.mem_of_getElem? (i := 1198) (by decide +kernel), by decide +kernel⟩
theorem tw_313 : Cond.instanceMethod yX11_erase ∈ am_tb := List.mem_filter.mpr ⟨List.mem_of_getElem? (i := 313) (by decide +kernel), by decide +kernel⟩
theorem tw_314 : Cond.selects RX11 yX11_erase yX11_erase ∈ am_tb := List.mem_filter.mpr ⟨List.mem_of_getElem? (i := 314) (by decide +kernel), by decide +kernel⟩
theorem tw_312 : Cond.methodLink RL 18 yX11_erase ∈ am_tb := List.mem_filter.mpr ⟨List.mem_of_getElem? (i := 312) (by decide +kernel), by decide +kernel⟩
theorem tw_1204 : Cond.instanceMethod yX12_erase ∈ am_tb := List.mem_filter.mpr ⟨List.mem_of_getElem? (i := 1204) (by decide +kernel), by decide +kernel⟩
theorem tw_1205 : Cond.selects RX12 yX12_erase yX12_erase ∈ am_tb := List.mem_filter.mpr ⟨List.mem_of_getElem? (i := 1205) (by decide +kernel), by decide +kernel⟩
theorem tw_1203 : Cond.methodLink RL 22 yX12_erase ∈ am_tb := List.mem_filter.mpr ⟨List.mem_of_getElem? (i := 1203) (by decide +kernel), by decide +kernel⟩
theorem tw_317 : Cond.instanceMethod yX11_fault ∈ am_tb := List.mem_filter.mpr ⟨List.mem_of_getElem? (i := 317) (by decide +kernel), by decide +kernel⟩
theorem tw_318 : Cond.selects RX11 yX11_fault yX11_fault ∈ am_tb := List.mem_filter.mpr ⟨List.mem_of_getElem? (i := 318) (by decide +kernel), by decide +kernel⟩
theorem tw_316 : Cond.methodLink RL 23 yX11_fault ∈ am_tb := List.mem_filter.mpr ⟨List.mem_of_getElem? (i := 316) (by decide +kernel), by decide +kernel⟩
theorem tw_1208 : Cond.instanceMethod yX12_fault ∈ am_tb := List.mem_filter.mpr ⟨List.mem_of_getElem? (i := 1208) (by decide +kernel), by decide +kernel⟩
theorem tw_1209 : Cond.selects RX12 yX12_fault yX12_fault ∈ am_tb := List.mem_filter.mpr ⟨List.mem_of_getElem? (i := 1209) (by decide +kernel), by decide +kernel⟩
theorem tw_1207 : Cond.methodLink RL 26 yX12_fault ∈ am_tb := List.mem_filter.mpr ⟨List.mem_of_getElem? (i := 1207) (by decide +kernel), by decide +kernel⟩
theorem tw_568 : Cond.instanceMethod yX11_frame ∈ am_tb := List.mem_filter.mpr ⟨List.mem_of_getElem? (i := 568) (by decide +kernel), by decide +kernel⟩
theorem tw_569 : Cond.selects RX11 yX11_frame yX11_frame ∈ am_tb := List.mem_filter.mpr ⟨List.mem_of_getElem? (i := 569) (by decide +kernel), by decide +kernel⟩
theorem tw_567 : Cond.methodLink RL 27 yX11_frame ∈ am_tb := List.mem_filter.mpr ⟨List.mem_of_getElem? (i := 567) (by decide +kernel), by decide +kernel⟩
theorem tw_1359 : Cond.instanceMethod yX12_frame ∈ am_tb := List.mem_filter.mpr ⟨List.mem_of_getElem? (i := 1359) (by decide +kernel), by decide +kernel⟩
theorem tw_1360 : Cond.selects RX12 yX12_frame yX12_frame ∈ am_tb := List.mem_filter.mpr ⟨List.mem_of_getElem? (i := 1360) (by decide +kernel), by decide +kernel⟩
theorem tw_1358 : Cond.methodLink RL 30 yX12_frame ∈ am_tb := List.mem_filter.mpr ⟨List.mem_of_getElem? (i := 1358) (by decide +kernel), by decide +kernel⟩
theorem tw_579 : Cond.instanceMethod yX11_run ∈ am_tb := List.mem_filter.mpr ⟨List.mem_of_getElem? (i := 579) (by decide +kernel), by decide +kernel⟩
theorem tw_580 : Cond.selects RX11 yX11_run yX11_run ∈ am_tb := List.mem_filter.mpr ⟨List.mem_of_getElem? (i := 580) (by decide +kernel), by decide +kernel⟩
theorem tw_578 : Cond.methodLink RL 31 yX11_run ∈ am_tb := List.mem_filter.mpr ⟨List.mem_of_getElem? (i := 578) (by decide +kernel), by decide +kernel⟩
theorem tw_1363 : Cond.instanceMethod yX12_run ∈ am_tb := List.mem_filter.mpr ⟨List.mem_of_getElem? (i := 1363) (by decide +kernel), by decide +kernel⟩
theorem tw_1364 : Cond.selects RX12 yX12_run yX12_run ∈ am_tb := List.mem_filter.mpr ⟨List.mem_of_getElem? (i := 1364) (by decide +kernel), by decide +kernel⟩
theorem tw_1362 : Cond.methodLink RL 34 yX12_run ∈ am_tb := List.mem_filter.mpr ⟨List.mem_of_getElem? (i := 1362) (by decide +kernel), by decide +kernel⟩
theorem tw_783 : Cond.instanceMethod yX11_rod ∈ am_tb := List.mem_filter.mpr ⟨List.mem_of_getElem? (i := 783) (by decide +kernel), by decide +kernel⟩
theorem tw_784 : Cond.selects RX11 yX11_rod yX11_rod ∈ am_tb := List.mem_filter.mpr ⟨List.mem_of_getElem? (i := 784) (by decide +kernel), by decide +kernel⟩
theorem tw_782 : Cond.methodLink RL 35 yX11_rod ∈ am_tb := List.mem_filter.mpr ⟨List.mem_of_getElem? (i := 782) (by decide +kernel), by decide +kernel⟩
theorem tw_1177 : Cond.instanceMethod yX12_rod ∈ am_tb := List.mem_filter.mpr ⟨List.mem_of_getElem? (i := 1177) (by decide +kernel), by decide +kernel⟩
theorem tw_1178 : Cond.selects RX12 yX12_rod yX12_rod ∈ am_tb := List.mem_filter.mpr ⟨List.mem_of_getElem? (i := 1178) (by decide +kernel), by decide +kernel⟩
theorem tw_1176 : Cond.methodLink RL 39 yX12_rod ∈ am_tb := List.mem_filter.mpr ⟨List.mem_of_getElem? (i := 1176) (by decide +kernel), by decide +kernel⟩
theorem tw_803 : Cond.instanceMethod yX11_number ∈ am_tb := List.mem_filter.mpr ⟨List.mem_of_getElem? (i := 803) (by decide +kernel), by decide +kernel⟩
theorem tw_804 : Cond.selects RX11 yX11_number yX11_number ∈ am_tb := List.mem_filter.mpr ⟨List.mem_of_getElem? (i := 804) (by decide +kernel), by decide +kernel⟩
theorem tw_802 : Cond.methodLink RL 40 yX11_number ∈ am_tb := List.mem_filter.mpr ⟨List.mem_of_getElem? (i := 802) (by decide +kernel), by decide +kernel⟩
theorem tw_1157 : Cond.instanceMethod yX12_number ∈ am_tb := List.mem_filter.mpr ⟨List.mem_of_getElem? (i := 1157) (by decide +kernel), by decide +kernel⟩
theorem tw_1158 : Cond.selects RX12 yX12_number yX12_number ∈ am_tb := List.mem_filter.mpr ⟨List.mem_of_getElem? (i := 1158) (by decide +kernel), by decide +kernel⟩
theorem tw_1156 : Cond.methodLink RL 44 yX12_number ∈ am_tb := List.mem_filter.mpr ⟨List.mem_of_getElem? (i := 1156) (by decide +kernel), by decide +kernel⟩
theorem tw_807 : Cond.instanceMethod yX11_as ∈ am_tb := List.mem_filter.mpr ⟨List.mem_of_getElem? (i := 807) (by decide +kernel), by decide +kernel⟩
theorem tw_808 : Cond.selects RX11 yX11_as yX11_as ∈ am_tb := List.mem_filter.mpr ⟨List.mem_of_getElem? (i := 808) (by decide +kernel), by decide +kernel⟩
theorem tw_806 : Cond.methodLink RL 45 yX11_as ∈ am_tb := List.mem_filter.mpr ⟨List.mem_of_getElem? (i := 806) (by decide +kernel), by decide +kernel⟩
theorem tw_1194 : Cond.instanceMethod yX12_as ∈ am_tb := List.mem_filter.mpr ⟨List.mem_of_getElem? (i := 1194) (by decide +kernel), by decide +kernel⟩
theorem tw_1195 : Cond.selects RX12 yX12_as yX12_as ∈ am_tb := List.mem_filter.mpr ⟨List.mem_of_getElem? (i := 1195) (by decide +kernel), by decide +kernel⟩
theorem tw_1193 : Cond.methodLink RL 48 yX12_as ∈ am_tb := List.mem_filter.mpr ⟨List.mem_of_getElem? (i := 1193) (by decide +kernel), by decide +kernel⟩
theorem tw_819 : Cond.instanceMethod yX11_push ∈ am_tb := List.mem_filter.mpr ⟨List.mem_of_getElem? (i := 819) (by decide +kernel), by decide +kernel⟩
theorem tw_820 : Cond.selects RX11 yX11_push yX11_push ∈ am_tb := List.mem_filter.mpr ⟨List.mem_of_getElem? (i := 820) (by decide +kernel), by decide +kernel⟩
theorem tw_818 : Cond.methodLink RL 49 yX11_push ∈ am_tb := List.mem_filter.mpr ⟨List.mem_of_getElem? (i := 818) (by decide +kernel), by decide +kernel⟩
theorem tw_1371 : Cond.instanceMethod yX12_push ∈ am_tb := List.mem_filter.mpr ⟨List.mem_of_getElem? (i := 1371) (by decide +kernel), by decide +kernel⟩
theorem tw_1372 : Cond.selects RX12 yX12_push yX12_push ∈ am_tb := List.mem_filter.mpr ⟨List.mem_of_getElem? (i := 1372) (by decide +kernel), by decide +kernel⟩
theorem tw_1370 : Cond.methodLink RL 53 yX12_push ∈ am_tb := List.mem_filter.mpr ⟨List.mem_of_getElem? (i := 1370) (by decide +kernel), by decide +kernel⟩
theorem tw_835 : Cond.instanceMethod yX11_stick ∈ am_tb := List.mem_filter.mpr ⟨List.mem_of_getElem? (i := 835) (by decide +kernel), by decide +kernel⟩
theorem tw_836 : Cond.selects RX11 yX11_stick yX11_stick ∈ am_tb := List.mem_filter.mpr ⟨List.mem_of_getElem? (i := 836) (by decide +kernel), by decide +kernel⟩
theorem tw_834 : Cond.methodLink RL 54 yX11_stick ∈ am_tb := List.mem_filter.mpr ⟨List.mem_of_getElem? (i := 834) (by decide +kernel), by decide +kernel⟩
theorem tw_1386 : Cond.instanceMethod yX12_stick ∈ am_tb := List.mem_filter.mpr ⟨List.mem_of_getElem? (i := 1386) (by decide +kernel), by decide +kernel⟩
theorem tw_1387 : Cond.selects RX12 yX12_stick yX12_stick ∈ am_tb := List.mem_filter.mpr ⟨List.mem_of_getElem? (i := 1387) (by decide +kernel), by decide +kernel⟩
theorem tw_1385 : Cond.methodLink RL 57 yX12_stick ∈ am_tb := List.mem_filter.mpr ⟨List.mem_of_getElem? (i := 1385) (by decide +kernel), by decide +kernel⟩
theorem tw_840 : Cond.instanceMethod yX11_set ∈ am_tb := List.mem_filter.mpr ⟨List.mem_of_getElem? (i := 840) (by decide +kernel), by decide +kernel⟩
theorem tw_841 : Cond.selects RX11 yX11_set yX11_set ∈ am_tb := List.mem_filter.mpr ⟨List.mem_of_getElem? (i := 841) (by decide +kernel), by decide +kernel⟩
theorem tw_839 : Cond.methodLink RL 58 yX11_set ∈ am_tb := List.mem_filter.mpr ⟨List.mem_of_getElem? (i := 839) (by decide +kernel), by decide +kernel⟩
theorem tw_1390 : Cond.instanceMethod yX12_set ∈ am_tb := List.mem_filter.mpr ⟨List.mem_of_getElem? (i := 1390) (by decide +kernel), by decide +kernel⟩
theorem tw_1391 : Cond.selects RX12 yX12_set yX12_set ∈ am_tb := List.mem_filter.mpr ⟨List.mem_of_getElem? (i := 1391) (by decide +kernel), by decide +kernel⟩
theorem tw_1389 : Cond.methodLink RL 61 yX12_set ∈ am_tb := List.mem_filter.mpr ⟨List.mem_of_getElem? (i := 1389) (by decide +kernel), by decide +kernel⟩
theorem tw_852 : Cond.instanceMethod yX11_carry ∈ am_tb := List.mem_filter.mpr ⟨List.mem_of_getElem? (i := 852) (by decide +kernel), by decide +kernel⟩
theorem tw_853 : Cond.selects RX11 yX11_carry yX11_carry ∈ am_tb := List.mem_filter.mpr ⟨List.mem_of_getElem? (i := 853) (by decide +kernel), by decide +kernel⟩
theorem tw_851 : Cond.methodLink RL 62 yX11_carry ∈ am_tb := List.mem_filter.mpr ⟨List.mem_of_getElem? (i := 851) (by decide +kernel), by decide +kernel⟩
theorem tw_1397 : Cond.instanceMethod yX12_carry ∈ am_tb := List.mem_filter.mpr ⟨List.mem_of_getElem? (i := 1397) (by decide +kernel), by decide +kernel⟩
theorem tw_1398 : Cond.selects RX12 yX12_carry yX12_carry ∈ am_tb := List.mem_filter.mpr ⟨List.mem_of_getElem? (i := 1398) (by decide +kernel), by decide +kernel⟩
theorem tw_1396 : Cond.methodLink RL 65 yX12_carry ∈ am_tb := List.mem_filter.mpr ⟨List.mem_of_getElem? (i := 1396) (by decide +kernel), by decide +kernel⟩
theorem tw_856 : Cond.instanceMethod yX11_undo ∈ am_tb := List.mem_filter.mpr ⟨List.mem_of_getElem? (i := 856) (by decide +kernel), by decide +kernel⟩
theorem tw_857 : Cond.selects RX11 yX11_undo yX11_undo ∈ am_tb := List.mem_filter.mpr ⟨List.mem_of_getElem? (i := 857) (by decide +kernel), by decide +kernel⟩
theorem tw_855 : Cond.methodLink RL 66 yX11_undo ∈ am_tb := List.mem_filter.mpr ⟨List.mem_of_getElem? (i := 855) (by decide +kernel), by decide +kernel⟩
theorem tw_1405 : Cond.instanceMethod yX12_undo ∈ am_tb := List.mem_filter.mpr ⟨List.mem_of_getElem? (i := 1405) (by decide +kernel), by decide +kernel⟩
theorem tw_1406 : Cond.selects RX12 yX12_undo yX12_undo ∈ am_tb := List.mem_filter.mpr ⟨List.mem_of_getElem? (i := 1406) (by decide +kernel), by decide +kernel⟩
theorem tw_1404 : Cond.methodLink RL 69 yX12_undo ∈ am_tb := List.mem_filter.mpr ⟨List.mem_of_getElem? (i := 1404) (by decide +kernel), by decide +kernel⟩
theorem tw_860 : Cond.instanceMethod yX11_keep ∈ am_tb := List.mem_filter.mpr ⟨List.mem_of_getElem? (i := 860) (by decide +kernel), by decide +kernel⟩
theorem tw_861 : Cond.selects RX11 yX11_keep yX11_keep ∈ am_tb := List.mem_filter.mpr ⟨List.mem_of_getElem? (i := 861) (by decide +kernel), by decide +kernel⟩
theorem tw_859 : Cond.methodLink RL 70 yX11_keep ∈ am_tb := List.mem_filter.mpr ⟨List.mem_of_getElem? (i := 859) (by decide +kernel), by decide +kernel⟩
theorem tw_1409 : Cond.instanceMethod yX12_keep ∈ am_tb := List.mem_filter.mpr ⟨List.mem_of_getElem? (i := 1409) (by decide +kernel), by decide +kernel⟩
theorem tw_1410 : Cond.selects RX12 yX12_keep yX12_keep ∈ am_tb := List.mem_filter.mpr ⟨List.mem_of_getElem? (i := 1410) (by decide +kernel), by decide +kernel⟩
theorem tw_1408 : Cond.methodLink RL 73 yX12_keep ∈ am_tb := List.mem_filter.mpr ⟨List.mem_of_getElem? (i := 1408) (by decide +kernel), by decide +kernel⟩
theorem tw_868 : Cond.instanceMethod yX11_back ∈ am_tb := List.mem_filter.mpr ⟨List.mem_of_getElem? (i := 868) (by decide +kernel), by decide +kernel⟩
theorem tw_869 : Cond.selects RX11 yX11_back yX11_back ∈ am_tb := List.mem_filter.mpr ⟨List.mem_of_getElem? (i := 869) (by decide +kernel), by decide +kernel⟩
theorem tw_867 : Cond.methodLink RL 74 yX11_back ∈ am_tb := List.mem_filter.mpr ⟨List.mem_of_getElem? (i := 867) (by decide +kernel), by decide +kernel⟩
theorem tw_1417 : Cond.instanceMethod yX12_back ∈ am_tb := List.mem_filter.mpr ⟨List.mem_of_getElem? (i := 1417) (by decide +kernel), by decide +kernel⟩
theorem tw_1418 : Cond.selects RX12 yX12_back yX12_back ∈ am_tb := List.mem_filter.mpr ⟨List.mem_of_getElem? (i := 1418) (by decide +kernel), by decide +kernel⟩
theorem tw_1416 : Cond.methodLink RL 77 yX12_back ∈ am_tb := List.mem_filter.mpr ⟨List.mem_of_getElem? (i := 1416) (by decide +kernel), by decide +kernel⟩
theorem tw_872 : Cond.instanceMethod yX11_ways ∈ am_tb := List.mem_filter.mpr ⟨List.mem_of_getElem? (i := 872) (by decide +kernel), by decide +kernel⟩
theorem tw_873 : Cond.selects RX11 yX11_ways yX11_ways ∈ am_tb := List.mem_filter.mpr ⟨List.mem_of_getElem? (i := 873) (by decide +kernel), by decide +kernel⟩
theorem tw_871 : Cond.methodLink RL 78 yX11_ways ∈ am_tb := List.mem_filter.mpr ⟨List.mem_of_getElem? (i := 871) (by decide +kernel), by decide +kernel⟩
theorem tw_1421 : Cond.instanceMethod yX12_ways ∈ am_tb := List.mem_filter.mpr ⟨List.mem_of_getElem? (i := 1421) (by decide +kernel), by decide +kernel⟩
theorem tw_1422 : Cond.selects RX12 yX12_ways yX12_ways ∈ am_tb := List.mem_filter.mpr ⟨List.mem_of_getElem? (i := 1422) (by decide +kernel), by decide +kernel⟩
theorem tw_1420 : Cond.methodLink RL 81 yX12_ways ∈ am_tb := List.mem_filter.mpr ⟨List.mem_of_getElem? (i := 1420) (by decide +kernel), by decide +kernel⟩
theorem tw_884 : Cond.instanceMethod yX11_time ∈ am_tb := List.mem_filter.mpr ⟨List.mem_of_getElem? (i := 884) (by decide +kernel), by decide +kernel⟩
theorem tw_885 : Cond.selects RX11 yX11_time yX11_time ∈ am_tb := List.mem_filter.mpr ⟨List.mem_of_getElem? (i := 885) (by decide +kernel), by decide +kernel⟩
theorem tw_883 : Cond.methodLink RL 82 yX11_time ∈ am_tb := List.mem_filter.mpr ⟨List.mem_of_getElem? (i := 883) (by decide +kernel), by decide +kernel⟩
theorem tw_1425 : Cond.instanceMethod yX12_time ∈ am_tb := List.mem_filter.mpr ⟨List.mem_of_getElem? (i := 1425) (by decide +kernel), by decide +kernel⟩
theorem tw_1426 : Cond.selects RX12 yX12_time yX12_time ∈ am_tb := List.mem_filter.mpr ⟨List.mem_of_getElem? (i := 1426) (by decide +kernel), by decide +kernel⟩
theorem tw_1424 : Cond.methodLink RL 85 yX12_time ∈ am_tb := List.mem_filter.mpr ⟨List.mem_of_getElem? (i := 1424) (by decide +kernel), by decide +kernel⟩
theorem tw_892 : Cond.instanceMethod yX11_pushed ∈ am_tb := List.mem_filter.mpr ⟨List.mem_of_getElem? (i := 892) (by decide +kernel), by decide +kernel⟩
theorem tw_893 : Cond.selects RX11 yX11_pushed yX11_pushed ∈ am_tb := List.mem_filter.mpr ⟨List.mem_of_getElem? (i := 893) (by decide +kernel), by decide +kernel⟩
theorem tw_891 : Cond.methodLink RL 86 yX11_pushed ∈ am_tb := List.mem_filter.mpr ⟨List.mem_of_getElem? (i := 891) (by decide +kernel), by decide +kernel⟩
theorem tw_1429 : Cond.instanceMethod yX12_pushed ∈ am_tb := List.mem_filter.mpr ⟨List.mem_of_getElem? (i := 1429) (by decide +kernel), by decide +kernel⟩
theorem tw_1430 : Cond.selects RX12 yX12_pushed yX12_pushed ∈ am_tb := List.mem_filter.mpr ⟨List.mem_of_getElem? (i := 1430) (by decide +kernel), by decide +kernel⟩
theorem tw_1428 : Cond.methodLink RL 89 yX12_pushed ∈ am_tb := List.mem_filter.mpr ⟨List.mem_of_getElem? (i := 1428) (by decide +kernel), by decide +kernel⟩
theorem tw_896 : Cond.instanceMethod yX11_span ∈ am_tb := List.mem_filter.mpr ⟨List.mem_of_getElem? (i := 896) (by decide +kernel), by decide +kernel⟩
theorem tw_897 : Cond.selects RX11 yX11_span yX11_span ∈ am_tb := List.mem_filter.mpr ⟨List.mem_of_getElem? (i := 897) (by decide +kernel), by decide +kernel⟩
theorem tw_895 : Cond.methodLink RL 90 yX11_span ∈ am_tb := List.mem_filter.mpr ⟨List.mem_of_getElem? (i := 895) (by decide +kernel), by decide +kernel⟩
theorem tw_1433 : Cond.instanceMethod yX12_span ∈ am_tb := List.mem_filter.mpr ⟨List.mem_of_getElem? (i := 1433) (by decide +kernel), by decide +kernel⟩
theorem tw_1434 : Cond.selects RX12 yX12_span yX12_span ∈ am_tb := List.mem_filter.mpr ⟨List.mem_of_getElem? (i := 1434) (by decide +kernel), by decide +kernel⟩
theorem tw_1432 : Cond.methodLink RL 94 yX12_span ∈ am_tb := List.mem_filter.mpr ⟨List.mem_of_getElem? (i := 1432) (by decide +kernel), by decide +kernel⟩
theorem tw_931 : Cond.instanceMethod yX11_nearest ∈ am_tb := List.mem_filter.mpr ⟨List.mem_of_getElem? (i := 931) (by decide +kernel), by decide +kernel⟩
theorem tw_932 : Cond.selects RX11 yX11_nearest yX11_nearest ∈ am_tb := List.mem_filter.mpr ⟨List.mem_of_getElem? (i := 932) (by decide +kernel), by decide +kernel⟩
theorem tw_930 : Cond.methodLink RL 95 yX11_nearest ∈ am_tb := List.mem_filter.mpr ⟨List.mem_of_getElem? (i := 930) (by decide +kernel), by decide +kernel⟩
theorem tw_1444 : Cond.instanceMethod yX12_nearest ∈ am_tb := List.mem_filter.mpr ⟨List.mem_of_getElem? (i := 1444) (by decide +kernel), by decide +kernel⟩
theorem tw_1445 : Cond.selects RX12 yX12_nearest yX12_nearest ∈ am_tb := List.mem_filter.mpr ⟨List.mem_of_getElem? (i := 1445) (by decide +kernel), by decide +kernel⟩
theorem tw_1443 : Cond.methodLink RL 98 yX12_nearest ∈ am_tb := List.mem_filter.mpr ⟨List.mem_of_getElem? (i := 1443) (by decide +kernel), by decide +kernel⟩
theorem tw_940 : Cond.instanceMethod yX11_loosen ∈ am_tb := List.mem_filter.mpr ⟨List.mem_of_getElem? (i := 940) (by decide +kernel), by decide +kernel⟩
theorem tw_941 : Cond.selects RX11 yX11_loosen yX11_loosen ∈ am_tb := List.mem_filter.mpr ⟨List.mem_of_getElem? (i := 941) (by decide +kernel), by decide +kernel⟩
theorem tw_939 : Cond.methodLink RL 99 yX11_loosen ∈ am_tb := List.mem_filter.mpr ⟨List.mem_of_getElem? (i := 939) (by decide +kernel), by decide +kernel⟩
theorem tw_1448 : Cond.instanceMethod yX12_loosen ∈ am_tb := List.mem_filter.mpr ⟨List.mem_of_getElem? (i := 1448) (by decide +kernel), by decide +kernel⟩
theorem tw_1449 : Cond.selects RX12 yX12_loosen yX12_loosen ∈ am_tb := List.mem_filter.mpr ⟨List.mem_of_getElem? (i := 1449) (by decide +kernel), by decide +kernel⟩
theorem tw_1447 : Cond.methodLink RL 102 yX12_loosen ∈ am_tb := List.mem_filter.mpr ⟨List.mem_of_getElem? (i := 1447) (by decide +kernel), by decide +kernel⟩
theorem tw_944 : Cond.instanceMethod yX11_tour ∈ am_tb := List.mem_filter.mpr ⟨List.mem_of_getElem? (i := 944) (by decide +kernel), by decide +kernel⟩
theorem tw_945 : Cond.selects RX11 yX11_tour yX11_tour ∈ am_tb := List.mem_filter.mpr ⟨List.mem_of_getElem? (i := 945) (by decide +kernel), by decide +kernel⟩
theorem tw_943 : Cond.methodLink RL 103 yX11_tour ∈ am_tb := List.mem_filter.mpr ⟨List.mem_of_getElem? (i := 943) (by decide +kernel), by decide +kernel⟩
theorem tw_1455 : Cond.instanceMethod yX12_tour ∈ am_tb := List.mem_filter.mpr ⟨List.mem_of_getElem? (i := 1455) (by decide +kernel), by decide +kernel⟩
theorem tw_1456 : Cond.selects RX12 yX12_tour yX12_tour ∈ am_tb := List.mem_filter.mpr ⟨List.mem_of_getElem? (i := 1456) (by decide +kernel), by decide +kernel⟩
theorem tw_1454 : Cond.methodLink RL 107 yX12_tour ∈ am_tb := List.mem_filter.mpr ⟨List.mem_of_getElem? (i := 1454) (by decide +kernel), by decide +kernel⟩
theorem tw_966 : Cond.instanceMethod yX11_seen ∈ am_tb := List.mem_filter.mpr ⟨List.mem_of_getElem? (i := 966) (by decide +kernel), by decide +kernel⟩
theorem tw_967 : Cond.selects RX11 yX11_seen yX11_seen ∈ am_tb := List.mem_filter.mpr ⟨List.mem_of_getElem? (i := 967) (by decide +kernel), by decide +kernel⟩
theorem tw_965 : Cond.methodLink RL 108 yX11_seen ∈ am_tb := List.mem_filter.mpr ⟨List.mem_of_getElem? (i := 965) (by decide +kernel), by decide +kernel⟩
theorem tw_1463 : Cond.instanceMethod yX12_seen ∈ am_tb := List.mem_filter.mpr ⟨List.mem_of_getElem? (i := 1463) (by decide +kernel), by decide +kernel⟩
theorem tw_1464 : Cond.selects RX12 yX12_seen yX12_seen ∈ am_tb := List.mem_filter.mpr ⟨List.mem_of_getElem? (i := 1464) (by decide +kernel), by decide +kernel⟩
theorem tw_1462 : Cond.methodLink RL 111 yX12_seen ∈ am_tb := List.mem_filter.mpr ⟨List.mem_of_getElem? (i := 1462) (by decide +kernel), by decide +kernel⟩
theorem tw_971 : Cond.instanceMethod yX11_forget ∈ am_tb := List.mem_filter.mpr ⟨List.mem_of_getElem? (i := 971) (by decide +kernel), by decide +kernel⟩
theorem tw_972 : Cond.selects RX11 yX11_forget yX11_forget ∈ am_tb := List.mem_filter.mpr ⟨List.mem_of_getElem? (i := 972) (by decide +kernel), by decide +kernel⟩
theorem tw_970 : Cond.methodLink RL 112 yX11_forget ∈ am_tb := List.mem_filter.mpr ⟨List.mem_of_getElem? (i := 970) (by decide +kernel), by decide +kernel⟩
theorem tw_1469 : Cond.instanceMethod yX12_forget ∈ am_tb := List.mem_filter.mpr ⟨List.mem_of_getElem? (i := 1469) (by decide +kernel), by decide +kernel⟩
theorem tw_1470 : Cond.selects RX12 yX12_forget yX12_forget ∈ am_tb := List.mem_filter.mpr ⟨List.mem_of_getElem? (i := 1470) (by decide +kernel), by decide +kernel⟩
theorem tw_1468 : Cond.methodLink RL 115 yX12_forget ∈ am_tb := List.mem_filter.mpr ⟨List.mem_of_getElem? (i := 1468) (by decide +kernel), by decide +kernel⟩
theorem tw_975 : Cond.instanceMethod yX11_kinds ∈ am_tb := List.mem_filter.mpr ⟨List.mem_of_getElem? (i := 975) (by decide +kernel), by decide +kernel⟩
theorem tw_976 : Cond.selects RX11 yX11_kinds yX11_kinds ∈ am_tb := List.mem_filter.mpr ⟨List.mem_of_getElem? (i := 976) (by decide +kernel), by decide +kernel⟩
theorem tw_974 : Cond.methodLink RL 116 yX11_kinds ∈ am_tb := List.mem_filter.mpr ⟨List.mem_of_getElem? (i := 974) (by decide +kernel), by decide +kernel⟩
theorem tw_1473 : Cond.instanceMethod yX12_kinds ∈ am_tb := List.mem_filter.mpr ⟨List.mem_of_getElem? (i := 1473) (by decide +kernel), by decide +kernel⟩
theorem tw_1474 : Cond.selects RX12 yX12_kinds yX12_kinds ∈ am_tb := List.mem_filter.mpr ⟨List.mem_of_getElem? (i := 1474) (by decide +kernel), by decide +kernel⟩
theorem tw_1472 : Cond.methodLink RL 119 yX12_kinds ∈ am_tb := List.mem_filter.mpr ⟨List.mem_of_getElem? (i := 1472) (by decide +kernel), by decide +kernel⟩
theorem tw_993 : Cond.instanceMethod yX11_slips ∈ am_tb := List.mem_filter.mpr ⟨List.mem_of_getElem? (i := 993) (by decide +kernel), by decide +kernel⟩
theorem tw_994 : Cond.selects RX11 yX11_slips yX11_slips ∈ am_tb := List.mem_filter.mpr ⟨List.mem_of_getElem? (i := 994) (by decide +kernel), by decide +kernel⟩
theorem tw_992 : Cond.methodLink RL 120 yX11_slips ∈ am_tb := List.mem_filter.mpr ⟨List.mem_of_getElem? (i := 992) (by decide +kernel), by decide +kernel⟩
theorem tw_1481 : Cond.instanceMethod yX12_slips ∈ am_tb := List.mem_filter.mpr ⟨List.mem_of_getElem? (i := 1481) (by decide +kernel), by decide +kernel⟩
theorem tw_1482 : Cond.selects RX12 yX12_slips yX12_slips ∈ am_tb := List.mem_filter.mpr ⟨List.mem_of_getElem? (i := 1482) (by decide +kernel), by decide +kernel⟩
theorem tw_1480 : Cond.methodLink RL 124 yX12_slips ∈ am_tb := List.mem_filter.mpr ⟨List.mem_of_getElem? (i := 1480) (by decide +kernel), by decide +kernel⟩
theorem tw_1008 : Cond.instanceMethod yX11_count ∈ am_tb := List.mem_filter.mpr ⟨List.mem_of_getElem? (i := 1008) (by decide +kernel), by decide +kernel⟩
theorem tw_1009 : Cond.selects RX11 yX11_count yX11_count ∈ am_tb := List.mem_filter.mpr ⟨List.mem_of_getElem? (i := 1009) (by decide +kernel), by decide +kernel⟩
theorem tw_1007 : Cond.methodLink RL 125 yX11_count ∈ am_tb := List.mem_filter.mpr ⟨List.mem_of_getElem? (i := 1007) (by decide +kernel), by decide +kernel⟩
theorem tw_1493 : Cond.instanceMethod yX12_count ∈ am_tb := List.mem_filter.mpr ⟨List.mem_of_getElem? (i := 1493) (by decide +kernel), by decide +kernel⟩
theorem tw_1494 : Cond.selects RX12 yX12_count yX12_count ∈ am_tb := List.mem_filter.mpr ⟨List.mem_of_getElem? (i := 1494) (by decide +kernel), by decide +kernel⟩
theorem tw_1492 : Cond.methodLink RL 128 yX12_count ∈ am_tb := List.mem_filter.mpr ⟨List.mem_of_getElem? (i := 1492) (by decide +kernel), by decide +kernel⟩
