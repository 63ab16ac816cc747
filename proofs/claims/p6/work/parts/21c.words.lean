theorem tw_949 : Cond.code yX11_isOfTour cX11_isOfTour 1 (some .boolean) ∈ am_tb := List.mem_filter.mpr ⟨am_tk4 (List.mem_of_getElem? (i := 154) (by decide +kernel)), rfl⟩
theorem tw_947 : Cond.methodLink RX11 252 yX11_isOfTour ∈ am_tb := List.mem_filter.mpr ⟨am_tk4 (List.mem_of_getElem? (i := 152) (by decide +kernel)), rfl⟩
theorem tw_948 : Cond.static yX11_isOfTour ∈ am_tb := List.mem_filter.mpr ⟨am_tk4 (List.mem_of_getElem? (i := 153) (by decide +kernel)), rfl⟩
theorem tw_744 : Cond.constant RX11 255 (1048576) ∈ am_tb := List.mem_filter.mpr ⟨am_tk3 (List.mem_of_getElem? (i := 189) (by decide +kernel)), rfl⟩
theorem tw_953 : Cond.code yX11_secondOf cX11_secondOf 4 (some .int) ∈ am_tb := List.mem_filter.mpr ⟨am_tk4 (List.mem_of_getElem? (i := 158) (by decide +kernel)), rfl⟩
theorem tw_951 : Cond.methodLink RX11 256 yX11_secondOf ∈ am_tb := List.mem_filter.mpr ⟨am_tk4 (List.mem_of_getElem? (i := 156) (by decide +kernel)), rfl⟩
theorem tw_952 : Cond.static yX11_secondOf ∈ am_tb := List.mem_filter.mpr ⟨am_tk4 (List.mem_of_getElem? (i := 157) (by decide +kernel)), rfl⟩
theorem tw_956 : Cond.code yX11_pick cX11_pick 4 (some .int) ∈ am_tb := List.mem_filter.mpr ⟨am_tk4 (List.mem_of_getElem? (i := 161) (by decide +kernel)), rfl⟩
theorem tw_954 : Cond.methodLink RX11 259 yX11_pick ∈ am_tb := List.mem_filter.mpr ⟨am_tk4 (List.mem_of_getElem? (i := 159) (by decide +kernel)), rfl⟩
theorem tw_955 : Cond.static yX11_pick ∈ am_tb := List.mem_filter.mpr ⟨am_tk4 (List.mem_of_getElem? (i := 160) (by decide +kernel)), rfl⟩
theorem tw_960 : Cond.code yX11_goOn cX11_goOn 5 (some .boolean) ∈ am_tb := List.mem_filter.mpr ⟨am_tk4 (List.mem_of_getElem? (i := 165) (by decide +kernel)), rfl⟩
theorem tw_959 : Cond.instanceMethod yX11_goOn ∈ am_tb := List.mem_filter.mpr ⟨am_tk4 (List.mem_of_getElem? (i := 164) (by decide +kernel)), rfl⟩
theorem tw_32 : Cond.selects RX11 yX11_goOn yX11_goOn ∈ am_tb := List.mem_filter.mpr ⟨List.mem_of_getElem? (i := 32) (by decide +kernel), rfl⟩
theorem tw_957 : Cond.methodLink RX11 263 yX11_goOn ∈ am_tb := List.mem_filter.mpr ⟨am_tk4 (List.mem_of_getElem? (i := 162) (by decide +kernel)), rfl⟩
theorem tw_964 : Cond.code yX11_spentOnPath cX11_spentOnPath 2 (some .int) ∈ am_tb := List.mem_filter.mpr ⟨am_tk4 (List.mem_of_getElem? (i := 169) (by decide +kernel)), rfl⟩
theorem tw_963 : Cond.instanceMethod yX11_spentOnPath ∈ am_tb := List.mem_filter.mpr ⟨am_tk4 (List.mem_of_getElem? (i := 168) (by decide +kernel)), rfl⟩
theorem tw_33 : Cond.selects RX11 yX11_spentOnPath yX11_spentOnPath ∈ am_tb := List.mem_filter.mpr ⟨List.mem_of_getElem? (i := 33) (by decide +kernel), rfl⟩
theorem tw_961 : Cond.methodLink RX11 267 yX11_spentOnPath ∈ am_tb := List.mem_filter.mpr ⟨am_tk4 (List.mem_of_getElem? (i := 166) (by decide +kernel)), rfl⟩
theorem tw_946 : Cond.code yX11_tour cX11_tour 11 (some .int) ∈ am_tb := List.mem_filter.mpr ⟨am_tk4 (List.mem_of_getElem? (i := 151) (by decide +kernel)), rfl⟩
theorem tw_969 : Cond.methodLink RX11 270 yX5_put ∈ am_tb := List.mem_filter.mpr ⟨am_tk4 (List.mem_of_getElem? (i := 174) (by decide +kernel)), rfl⟩
theorem tw_968 : Cond.code yX11_seen cX11_seen 4 (some .int) ∈ am_tb := List.mem_filter.mpr ⟨am_tk4 (List.mem_of_getElem? (i := 173) (by decide +kernel)), rfl⟩
theorem tw_973 : Cond.code yX11_forget cX11_forget 2 (some .int) ∈ am_tb := List.mem_filter.mpr ⟨am_tk4 (List.mem_of_getElem? (i := 178) (by decide +kernel)), rfl⟩
theorem tw_978 : Cond.methodLink RX11 276 yX1_makeRod ∈ am_tb := List.mem_filter.mpr ⟨am_tk4 (List.mem_of_getElem? (i := 183) (by decide +kernel)), rfl⟩
theorem tw_982 : Cond.code yX11_fitsSeen cX11_fitsSeen 4 (some .boolean) ∈ am_tb := List.mem_filter.mpr ⟨am_tk4 (List.mem_of_getElem? (i := 187) (by decide +kernel)), rfl⟩
theorem tw_981 : Cond.instanceMethod yX11_fitsSeen ∈ am_tb := List.mem_filter.mpr ⟨am_tk4 (List.mem_of_getElem? (i := 186) (by decide +kernel)), rfl⟩
theorem tw_34 : Cond.selects RX11 yX11_fitsSeen yX11_fitsSeen ∈ am_tb := List.mem_filter.mpr ⟨List.mem_of_getElem? (i := 34) (by decide +kernel), rfl⟩
theorem tw_979 : Cond.methodLink RX11 280 yX11_fitsSeen ∈ am_tb := List.mem_filter.mpr ⟨am_tk4 (List.mem_of_getElem? (i := 184) (by decide +kernel)), rfl⟩
theorem tw_977 : Cond.code yX11_kinds cX11_kinds 5 (some .int) ∈ am_tb := List.mem_filter.mpr ⟨am_tk4 (List.mem_of_getElem? (i := 182) (by decide +kernel)), rfl⟩
theorem tw_996 : Cond.constantLong RX11 284 (-2) ∈ am_tb := List.mem_filter.mpr ⟨am_tk4 (List.mem_of_getElem? (i := 201) (by decide +kernel)), rfl⟩
theorem tw_999 : Cond.code yX11_chancesToStay cX11_chancesToStay 6 (some .long) ∈ am_tb := List.mem_filter.mpr ⟨am_tk4 (List.mem_of_getElem? (i := 204) (by decide +kernel)), rfl⟩
theorem tw_997 : Cond.methodLink RX11 286 yX11_chancesToStay ∈ am_tb := List.mem_filter.mpr ⟨am_tk4 (List.mem_of_getElem? (i := 202) (by decide +kernel)), rfl⟩
theorem tw_998 : Cond.static yX11_chancesToStay ∈ am_tb := List.mem_filter.mpr ⟨am_tk4 (List.mem_of_getElem? (i := 203) (by decide +kernel)), rfl⟩
theorem tw_1003 : Cond.constantLong RX11 290 (10) ∈ am_tb := List.mem_filter.mpr ⟨am_tk4 (List.mem_of_getElem? (i := 208) (by decide +kernel)), rfl⟩
theorem tw_1002 : Cond.code yX11_power cX11_power 6 (some .long) ∈ am_tb := List.mem_filter.mpr ⟨am_tk4 (List.mem_of_getElem? (i := 207) (by decide +kernel)), rfl⟩
theorem tw_1000 : Cond.methodLink RX11 292 yX11_power ∈ am_tb := List.mem_filter.mpr ⟨am_tk4 (List.mem_of_getElem? (i := 205) (by decide +kernel)), rfl⟩
theorem tw_1001 : Cond.static yX11_power ∈ am_tb := List.mem_filter.mpr ⟨am_tk4 (List.mem_of_getElem? (i := 206) (by decide +kernel)), rfl⟩
theorem tw_1006 : Cond.code yX11_commonDivisor cX11_commonDivisor 11 (some .long) ∈ am_tb := List.mem_filter.mpr ⟨am_tk4 (List.mem_of_getElem? (i := 211) (by decide +kernel)), rfl⟩
theorem tw_1004 : Cond.methodLink RX11 296 yX11_commonDivisor ∈ am_tb := List.mem_filter.mpr ⟨am_tk4 (List.mem_of_getElem? (i := 209) (by decide +kernel)), rfl⟩
theorem tw_1005 : Cond.static yX11_commonDivisor ∈ am_tb := List.mem_filter.mpr ⟨am_tk4 (List.mem_of_getElem? (i := 210) (by decide +kernel)), rfl⟩
theorem tw_995 : Cond.code yX11_slips cX11_slips 14 (some .long) ∈ am_tb := List.mem_filter.mpr ⟨am_tk4 (List.mem_of_getElem? (i := 200) (by decide +kernel)), rfl⟩
theorem tw_235 : Cond.fieldLink RX11 300 "RodBeads$Standing" "spent" "I" ∈ am_tb := List.mem_filter.mpr ⟨am_tk1 (List.mem_of_getElem? (i := 160) (by decide +kernel)), rfl⟩
theorem tw_1014 : Cond.code yX11_fullRods cX11_fullRods 4 (some .int) ∈ am_tb := List.mem_filter.mpr ⟨am_tk4 (List.mem_of_getElem? (i := 219) (by decide +kernel)), rfl⟩
theorem tw_1013 : Cond.instanceMethod yX11_fullRods ∈ am_tb := List.mem_filter.mpr ⟨am_tk4 (List.mem_of_getElem? (i := 218) (by decide +kernel)), rfl⟩
theorem tw_35 : Cond.selects RX11 yX11_fullRods yX11_fullRods ∈ am_tb := List.mem_filter.mpr ⟨List.mem_of_getElem? (i := 35) (by decide +kernel), rfl⟩
theorem tw_1011 : Cond.methodLink RX11 303 yX11_fullRods ∈ am_tb := List.mem_filter.mpr ⟨am_tk4 (List.mem_of_getElem? (i := 216) (by decide +kernel)), rfl⟩
theorem tw_1010 : Cond.code yX11_count cX11_count 2 (some .int) ∈ am_tb := List.mem_filter.mpr ⟨am_tk4 (List.mem_of_getElem? (i := 215) (by decide +kernel)), rfl⟩
theorem tw_846 : Cond.constant RX11 306 (1000000000) ∈ am_tb := List.mem_filter.mpr ⟨am_tk4 (List.mem_of_getElem? (i := 51) (by decide +kernel)), rfl⟩
theorem tw_950 : Cond.constant RX11 307 (1000000) ∈ am_tb := List.mem_filter.mpr ⟨am_tk4 (List.mem_of_getElem? (i := 155) (by decide +kernel)), rfl⟩
theorem tw_248 : Cond.methodLink RX11 308 Lib.Math.max.name ∈ am_tb := List.mem_filter.mpr ⟨am_tk1 (List.mem_of_getElem? (i := 173) (by decide +kernel)), rfl⟩
theorem tw_813 : Cond.classLink RX11 311 "RodBeads$Plain" ∈ am_tb := List.mem_filter.mpr ⟨am_tk4 (List.mem_of_getElem? (i := 18) (by decide +kernel)), rfl⟩
theorem tw_814 : Cond.classLink RX11 313 "RodBeads$Five" ∈ am_tb := List.mem_filter.mpr ⟨am_tk4 (List.mem_of_getElem? (i := 19) (by decide +kernel)), rfl⟩
theorem tw_1496 : Cond.castable RX2 "RodBeads$Five" ∈ am_xw := List.mem_filter.mpr ⟨am_tk6 (List.mem_of_getElem? (i := 221) (by decide +kernel)), rfl⟩
theorem tw_1497 : Cond.castable RX6 "RodBeads$Five" ∈ am_xw := List.mem_filter.mpr ⟨am_tk6 (List.mem_of_getElem? (i := 222) (by decide +kernel)), rfl⟩
theorem tw_815 : Cond.classLink RX11 315 "RodBeads$Slow" ∈ am_tb := List.mem_filter.mpr ⟨am_tk4 (List.mem_of_getElem? (i := 20) (by decide +kernel)), rfl⟩
theorem tw_816 : Cond.classLink RX11 317 "RodBeads$Heir" ∈ am_tb := List.mem_filter.mpr ⟨am_tk4 (List.mem_of_getElem? (i := 21) (by decide +kernel)), rfl⟩
theorem tw_333 : Cond.instanceMethod yX1_read ∈ am_tb := List.mem_filter.mpr ⟨am_tk2 (List.mem_of_getElem? (i := 18) (by decide +kernel)), rfl⟩
theorem tw_334 : Cond.selects RX1 yX1_read yX1_read ∈ am_tb := List.mem_filter.mpr ⟨am_tk2 (List.mem_of_getElem? (i := 19) (by decide +kernel)), rfl⟩
theorem tw_332 : Cond.methodLink RX11 319 yX1_read ∈ am_tb := List.mem_filter.mpr ⟨am_tk2 (List.mem_of_getElem? (i := 17) (by decide +kernel)), rfl⟩
theorem tw_724 : Cond.instanceMethod yX10_least ∈ am_tb := List.mem_filter.mpr ⟨am_tk3 (List.mem_of_getElem? (i := 169) (by decide +kernel)), rfl⟩
theorem tw_725 : Cond.selects RX10 yX10_least yX10_least ∈ am_tb := List.mem_filter.mpr ⟨am_tk3 (List.mem_of_getElem? (i := 170) (by decide +kernel)), rfl⟩
theorem tw_723 : Cond.methodLink RX11 323 yX10_least ∈ am_tb := List.mem_filter.mpr ⟨am_tk3 (List.mem_of_getElem? (i := 168) (by decide +kernel)), rfl⟩
theorem tw_746 : Cond.instanceMethod yX10_placeAll ∈ am_tb := List.mem_filter.mpr ⟨am_tk3 (List.mem_of_getElem? (i := 191) (by decide +kernel)), rfl⟩
theorem tw_747 : Cond.selects RX10 yX10_placeAll yX10_placeAll ∈ am_tb := List.mem_filter.mpr ⟨am_tk3 (List.mem_of_getElem? (i := 192) (by decide +kernel)), rfl⟩
theorem tw_745 : Cond.methodLink RX11 326 yX10_placeAll ∈ am_tb := List.mem_filter.mpr ⟨am_tk3 (List.mem_of_getElem? (i := 190) (by decide +kernel)), rfl⟩
theorem tw_771 : Cond.methodLink RX11 329 yX10_costOf ∈ am_tb := List.mem_filter.mpr ⟨am_tk3 (List.mem_of_getElem? (i := 216) (by decide +kernel)), rfl⟩
theorem tw_772 : Cond.methodLink RX11 332 yX10_placeRod ∈ am_tb := List.mem_filter.mpr ⟨am_tk3 (List.mem_of_getElem? (i := 217) (by decide +kernel)), rfl⟩
theorem tw_776 : Cond.code yX11_pushAllBack cX11_pushAllBack 4 none ∈ am_tb := List.mem_filter.mpr ⟨am_tk3 (List.mem_of_getElem? (i := 221) (by decide +kernel)), rfl⟩
theorem tw_143 : Cond.fieldLink RX11 336 "RodBeads$Sums" "possible" "Z" ∈ am_tb := List.mem_filter.mpr ⟨am_tk1 (List.mem_of_getElem? (i := 68) (by decide +kernel)), rfl⟩
theorem tw_139 : Cond.fieldLink RX11 340 "RodBeads$Sums" "verb" "I" ∈ am_tb := List.mem_filter.mpr ⟨am_tk1 (List.mem_of_getElem? (i := 64) (by decide +kernel)), rfl⟩
theorem tw_141 : Cond.fieldLink RX11 343 "RodBeads$Sums" "value" "J" ∈ am_tb := List.mem_filter.mpr ⟨am_tk1 (List.mem_of_getElem? (i := 66) (by decide +kernel)), rfl⟩
theorem tw_775 : Cond.instanceMethod yX11_pushAllBack ∈ am_tb := List.mem_filter.mpr ⟨am_tk3 (List.mem_of_getElem? (i := 220) (by decide +kernel)), rfl⟩
theorem tw_22 : Cond.selects RX11 yX11_pushAllBack yX11_pushAllBack ∈ am_tb := List.mem_filter.mpr ⟨List.mem_of_getElem? (i := 22) (by decide +kernel), rfl⟩
theorem tw_773 : Cond.methodLink RX11 347 yX11_pushAllBack ∈ am_tb := List.mem_filter.mpr ⟨am_tk3 (List.mem_of_getElem? (i := 218) (by decide +kernel)), rfl⟩
theorem tw_907 : Cond.instanceMethod yX10_sift ∈ am_tb := List.mem_filter.mpr ⟨am_tk4 (List.mem_of_getElem? (i := 112) (by decide +kernel)), rfl⟩
theorem tw_908 : Cond.selects RX10 yX10_sift yX10_sift ∈ am_tb := List.mem_filter.mpr ⟨am_tk4 (List.mem_of_getElem? (i := 113) (by decide +kernel)), rfl⟩
theorem tw_906 : Cond.methodLink RX11 350 yX10_sift ∈ am_tb := List.mem_filter.mpr ⟨am_tk4 (List.mem_of_getElem? (i := 111) (by decide +kernel)), rfl⟩
theorem tw_927 : Cond.instanceMethod yX10_isSifted ∈ am_tb := List.mem_filter.mpr ⟨am_tk4 (List.mem_of_getElem? (i := 132) (by decide +kernel)), rfl⟩
theorem tw_928 : Cond.selects RX10 yX10_isSifted yX10_isSifted ∈ am_tb := List.mem_filter.mpr ⟨am_tk4 (List.mem_of_getElem? (i := 133) (by decide +kernel)), rfl⟩
theorem tw_926 : Cond.methodLink RX11 354 yX10_isSifted ∈ am_tb := List.mem_filter.mpr ⟨am_tk4 (List.mem_of_getElem? (i := 131) (by decide +kernel)), rfl⟩
theorem tw_938 : Cond.methodLink RX11 357 Lib.Math.min.name ∈ am_tb := List.mem_filter.mpr ⟨am_tk4 (List.mem_of_getElem? (i := 143) (by decide +kernel)), rfl⟩
theorem tw_983 : Cond.methodLink RX11 360 yX5_at ∈ am_tb := List.mem_filter.mpr ⟨am_tk4 (List.mem_of_getElem? (i := 188) (by decide +kernel)), rfl⟩
theorem tw_985 : Cond.instanceMethod yX4_leastTimeFor ∈ am_tb := List.mem_filter.mpr ⟨am_tk4 (List.mem_of_getElem? (i := 190) (by decide +kernel)), rfl⟩
theorem tw_987 : Cond.selects RX0 yX4_leastTimeFor yX4_leastTimeFor ∈ am_tb := List.mem_filter.mpr ⟨am_tk4 (List.mem_of_getElem? (i := 192) (by decide +kernel)), rfl⟩
theorem tw_984 : Cond.methodLink RX11 364 yX4_leastTimeFor ∈ am_tb := List.mem_filter.mpr ⟨am_tk4 (List.mem_of_getElem? (i := 189) (by decide +kernel)), rfl⟩
theorem tw_988 : Cond.selects RX2 yX4_leastTimeFor yX4_leastTimeFor ∈ am_tb := List.mem_filter.mpr ⟨am_tk4 (List.mem_of_getElem? (i := 193) (by decide +kernel)), rfl⟩
theorem tw_989 : Cond.selects RX3 yX4_leastTimeFor yX4_leastTimeFor ∈ am_tb := List.mem_filter.mpr ⟨am_tk4 (List.mem_of_getElem? (i := 194) (by decide +kernel)), rfl⟩
theorem tw_990 : Cond.selects RX6 yX4_leastTimeFor yX4_leastTimeFor ∈ am_tb := List.mem_filter.mpr ⟨am_tk4 (List.mem_of_getElem? (i := 195) (by decide +kernel)), rfl⟩
theorem tw_1020 : Cond.methodLink RX12 1 Lib.objectInit ∈ am_tb := List.mem_filter.mpr ⟨am_tk4 (List.mem_of_getElem? (i := 225) (by decide +kernel)), rfl⟩
theorem tw_1022 : Cond.fieldLink RX12 7 "RodBeadsModel" "kindOf" "[I" ∈ am_tb := List.mem_filter.mpr ⟨am_tk4 (List.mem_of_getElem? (i := 227) (by decide +kernel)), rfl⟩
theorem tw_1023 : Cond.fieldLink RX12 13 "RodBeadsModel" "bases" "[I" ∈ am_tb := List.mem_filter.mpr ⟨am_tk4 (List.mem_of_getElem? (i := 228) (by decide +kernel)), rfl⟩
theorem tw_1024 : Cond.fieldLink RX12 16 "RodBeadsModel" "lows" "[I" ∈ am_tb := List.mem_filter.mpr ⟨am_tk4 (List.mem_of_getElem? (i := 229) (by decide +kernel)), rfl⟩
theorem tw_1025 : Cond.fieldLink RX12 19 "RodBeadsModel" "highs" "[I" ∈ am_tb := List.mem_filter.mpr ⟨am_tk4 (List.mem_of_getElem? (i := 230) (by decide +kernel)), rfl⟩
theorem tw_1026 : Cond.fieldLink RX12 22 "RodBeadsModel" "now" "[I" ∈ am_tb := List.mem_filter.mpr ⟨am_tk4 (List.mem_of_getElem? (i := 231) (by decide +kernel)), rfl⟩
theorem tw_1027 : Cond.fieldLink RX12 25 "RodBeadsModel" "tried" "[I" ∈ am_tb := List.mem_filter.mpr ⟨am_tk4 (List.mem_of_getElem? (i := 232) (by decide +kernel)), rfl⟩
theorem tw_1154 : Cond.arrayClass (newarray.typeOf .long) ∈ am_tb := List.mem_filter.mpr ⟨am_tk5 (List.mem_of_getElem? (i := 119) (by decide +kernel)), rfl⟩
theorem tw_1029 : Cond.fieldLink RX12 28 "RodBeadsModel" "dues" "[J" ∈ am_tb := List.mem_filter.mpr ⟨am_tk4 (List.mem_of_getElem? (i := 234) (by decide +kernel)), rfl⟩
theorem tw_1030 : Cond.fieldLink RX12 32 "RodBeadsModel" "wayMany" "[J" ∈ am_tb := List.mem_filter.mpr ⟨am_tk4 (List.mem_of_getElem? (i := 235) (by decide +kernel)), rfl⟩
theorem tw_1031 : Cond.fieldLink RX12 35 "RodBeadsModel" "times" "[I" ∈ am_tb := List.mem_filter.mpr ⟨am_tk4 (List.mem_of_getElem? (i := 236) (by decide +kernel)), rfl⟩
theorem tw_1032 : Cond.fieldLink RX12 38 "RodBeadsModel" "due" "[I" ∈ am_tb := List.mem_filter.mpr ⟨am_tk4 (List.mem_of_getElem? (i := 237) (by decide +kernel)), rfl⟩
theorem tw_1034 : Cond.fieldLink RX12 41 "RodBeadsModel" "text" "[I" ∈ am_tb := List.mem_filter.mpr ⟨am_tk4 (List.mem_of_getElem? (i := 239) (by decide +kernel)), rfl⟩
theorem tw_1044 : Cond.fieldLink RX12 44 "RodBeadsModel" "readKind" "[I" ∈ am_tb := List.mem_filter.mpr ⟨am_tk5 (List.mem_of_getElem? (i := 9) (by decide +kernel)), rfl⟩
theorem tw_1045 : Cond.fieldLink RX12 47 "RodBeadsModel" "readBase" "[I" ∈ am_tb := List.mem_filter.mpr ⟨am_tk5 (List.mem_of_getElem? (i := 10) (by decide +kernel)), rfl⟩
theorem tw_1046 : Cond.fieldLink RX12 50 "RodBeadsModel" "readLow" "[I" ∈ am_tb := List.mem_filter.mpr ⟨am_tk5 (List.mem_of_getElem? (i := 11) (by decide +kernel)), rfl⟩
theorem tw_1047 : Cond.fieldLink RX12 53 "RodBeadsModel" "readHigh" "[I" ∈ am_tb := List.mem_filter.mpr ⟨am_tk5 (List.mem_of_getElem? (i := 12) (by decide +kernel)), rfl⟩
theorem tw_1051 : Cond.fieldLink RX12 56 "RodBeadsModel" "sums" "[J" ∈ am_tb := List.mem_filter.mpr ⟨am_tk5 (List.mem_of_getElem? (i := 16) (by decide +kernel)), rfl⟩
theorem tw_1052 : Cond.fieldLink RX12 59 "RodBeadsModel" "terms" "[J" ∈ am_tb := List.mem_filter.mpr ⟨am_tk5 (List.mem_of_getElem? (i := 17) (by decide +kernel)), rfl⟩
theorem tw_1053 : Cond.fieldLink RX12 62 "RodBeadsModel" "sumSigns" "[I" ∈ am_tb := List.mem_filter.mpr ⟨am_tk5 (List.mem_of_getElem? (i := 18) (by decide +kernel)), rfl⟩
theorem tw_1054 : Cond.fieldLink RX12 65 "RodBeadsModel" "termSigns" "[I" ∈ am_tb := List.mem_filter.mpr ⟨am_tk5 (List.mem_of_getElem? (i := 19) (by decide +kernel)), rfl⟩
theorem tw_1058 : Cond.fieldLink RX12 68 "RodBeadsModel" "undos" "[I" ∈ am_tb := List.mem_filter.mpr ⟨am_tk5 (List.mem_of_getElem? (i := 23) (by decide +kernel)), rfl⟩
theorem tw_1155 : Cond.arrayClass (newarray.typeOf .boolean) ∈ am_tb := List.mem_filter.mpr ⟨am_tk5 (List.mem_of_getElem? (i := 120) (by decide +kernel)), rfl⟩
theorem tw_1059 : Cond.fieldLink RX12 71 "RodBeadsModel" "isKept" "[Z" ∈ am_tb := List.mem_filter.mpr ⟨am_tk5 (List.mem_of_getElem? (i := 24) (by decide +kernel)), rfl⟩
theorem tw_1060 : Cond.fieldLink RX12 75 "RodBeadsModel" "kept" "[I" ∈ am_tb := List.mem_filter.mpr ⟨am_tk5 (List.mem_of_getElem? (i := 25) (by decide +kernel)), rfl⟩
theorem tw_1062 : Cond.fieldLink RX12 78 "RodBeadsModel" "seenRod" "[I" ∈ am_tb := List.mem_filter.mpr ⟨am_tk5 (List.mem_of_getElem? (i := 27) (by decide +kernel)), rfl⟩
theorem tw_1063 : Cond.fieldLink RX12 81 "RodBeadsModel" "seenShown" "[I" ∈ am_tb := List.mem_filter.mpr ⟨am_tk5 (List.mem_of_getElem? (i := 28) (by decide +kernel)), rfl⟩
theorem tw_1064 : Cond.fieldLink RX12 84 "RodBeadsModel" "seenTime" "[I" ∈ am_tb := List.mem_filter.mpr ⟨am_tk5 (List.mem_of_getElem? (i := 29) (by decide +kernel)), rfl⟩
theorem tw_1019 : Cond.code yX12_init cX12_init 1 none ∈ am_tb := List.mem_filter.mpr ⟨am_tk4 (List.mem_of_getElem? (i := 224) (by decide +kernel)), rfl⟩
theorem tw_83 : Cond.initialized RX12 ∈ am_tb := List.mem_filter.mpr ⟨am_tk1 (List.mem_of_getElem? (i := 8) (by decide +kernel)), rfl⟩
theorem tw_1186 : Cond.code yX12_in cX12_in 6 (some .boolean) ∈ am_tb := List.mem_filter.mpr ⟨am_tk5 (List.mem_of_getElem? (i := 151) (by decide +kernel)), rfl⟩
theorem tw_1192 : Cond.code yX12_has cX12_has 2 (some .boolean) ∈ am_tb := List.mem_filter.mpr ⟨am_tk5 (List.mem_of_getElem? (i := 157) (by decide +kernel)), rfl⟩
theorem tw_1453 : Cond.code yX12_bits cX12_bits 3 (some .int) ∈ am_tb := List.mem_filter.mpr ⟨am_tk6 (List.mem_of_getElem? (i := 178) (by decide +kernel)), rfl⟩
theorem tw_1334 : Cond.code yX12_apart cX12_apart 2 (some .int) ∈ am_tb := List.mem_filter.mpr ⟨am_tk6 (List.mem_of_getElem? (i := 59) (by decide +kernel)), rfl⟩
theorem tw_1021 : Cond.fieldLink RX12 87 "RodBeadsModel" "n" "I" ∈ am_tb := List.mem_filter.mpr ⟨am_tk4 (List.mem_of_getElem? (i := 226) (by decide +kernel)), rfl⟩
theorem tw_1184 : Cond.methodLink RX12 91 yX12_in ∈ am_tb := List.mem_filter.mpr ⟨am_tk5 (List.mem_of_getElem? (i := 149) (by decide +kernel)), rfl⟩
theorem tw_1185 : Cond.static yX12_in ∈ am_tb := List.mem_filter.mpr ⟨am_tk5 (List.mem_of_getElem? (i := 150) (by decide +kernel)), rfl⟩
theorem tw_1183 : Cond.code yX12_isRod cX12_isRod 2 (some .boolean) ∈ am_tb := List.mem_filter.mpr ⟨am_tk5 (List.mem_of_getElem? (i := 148) (by decide +kernel)), rfl⟩
theorem tw_1175 : Cond.code yX12_worthBy cX12_worthBy 3 (some .int) ∈ am_tb := List.mem_filter.mpr ⟨am_tk5 (List.mem_of_getElem? (i := 140) (by decide +kernel)), rfl⟩
theorem tw_1174 : Cond.instanceMethod yX12_worthBy ∈ am_tb := List.mem_filter.mpr ⟨am_tk5 (List.mem_of_getElem? (i := 139) (by decide +kernel)), rfl⟩
theorem tw_39 : Cond.selects RX12 yX12_worthBy yX12_worthBy ∈ am_tb := List.mem_filter.mpr ⟨List.mem_of_getElem? (i := 39) (by decide +kernel), rfl⟩
theorem tw_1172 : Cond.methodLink RX12 95 yX12_worthBy ∈ am_tb := List.mem_filter.mpr ⟨am_tk5 (List.mem_of_getElem? (i := 137) (by decide +kernel)), rfl⟩
theorem tw_1171 : Cond.code yX12_worth cX12_worth 2 (some .int) ∈ am_tb := List.mem_filter.mpr ⟨am_tk5 (List.mem_of_getElem? (i := 136) (by decide +kernel)), rfl⟩
theorem tw_1337 : Cond.code yX12_takes cX12_takes 2 (some .int) ∈ am_tb := List.mem_filter.mpr ⟨am_tk6 (List.mem_of_getElem? (i := 62) (by decide +kernel)), rfl⟩
theorem tw_1384 : Cond.code yX12_pushedOf cX12_pushedOf 3 (some .int) ∈ am_tb := List.mem_filter.mpr ⟨am_tk6 (List.mem_of_getElem? (i := 109) (by decide +kernel)), rfl⟩
theorem tw_1170 : Cond.instanceMethod yX12_worth ∈ am_tb := List.mem_filter.mpr ⟨am_tk5 (List.mem_of_getElem? (i := 135) (by decide +kernel)), rfl⟩
theorem tw_38 : Cond.selects RX12 yX12_worth yX12_worth ∈ am_tb := List.mem_filter.mpr ⟨List.mem_of_getElem? (i := 38) (by decide +kernel), rfl⟩
theorem tw_1168 : Cond.methodLink RX12 99 yX12_worth ∈ am_tb := List.mem_filter.mpr ⟨am_tk5 (List.mem_of_getElem? (i := 133) (by decide +kernel)), rfl⟩
theorem tw_1167 : Cond.code yX12_shows cX12_shows 3 (some .int) ∈ am_tb := List.mem_filter.mpr ⟨am_tk5 (List.mem_of_getElem? (i := 132) (by decide +kernel)), rfl⟩
theorem tw_1381 : Cond.code yX12_beads cX12_beads 3 (some .int) ∈ am_tb := List.mem_filter.mpr ⟨am_tk6 (List.mem_of_getElem? (i := 106) (by decide +kernel)), rfl⟩
theorem tw_1190 : Cond.methodLink RX12 103 yX12_has ∈ am_tb := List.mem_filter.mpr ⟨am_tk5 (List.mem_of_getElem? (i := 155) (by decide +kernel)), rfl⟩
theorem tw_1191 : Cond.static yX12_has ∈ am_tb := List.mem_filter.mpr ⟨am_tk5 (List.mem_of_getElem? (i := 156) (by decide +kernel)), rfl⟩
theorem tw_1189 : Cond.code yX12_isStuck cX12_isStuck 3 (some .boolean) ∈ am_tb := List.mem_filter.mpr ⟨am_tk5 (List.mem_of_getElem? (i := 154) (by decide +kernel)), rfl⟩
theorem tw_1187 : Cond.methodLink RX12 107 yX12_isStuck ∈ am_tb := List.mem_filter.mpr ⟨am_tk5 (List.mem_of_getElem? (i := 152) (by decide +kernel)), rfl⟩
theorem tw_1188 : Cond.static yX12_isStuck ∈ am_tb := List.mem_filter.mpr ⟨am_tk5 (List.mem_of_getElem? (i := 153) (by decide +kernel)), rfl⟩
theorem tw_1322 : Cond.code yX12_may cX12_may 5 (some .boolean) ∈ am_tb := List.mem_filter.mpr ⟨am_tk6 (List.mem_of_getElem? (i := 47) (by decide +kernel)), rfl⟩
theorem tw_1332 : Cond.methodLink RX12 111 yX12_apart ∈ am_tb := List.mem_filter.mpr ⟨am_tk6 (List.mem_of_getElem? (i := 57) (by decide +kernel)), rfl⟩
theorem tw_1333 : Cond.static yX12_apart ∈ am_tb := List.mem_filter.mpr ⟨am_tk6 (List.mem_of_getElem? (i := 58) (by decide +kernel)), rfl⟩
theorem tw_1335 : Cond.methodLink RX12 114 yX12_takes ∈ am_tb := List.mem_filter.mpr ⟨am_tk6 (List.mem_of_getElem? (i := 60) (by decide +kernel)), rfl⟩
theorem tw_1336 : Cond.static yX12_takes ∈ am_tb := List.mem_filter.mpr ⟨am_tk6 (List.mem_of_getElem? (i := 61) (by decide +kernel)), rfl⟩
theorem tw_1331 : Cond.code yX12_change cX12_change 5 (some .int) ∈ am_tb := List.mem_filter.mpr ⟨am_tk6 (List.mem_of_getElem? (i := 56) (by decide +kernel)), rfl⟩
theorem tw_1166 : Cond.instanceMethod yX12_shows ∈ am_tb := List.mem_filter.mpr ⟨am_tk5 (List.mem_of_getElem? (i := 131) (by decide +kernel)), rfl⟩
theorem tw_37 : Cond.selects RX12 yX12_shows yX12_shows ∈ am_tb := List.mem_filter.mpr ⟨List.mem_of_getElem? (i := 37) (by decide +kernel), rfl⟩
theorem tw_1164 : Cond.methodLink RX12 117 yX12_shows ∈ am_tb := List.mem_filter.mpr ⟨am_tk5 (List.mem_of_getElem? (i := 129) (by decide +kernel)), rfl⟩
theorem tw_1163 : Cond.code yX12_numberOf cX12_numberOf 5 (some .long) ∈ am_tb := List.mem_filter.mpr ⟨am_tk5 (List.mem_of_getElem? (i := 128) (by decide +kernel)), rfl⟩
theorem tw_1162 : Cond.instanceMethod yX12_numberOf ∈ am_tb := List.mem_filter.mpr ⟨am_tk5 (List.mem_of_getElem? (i := 127) (by decide +kernel)), rfl⟩
theorem tw_36 : Cond.selects RX12 yX12_numberOf yX12_numberOf ∈ am_tb := List.mem_filter.mpr ⟨List.mem_of_getElem? (i := 36) (by decide +kernel), rfl⟩
theorem tw_1160 : Cond.methodLink RX12 121 yX12_numberOf ∈ am_tb := List.mem_filter.mpr ⟨am_tk5 (List.mem_of_getElem? (i := 125) (by decide +kernel)), rfl⟩
theorem tw_1159 : Cond.code yX12_number cX12_number 1 (some .long) ∈ am_tb := List.mem_filter.mpr ⟨am_tk5 (List.mem_of_getElem? (i := 124) (by decide +kernel)), rfl⟩
theorem tw_1182 : Cond.instanceMethod yX12_isRod ∈ am_tb := List.mem_filter.mpr ⟨am_tk5 (List.mem_of_getElem? (i := 147) (by decide +kernel)), rfl⟩
theorem tw_40 : Cond.selects RX12 yX12_isRod yX12_isRod ∈ am_tb := List.mem_filter.mpr ⟨List.mem_of_getElem? (i := 40) (by decide +kernel), rfl⟩
theorem tw_1180 : Cond.methodLink RX12 125 yX12_isRod ∈ am_tb := List.mem_filter.mpr ⟨am_tk5 (List.mem_of_getElem? (i := 145) (by decide +kernel)), rfl⟩
theorem tw_1179 : Cond.code yX12_rod cX12_rod 3 (some .int) ∈ am_tb := List.mem_filter.mpr ⟨am_tk5 (List.mem_of_getElem? (i := 144) (by decide +kernel)), rfl⟩
theorem tw_1197 : Cond.constantLong RX12 129 (4) ∈ am_tb := List.mem_filter.mpr ⟨am_tk5 (List.mem_of_getElem? (i := 162) (by decide +kernel)), rfl⟩
theorem tw_1196 : Cond.code yX12_as cX12_as 5 (some .int) ∈ am_tb := List.mem_filter.mpr ⟨am_tk5 (List.mem_of_getElem? (i := 161) (by decide +kernel)), rfl⟩
theorem tw_1314 : Cond.code yX12_cell cX12_cell 2 (some .int) ∈ am_tb := List.mem_filter.mpr ⟨am_tk6 (List.mem_of_getElem? (i := 39) (by decide +kernel)), rfl⟩
theorem tw_1312 : Cond.methodLink RX12 131 yX12_cell ∈ am_tb := List.mem_filter.mpr ⟨am_tk6 (List.mem_of_getElem? (i := 37) (by decide +kernel)), rfl⟩
theorem tw_1313 : Cond.static yX12_cell ∈ am_tb := List.mem_filter.mpr ⟨am_tk6 (List.mem_of_getElem? (i := 38) (by decide +kernel)), rfl⟩
theorem tw_1315 : Cond.constant RX12 134 (1000000000) ∈ am_tb := List.mem_filter.mpr ⟨am_tk6 (List.mem_of_getElem? (i := 40) (by decide +kernel)), rfl⟩
theorem tw_1319 : Cond.code yX12_layCell cX12_layCell 12 none ∈ am_tb := List.mem_filter.mpr ⟨am_tk6 (List.mem_of_getElem? (i := 44) (by decide +kernel)), rfl⟩
theorem tw_1318 : Cond.instanceMethod yX12_layCell ∈ am_tb := List.mem_filter.mpr ⟨am_tk6 (List.mem_of_getElem? (i := 43) (by decide +kernel)), rfl⟩
theorem tw_61 : Cond.selects RX12 yX12_layCell yX12_layCell ∈ am_tb := List.mem_filter.mpr ⟨List.mem_of_getElem? (i := 61) (by decide +kernel), rfl⟩
theorem tw_1316 : Cond.methodLink RX12 135 yX12_layCell ∈ am_tb := List.mem_filter.mpr ⟨am_tk6 (List.mem_of_getElem? (i := 41) (by decide +kernel)), rfl⟩
theorem tw_1311 : Cond.code yX12_lay cX12_lay 7 none ∈ am_tb := List.mem_filter.mpr ⟨am_tk6 (List.mem_of_getElem? (i := 36) (by decide +kernel)), rfl⟩
theorem tw_1327 : Cond.constantLong RX12 139 (64) ∈ am_tb := List.mem_filter.mpr ⟨am_tk6 (List.mem_of_getElem? (i := 52) (by decide +kernel)), rfl⟩
theorem tw_1326 : Cond.code yX12_onward cX12_onward 8 (some .int) ∈ am_tb := List.mem_filter.mpr ⟨am_tk6 (List.mem_of_getElem? (i := 51) (by decide +kernel)), rfl⟩
theorem tw_1320 : Cond.methodLink RX12 141 yX12_may ∈ am_tb := List.mem_filter.mpr ⟨am_tk6 (List.mem_of_getElem? (i := 45) (by decide +kernel)), rfl⟩
theorem tw_1321 : Cond.static yX12_may ∈ am_tb := List.mem_filter.mpr ⟨am_tk6 (List.mem_of_getElem? (i := 46) (by decide +kernel)), rfl⟩
theorem tw_1325 : Cond.instanceMethod yX12_onward ∈ am_tb := List.mem_filter.mpr ⟨am_tk6 (List.mem_of_getElem? (i := 50) (by decide +kernel)), rfl⟩
theorem tw_62 : Cond.selects RX12 yX12_onward yX12_onward ∈ am_tb := List.mem_filter.mpr ⟨List.mem_of_getElem? (i := 62) (by decide +kernel), rfl⟩
theorem tw_1323 : Cond.methodLink RX12 145 yX12_onward ∈ am_tb := List.mem_filter.mpr ⟨am_tk6 (List.mem_of_getElem? (i := 48) (by decide +kernel)), rfl⟩
theorem tw_1330 : Cond.instanceMethod yX12_change ∈ am_tb := List.mem_filter.mpr ⟨am_tk6 (List.mem_of_getElem? (i := 55) (by decide +kernel)), rfl⟩
theorem tw_63 : Cond.selects RX12 yX12_change yX12_change ∈ am_tb := List.mem_filter.mpr ⟨List.mem_of_getElem? (i := 63) (by decide +kernel), rfl⟩
theorem tw_1328 : Cond.methodLink RX12 149 yX12_change ∈ am_tb := List.mem_filter.mpr ⟨am_tk6 (List.mem_of_getElem? (i := 53) (by decide +kernel)), rfl⟩
theorem tw_1307 : Cond.constantLong RX12 153 (1000000000) ∈ am_tb := List.mem_filter.mpr ⟨am_tk6 (List.mem_of_getElem? (i := 32) (by decide +kernel)), rfl⟩
theorem tw_1310 : Cond.instanceMethod yX12_lay ∈ am_tb := List.mem_filter.mpr ⟨am_tk6 (List.mem_of_getElem? (i := 35) (by decide +kernel)), rfl⟩
theorem tw_60 : Cond.selects RX12 yX12_lay yX12_lay ∈ am_tb := List.mem_filter.mpr ⟨List.mem_of_getElem? (i := 60) (by decide +kernel), rfl⟩
theorem tw_1308 : Cond.methodLink RX12 155 yX12_lay ∈ am_tb := List.mem_filter.mpr ⟨am_tk6 (List.mem_of_getElem? (i := 33) (by decide +kernel)), rfl⟩
theorem tw_1306 : Cond.code yX12_isShown cX12_isShown 5 (some .boolean) ∈ am_tb := List.mem_filter.mpr ⟨am_tk6 (List.mem_of_getElem? (i := 31) (by decide +kernel)), rfl⟩
theorem tw_1341 : Cond.code yX12_layDue cX12_layDue 11 none ∈ am_tb := List.mem_filter.mpr ⟨am_tk6 (List.mem_of_getElem? (i := 66) (by decide +kernel)), rfl⟩
theorem tw_1345 : Cond.constant RX12 159 (1000000) ∈ am_tb := List.mem_filter.mpr ⟨am_tk6 (List.mem_of_getElem? (i := 70) (by decide +kernel)), rfl⟩
theorem tw_1344 : Cond.code yX12_counted cX12_counted 1 (some .int) ∈ am_tb := List.mem_filter.mpr ⟨am_tk6 (List.mem_of_getElem? (i := 69) (by decide +kernel)), rfl⟩
theorem tw_1305 : Cond.instanceMethod yX12_isShown ∈ am_tb := List.mem_filter.mpr ⟨am_tk6 (List.mem_of_getElem? (i := 30) (by decide +kernel)), rfl⟩
theorem tw_59 : Cond.selects RX12 yX12_isShown yX12_isShown ∈ am_tb := List.mem_filter.mpr ⟨List.mem_of_getElem? (i := 59) (by decide +kernel), rfl⟩
theorem tw_1303 : Cond.methodLink RX12 160 yX12_isShown ∈ am_tb := List.mem_filter.mpr ⟨am_tk6 (List.mem_of_getElem? (i := 28) (by decide +kernel)), rfl⟩
theorem tw_1340 : Cond.instanceMethod yX12_layDue ∈ am_tb := List.mem_filter.mpr ⟨am_tk6 (List.mem_of_getElem? (i := 65) (by decide +kernel)), rfl⟩
theorem tw_64 : Cond.selects RX12 yX12_layDue yX12_layDue ∈ am_tb := List.mem_filter.mpr ⟨List.mem_of_getElem? (i := 64) (by decide +kernel), rfl⟩
theorem tw_1338 : Cond.methodLink RX12 164 yX12_layDue ∈ am_tb := List.mem_filter.mpr ⟨am_tk6 (List.mem_of_getElem? (i := 63) (by decide +kernel)), rfl⟩
theorem tw_1342 : Cond.methodLink RX12 168 yX12_counted ∈ am_tb := List.mem_filter.mpr ⟨am_tk6 (List.mem_of_getElem? (i := 67) (by decide +kernel)), rfl⟩
theorem tw_1343 : Cond.static yX12_counted ∈ am_tb := List.mem_filter.mpr ⟨am_tk6 (List.mem_of_getElem? (i := 68) (by decide +kernel)), rfl⟩
theorem tw_1302 : Cond.code yX12_sets cX12_sets 6 (some .int) ∈ am_tb := List.mem_filter.mpr ⟨am_tk6 (List.mem_of_getElem? (i := 27) (by decide +kernel)), rfl⟩
theorem tw_1357 : Cond.code yX12_alone cX12_alone 11 (some .int) ∈ am_tb := List.mem_filter.mpr ⟨am_tk6 (List.mem_of_getElem? (i := 82) (by decide +kernel)), rfl⟩
theorem tw_1356 : Cond.instanceMethod yX12_alone ∈ am_tb := List.mem_filter.mpr ⟨am_tk6 (List.mem_of_getElem? (i := 81) (by decide +kernel)), rfl⟩
theorem tw_67 : Cond.selects RX12 yX12_alone yX12_alone ∈ am_tb := List.mem_filter.mpr ⟨List.mem_of_getElem? (i := 67) (by decide +kernel), rfl⟩
theorem tw_1354 : Cond.methodLink RX12 171 yX12_alone ∈ am_tb := List.mem_filter.mpr ⟨am_tk6 (List.mem_of_getElem? (i := 79) (by decide +kernel)), rfl⟩
theorem tw_1353 : Cond.code yX12_carries cX12_carries 6 (some .int) ∈ am_tb := List.mem_filter.mpr ⟨am_tk6 (List.mem_of_getElem? (i := 78) (by decide +kernel)), rfl⟩
theorem tw_1349 : Cond.code yX12_clears cX12_clears 6 none ∈ am_tb := List.mem_filter.mpr ⟨am_tk6 (List.mem_of_getElem? (i := 74) (by decide +kernel)), rfl⟩
theorem tw_1202 : Cond.constantLong RX12 175 (255) ∈ am_tb := List.mem_filter.mpr ⟨am_tk5 (List.mem_of_getElem? (i := 167) (by decide +kernel)), rfl⟩
theorem tw_1033 : Cond.fieldLink RX12 177 "RodBeadsModel" "letterMany" "I" ∈ am_tb := List.mem_filter.mpr ⟨am_tk4 (List.mem_of_getElem? (i := 238) (by decide +kernel)), rfl⟩
theorem tw_1201 : Cond.code yX12_write cX12_write 2 (some .int) ∈ am_tb := List.mem_filter.mpr ⟨am_tk5 (List.mem_of_getElem? (i := 166) (by decide +kernel)), rfl⟩
theorem tw_1206 : Cond.code yX12_erase cX12_erase 2 (some .int) ∈ am_tb := List.mem_filter.mpr ⟨am_tk5 (List.mem_of_getElem? (i := 171) (by decide +kernel)), rfl⟩
theorem tw_1222 : Cond.code yX12_letterAt cX12_letterAt 2 (some .int) ∈ am_tb := List.mem_filter.mpr ⟨am_tk5 (List.mem_of_getElem? (i := 187) (by decide +kernel)), rfl⟩
theorem tw_1226 : Cond.constantLong RX12 180 (97) ∈ am_tb := List.mem_filter.mpr ⟨am_tk5 (List.mem_of_getElem? (i := 191) (by decide +kernel)), rfl⟩
theorem tw_1227 : Cond.constantLong RX12 182 (122) ∈ am_tb := List.mem_filter.mpr ⟨am_tk5 (List.mem_of_getElem? (i := 192) (by decide +kernel)), rfl⟩
theorem tw_1225 : Cond.code yX12_isSmall cX12_isSmall 1 (some .boolean) ∈ am_tb := List.mem_filter.mpr ⟨am_tk5 (List.mem_of_getElem? (i := 190) (by decide +kernel)), rfl⟩
theorem tw_1239 : Cond.constantLong RX12 184 (48) ∈ am_tb := List.mem_filter.mpr ⟨am_tk5 (List.mem_of_getElem? (i := 204) (by decide +kernel)), rfl⟩
theorem tw_1240 : Cond.constantLong RX12 186 (57) ∈ am_tb := List.mem_filter.mpr ⟨am_tk5 (List.mem_of_getElem? (i := 205) (by decide +kernel)), rfl⟩
theorem tw_1238 : Cond.code yX12_isFigure cX12_isFigure 1 (some .boolean) ∈ am_tb := List.mem_filter.mpr ⟨am_tk5 (List.mem_of_getElem? (i := 203) (by decide +kernel)), rfl⟩
theorem tw_1035 : Cond.fieldLink RX12 188 "RodBeadsModel" "readAt" "I" ∈ am_tb := List.mem_filter.mpr ⟨am_tk5 (List.mem_of_getElem? (i := 0) (by decide +kernel)), rfl⟩
theorem tw_1221 : Cond.instanceMethod yX12_letterAt ∈ am_tb := List.mem_filter.mpr ⟨am_tk5 (List.mem_of_getElem? (i := 186) (by decide +kernel)), rfl⟩
theorem tw_43 : Cond.selects RX12 yX12_letterAt yX12_letterAt ∈ am_tb := List.mem_filter.mpr ⟨List.mem_of_getElem? (i := 43) (by decide +kernel), rfl⟩
theorem tw_1219 : Cond.methodLink RX12 191 yX12_letterAt ∈ am_tb := List.mem_filter.mpr ⟨am_tk5 (List.mem_of_getElem? (i := 184) (by decide +kernel)), rfl⟩
theorem tw_1036 : Cond.fieldLink RX12 194 "RodBeadsModel" "tokenAt" "I" ∈ am_tb := List.mem_filter.mpr ⟨am_tk5 (List.mem_of_getElem? (i := 1) (by decide +kernel)), rfl⟩
theorem tw_1037 : Cond.fieldLink RX12 197 "RodBeadsModel" "token" "I" ∈ am_tb := List.mem_filter.mpr ⟨am_tk5 (List.mem_of_getElem? (i := 2) (by decide +kernel)), rfl⟩
theorem tw_1223 : Cond.methodLink RX12 200 yX12_isSmall ∈ am_tb := List.mem_filter.mpr ⟨am_tk5 (List.mem_of_getElem? (i := 188) (by decide +kernel)), rfl⟩
theorem tw_1224 : Cond.static yX12_isSmall ∈ am_tb := List.mem_filter.mpr ⟨am_tk5 (List.mem_of_getElem? (i := 189) (by decide +kernel)), rfl⟩
theorem tw_1231 : Cond.code yX12_wordOf cX12_wordOf 6 (some .int) ∈ am_tb := List.mem_filter.mpr ⟨am_tk5 (List.mem_of_getElem? (i := 196) (by decide +kernel)), rfl⟩
theorem tw_1230 : Cond.instanceMethod yX12_wordOf ∈ am_tb := List.mem_filter.mpr ⟨am_tk5 (List.mem_of_getElem? (i := 195) (by decide +kernel)), rfl⟩
theorem tw_44 : Cond.selects RX12 yX12_wordOf yX12_wordOf ∈ am_tb := List.mem_filter.mpr ⟨List.mem_of_getElem? (i := 44) (by decide +kernel), rfl⟩
theorem tw_1228 : Cond.methodLink RX12 203 yX12_wordOf ∈ am_tb := List.mem_filter.mpr ⟨am_tk5 (List.mem_of_getElem? (i := 193) (by decide +kernel)), rfl⟩
theorem tw_1040 : Cond.fieldLink RX12 206 "RodBeadsModel" "word" "I" ∈ am_tb := List.mem_filter.mpr ⟨am_tk5 (List.mem_of_getElem? (i := 5) (by decide +kernel)), rfl⟩
theorem tw_1236 : Cond.methodLink RX12 209 yX12_isFigure ∈ am_tb := List.mem_filter.mpr ⟨am_tk5 (List.mem_of_getElem? (i := 201) (by decide +kernel)), rfl⟩
theorem tw_1237 : Cond.static yX12_isFigure ∈ am_tb := List.mem_filter.mpr ⟨am_tk5 (List.mem_of_getElem? (i := 202) (by decide +kernel)), rfl⟩
theorem tw_1244 : Cond.code yX12_readsNumber cX12_readsNumber 1 none ∈ am_tb := List.mem_filter.mpr ⟨am_tk5 (List.mem_of_getElem? (i := 209) (by decide +kernel)), rfl⟩
theorem tw_1243 : Cond.instanceMethod yX12_readsNumber ∈ am_tb := List.mem_filter.mpr ⟨am_tk5 (List.mem_of_getElem? (i := 208) (by decide +kernel)), rfl⟩
theorem tw_45 : Cond.selects RX12 yX12_readsNumber yX12_readsNumber ∈ am_tb := List.mem_filter.mpr ⟨List.mem_of_getElem? (i := 45) (by decide +kernel), rfl⟩
theorem tw_1241 : Cond.methodLink RX12 212 yX12_readsNumber ∈ am_tb := List.mem_filter.mpr ⟨am_tk5 (List.mem_of_getElem? (i := 206) (by decide +kernel)), rfl⟩
theorem tw_1218 : Cond.code yX12_reads cX12_reads 2 none ∈ am_tb := List.mem_filter.mpr ⟨am_tk5 (List.mem_of_getElem? (i := 183) (by decide +kernel)), rfl⟩
theorem tw_1039 : Cond.fieldLink RX12 215 "RodBeadsModel" "value" "J" ∈ am_tb := List.mem_filter.mpr ⟨am_tk5 (List.mem_of_getElem? (i := 4) (by decide +kernel)), rfl⟩
theorem tw_1038 : Cond.fieldLink RX12 219 "RodBeadsModel" "digits" "I" ∈ am_tb := List.mem_filter.mpr ⟨am_tk5 (List.mem_of_getElem? (i := 3) (by decide +kernel)), rfl⟩
theorem tw_1245 : Cond.constantLong RX12 222 (10) ∈ am_tb := List.mem_filter.mpr ⟨am_tk5 (List.mem_of_getElem? (i := 210) (by decide +kernel)), rfl⟩
theorem tw_1232 : Cond.constantLong RX12 224 (256) ∈ am_tb := List.mem_filter.mpr ⟨am_tk5 (List.mem_of_getElem? (i := 197) (by decide +kernel)), rfl⟩
theorem tw_1235 : Cond.code yX12_code cX12_code 5 (some .long) ∈ am_tb := List.mem_filter.mpr ⟨am_tk5 (List.mem_of_getElem? (i := 200) (by decide +kernel)), rfl⟩
theorem tw_1233 : Cond.methodLink RX12 226 yX12_code ∈ am_tb := List.mem_filter.mpr ⟨am_tk5 (List.mem_of_getElem? (i := 198) (by decide +kernel)), rfl⟩
theorem tw_1234 : Cond.static yX12_code ∈ am_tb := List.mem_filter.mpr ⟨am_tk5 (List.mem_of_getElem? (i := 199) (by decide +kernel)), rfl⟩
theorem tw_1217 : Cond.instanceMethod yX12_reads ∈ am_tb := List.mem_filter.mpr ⟨am_tk5 (List.mem_of_getElem? (i := 182) (by decide +kernel)), rfl⟩
theorem tw_42 : Cond.selects RX12 yX12_reads yX12_reads ∈ am_tb := List.mem_filter.mpr ⟨List.mem_of_getElem? (i := 42) (by decide +kernel), rfl⟩
theorem tw_1215 : Cond.methodLink RX12 230 yX12_reads ∈ am_tb := List.mem_filter.mpr ⟨am_tk5 (List.mem_of_getElem? (i := 180) (by decide +kernel)), rfl⟩
theorem tw_1257 : Cond.code yX12_numbered cX12_numbered 3 (some .boolean) ∈ am_tb := List.mem_filter.mpr ⟨am_tk5 (List.mem_of_getElem? (i := 222) (by decide +kernel)), rfl⟩
theorem tw_1041 : Cond.fieldLink RX12 233 "RodBeadsModel" "readMany" "I" ∈ am_tb := List.mem_filter.mpr ⟨am_tk5 (List.mem_of_getElem? (i := 6) (by decide +kernel)), rfl⟩
theorem tw_1256 : Cond.instanceMethod yX12_numbered ∈ am_tb := List.mem_filter.mpr ⟨am_tk5 (List.mem_of_getElem? (i := 221) (by decide +kernel)), rfl⟩
theorem tw_48 : Cond.selects RX12 yX12_numbered yX12_numbered ∈ am_tb := List.mem_filter.mpr ⟨List.mem_of_getElem? (i := 48) (by decide +kernel), rfl⟩
theorem tw_1254 : Cond.methodLink RX12 236 yX12_numbered ∈ am_tb := List.mem_filter.mpr ⟨am_tk5 (List.mem_of_getElem? (i := 219) (by decide +kernel)), rfl⟩
theorem tw_1253 : Cond.code yX12_readsRod cX12_readsRod 3 (some .boolean) ∈ am_tb := List.mem_filter.mpr ⟨am_tk5 (List.mem_of_getElem? (i := 218) (by decide +kernel)), rfl⟩
theorem tw_1042 : Cond.fieldLink RX12 239 "RodBeadsModel" "readStuck" "I" ∈ am_tb := List.mem_filter.mpr ⟨am_tk5 (List.mem_of_getElem? (i := 7) (by decide +kernel)), rfl⟩
theorem tw_1261 : Cond.code yX12_readsStuck cX12_readsStuck 2 (some .boolean) ∈ am_tb := List.mem_filter.mpr ⟨am_tk5 (List.mem_of_getElem? (i := 226) (by decide +kernel)), rfl⟩
theorem tw_1252 : Cond.instanceMethod yX12_readsRod ∈ am_tb := List.mem_filter.mpr ⟨am_tk5 (List.mem_of_getElem? (i := 217) (by decide +kernel)), rfl⟩
theorem tw_47 : Cond.selects RX12 yX12_readsRod yX12_readsRod ∈ am_tb := List.mem_filter.mpr ⟨List.mem_of_getElem? (i := 47) (by decide +kernel), rfl⟩
theorem tw_1250 : Cond.methodLink RX12 242 yX12_readsRod ∈ am_tb := List.mem_filter.mpr ⟨am_tk5 (List.mem_of_getElem? (i := 215) (by decide +kernel)), rfl⟩
theorem tw_1260 : Cond.instanceMethod yX12_readsStuck ∈ am_tb := List.mem_filter.mpr ⟨am_tk5 (List.mem_of_getElem? (i := 225) (by decide +kernel)), rfl⟩
theorem tw_49 : Cond.selects RX12 yX12_readsStuck yX12_readsStuck ∈ am_tb := List.mem_filter.mpr ⟨List.mem_of_getElem? (i := 49) (by decide +kernel), rfl⟩
theorem tw_1258 : Cond.methodLink RX12 245 yX12_readsStuck ∈ am_tb := List.mem_filter.mpr ⟨am_tk5 (List.mem_of_getElem? (i := 223) (by decide +kernel)), rfl⟩
theorem tw_1249 : Cond.code yX12_readsClause cX12_readsClause 1 (some .boolean) ∈ am_tb := List.mem_filter.mpr ⟨am_tk5 (List.mem_of_getElem? (i := 214) (by decide +kernel)), rfl⟩
theorem tw_1043 : Cond.fieldLink RX12 249 "RodBeadsModel" "clauses" "I" ∈ am_tb := List.mem_filter.mpr ⟨am_tk5 (List.mem_of_getElem? (i := 8) (by decide +kernel)), rfl⟩
theorem tw_1028 : Cond.fieldLink RX12 252 "RodBeadsModel" "told" "I" ∈ am_tb := List.mem_filter.mpr ⟨am_tk4 (List.mem_of_getElem? (i := 233) (by decide +kernel)), rfl⟩
theorem tw_1248 : Cond.instanceMethod yX12_readsClause ∈ am_tb := List.mem_filter.mpr ⟨am_tk5 (List.mem_of_getElem? (i := 213) (by decide +kernel)), rfl⟩
theorem tw_46 : Cond.selects RX12 yX12_readsClause yX12_readsClause ∈ am_tb := List.mem_filter.mpr ⟨List.mem_of_getElem? (i := 46) (by decide +kernel), rfl⟩
theorem tw_1246 : Cond.methodLink RX12 255 yX12_readsClause ∈ am_tb := List.mem_filter.mpr ⟨am_tk5 (List.mem_of_getElem? (i := 211) (by decide +kernel)), rfl⟩
theorem tw_1214 : Cond.code yX12_readsFrame cX12_readsFrame 2 (some .boolean) ∈ am_tb := List.mem_filter.mpr ⟨am_tk5 (List.mem_of_getElem? (i := 179) (by decide +kernel)), rfl⟩
theorem tw_1049 : Cond.fieldLink RX12 258 "RodBeadsModel" "isTrouble" "Z" ∈ am_tb := List.mem_filter.mpr ⟨am_tk5 (List.mem_of_getElem? (i := 14) (by decide +kernel)), rfl⟩
theorem tw_1294 : Cond.constantLong RX12 262 (-1000000000000) ∈ am_tb := List.mem_filter.mpr ⟨am_tk6 (List.mem_of_getElem? (i := 19) (by decide +kernel)), rfl⟩
theorem tw_1289 : Cond.constantLong RX12 264 (1000000000000) ∈ am_tb := List.mem_filter.mpr ⟨am_tk6 (List.mem_of_getElem? (i := 14) (by decide +kernel)), rfl⟩
theorem tw_1293 : Cond.code yX12_bounded cX12_bounded 3 (some .long) ∈ am_tb := List.mem_filter.mpr ⟨am_tk6 (List.mem_of_getElem? (i := 18) (by decide +kernel)), rfl⟩
theorem tw_1288 : Cond.code yX12_size cX12_size 2 (some .long) ∈ am_tb := List.mem_filter.mpr ⟨am_tk6 (List.mem_of_getElem? (i := 13) (by decide +kernel)), rfl⟩
theorem tw_1286 : Cond.methodLink RX12 266 yX12_size ∈ am_tb := List.mem_filter.mpr ⟨am_tk6 (List.mem_of_getElem? (i := 11) (by decide +kernel)), rfl⟩
theorem tw_1287 : Cond.static yX12_size ∈ am_tb := List.mem_filter.mpr ⟨am_tk6 (List.mem_of_getElem? (i := 12) (by decide +kernel)), rfl⟩
theorem tw_1285 : Cond.code yX12_product cX12_product 5 (some .long) ∈ am_tb := List.mem_filter.mpr ⟨am_tk6 (List.mem_of_getElem? (i := 10) (by decide +kernel)), rfl⟩
theorem tw_1050 : Cond.fieldLink RX12 270 "RodBeadsModel" "depth" "I" ∈ am_tb := List.mem_filter.mpr ⟨am_tk5 (List.mem_of_getElem? (i := 15) (by decide +kernel)), rfl⟩
theorem tw_1277 : Cond.code yX12_opens cX12_opens 1 none ∈ am_tb := List.mem_filter.mpr ⟨am_tk6 (List.mem_of_getElem? (i := 2) (by decide +kernel)), rfl⟩
theorem tw_1048 : Cond.fieldLink RX12 273 "RodBeadsModel" "isDoing" "Z" ∈ am_tb := List.mem_filter.mpr ⟨am_tk5 (List.mem_of_getElem? (i := 13) (by decide +kernel)), rfl⟩
theorem tw_1284 : Cond.instanceMethod yX12_product ∈ am_tb := List.mem_filter.mpr ⟨am_tk6 (List.mem_of_getElem? (i := 9) (by decide +kernel)), rfl⟩
theorem tw_55 : Cond.selects RX12 yX12_product yX12_product ∈ am_tb := List.mem_filter.mpr ⟨List.mem_of_getElem? (i := 55) (by decide +kernel), rfl⟩
theorem tw_1282 : Cond.methodLink RX12 276 yX12_product ∈ am_tb := List.mem_filter.mpr ⟨am_tk6 (List.mem_of_getElem? (i := 7) (by decide +kernel)), rfl⟩
theorem tw_1292 : Cond.instanceMethod yX12_bounded ∈ am_tb := List.mem_filter.mpr ⟨am_tk6 (List.mem_of_getElem? (i := 17) (by decide +kernel)), rfl⟩
theorem tw_56 : Cond.selects RX12 yX12_bounded yX12_bounded ∈ am_tb := List.mem_filter.mpr ⟨List.mem_of_getElem? (i := 56) (by decide +kernel), rfl⟩
theorem tw_1290 : Cond.methodLink RX12 280 yX12_bounded ∈ am_tb := List.mem_filter.mpr ⟨am_tk6 (List.mem_of_getElem? (i := 15) (by decide +kernel)), rfl⟩
theorem tw_1281 : Cond.code yX12_part cX12_part 5 none ∈ am_tb := List.mem_filter.mpr ⟨am_tk6 (List.mem_of_getElem? (i := 6) (by decide +kernel)), rfl⟩
theorem tw_1298 : Cond.code yX12_closesTerm cX12_closesTerm 1 none ∈ am_tb := List.mem_filter.mpr ⟨am_tk6 (List.mem_of_getElem? (i := 23) (by decide +kernel)), rfl⟩
theorem tw_1276 : Cond.instanceMethod yX12_opens ∈ am_tb := List.mem_filter.mpr ⟨am_tk6 (List.mem_of_getElem? (i := 1) (by decide +kernel)), rfl⟩
theorem tw_53 : Cond.selects RX12 yX12_opens yX12_opens ∈ am_tb := List.mem_filter.mpr ⟨List.mem_of_getElem? (i := 53) (by decide +kernel), rfl⟩
theorem tw_1274 : Cond.methodLink RX12 283 yX12_opens ∈ am_tb := List.mem_filter.mpr ⟨am_tk5 (List.mem_of_getElem? (i := 239) (by decide +kernel)), rfl⟩
theorem tw_1280 : Cond.instanceMethod yX12_part ∈ am_tb := List.mem_filter.mpr ⟨am_tk6 (List.mem_of_getElem? (i := 5) (by decide +kernel)), rfl⟩
theorem tw_54 : Cond.selects RX12 yX12_part yX12_part ∈ am_tb := List.mem_filter.mpr ⟨List.mem_of_getElem? (i := 54) (by decide +kernel), rfl⟩
theorem tw_1278 : Cond.methodLink RX12 286 yX12_part ∈ am_tb := List.mem_filter.mpr ⟨am_tk6 (List.mem_of_getElem? (i := 3) (by decide +kernel)), rfl⟩
theorem tw_1297 : Cond.instanceMethod yX12_closesTerm ∈ am_tb := List.mem_filter.mpr ⟨am_tk6 (List.mem_of_getElem? (i := 22) (by decide +kernel)), rfl⟩
theorem tw_57 : Cond.selects RX12 yX12_closesTerm yX12_closesTerm ∈ am_tb := List.mem_filter.mpr ⟨List.mem_of_getElem? (i := 57) (by decide +kernel), rfl⟩
theorem tw_1295 : Cond.methodLink RX12 290 yX12_closesTerm ∈ am_tb := List.mem_filter.mpr ⟨am_tk6 (List.mem_of_getElem? (i := 20) (by decide +kernel)), rfl⟩
