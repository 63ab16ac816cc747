theorem tw_647 : Cond.methodLink RX10 65 yJ7_fill_53178 ∈ am_tb := List.mem_filter.mpr ⟨am_tk3 (List.mem_of_getElem? (i := 92) rfl), by decide +kernel⟩
theorem tw_648 : Cond.methodLink RX10 71 yX5_put ∈ am_tb := List.mem_filter.mpr ⟨am_tk3 (List.mem_of_getElem? (i := 93) rfl), by decide +kernel⟩
theorem tw_649 : Cond.methodLink RX10 77 yX1_rodAt ∈ am_tb := List.mem_filter.mpr ⟨am_tk3 (List.mem_of_getElem? (i := 94) rfl), by decide +kernel⟩
theorem tw_653 : Cond.code yX10_loadRod cX10_loadRod 9 none ∈ am_tb := List.mem_filter.mpr ⟨am_tk3 (List.mem_of_getElem? (i := 98) rfl), by decide +kernel⟩
theorem tw_652 : Cond.instanceMethod yX10_loadRod ∈ am_tb := List.mem_filter.mpr ⟨am_tk3 (List.mem_of_getElem? (i := 97) rfl), by decide +kernel⟩
theorem tw_13 : Cond.selects RX10 yX10_loadRod yX10_loadRod ∈ am_tb := List.mem_filter.mpr ⟨List.mem_of_getElem? (i := 13) (by decide +kernel), by decide +kernel⟩
theorem tw_650 : Cond.methodLink RX10 81 yX10_loadRod ∈ am_tb := List.mem_filter.mpr ⟨am_tk3 (List.mem_of_getElem? (i := 95) rfl), by decide +kernel⟩
theorem tw_457 : Cond.fieldLink RX10 85 "RodBeads$Rod" "base" "I" ∈ am_tb := List.mem_filter.mpr ⟨am_tk2 (List.mem_of_getElem? (i := 142) rfl), by decide +kernel⟩
theorem tw_710 : Cond.code yX10_loadBounds cX10_loadBounds 6 none ∈ am_tb := List.mem_filter.mpr ⟨am_tk3 (List.mem_of_getElem? (i := 155) rfl), by decide +kernel⟩
theorem tw_709 : Cond.instanceMethod yX10_loadBounds ∈ am_tb := List.mem_filter.mpr ⟨am_tk3 (List.mem_of_getElem? (i := 154) rfl), by decide +kernel⟩
theorem tw_15 : Cond.selects RX10 yX10_loadBounds yX10_loadBounds ∈ am_tb := List.mem_filter.mpr ⟨List.mem_of_getElem? (i := 15) (by decide +kernel), by decide +kernel⟩
theorem tw_707 : Cond.methodLink RX10 90 yX10_loadBounds ∈ am_tb := List.mem_filter.mpr ⟨am_tk3 (List.mem_of_getElem? (i := 152) rfl), by decide +kernel⟩
theorem tw_644 : Cond.code yX10_load cX10_load 6 none ∈ am_tb := List.mem_filter.mpr ⟨am_tk3 (List.mem_of_getElem? (i := 89) rfl), by decide +kernel⟩
theorem tw_654 : Cond.methodLink RX10 94 ⟨"RodBeads$Rod", "highWorth", "()I"⟩ ∈ am_tb := List.mem_filter.mpr ⟨am_tk3 (List.mem_of_getElem? (i := 99) rfl), by decide +kernel⟩
theorem tw_465 : Cond.fieldLink RX10 98 "RodBeads$Rod" "highBeads" "I" ∈ am_tb := List.mem_filter.mpr ⟨am_tk2 (List.mem_of_getElem? (i := 150) rfl), by decide +kernel⟩
theorem tw_657 : Cond.code yX10_price cX10_price 8 (some .int) ∈ am_tb := List.mem_filter.mpr ⟨am_tk3 (List.mem_of_getElem? (i := 102) rfl), by decide +kernel⟩
theorem tw_655 : Cond.methodLink RX10 101 yX10_price ∈ am_tb := List.mem_filter.mpr ⟨am_tk3 (List.mem_of_getElem? (i := 100) rfl), by decide +kernel⟩
theorem tw_656 : Cond.static yX10_price ∈ am_tb := List.mem_filter.mpr ⟨am_tk3 (List.mem_of_getElem? (i := 101) rfl), by decide +kernel⟩
theorem tw_462 : Cond.fieldLink RX10 105 "RodBeads$Rod" "lowBeads" "I" ∈ am_tb := List.mem_filter.mpr ⟨am_tk2 (List.mem_of_getElem? (i := 147) rfl), by decide +kernel⟩
theorem tw_698 : Cond.methodLink RX10 108 yX4_worthOf ∈ am_tb := List.mem_filter.mpr ⟨am_tk3 (List.mem_of_getElem? (i := 143) rfl), by decide +kernel⟩
theorem tw_701 : Cond.code yX10_slot cX10_slot 2 (some .int) ∈ am_tb := List.mem_filter.mpr ⟨am_tk3 (List.mem_of_getElem? (i := 146) rfl), by decide +kernel⟩
theorem tw_699 : Cond.methodLink RX10 111 yX10_slot ∈ am_tb := List.mem_filter.mpr ⟨am_tk3 (List.mem_of_getElem? (i := 144) rfl), by decide +kernel⟩
theorem tw_700 : Cond.static yX10_slot ∈ am_tb := List.mem_filter.mpr ⟨am_tk3 (List.mem_of_getElem? (i := 145) rfl), by decide +kernel⟩
theorem tw_705 : Cond.code yX10_addChoice cX10_addChoice 4 none ∈ am_tb := List.mem_filter.mpr ⟨am_tk3 (List.mem_of_getElem? (i := 150) rfl), by decide +kernel⟩
theorem tw_704 : Cond.instanceMethod yX10_addChoice ∈ am_tb := List.mem_filter.mpr ⟨am_tk3 (List.mem_of_getElem? (i := 149) rfl), by decide +kernel⟩
theorem tw_14 : Cond.selects RX10 yX10_addChoice yX10_addChoice ∈ am_tb := List.mem_filter.mpr ⟨List.mem_of_getElem? (i := 14) (by decide +kernel), by decide +kernel⟩
theorem tw_702 : Cond.methodLink RX10 114 yX10_addChoice ∈ am_tb := List.mem_filter.mpr ⟨am_tk3 (List.mem_of_getElem? (i := 147) rfl), by decide +kernel⟩
theorem tw_658 : Cond.methodLink RX10 118 yX7_beads ∈ am_tb := List.mem_filter.mpr ⟨am_tk3 (List.mem_of_getElem? (i := 103) rfl), by decide +kernel⟩
theorem tw_659 : Cond.methodLink RX10 123 Lib.Math.abs.name ∈ am_tb := List.mem_filter.mpr ⟨am_tk3 (List.mem_of_getElem? (i := 104) rfl), by decide +kernel⟩
theorem tw_660 : Cond.static Lib.Math.abs.name ∈ am_tb := List.mem_filter.mpr ⟨am_tk3 (List.mem_of_getElem? (i := 105) rfl), by decide +kernel⟩
theorem tw_661 : Cond.code Lib.Math.abs.name Lib.Math.abs.code 1 (some .int) ∈ am_tb := List.mem_filter.mpr ⟨am_tk3 (List.mem_of_getElem? (i := 106) rfl), by decide +kernel⟩
theorem tw_663 : Cond.instanceMethod yX7_isStuck ∈ am_tb := List.mem_filter.mpr ⟨am_tk3 (List.mem_of_getElem? (i := 108) rfl), by decide +kernel⟩
theorem tw_664 : Cond.selects RX7 yX7_isStuck yX7_isStuck ∈ am_tb := List.mem_filter.mpr ⟨am_tk3 (List.mem_of_getElem? (i := 109) rfl), by decide +kernel⟩
theorem tw_662 : Cond.methodLink RX10 127 yX7_isStuck ∈ am_tb := List.mem_filter.mpr ⟨am_tk3 (List.mem_of_getElem? (i := 107) rfl), by decide +kernel⟩
theorem tw_667 : Cond.methodLink RX10 131 yX7_partBit ∈ am_tb := List.mem_filter.mpr ⟨am_tk3 (List.mem_of_getElem? (i := 112) rfl), by decide +kernel⟩
theorem tw_669 : Cond.instanceMethod yX4_timeOf ∈ am_tb := List.mem_filter.mpr ⟨am_tk3 (List.mem_of_getElem? (i := 114) rfl), by decide +kernel⟩
theorem tw_671 : Cond.selects RX0 yX4_timeOf yX4_timeOf ∈ am_tb := List.mem_filter.mpr ⟨am_tk3 (List.mem_of_getElem? (i := 116) rfl), by decide +kernel⟩
theorem tw_668 : Cond.methodLink RX10 134 yX4_timeOf ∈ am_tb := List.mem_filter.mpr ⟨am_tk3 (List.mem_of_getElem? (i := 113) rfl), by decide +kernel⟩
theorem tw_672 : Cond.selects RX2 yX4_timeOf yX4_timeOf ∈ am_tb := List.mem_filter.mpr ⟨am_tk3 (List.mem_of_getElem? (i := 117) rfl), by decide +kernel⟩
theorem tw_673 : Cond.selects RX3 yX4_timeOf yX4_timeOf ∈ am_tb := List.mem_filter.mpr ⟨am_tk3 (List.mem_of_getElem? (i := 118) rfl), by decide +kernel⟩
theorem tw_674 : Cond.selects RX6 yX4_timeOf yX4_timeOf ∈ am_tb := List.mem_filter.mpr ⟨am_tk3 (List.mem_of_getElem? (i := 119) rfl), by decide +kernel⟩
theorem tw_706 : Cond.methodLink RX10 137 yX5_at ∈ am_tb := List.mem_filter.mpr ⟨am_tk3 (List.mem_of_getElem? (i := 151) rfl), by decide +kernel⟩
theorem tw_714 : Cond.code yX10_costOf cX10_costOf 4 (some .int) ∈ am_tb := List.mem_filter.mpr ⟨am_tk3 (List.mem_of_getElem? (i := 159) rfl), by decide +kernel⟩
theorem tw_712 : Cond.instanceMethod yX10_costOf ∈ am_tb := List.mem_filter.mpr ⟨am_tk3 (List.mem_of_getElem? (i := 157) rfl), by decide +kernel⟩
theorem tw_713 : Cond.selects RX10 yX10_costOf yX10_costOf ∈ am_tb := List.mem_filter.mpr ⟨am_tk3 (List.mem_of_getElem? (i := 158) rfl), by decide +kernel⟩
theorem tw_711 : Cond.methodLink RX10 141 yX10_costOf ∈ am_tb := List.mem_filter.mpr ⟨am_tk3 (List.mem_of_getElem? (i := 156) rfl), by decide +kernel⟩
theorem tw_718 : Cond.code yX10_mostFrom cX10_mostFrom 2 (some .int) ∈ am_tb := List.mem_filter.mpr ⟨am_tk3 (List.mem_of_getElem? (i := 163) rfl), by decide +kernel⟩
theorem tw_716 : Cond.instanceMethod yX10_mostFrom ∈ am_tb := List.mem_filter.mpr ⟨am_tk3 (List.mem_of_getElem? (i := 161) rfl), by decide +kernel⟩
theorem tw_717 : Cond.selects RX10 yX10_mostFrom yX10_mostFrom ∈ am_tb := List.mem_filter.mpr ⟨am_tk3 (List.mem_of_getElem? (i := 162) rfl), by decide +kernel⟩
theorem tw_715 : Cond.methodLink RX10 144 yX10_mostFrom ∈ am_tb := List.mem_filter.mpr ⟨am_tk3 (List.mem_of_getElem? (i := 160) rfl), by decide +kernel⟩
theorem tw_722 : Cond.code yX10_fewestFrom cX10_fewestFrom 2 (some .int) ∈ am_tb := List.mem_filter.mpr ⟨am_tk3 (List.mem_of_getElem? (i := 167) rfl), by decide +kernel⟩
theorem tw_720 : Cond.instanceMethod yX10_fewestFrom ∈ am_tb := List.mem_filter.mpr ⟨am_tk3 (List.mem_of_getElem? (i := 165) rfl), by decide +kernel⟩
theorem tw_721 : Cond.selects RX10 yX10_fewestFrom yX10_fewestFrom ∈ am_tb := List.mem_filter.mpr ⟨am_tk3 (List.mem_of_getElem? (i := 166) rfl), by decide +kernel⟩
theorem tw_719 : Cond.methodLink RX10 147 yX10_fewestFrom ∈ am_tb := List.mem_filter.mpr ⟨am_tk3 (List.mem_of_getElem? (i := 164) rfl), by decide +kernel⟩
theorem tw_735 : Cond.methodLink RX10 150 Lib.Math.max.name ∈ am_tb := List.mem_filter.mpr ⟨am_tk3 (List.mem_of_getElem? (i := 180) rfl), by decide +kernel⟩
theorem tw_249 : Cond.static Lib.Math.max.name ∈ am_tb := List.mem_filter.mpr ⟨am_tk1 (List.mem_of_getElem? (i := 174) rfl), by decide +kernel⟩
theorem tw_250 : Cond.code Lib.Math.max.name Lib.Math.max.code 2 (some .int) ∈ am_tb := List.mem_filter.mpr ⟨am_tk1 (List.mem_of_getElem? (i := 175) rfl), by decide +kernel⟩
theorem tw_734 : Cond.code yX10_baseOf cX10_baseOf 2 (some .int) ∈ am_tb := List.mem_filter.mpr ⟨am_tk3 (List.mem_of_getElem? (i := 179) rfl), by decide +kernel⟩
theorem tw_730 : Cond.code yX10_aim cX10_aim 4 none ∈ am_tb := List.mem_filter.mpr ⟨am_tk3 (List.mem_of_getElem? (i := 175) rfl), by decide +kernel⟩
theorem tw_729 : Cond.instanceMethod yX10_aim ∈ am_tb := List.mem_filter.mpr ⟨am_tk3 (List.mem_of_getElem? (i := 174) rfl), by decide +kernel⟩
theorem tw_16 : Cond.selects RX10 yX10_aim yX10_aim ∈ am_tb := List.mem_filter.mpr ⟨List.mem_of_getElem? (i := 16) (by decide +kernel), by decide +kernel⟩
theorem tw_727 : Cond.methodLink RX10 153 yX10_aim ∈ am_tb := List.mem_filter.mpr ⟨am_tk3 (List.mem_of_getElem? (i := 172) rfl), by decide +kernel⟩
theorem tw_739 : Cond.code yX10_leastFrom cX10_leastFrom 8 (some .int) ∈ am_tb := List.mem_filter.mpr ⟨am_tk3 (List.mem_of_getElem? (i := 184) rfl), by decide +kernel⟩
theorem tw_738 : Cond.instanceMethod yX10_leastFrom ∈ am_tb := List.mem_filter.mpr ⟨am_tk3 (List.mem_of_getElem? (i := 183) rfl), by decide +kernel⟩
theorem tw_18 : Cond.selects RX10 yX10_leastFrom yX10_leastFrom ∈ am_tb := List.mem_filter.mpr ⟨List.mem_of_getElem? (i := 18) (by decide +kernel), by decide +kernel⟩
theorem tw_736 : Cond.methodLink RX10 157 yX10_leastFrom ∈ am_tb := List.mem_filter.mpr ⟨am_tk3 (List.mem_of_getElem? (i := 181) rfl), by decide +kernel⟩
theorem tw_726 : Cond.code yX10_least cX10_least 3 (some .int) ∈ am_tb := List.mem_filter.mpr ⟨am_tk3 (List.mem_of_getElem? (i := 171) rfl), by decide +kernel⟩
theorem tw_882 : Cond.code yX10_howManyFrom cX10_howManyFrom 8 (some .int) ∈ am_tb := List.mem_filter.mpr ⟨am_tk4 (List.mem_of_getElem? (i := 87) rfl), by decide +kernel⟩
theorem tw_881 : Cond.instanceMethod yX10_howManyFrom ∈ am_tb := List.mem_filter.mpr ⟨am_tk4 (List.mem_of_getElem? (i := 86) rfl), by decide +kernel⟩
theorem tw_24 : Cond.selects RX10 yX10_howManyFrom yX10_howManyFrom ∈ am_tb := List.mem_filter.mpr ⟨List.mem_of_getElem? (i := 24) (by decide +kernel), by decide +kernel⟩
theorem tw_879 : Cond.methodLink RX10 160 yX10_howManyFrom ∈ am_tb := List.mem_filter.mpr ⟨am_tk4 (List.mem_of_getElem? (i := 84) rfl), by decide +kernel⟩
theorem tw_878 : Cond.code yX10_howMany cX10_howMany 3 (some .int) ∈ am_tb := List.mem_filter.mpr ⟨am_tk4 (List.mem_of_getElem? (i := 83) rfl), by decide +kernel⟩
theorem tw_733 : Cond.instanceMethod yX10_baseOf ∈ am_tb := List.mem_filter.mpr ⟨am_tk3 (List.mem_of_getElem? (i := 178) rfl), by decide +kernel⟩
theorem tw_17 : Cond.selects RX10 yX10_baseOf yX10_baseOf ∈ am_tb := List.mem_filter.mpr ⟨List.mem_of_getElem? (i := 17) (by decide +kernel), by decide +kernel⟩
theorem tw_731 : Cond.methodLink RX10 163 yX10_baseOf ∈ am_tb := List.mem_filter.mpr ⟨am_tk3 (List.mem_of_getElem? (i := 176) rfl), by decide +kernel⟩
theorem tw_743 : Cond.code yX10_isInReach cX10_isInReach 3 (some .boolean) ∈ am_tb := List.mem_filter.mpr ⟨am_tk3 (List.mem_of_getElem? (i := 188) rfl), by decide +kernel⟩
theorem tw_742 : Cond.instanceMethod yX10_isInReach ∈ am_tb := List.mem_filter.mpr ⟨am_tk3 (List.mem_of_getElem? (i := 187) rfl), by decide +kernel⟩
theorem tw_19 : Cond.selects RX10 yX10_isInReach yX10_isInReach ∈ am_tb := List.mem_filter.mpr ⟨List.mem_of_getElem? (i := 19) (by decide +kernel), by decide +kernel⟩
theorem tw_740 : Cond.methodLink RX10 166 yX10_isInReach ∈ am_tb := List.mem_filter.mpr ⟨am_tk3 (List.mem_of_getElem? (i := 185) rfl), by decide +kernel⟩
theorem tw_752 : Cond.code yX10_shownByWay cX10_shownByWay 13 (some .int) ∈ am_tb := List.mem_filter.mpr ⟨am_tk3 (List.mem_of_getElem? (i := 197) rfl), by decide +kernel⟩
theorem tw_751 : Cond.instanceMethod yX10_shownByWay ∈ am_tb := List.mem_filter.mpr ⟨am_tk3 (List.mem_of_getElem? (i := 196) rfl), by decide +kernel⟩
theorem tw_20 : Cond.selects RX10 yX10_shownByWay yX10_shownByWay ∈ am_tb := List.mem_filter.mpr ⟨List.mem_of_getElem? (i := 20) (by decide +kernel), by decide +kernel⟩
theorem tw_749 : Cond.methodLink RX10 169 yX10_shownByWay ∈ am_tb := List.mem_filter.mpr ⟨am_tk3 (List.mem_of_getElem? (i := 194) rfl), by decide +kernel⟩
theorem tw_756 : Cond.code yX10_placeRod cX10_placeRod 5 none ∈ am_tb := List.mem_filter.mpr ⟨am_tk3 (List.mem_of_getElem? (i := 201) rfl), by decide +kernel⟩
theorem tw_754 : Cond.instanceMethod yX10_placeRod ∈ am_tb := List.mem_filter.mpr ⟨am_tk3 (List.mem_of_getElem? (i := 199) rfl), by decide +kernel⟩
theorem tw_755 : Cond.selects RX10 yX10_placeRod yX10_placeRod ∈ am_tb := List.mem_filter.mpr ⟨am_tk3 (List.mem_of_getElem? (i := 200) rfl), by decide +kernel⟩
theorem tw_753 : Cond.methodLink RX10 172 yX10_placeRod ∈ am_tb := List.mem_filter.mpr ⟨am_tk3 (List.mem_of_getElem? (i := 198) rfl), by decide +kernel⟩
theorem tw_748 : Cond.code yX10_placeAll cX10_placeAll 5 none ∈ am_tb := List.mem_filter.mpr ⟨am_tk3 (List.mem_of_getElem? (i := 193) rfl), by decide +kernel⟩
theorem tw_758 : Cond.instanceMethod yX7_place ∈ am_tb := List.mem_filter.mpr ⟨am_tk3 (List.mem_of_getElem? (i := 203) rfl), by decide +kernel⟩
theorem tw_759 : Cond.selects RX7 yX7_place yX7_place ∈ am_tb := List.mem_filter.mpr ⟨am_tk3 (List.mem_of_getElem? (i := 204) rfl), by decide +kernel⟩
theorem tw_757 : Cond.methodLink RX10 176 yX7_place ∈ am_tb := List.mem_filter.mpr ⟨am_tk3 (List.mem_of_getElem? (i := 202) rfl), by decide +kernel⟩
theorem tw_913 : Cond.code yX10_siftFrom cX10_siftFrom 7 none ∈ am_tb := List.mem_filter.mpr ⟨am_tk4 (List.mem_of_getElem? (i := 118) rfl), by decide +kernel⟩
theorem tw_912 : Cond.instanceMethod yX10_siftFrom ∈ am_tb := List.mem_filter.mpr ⟨am_tk4 (List.mem_of_getElem? (i := 117) rfl), by decide +kernel⟩
theorem tw_27 : Cond.selects RX10 yX10_siftFrom yX10_siftFrom ∈ am_tb := List.mem_filter.mpr ⟨List.mem_of_getElem? (i := 27) (by decide +kernel), by decide +kernel⟩
theorem tw_910 : Cond.methodLink RX10 179 yX10_siftFrom ∈ am_tb := List.mem_filter.mpr ⟨am_tk4 (List.mem_of_getElem? (i := 115) rfl), by decide +kernel⟩
theorem tw_909 : Cond.code yX10_sift cX10_sift 5 none ∈ am_tb := List.mem_filter.mpr ⟨am_tk4 (List.mem_of_getElem? (i := 114) rfl), by decide +kernel⟩
theorem tw_917 : Cond.code yX10_sieveOf cX10_sieveOf 2 (some (.array .int)) ∈ am_tb := List.mem_filter.mpr ⟨am_tk4 (List.mem_of_getElem? (i := 122) rfl), by decide +kernel⟩
theorem tw_916 : Cond.instanceMethod yX10_sieveOf ∈ am_tb := List.mem_filter.mpr ⟨am_tk4 (List.mem_of_getElem? (i := 121) rfl), by decide +kernel⟩
theorem tw_28 : Cond.selects RX10 yX10_sieveOf yX10_sieveOf ∈ am_tb := List.mem_filter.mpr ⟨List.mem_of_getElem? (i := 28) (by decide +kernel), by decide +kernel⟩
theorem tw_914 : Cond.methodLink RX10 182 yX10_sieveOf ∈ am_tb := List.mem_filter.mpr ⟨am_tk4 (List.mem_of_getElem? (i := 119) rfl), by decide +kernel⟩
theorem tw_921 : Cond.code yX10_canShow cX10_canShow 5 (some .boolean) ∈ am_tb := List.mem_filter.mpr ⟨am_tk4 (List.mem_of_getElem? (i := 126) rfl), by decide +kernel⟩
theorem tw_920 : Cond.instanceMethod yX10_canShow ∈ am_tb := List.mem_filter.mpr ⟨am_tk4 (List.mem_of_getElem? (i := 125) rfl), by decide +kernel⟩
theorem tw_29 : Cond.selects RX10 yX10_canShow yX10_canShow ∈ am_tb := List.mem_filter.mpr ⟨List.mem_of_getElem? (i := 29) (by decide +kernel), by decide +kernel⟩
theorem tw_918 : Cond.methodLink RX10 186 yX10_canShow ∈ am_tb := List.mem_filter.mpr ⟨am_tk4 (List.mem_of_getElem? (i := 123) rfl), by decide +kernel⟩
theorem tw_925 : Cond.code yX10_isSiftedFrom cX10_isSiftedFrom 4 (some .boolean) ∈ am_tb := List.mem_filter.mpr ⟨am_tk4 (List.mem_of_getElem? (i := 130) rfl), by decide +kernel⟩
theorem tw_924 : Cond.instanceMethod yX10_isSiftedFrom ∈ am_tb := List.mem_filter.mpr ⟨am_tk4 (List.mem_of_getElem? (i := 129) rfl), by decide +kernel⟩
theorem tw_30 : Cond.selects RX10 yX10_isSiftedFrom yX10_isSiftedFrom ∈ am_tb := List.mem_filter.mpr ⟨List.mem_of_getElem? (i := 30) (by decide +kernel), by decide +kernel⟩
theorem tw_922 : Cond.methodLink RX10 189 yX10_isSiftedFrom ∈ am_tb := List.mem_filter.mpr ⟨am_tk4 (List.mem_of_getElem? (i := 127) rfl), by decide +kernel⟩
theorem tw_929 : Cond.code yX10_isSifted cX10_isSifted 2 (some .boolean) ∈ am_tb := List.mem_filter.mpr ⟨am_tk4 (List.mem_of_getElem? (i := 134) rfl), by decide +kernel⟩
theorem tw_100 : Cond.methodLink RX11 1 Lib.objectInit ∈ am_tb := List.mem_filter.mpr ⟨am_tk1 (List.mem_of_getElem? (i := 25) rfl), by decide +kernel⟩
theorem tw_103 : Cond.classLink RX11 7 RX9 ∈ am_tb := List.mem_filter.mpr ⟨am_tk1 (List.mem_of_getElem? (i := 28) rfl), by decide +kernel⟩
theorem tw_104 : Cond.instantiable RX9 6 ∈ am_tb := List.mem_filter.mpr ⟨am_tk1 (List.mem_of_getElem? (i := 29) rfl), by decide +kernel⟩
theorem tw_105 : Cond.methodLinkNest RX11 9 yX9_init "RodBeads" ∈ am_xw := List.mem_filter.mpr ⟨am_tk1 (List.mem_of_getElem? (i := 30) rfl), by decide +kernel⟩
theorem tw_106 : Cond.instanceMethod yX9_init ∈ am_tb := List.mem_filter.mpr ⟨am_tk1 (List.mem_of_getElem? (i := 31) rfl), by decide +kernel⟩
theorem tw_252 : Cond.fieldLink RX11 10 "RodBeads" "text" "LRodBeads$Text;" ∈ am_tb := List.mem_filter.mpr ⟨am_tk1 (List.mem_of_getElem? (i := 177) rfl), by decide +kernel⟩
theorem tw_132 : Cond.classLink RX11 16 RX8 ∈ am_tb := List.mem_filter.mpr ⟨am_tk1 (List.mem_of_getElem? (i := 57) rfl), by decide +kernel⟩
theorem tw_133 : Cond.instantiable RX8 4 ∈ am_tb := List.mem_filter.mpr ⟨am_tk1 (List.mem_of_getElem? (i := 58) rfl), by decide +kernel⟩
theorem tw_134 : Cond.methodLinkNest RX11 18 yX8_init "RodBeads" ∈ am_xw := List.mem_filter.mpr ⟨am_tk1 (List.mem_of_getElem? (i := 59) rfl), by decide +kernel⟩
theorem tw_135 : Cond.instanceMethod yX8_init ∈ am_tb := List.mem_filter.mpr ⟨am_tk1 (List.mem_of_getElem? (i := 60) rfl), by decide +kernel⟩
theorem tw_253 : Cond.fieldLink RX11 19 "RodBeads" "sums" "LRodBeads$Sums;" ∈ am_tb := List.mem_filter.mpr ⟨am_tk1 (List.mem_of_getElem? (i := 178) rfl), by decide +kernel⟩
theorem tw_154 : Cond.classLink RX11 23 RX10 ∈ am_tb := List.mem_filter.mpr ⟨am_tk1 (List.mem_of_getElem? (i := 79) rfl), by decide +kernel⟩
theorem tw_155 : Cond.instantiable RX10 14 ∈ am_tb := List.mem_filter.mpr ⟨am_tk1 (List.mem_of_getElem? (i := 80) rfl), by decide +kernel⟩
theorem tw_156 : Cond.methodLinkNest RX11 25 yX10_init "RodBeads" ∈ am_xw := List.mem_filter.mpr ⟨am_tk1 (List.mem_of_getElem? (i := 81) rfl), by decide +kernel⟩
theorem tw_157 : Cond.instanceMethod yX10_init ∈ am_tb := List.mem_filter.mpr ⟨am_tk1 (List.mem_of_getElem? (i := 82) rfl), by decide +kernel⟩
theorem tw_254 : Cond.fieldLink RX11 26 "RodBeads" "ways" "LRodBeads$Ways;" ∈ am_tb := List.mem_filter.mpr ⟨am_tk1 (List.mem_of_getElem? (i := 179) rfl), by decide +kernel⟩
theorem tw_203 : Cond.classLink RX11 30 RX1 ∈ am_tb := List.mem_filter.mpr ⟨am_tk1 (List.mem_of_getElem? (i := 128) rfl), by decide +kernel⟩
theorem tw_204 : Cond.instantiable RX1 3 ∈ am_tb := List.mem_filter.mpr ⟨am_tk1 (List.mem_of_getElem? (i := 129) rfl), by decide +kernel⟩
theorem tw_205 : Cond.methodLinkNest RX11 32 yX1_init "RodBeads" ∈ am_xw := List.mem_filter.mpr ⟨am_tk1 (List.mem_of_getElem? (i := 130) rfl), by decide +kernel⟩
theorem tw_206 : Cond.instanceMethod yX1_init ∈ am_tb := List.mem_filter.mpr ⟨am_tk1 (List.mem_of_getElem? (i := 131) rfl), by decide +kernel⟩
theorem tw_255 : Cond.fieldLink RX11 33 "RodBeads" "frame" "LRodBeads$Frame;" ∈ am_tb := List.mem_filter.mpr ⟨am_tk1 (List.mem_of_getElem? (i := 180) rfl), by decide +kernel⟩
theorem tw_256 : Cond.fieldLink RX11 37 "RodBeads" "draft" "LRodBeads$Frame;" ∈ am_tb := List.mem_filter.mpr ⟨am_tk1 (List.mem_of_getElem? (i := 181) rfl), by decide +kernel⟩
theorem tw_224 : Cond.classLink RX11 40 RX7 ∈ am_tb := List.mem_filter.mpr ⟨am_tk1 (List.mem_of_getElem? (i := 149) rfl), by decide +kernel⟩
theorem tw_225 : Cond.instantiable RX7 4 ∈ am_tb := List.mem_filter.mpr ⟨am_tk1 (List.mem_of_getElem? (i := 150) rfl), by decide +kernel⟩
theorem tw_226 : Cond.methodLinkNest RX11 42 yX7_init "RodBeads" ∈ am_xw := List.mem_filter.mpr ⟨am_tk1 (List.mem_of_getElem? (i := 151) rfl), by decide +kernel⟩
theorem tw_227 : Cond.instanceMethod yX7_init ∈ am_tb := List.mem_filter.mpr ⟨am_tk1 (List.mem_of_getElem? (i := 152) rfl), by decide +kernel⟩
theorem tw_257 : Cond.fieldLink RX11 43 "RodBeads" "now" "LRodBeads$Standing;" ∈ am_tb := List.mem_filter.mpr ⟨am_tk1 (List.mem_of_getElem? (i := 182) rfl), by decide +kernel⟩
theorem tw_258 : Cond.fieldLink RX11 47 "RodBeads" "trial" "LRodBeads$Standing;" ∈ am_tb := List.mem_filter.mpr ⟨am_tk1 (List.mem_of_getElem? (i := 183) rfl), by decide +kernel⟩
theorem tw_247 : Cond.code yX11_newStandings cX11_newStandings 3 (some (.array (.object "RodBeads$Standing"))) ∈ am_tb := List.mem_filter.mpr ⟨am_tk1 (List.mem_of_getElem? (i := 172) rfl), by decide +kernel⟩
theorem tw_76 : Cond.initialized RX11 ∈ am_tb := List.mem_filter.mpr ⟨am_tk1 (List.mem_of_getElem? (i := 1) rfl), by decide +kernel⟩
theorem tw_245 : Cond.methodLink RX11 50 yX11_newStandings ∈ am_tb := List.mem_filter.mpr ⟨am_tk1 (List.mem_of_getElem? (i := 170) rfl), by decide +kernel⟩
theorem tw_246 : Cond.static yX11_newStandings ∈ am_tb := List.mem_filter.mpr ⟨am_tk1 (List.mem_of_getElem? (i := 171) rfl), by decide +kernel⟩
theorem tw_259 : Cond.fieldLink RX11 54 "RodBeads" "path" "[LRodBeads$Standing;" ∈ am_tb := List.mem_filter.mpr ⟨am_tk1 (List.mem_of_getElem? (i := 184) rfl), by decide +kernel⟩
theorem tw_260 : Cond.fieldLink RX11 58 "RodBeads" "past" "[LRodBeads$Standing;" ∈ am_tb := List.mem_filter.mpr ⟨am_tk1 (List.mem_of_getElem? (i := 185) rfl), by decide +kernel⟩
theorem tw_261 : Cond.fieldLink RX11 61 "RodBeads" "pastSize" "I" ∈ am_tb := List.mem_filter.mpr ⟨am_tk1 (List.mem_of_getElem? (i := 186) rfl), by decide +kernel⟩
theorem tw_262 : Cond.fieldLink RX11 65 "RodBeads" "kept" "[LRodBeads$Standing;" ∈ am_tb := List.mem_filter.mpr ⟨am_tk1 (List.mem_of_getElem? (i := 187) rfl), by decide +kernel⟩
theorem tw_263 : Cond.fieldLink RX11 68 "RodBeads" "keptBits" "I" ∈ am_tb := List.mem_filter.mpr ⟨am_tk1 (List.mem_of_getElem? (i := 188) rfl), by decide +kernel⟩
theorem tw_264 : Cond.fieldLink RX11 71 "RodBeads" "seenRod" "[I" ∈ am_tb := List.mem_filter.mpr ⟨am_tk1 (List.mem_of_getElem? (i := 189) rfl), by decide +kernel⟩
theorem tw_265 : Cond.fieldLink RX11 75 "RodBeads" "seenShown" "[I" ∈ am_tb := List.mem_filter.mpr ⟨am_tk1 (List.mem_of_getElem? (i := 190) rfl), by decide +kernel⟩
theorem tw_266 : Cond.fieldLink RX11 78 "RodBeads" "seenTime" "[I" ∈ am_tb := List.mem_filter.mpr ⟨am_tk1 (List.mem_of_getElem? (i := 191) rfl), by decide +kernel⟩
theorem tw_267 : Cond.fieldLink RX11 81 "RodBeads" "seenSize" "I" ∈ am_tb := List.mem_filter.mpr ⟨am_tk1 (List.mem_of_getElem? (i := 192) rfl), by decide +kernel⟩
theorem tw_99 : Cond.code yX11_init cX11_init 1 none ∈ am_tb := List.mem_filter.mpr ⟨am_tk1 (List.mem_of_getElem? (i := 24) rfl), by decide +kernel⟩
theorem tw_306 : Cond.instanceMethod yX9_add ∈ am_tb := List.mem_filter.mpr ⟨am_tk1 (List.mem_of_getElem? (i := 231) rfl), by decide +kernel⟩
theorem tw_307 : Cond.selects RX9 yX9_add yX9_add ∈ am_tb := List.mem_filter.mpr ⟨am_tk1 (List.mem_of_getElem? (i := 232) rfl), by decide +kernel⟩
theorem tw_305 : Cond.methodLink RX11 84 yX9_add ∈ am_tb := List.mem_filter.mpr ⟨am_tk1 (List.mem_of_getElem? (i := 230) rfl), by decide +kernel⟩
theorem tw_111 : Cond.fieldLink RX11 88 "RodBeads$Text" "size" "I" ∈ am_tb := List.mem_filter.mpr ⟨am_tk1 (List.mem_of_getElem? (i := 36) rfl), by decide +kernel⟩
theorem tw_304 : Cond.code yX11_write cX11_write 2 (some .int) ∈ am_tb := List.mem_filter.mpr ⟨am_tk1 (List.mem_of_getElem? (i := 229) rfl), by decide +kernel⟩
theorem tw_315 : Cond.code yX11_erase cX11_erase 2 (some .int) ∈ am_tb := List.mem_filter.mpr ⟨am_tk2 (List.mem_of_getElem? (i := 0) rfl), by decide +kernel⟩
theorem tw_323 : Cond.code yX11_readDraft cX11_readDraft 1 (some .int) ∈ am_tb := List.mem_filter.mpr ⟨am_tk2 (List.mem_of_getElem? (i := 8) rfl), by decide +kernel⟩
theorem tw_322 : Cond.instanceMethod yX11_readDraft ∈ am_tb := List.mem_filter.mpr ⟨am_tk2 (List.mem_of_getElem? (i := 7) rfl), by decide +kernel⟩
theorem tw_0 : Cond.selects RX11 yX11_readDraft yX11_readDraft ∈ am_tb := List.mem_filter.mpr ⟨List.mem_of_getElem? (i := 0) (by decide +kernel), by decide +kernel⟩
theorem tw_320 : Cond.methodLink RX11 91 yX11_readDraft ∈ am_tb := List.mem_filter.mpr ⟨am_tk2 (List.mem_of_getElem? (i := 5) rfl), by decide +kernel⟩
theorem tw_114 : Cond.fieldLink RX11 95 "RodBeads$Text" "fault" "I" ∈ am_tb := List.mem_filter.mpr ⟨am_tk1 (List.mem_of_getElem? (i := 39) rfl), by decide +kernel⟩
theorem tw_214 : Cond.fieldLink RX11 98 "RodBeads$Frame" "size" "I" ∈ am_tb := List.mem_filter.mpr ⟨am_tk1 (List.mem_of_getElem? (i := 139) rfl), by decide +kernel⟩
theorem tw_518 : Cond.instanceMethod yX8_check ∈ am_tb := List.mem_filter.mpr ⟨am_tk2 (List.mem_of_getElem? (i := 203) rfl), by decide +kernel⟩
theorem tw_519 : Cond.selects RX8 yX8_check yX8_check ∈ am_tb := List.mem_filter.mpr ⟨am_tk2 (List.mem_of_getElem? (i := 204) rfl), by decide +kernel⟩
theorem tw_517 : Cond.methodLink RX11 99 yX8_check ∈ am_tb := List.mem_filter.mpr ⟨am_tk2 (List.mem_of_getElem? (i := 202) rfl), by decide +kernel⟩
theorem tw_319 : Cond.code yX11_fault cX11_fault 2 (some .int) ∈ am_tb := List.mem_filter.mpr ⟨am_tk2 (List.mem_of_getElem? (i := 4) rfl), by decide +kernel⟩
theorem tw_325 : Cond.instanceMethod yX1_copy ∈ am_tb := List.mem_filter.mpr ⟨am_tk2 (List.mem_of_getElem? (i := 10) rfl), by decide +kernel⟩
theorem tw_326 : Cond.selects RX1 yX1_copy yX1_copy ∈ am_tb := List.mem_filter.mpr ⟨am_tk2 (List.mem_of_getElem? (i := 11) rfl), by decide +kernel⟩
theorem tw_324 : Cond.methodLink RX11 103 yX1_copy ∈ am_tb := List.mem_filter.mpr ⟨am_tk2 (List.mem_of_getElem? (i := 9) rfl), by decide +kernel⟩
theorem tw_216 : Cond.fieldLink RX11 107 "RodBeads$Frame" "told" "I" ∈ am_tb := List.mem_filter.mpr ⟨am_tk1 (List.mem_of_getElem? (i := 141) rfl), by decide +kernel⟩
theorem tw_572 : Cond.instanceMethod yX7_begin ∈ am_tb := List.mem_filter.mpr ⟨am_tk3 (List.mem_of_getElem? (i := 17) rfl), by decide +kernel⟩
theorem tw_573 : Cond.selects RX7 yX7_begin yX7_begin ∈ am_tb := List.mem_filter.mpr ⟨am_tk3 (List.mem_of_getElem? (i := 18) rfl), by decide +kernel⟩
theorem tw_571 : Cond.methodLink RX11 110 yX7_begin ∈ am_tb := List.mem_filter.mpr ⟨am_tk3 (List.mem_of_getElem? (i := 16) rfl), by decide +kernel⟩
theorem tw_570 : Cond.code yX11_frame cX11_frame 2 (some .int) ∈ am_tb := List.mem_filter.mpr ⟨am_tk3 (List.mem_of_getElem? (i := 15) rfl), by decide +kernel⟩
theorem tw_585 : Cond.code yX11_remember cX11_remember 3 none ∈ am_tb := List.mem_filter.mpr ⟨am_tk3 (List.mem_of_getElem? (i := 30) rfl), by decide +kernel⟩
theorem tw_584 : Cond.instanceMethod yX11_remember ∈ am_tb := List.mem_filter.mpr ⟨am_tk3 (List.mem_of_getElem? (i := 29) rfl), by decide +kernel⟩
theorem tw_9 : Cond.selects RX11 yX11_remember yX11_remember ∈ am_tb := List.mem_filter.mpr ⟨List.mem_of_getElem? (i := 9) (by decide +kernel), by decide +kernel⟩
theorem tw_582 : Cond.methodLink RX11 114 yX11_remember ∈ am_tb := List.mem_filter.mpr ⟨am_tk3 (List.mem_of_getElem? (i := 27) rfl), by decide +kernel⟩
theorem tw_597 : Cond.methodLink RX11 117 yX9_begin ∈ am_tb := List.mem_filter.mpr ⟨am_tk3 (List.mem_of_getElem? (i := 42) rfl), by decide +kernel⟩
theorem tw_601 : Cond.code yX11_theNumber cX11_theNumber 7 (some .long) ∈ am_tb := List.mem_filter.mpr ⟨am_tk3 (List.mem_of_getElem? (i := 46) rfl), by decide +kernel⟩
theorem tw_600 : Cond.instanceMethod yX11_theNumber ∈ am_tb := List.mem_filter.mpr ⟨am_tk3 (List.mem_of_getElem? (i := 45) rfl), by decide +kernel⟩
theorem tw_10 : Cond.selects RX11 yX11_theNumber yX11_theNumber ∈ am_tb := List.mem_filter.mpr ⟨List.mem_of_getElem? (i := 10) (by decide +kernel), by decide +kernel⟩
theorem tw_598 : Cond.methodLink RX11 119 yX11_theNumber ∈ am_tb := List.mem_filter.mpr ⟨am_tk3 (List.mem_of_getElem? (i := 43) rfl), by decide +kernel⟩
theorem tw_632 : Cond.methodLink RX11 123 yX8_readStatement ∈ am_tb := List.mem_filter.mpr ⟨am_tk3 (List.mem_of_getElem? (i := 77) rfl), by decide +kernel⟩
theorem tw_636 : Cond.code yX11_doStatement cX11_doStatement 1 (some .boolean) ∈ am_tb := List.mem_filter.mpr ⟨am_tk3 (List.mem_of_getElem? (i := 81) rfl), by decide +kernel⟩
theorem tw_635 : Cond.instanceMethod yX11_doStatement ∈ am_tb := List.mem_filter.mpr ⟨am_tk3 (List.mem_of_getElem? (i := 80) rfl), by decide +kernel⟩
theorem tw_11 : Cond.selects RX11 yX11_doStatement yX11_doStatement ∈ am_tb := List.mem_filter.mpr ⟨List.mem_of_getElem? (i := 11) (by decide +kernel), by decide +kernel⟩
theorem tw_633 : Cond.methodLink RX11 127 yX11_doStatement ∈ am_tb := List.mem_filter.mpr ⟨am_tk3 (List.mem_of_getElem? (i := 78) rfl), by decide +kernel⟩
theorem tw_781 : Cond.methodLink RX11 131 yX9_another ∈ am_tb := List.mem_filter.mpr ⟨am_tk3 (List.mem_of_getElem? (i := 226) rfl), by decide +kernel⟩
theorem tw_581 : Cond.code yX11_run cX11_run 3 (some .int) ∈ am_tb := List.mem_filter.mpr ⟨am_tk3 (List.mem_of_getElem? (i := 26) rfl), by decide +kernel⟩
theorem tw_602 : Cond.methodLink RX11 134 yX1_rodAt ∈ am_tb := List.mem_filter.mpr ⟨am_tk3 (List.mem_of_getElem? (i := 47) rfl), by decide +kernel⟩
theorem tw_790 : Cond.instanceMethod yX0_kindNumber ∈ am_tb := List.mem_filter.mpr ⟨am_tk3 (List.mem_of_getElem? (i := 235) rfl), by decide +kernel⟩
theorem tw_789 : Cond.selects RX0 ⟨"RodBeads$Rod", "kindNumber", "()I"⟩ yX0_kindNumber ∈ am_tb := List.mem_filter.mpr ⟨am_tk3 (List.mem_of_getElem? (i := 234) rfl), by decide +kernel⟩
theorem tw_786 : Cond.methodLink RX11 138 ⟨"RodBeads$Rod", "kindNumber", "()I"⟩ ∈ am_tb := List.mem_filter.mpr ⟨am_tk3 (List.mem_of_getElem? (i := 231) rfl), by decide +kernel⟩
theorem tw_788 : Cond.sameMethod "RodBeads$Rod" "RodBeads$Rod" "kindNumber" "()I" ∈ am_tb := List.mem_filter.mpr ⟨am_tk3 (List.mem_of_getElem? (i := 233) rfl), by decide +kernel⟩
theorem tw_787 : Cond.declares ⟨"RodBeads$Rod", "kindNumber", "()I"⟩ ∈ am_xw := List.mem_filter.mpr ⟨am_tk3 (List.mem_of_getElem? (i := 232) rfl), by decide +kernel⟩
theorem tw_793 : Cond.instanceMethod yX2_kindNumber ∈ am_tb := List.mem_filter.mpr ⟨am_tk3 (List.mem_of_getElem? (i := 238) rfl), by decide +kernel⟩
theorem tw_792 : Cond.selects RX2 ⟨"RodBeads$Rod", "kindNumber", "()I"⟩ yX2_kindNumber ∈ am_tb := List.mem_filter.mpr ⟨am_tk3 (List.mem_of_getElem? (i := 237) rfl), by decide +kernel⟩
theorem tw_796 : Cond.instanceMethod yX3_kindNumber ∈ am_tb := List.mem_filter.mpr ⟨am_tk4 (List.mem_of_getElem? (i := 1) rfl), by decide +kernel⟩
theorem tw_795 : Cond.selects RX3 ⟨"RodBeads$Rod", "kindNumber", "()I"⟩ yX3_kindNumber ∈ am_tb := List.mem_filter.mpr ⟨am_tk4 (List.mem_of_getElem? (i := 0) rfl), by decide +kernel⟩
theorem tw_799 : Cond.instanceMethod yX6_kindNumber ∈ am_tb := List.mem_filter.mpr ⟨am_tk4 (List.mem_of_getElem? (i := 4) rfl), by decide +kernel⟩
theorem tw_798 : Cond.selects RX6 ⟨"RodBeads$Rod", "kindNumber", "()I"⟩ yX6_kindNumber ∈ am_tb := List.mem_filter.mpr ⟨am_tk4 (List.mem_of_getElem? (i := 3) rfl), by decide +kernel⟩
theorem tw_458 : Cond.fieldLink RX11 143 "RodBeads$Rod" "base" "I" ∈ am_tb := List.mem_filter.mpr ⟨am_tk2 (List.mem_of_getElem? (i := 143) rfl), by decide +kernel⟩
theorem tw_463 : Cond.fieldLink RX11 146 "RodBeads$Rod" "lowBeads" "I" ∈ am_tb := List.mem_filter.mpr ⟨am_tk2 (List.mem_of_getElem? (i := 148) rfl), by decide +kernel⟩
theorem tw_466 : Cond.fieldLink RX11 149 "RodBeads$Rod" "highBeads" "I" ∈ am_tb := List.mem_filter.mpr ⟨am_tk2 (List.mem_of_getElem? (i := 151) rfl), by decide +kernel⟩
theorem tw_778 : Cond.methodLink RX11 152 yX7_beads ∈ am_tb := List.mem_filter.mpr ⟨am_tk3 (List.mem_of_getElem? (i := 223) rfl), by decide +kernel⟩
theorem tw_777 : Cond.methodLink RX11 156 yX7_isStuck ∈ am_tb := List.mem_filter.mpr ⟨am_tk3 (List.mem_of_getElem? (i := 222) rfl), by decide +kernel⟩
theorem tw_604 : Cond.instanceMethod yX7_shows ∈ am_tb := List.mem_filter.mpr ⟨am_tk3 (List.mem_of_getElem? (i := 49) rfl), by decide +kernel⟩
theorem tw_605 : Cond.selects RX7 yX7_shows yX7_shows ∈ am_tb := List.mem_filter.mpr ⟨am_tk3 (List.mem_of_getElem? (i := 50) rfl), by decide +kernel⟩
theorem tw_603 : Cond.methodLink RX11 160 yX7_shows ∈ am_tb := List.mem_filter.mpr ⟨am_tk3 (List.mem_of_getElem? (i := 48) rfl), by decide +kernel⟩
theorem tw_801 : Cond.methodLink RX11 164 yX4_worthOf ∈ am_tb := List.mem_filter.mpr ⟨am_tk4 (List.mem_of_getElem? (i := 6) rfl), by decide +kernel⟩
theorem tw_785 : Cond.code yX11_rod cX11_rod 4 (some .int) ∈ am_tb := List.mem_filter.mpr ⟨am_tk3 (List.mem_of_getElem? (i := 230) rfl), by decide +kernel⟩
theorem tw_805 : Cond.code yX11_number cX11_number 1 (some .long) ∈ am_tb := List.mem_filter.mpr ⟨am_tk4 (List.mem_of_getElem? (i := 10) rfl), by decide +kernel⟩
theorem tw_812 : Cond.code yX11_isUnder cX11_isUnder 2 (some .boolean) ∈ am_tb := List.mem_filter.mpr ⟨am_tk4 (List.mem_of_getElem? (i := 17) rfl), by decide +kernel⟩
theorem tw_810 : Cond.methodLink RX11 167 yX11_isUnder ∈ am_tb := List.mem_filter.mpr ⟨am_tk4 (List.mem_of_getElem? (i := 15) rfl), by decide +kernel⟩
theorem tw_811 : Cond.static yX11_isUnder ∈ am_tb := List.mem_filter.mpr ⟨am_tk4 (List.mem_of_getElem? (i := 16) rfl), by decide +kernel⟩
theorem tw_817 : Cond.methodLink RX11 171 ⟨"RodBeads$Rod", "highWorth", "()I"⟩ ∈ am_tb := List.mem_filter.mpr ⟨am_tk4 (List.mem_of_getElem? (i := 22) rfl), by decide +kernel⟩
theorem tw_809 : Cond.code yX11_as cX11_as 4 (some .int) ∈ am_tb := List.mem_filter.mpr ⟨am_tk4 (List.mem_of_getElem? (i := 14) rfl), by decide +kernel⟩
theorem tw_824 : Cond.code yX11_isPart cX11_isPart 1 (some .boolean) ∈ am_tb := List.mem_filter.mpr ⟨am_tk4 (List.mem_of_getElem? (i := 29) rfl), by decide +kernel⟩
theorem tw_822 : Cond.methodLink RX11 174 yX11_isPart ∈ am_tb := List.mem_filter.mpr ⟨am_tk4 (List.mem_of_getElem? (i := 27) rfl), by decide +kernel⟩
theorem tw_823 : Cond.static yX11_isPart ∈ am_tb := List.mem_filter.mpr ⟨am_tk4 (List.mem_of_getElem? (i := 28) rfl), by decide +kernel⟩
theorem tw_826 : Cond.instanceMethod yX4_beadsOf ∈ am_tb := List.mem_filter.mpr ⟨am_tk4 (List.mem_of_getElem? (i := 31) rfl), by decide +kernel⟩
theorem tw_828 : Cond.selects RX0 yX4_beadsOf yX4_beadsOf ∈ am_tb := List.mem_filter.mpr ⟨am_tk4 (List.mem_of_getElem? (i := 33) rfl), by decide +kernel⟩
theorem tw_825 : Cond.methodLink RX11 177 yX4_beadsOf ∈ am_tb := List.mem_filter.mpr ⟨am_tk4 (List.mem_of_getElem? (i := 30) rfl), by decide +kernel⟩
theorem tw_829 : Cond.selects RX2 yX4_beadsOf yX4_beadsOf ∈ am_tb := List.mem_filter.mpr ⟨am_tk4 (List.mem_of_getElem? (i := 34) rfl), by decide +kernel⟩
theorem tw_830 : Cond.selects RX3 yX4_beadsOf yX4_beadsOf ∈ am_tb := List.mem_filter.mpr ⟨am_tk4 (List.mem_of_getElem? (i := 35) rfl), by decide +kernel⟩
theorem tw_831 : Cond.selects RX6 yX4_beadsOf yX4_beadsOf ∈ am_tb := List.mem_filter.mpr ⟨am_tk4 (List.mem_of_getElem? (i := 36) rfl), by decide +kernel⟩
theorem tw_833 : Cond.methodLink RX11 181 Lib.Math.abs.name ∈ am_tb := List.mem_filter.mpr ⟨am_tk4 (List.mem_of_getElem? (i := 38) rfl), by decide +kernel⟩
theorem tw_779 : Cond.methodLink RX11 186 yX4_timeOf ∈ am_tb := List.mem_filter.mpr ⟨am_tk3 (List.mem_of_getElem? (i := 224) rfl), by decide +kernel⟩
theorem tw_780 : Cond.methodLink RX11 189 yX7_place ∈ am_tb := List.mem_filter.mpr ⟨am_tk3 (List.mem_of_getElem? (i := 225) rfl), by decide +kernel⟩
theorem tw_762 : Cond.instanceMethod yX7_spend ∈ am_tb := List.mem_filter.mpr ⟨am_tk3 (List.mem_of_getElem? (i := 207) rfl), by decide +kernel⟩
theorem tw_763 : Cond.selects RX7 yX7_spend yX7_spend ∈ am_tb := List.mem_filter.mpr ⟨am_tk3 (List.mem_of_getElem? (i := 208) rfl), by decide +kernel⟩
theorem tw_761 : Cond.methodLink RX11 193 yX7_spend ∈ am_tb := List.mem_filter.mpr ⟨am_tk3 (List.mem_of_getElem? (i := 206) rfl), by decide +kernel⟩
theorem tw_821 : Cond.code yX11_push cX11_push 6 (some .int) ∈ am_tb := List.mem_filter.mpr ⟨am_tk4 (List.mem_of_getElem? (i := 26) rfl), by decide +kernel⟩
theorem tw_233 : Cond.fieldLink RX11 196 "RodBeads$Standing" "stuck" "I" ∈ am_tb := List.mem_filter.mpr ⟨am_tk1 (List.mem_of_getElem? (i := 158) rfl), by decide +kernel⟩
theorem tw_838 : Cond.methodLink RX11 199 yX7_partBit ∈ am_tb := List.mem_filter.mpr ⟨am_tk4 (List.mem_of_getElem? (i := 43) rfl), by decide +kernel⟩
theorem tw_837 : Cond.code yX11_stick cX11_stick 3 (some .int) ∈ am_tb := List.mem_filter.mpr ⟨am_tk4 (List.mem_of_getElem? (i := 42) rfl), by decide +kernel⟩
theorem tw_845 : Cond.code yX11_isNumber cX11_isNumber 1 (some .boolean) ∈ am_tb := List.mem_filter.mpr ⟨am_tk4 (List.mem_of_getElem? (i := 50) rfl), by decide +kernel⟩
theorem tw_843 : Cond.methodLink RX11 202 yX11_isNumber ∈ am_tb := List.mem_filter.mpr ⟨am_tk4 (List.mem_of_getElem? (i := 48) rfl), by decide +kernel⟩
theorem tw_844 : Cond.static yX11_isNumber ∈ am_tb := List.mem_filter.mpr ⟨am_tk4 (List.mem_of_getElem? (i := 49) rfl), by decide +kernel⟩
theorem tw_590 : Cond.instanceMethod yX7_copy ∈ am_tb := List.mem_filter.mpr ⟨am_tk3 (List.mem_of_getElem? (i := 35) rfl), by decide +kernel⟩
theorem tw_591 : Cond.selects RX7 yX7_copy yX7_copy ∈ am_tb := List.mem_filter.mpr ⟨am_tk3 (List.mem_of_getElem? (i := 36) rfl), by decide +kernel⟩
theorem tw_589 : Cond.methodLink RX11 205 yX7_copy ∈ am_tb := List.mem_filter.mpr ⟨am_tk3 (List.mem_of_getElem? (i := 34) rfl), by decide +kernel⟩
theorem tw_640 : Cond.code yX11_settle cX11_settle 5 (some .int) ∈ am_tb := List.mem_filter.mpr ⟨am_tk3 (List.mem_of_getElem? (i := 85) rfl), by decide +kernel⟩
theorem tw_639 : Cond.instanceMethod yX11_settle ∈ am_tb := List.mem_filter.mpr ⟨am_tk3 (List.mem_of_getElem? (i := 84) rfl), by decide +kernel⟩
theorem tw_12 : Cond.selects RX11 yX11_settle yX11_settle ∈ am_tb := List.mem_filter.mpr ⟨List.mem_of_getElem? (i := 12) (by decide +kernel), by decide +kernel⟩
theorem tw_637 : Cond.methodLink RX11 208 yX11_settle ∈ am_tb := List.mem_filter.mpr ⟨am_tk3 (List.mem_of_getElem? (i := 82) rfl), by decide +kernel⟩
theorem tw_850 : Cond.code yX11_doneByTrial cX11_doneByTrial 2 (some .int) ∈ am_tb := List.mem_filter.mpr ⟨am_tk4 (List.mem_of_getElem? (i := 55) rfl), by decide +kernel⟩
theorem tw_849 : Cond.instanceMethod yX11_doneByTrial ∈ am_tb := List.mem_filter.mpr ⟨am_tk4 (List.mem_of_getElem? (i := 54) rfl), by decide +kernel⟩
theorem tw_23 : Cond.selects RX11 yX11_doneByTrial yX11_doneByTrial ∈ am_tb := List.mem_filter.mpr ⟨List.mem_of_getElem? (i := 23) (by decide +kernel), by decide +kernel⟩
theorem tw_847 : Cond.methodLink RX11 212 yX11_doneByTrial ∈ am_tb := List.mem_filter.mpr ⟨am_tk4 (List.mem_of_getElem? (i := 52) rfl), by decide +kernel⟩
theorem tw_842 : Cond.code yX11_set cX11_set 2 (some .int) ∈ am_tb := List.mem_filter.mpr ⟨am_tk4 (List.mem_of_getElem? (i := 47) rfl), by decide +kernel⟩
theorem tw_770 : Cond.code yX11_carryOver cX11_carryOver 8 (some .int) ∈ am_tb := List.mem_filter.mpr ⟨am_tk3 (List.mem_of_getElem? (i := 215) rfl), by decide +kernel⟩
theorem tw_769 : Cond.instanceMethod yX11_carryOver ∈ am_tb := List.mem_filter.mpr ⟨am_tk3 (List.mem_of_getElem? (i := 214) rfl), by decide +kernel⟩
theorem tw_21 : Cond.selects RX11 yX11_carryOver yX11_carryOver ∈ am_tb := List.mem_filter.mpr ⟨List.mem_of_getElem? (i := 21) (by decide +kernel), by decide +kernel⟩
theorem tw_767 : Cond.methodLink RX11 215 yX11_carryOver ∈ am_tb := List.mem_filter.mpr ⟨am_tk3 (List.mem_of_getElem? (i := 212) rfl), by decide +kernel⟩
theorem tw_854 : Cond.code yX11_carry cX11_carry 2 (some .int) ∈ am_tb := List.mem_filter.mpr ⟨am_tk4 (List.mem_of_getElem? (i := 59) rfl), by decide +kernel⟩
theorem tw_588 : Cond.code yX11_standingAt cX11_standingAt 2 (some (.object "RodBeads$Standing")) ∈ am_tb := List.mem_filter.mpr ⟨am_tk3 (List.mem_of_getElem? (i := 33) rfl), by decide +kernel⟩
theorem tw_586 : Cond.methodLink RX11 219 yX11_standingAt ∈ am_tb := List.mem_filter.mpr ⟨am_tk3 (List.mem_of_getElem? (i := 31) rfl), by decide +kernel⟩
theorem tw_587 : Cond.static yX11_standingAt ∈ am_tb := List.mem_filter.mpr ⟨am_tk3 (List.mem_of_getElem? (i := 32) rfl), by decide +kernel⟩
theorem tw_858 : Cond.code yX11_undo cX11_undo 1 (some .int) ∈ am_tb := List.mem_filter.mpr ⟨am_tk4 (List.mem_of_getElem? (i := 63) rfl), by decide +kernel⟩
theorem tw_864 : Cond.instanceMethod yX7_beadsInAll ∈ am_tb := List.mem_filter.mpr ⟨am_tk4 (List.mem_of_getElem? (i := 69) rfl), by decide +kernel⟩
theorem tw_865 : Cond.selects RX7 yX7_beadsInAll yX7_beadsInAll ∈ am_tb := List.mem_filter.mpr ⟨am_tk4 (List.mem_of_getElem? (i := 70) rfl), by decide +kernel⟩
theorem tw_863 : Cond.methodLink RX11 223 yX7_beadsInAll ∈ am_tb := List.mem_filter.mpr ⟨am_tk4 (List.mem_of_getElem? (i := 68) rfl), by decide +kernel⟩
theorem tw_862 : Cond.code yX11_keep cX11_keep 3 (some .int) ∈ am_tb := List.mem_filter.mpr ⟨am_tk4 (List.mem_of_getElem? (i := 67) rfl), by decide +kernel⟩
theorem tw_870 : Cond.code yX11_back cX11_back 3 (some .int) ∈ am_tb := List.mem_filter.mpr ⟨am_tk4 (List.mem_of_getElem? (i := 75) rfl), by decide +kernel⟩
theorem tw_642 : Cond.instanceMethod yX10_load ∈ am_tb := List.mem_filter.mpr ⟨am_tk3 (List.mem_of_getElem? (i := 87) rfl), by decide +kernel⟩
theorem tw_643 : Cond.selects RX10 yX10_load yX10_load ∈ am_tb := List.mem_filter.mpr ⟨am_tk3 (List.mem_of_getElem? (i := 88) rfl), by decide +kernel⟩
theorem tw_641 : Cond.methodLink RX11 226 yX10_load ∈ am_tb := List.mem_filter.mpr ⟨am_tk3 (List.mem_of_getElem? (i := 86) rfl), by decide +kernel⟩
theorem tw_876 : Cond.instanceMethod yX10_howMany ∈ am_tb := List.mem_filter.mpr ⟨am_tk4 (List.mem_of_getElem? (i := 81) rfl), by decide +kernel⟩
theorem tw_877 : Cond.selects RX10 yX10_howMany yX10_howMany ∈ am_tb := List.mem_filter.mpr ⟨am_tk4 (List.mem_of_getElem? (i := 82) rfl), by decide +kernel⟩
theorem tw_875 : Cond.methodLink RX11 230 yX10_howMany ∈ am_tb := List.mem_filter.mpr ⟨am_tk4 (List.mem_of_getElem? (i := 80) rfl), by decide +kernel⟩
theorem tw_874 : Cond.code yX11_ways cX11_ways 2 (some .int) ∈ am_tb := List.mem_filter.mpr ⟨am_tk4 (List.mem_of_getElem? (i := 79) rfl), by decide +kernel⟩
theorem tw_890 : Cond.code yX11_leastCost cX11_leastCost 4 (some .int) ∈ am_tb := List.mem_filter.mpr ⟨am_tk4 (List.mem_of_getElem? (i := 95) rfl), by decide +kernel⟩
theorem tw_889 : Cond.instanceMethod yX11_leastCost ∈ am_tb := List.mem_filter.mpr ⟨am_tk4 (List.mem_of_getElem? (i := 94) rfl), by decide +kernel⟩
theorem tw_25 : Cond.selects RX11 yX11_leastCost yX11_leastCost ∈ am_tb := List.mem_filter.mpr ⟨List.mem_of_getElem? (i := 25) (by decide +kernel), by decide +kernel⟩
theorem tw_887 : Cond.methodLink RX11 234 yX11_leastCost ∈ am_tb := List.mem_filter.mpr ⟨am_tk4 (List.mem_of_getElem? (i := 92) rfl), by decide +kernel⟩
theorem tw_886 : Cond.code yX11_time cX11_time 2 (some .int) ∈ am_tb := List.mem_filter.mpr ⟨am_tk4 (List.mem_of_getElem? (i := 91) rfl), by decide +kernel⟩
theorem tw_894 : Cond.code yX11_pushed cX11_pushed 4 (some .int) ∈ am_tb := List.mem_filter.mpr ⟨am_tk4 (List.mem_of_getElem? (i := 99) rfl), by decide +kernel⟩
theorem tw_899 : Cond.constantLong RX11 238 (-3) ∈ am_tb := List.mem_filter.mpr ⟨am_tk4 (List.mem_of_getElem? (i := 104) rfl), by decide +kernel⟩
theorem tw_900 : Cond.methodLink RX11 240 yX10_mostFrom ∈ am_tb := List.mem_filter.mpr ⟨am_tk4 (List.mem_of_getElem? (i := 105) rfl), by decide +kernel⟩
theorem tw_901 : Cond.methodLink RX11 243 yX10_fewestFrom ∈ am_tb := List.mem_filter.mpr ⟨am_tk4 (List.mem_of_getElem? (i := 106) rfl), by decide +kernel⟩
theorem tw_905 : Cond.code yX11_gap cX11_gap 3 (some .int) ∈ am_tb := List.mem_filter.mpr ⟨am_tk4 (List.mem_of_getElem? (i := 110) rfl), by decide +kernel⟩
theorem tw_904 : Cond.instanceMethod yX11_gap ∈ am_tb := List.mem_filter.mpr ⟨am_tk4 (List.mem_of_getElem? (i := 109) rfl), by decide +kernel⟩
theorem tw_26 : Cond.selects RX11 yX11_gap yX11_gap ∈ am_tb := List.mem_filter.mpr ⟨List.mem_of_getElem? (i := 26) (by decide +kernel), by decide +kernel⟩
theorem tw_902 : Cond.methodLink RX11 246 yX11_gap ∈ am_tb := List.mem_filter.mpr ⟨am_tk4 (List.mem_of_getElem? (i := 107) rfl), by decide +kernel⟩
theorem tw_898 : Cond.code yX11_span cX11_span 2 (some .long) ∈ am_tb := List.mem_filter.mpr ⟨am_tk4 (List.mem_of_getElem? (i := 103) rfl), by decide +kernel⟩
theorem tw_937 : Cond.code yX11_nearestShown cX11_nearestShown 5 (some .int) ∈ am_tb := List.mem_filter.mpr ⟨am_tk4 (List.mem_of_getElem? (i := 142) rfl), by decide +kernel⟩
theorem tw_936 : Cond.instanceMethod yX11_nearestShown ∈ am_tb := List.mem_filter.mpr ⟨am_tk4 (List.mem_of_getElem? (i := 141) rfl), by decide +kernel⟩
theorem tw_31 : Cond.selects RX11 yX11_nearestShown yX11_nearestShown ∈ am_tb := List.mem_filter.mpr ⟨List.mem_of_getElem? (i := 31) (by decide +kernel), by decide +kernel⟩
theorem tw_934 : Cond.methodLink RX11 249 yX11_nearestShown ∈ am_tb := List.mem_filter.mpr ⟨am_tk4 (List.mem_of_getElem? (i := 139) rfl), by decide +kernel⟩
theorem tw_933 : Cond.code yX11_nearest cX11_nearest 2 (some .int) ∈ am_tb := List.mem_filter.mpr ⟨am_tk4 (List.mem_of_getElem? (i := 138) rfl), by decide +kernel⟩
theorem tw_942 : Cond.code yX11_loosen cX11_loosen 3 (some .int) ∈ am_tb := List.mem_filter.mpr ⟨am_tk4 (List.mem_of_getElem? (i := 147) rfl), by decide +kernel⟩
