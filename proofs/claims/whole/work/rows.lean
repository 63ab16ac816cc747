section
-- ===== PART A: goes FIRST, ahead of the names: the tables' words, and 'selects' of the private methods out of them =====
/-- a private method of a class that the tables say can be made, by its rows of tables_1 -/
def lw_okq (q : MethodName × Nat) : Prop := (q.1.cls ≠ "java/lang/invoke/MethodHandle" ∧ q.1.cls ≠ "java/lang/invoke/VarHandle") ∧ Cond.instantiable q.1.cls q.2 ∈ tables_1 ∧ Cond.privateMethod q.1 ∈ tables_1 ∧ Cond.instanceMethod q.1 ∈ tables_1
theorem lw_p0 : lw_okq (⟨"RodBeads", "readDraft", "()I"⟩, 16) := ⟨⟨by decide +kernel, by decide +kernel⟩, List.mem_of_getElem? (i := 21) (by decide +kernel), List.mem_of_getElem? (i := 246) (by decide +kernel), List.mem_of_getElem? (i := 247) (by decide +kernel)⟩
theorem lw_p1 : lw_okq (⟨"RodBeads$Text", "letterAt", "(I)I"⟩, 6) := ⟨⟨by decide +kernel, by decide +kernel⟩, List.mem_of_getElem? (i := 29) (by decide +kernel), List.mem_of_getElem? (i := 270) (by decide +kernel), List.mem_of_getElem? (i := 271) (by decide +kernel)⟩
theorem lw_p2 : lw_okq (⟨"RodBeads$Frame", "readClause", "(LRodBeads$Text;)V"⟩, 3) := ⟨⟨by decide +kernel, by decide +kernel⟩, List.mem_of_getElem? (i := 129) (by decide +kernel), List.mem_of_getElem? (i := 283) (by decide +kernel), List.mem_of_getElem? (i := 284) (by decide +kernel)⟩
theorem lw_p3 : lw_okq (⟨"RodBeads$Frame", "readRod", "(LRodBeads$Text;I)V"⟩, 3) := ⟨⟨by decide +kernel, by decide +kernel⟩, List.mem_of_getElem? (i := 129) (by decide +kernel), List.mem_of_getElem? (i := 365) (by decide +kernel), List.mem_of_getElem? (i := 366) (by decide +kernel)⟩
theorem lw_p4 : lw_okq (⟨"RodBeads$Sums", "expression", "(LRodBeads$Text;I)J"⟩, 4) := ⟨⟨by decide +kernel, by decide +kernel⟩, List.mem_of_getElem? (i := 58) (by decide +kernel), List.mem_of_getElem? (i := 464) (by decide +kernel), List.mem_of_getElem? (i := 465) (by decide +kernel)⟩
theorem lw_p5 : lw_okq (⟨"RodBeads$Sums", "part", "(LRodBeads$Text;I)J"⟩, 4) := ⟨⟨by decide +kernel, by decide +kernel⟩, List.mem_of_getElem? (i := 58) (by decide +kernel), List.mem_of_getElem? (i := 468) (by decide +kernel), List.mem_of_getElem? (i := 469) (by decide +kernel)⟩
theorem lw_p6 : lw_okq (⟨"RodBeads$Sums", "multiplied", "(JJ)J"⟩, 4) := ⟨⟨by decide +kernel, by decide +kernel⟩, List.mem_of_getElem? (i := 58) (by decide +kernel), List.mem_of_getElem? (i := 475) (by decide +kernel), List.mem_of_getElem? (i := 476) (by decide +kernel)⟩
theorem lw_p7 : lw_okq (⟨"RodBeads$Sums", "divided", "(JJ)J"⟩, 4) := ⟨⟨by decide +kernel, by decide +kernel⟩, List.mem_of_getElem? (i := 58) (by decide +kernel), List.mem_of_getElem? (i := 483) (by decide +kernel), List.mem_of_getElem? (i := 484) (by decide +kernel)⟩
theorem lw_p8 : lw_okq (⟨"RodBeads$Sums", "bounded", "(J)J"⟩, 4) := ⟨⟨by decide +kernel, by decide +kernel⟩, List.mem_of_getElem? (i := 58) (by decide +kernel), List.mem_of_getElem? (i := 487) (by decide +kernel), List.mem_of_getElem? (i := 488) (by decide +kernel)⟩
theorem lw_p9 : lw_okq (⟨"RodBeads", "remember", "()V"⟩, 16) := ⟨⟨by decide +kernel, by decide +kernel⟩, List.mem_of_getElem? (i := 21) (by decide +kernel), List.mem_of_getElem? (i := 508) (by decide +kernel), List.mem_of_getElem? (i := 509) (by decide +kernel)⟩
theorem lw_p10 : lw_okq (⟨"RodBeads", "theNumber", "()J"⟩, 16) := ⟨⟨by decide +kernel, by decide +kernel⟩, List.mem_of_getElem? (i := 21) (by decide +kernel), List.mem_of_getElem? (i := 524) (by decide +kernel), List.mem_of_getElem? (i := 525) (by decide +kernel)⟩
theorem lw_p11 : lw_okq (⟨"RodBeads", "doStatement", "()Z"⟩, 16) := ⟨⟨by decide +kernel, by decide +kernel⟩, List.mem_of_getElem? (i := 21) (by decide +kernel), List.mem_of_getElem? (i := 559) (by decide +kernel), List.mem_of_getElem? (i := 560) (by decide +kernel)⟩
theorem lw_p12 : lw_okq (⟨"RodBeads", "settle", "(LRodBeads$Standing;J)I"⟩, 16) := ⟨⟨by decide +kernel, by decide +kernel⟩, List.mem_of_getElem? (i := 21) (by decide +kernel), List.mem_of_getElem? (i := 563) (by decide +kernel), List.mem_of_getElem? (i := 564) (by decide +kernel)⟩
theorem lw_p13 : lw_okq (⟨"RodBeads$Ways", "loadRod", "(ILRodBeads$Rod;LRodBeads$Standing;Z)V"⟩, 14) := ⟨⟨by decide +kernel, by decide +kernel⟩, List.mem_of_getElem? (i := 80) (by decide +kernel), List.mem_of_getElem? (i := 576) (by decide +kernel), List.mem_of_getElem? (i := 577) (by decide +kernel)⟩
theorem lw_p14 : lw_okq (⟨"RodBeads$Ways", "addChoice", "(III)V"⟩, 14) := ⟨⟨by decide +kernel, by decide +kernel⟩, List.mem_of_getElem? (i := 80) (by decide +kernel), List.mem_of_getElem? (i := 628) (by decide +kernel), List.mem_of_getElem? (i := 629) (by decide +kernel)⟩
theorem lw_p15 : lw_okq (⟨"RodBeads$Ways", "loadBounds", "(II)V"⟩, 14) := ⟨⟨by decide +kernel, by decide +kernel⟩, List.mem_of_getElem? (i := 80) (by decide +kernel), List.mem_of_getElem? (i := 633) (by decide +kernel), List.mem_of_getElem? (i := 634) (by decide +kernel)⟩
def lw_privs_1 : List (MethodName × Nat) := [(⟨"RodBeads", "readDraft", "()I"⟩, 16), (⟨"RodBeads$Text", "letterAt", "(I)I"⟩, 6), (⟨"RodBeads$Frame", "readClause", "(LRodBeads$Text;)V"⟩, 3), (⟨"RodBeads$Frame", "readRod", "(LRodBeads$Text;I)V"⟩, 3), (⟨"RodBeads$Sums", "expression", "(LRodBeads$Text;I)J"⟩, 4), (⟨"RodBeads$Sums", "part", "(LRodBeads$Text;I)J"⟩, 4), (⟨"RodBeads$Sums", "multiplied", "(JJ)J"⟩, 4), (⟨"RodBeads$Sums", "divided", "(JJ)J"⟩, 4), (⟨"RodBeads$Sums", "bounded", "(J)J"⟩, 4), (⟨"RodBeads", "remember", "()V"⟩, 16), (⟨"RodBeads", "theNumber", "()J"⟩, 16), (⟨"RodBeads", "doStatement", "()Z"⟩, 16), (⟨"RodBeads", "settle", "(LRodBeads$Standing;J)I"⟩, 16), (⟨"RodBeads$Ways", "loadRod", "(ILRodBeads$Rod;LRodBeads$Standing;Z)V"⟩, 14), (⟨"RodBeads$Ways", "addChoice", "(III)V"⟩, 14), (⟨"RodBeads$Ways", "loadBounds", "(II)V"⟩, 14)]
theorem lw_r1 : ∀ q ∈ lw_privs_1, lw_okq q := List.forall_mem_cons.mpr ⟨lw_p0, List.forall_mem_cons.mpr ⟨lw_p1, List.forall_mem_cons.mpr ⟨lw_p2, List.forall_mem_cons.mpr ⟨lw_p3, List.forall_mem_cons.mpr ⟨lw_p4, List.forall_mem_cons.mpr ⟨lw_p5, List.forall_mem_cons.mpr ⟨lw_p6, List.forall_mem_cons.mpr ⟨lw_p7, List.forall_mem_cons.mpr ⟨lw_p8, List.forall_mem_cons.mpr ⟨lw_p9, List.forall_mem_cons.mpr ⟨lw_p10, List.forall_mem_cons.mpr ⟨lw_p11, List.forall_mem_cons.mpr ⟨lw_p12, List.forall_mem_cons.mpr ⟨lw_p13, List.forall_mem_cons.mpr ⟨lw_p14, List.forall_mem_cons.mpr ⟨lw_p15, fun _ h => absurd h List.not_mem_nil⟩⟩⟩⟩⟩⟩⟩⟩⟩⟩⟩⟩⟩⟩⟩⟩
theorem lw_p16 : lw_okq (⟨"RodBeads$Ways", "aim", "(I)V"⟩, 14) := ⟨⟨by decide +kernel, by decide +kernel⟩, List.mem_of_getElem? (i := 80) (by decide +kernel), List.mem_of_getElem? (i := 653) (by decide +kernel), List.mem_of_getElem? (i := 654) (by decide +kernel)⟩
theorem lw_p17 : lw_okq (⟨"RodBeads$Ways", "baseOf", "(I)I"⟩, 14) := ⟨⟨by decide +kernel, by decide +kernel⟩, List.mem_of_getElem? (i := 80) (by decide +kernel), List.mem_of_getElem? (i := 657) (by decide +kernel), List.mem_of_getElem? (i := 658) (by decide +kernel)⟩
theorem lw_p18 : lw_okq (⟨"RodBeads$Ways", "leastFrom", "(II)I"⟩, 14) := ⟨⟨by decide +kernel, by decide +kernel⟩, List.mem_of_getElem? (i := 80) (by decide +kernel), List.mem_of_getElem? (i := 662) (by decide +kernel), List.mem_of_getElem? (i := 663) (by decide +kernel)⟩
theorem lw_p19 : lw_okq (⟨"RodBeads$Ways", "isInReach", "(II)Z"⟩, 14) := ⟨⟨by decide +kernel, by decide +kernel⟩, List.mem_of_getElem? (i := 80) (by decide +kernel), List.mem_of_getElem? (i := 666) (by decide +kernel), List.mem_of_getElem? (i := 667) (by decide +kernel)⟩
theorem lw_p20 : lw_okq (⟨"RodBeads$Ways", "shownByWay", "(II)I"⟩, 14) := ⟨⟨by decide +kernel, by decide +kernel⟩, List.mem_of_getElem? (i := 80) (by decide +kernel), List.mem_of_getElem? (i := 675) (by decide +kernel), List.mem_of_getElem? (i := 676) (by decide +kernel)⟩
theorem lw_p21 : lw_okq (⟨"RodBeads", "carryOver", "(LRodBeads$Standing;I)I"⟩, 16) := ⟨⟨by decide +kernel, by decide +kernel⟩, List.mem_of_getElem? (i := 21) (by decide +kernel), List.mem_of_getElem? (i := 693) (by decide +kernel), List.mem_of_getElem? (i := 694) (by decide +kernel)⟩
theorem lw_p22 : lw_okq (⟨"RodBeads", "pushAllBack", "()V"⟩, 16) := ⟨⟨by decide +kernel, by decide +kernel⟩, List.mem_of_getElem? (i := 21) (by decide +kernel), List.mem_of_getElem? (i := 699) (by decide +kernel), List.mem_of_getElem? (i := 700) (by decide +kernel)⟩
theorem lw_p23 : lw_okq (⟨"RodBeads", "doneByTrial", "(I)I"⟩, 16) := ⟨⟨by decide +kernel, by decide +kernel⟩, List.mem_of_getElem? (i := 21) (by decide +kernel), List.mem_of_getElem? (i := 773) (by decide +kernel), List.mem_of_getElem? (i := 774) (by decide +kernel)⟩
theorem lw_p24 : lw_okq (⟨"RodBeads$Ways", "howManyFrom", "(II)I"⟩, 14) := ⟨⟨by decide +kernel, by decide +kernel⟩, List.mem_of_getElem? (i := 80) (by decide +kernel), List.mem_of_getElem? (i := 805) (by decide +kernel), List.mem_of_getElem? (i := 806) (by decide +kernel)⟩
theorem lw_p25 : lw_okq (⟨"RodBeads", "leastCost", "(IZ)I"⟩, 16) := ⟨⟨by decide +kernel, by decide +kernel⟩, List.mem_of_getElem? (i := 21) (by decide +kernel), List.mem_of_getElem? (i := 813) (by decide +kernel), List.mem_of_getElem? (i := 814) (by decide +kernel)⟩
theorem lw_p26 : lw_okq (⟨"RodBeads", "gap", "(I)I"⟩, 16) := ⟨⟨by decide +kernel, by decide +kernel⟩, List.mem_of_getElem? (i := 21) (by decide +kernel), List.mem_of_getElem? (i := 828) (by decide +kernel), List.mem_of_getElem? (i := 829) (by decide +kernel)⟩
theorem lw_p27 : lw_okq (⟨"RodBeads$Ways", "siftFrom", "(I)V"⟩, 14) := ⟨⟨by decide +kernel, by decide +kernel⟩, List.mem_of_getElem? (i := 80) (by decide +kernel), List.mem_of_getElem? (i := 836) (by decide +kernel), List.mem_of_getElem? (i := 837) (by decide +kernel)⟩
theorem lw_p28 : lw_okq (⟨"RodBeads$Ways", "sieveOf", "(I)[I"⟩, 14) := ⟨⟨by decide +kernel, by decide +kernel⟩, List.mem_of_getElem? (i := 80) (by decide +kernel), List.mem_of_getElem? (i := 840) (by decide +kernel), List.mem_of_getElem? (i := 841) (by decide +kernel)⟩
theorem lw_p29 : lw_okq (⟨"RodBeads$Ways", "canShow", "(II)Z"⟩, 14) := ⟨⟨by decide +kernel, by decide +kernel⟩, List.mem_of_getElem? (i := 80) (by decide +kernel), List.mem_of_getElem? (i := 844) (by decide +kernel), List.mem_of_getElem? (i := 845) (by decide +kernel)⟩
theorem lw_p30 : lw_okq (⟨"RodBeads$Ways", "isSiftedFrom", "(II)Z"⟩, 14) := ⟨⟨by decide +kernel, by decide +kernel⟩, List.mem_of_getElem? (i := 80) (by decide +kernel), List.mem_of_getElem? (i := 848) (by decide +kernel), List.mem_of_getElem? (i := 849) (by decide +kernel)⟩
theorem lw_p31 : lw_okq (⟨"RodBeads", "nearestShown", "(I)I"⟩, 16) := ⟨⟨by decide +kernel, by decide +kernel⟩, List.mem_of_getElem? (i := 21) (by decide +kernel), List.mem_of_getElem? (i := 860) (by decide +kernel), List.mem_of_getElem? (i := 861) (by decide +kernel)⟩
def lw_privs_2 : List (MethodName × Nat) := [(⟨"RodBeads$Ways", "aim", "(I)V"⟩, 14), (⟨"RodBeads$Ways", "baseOf", "(I)I"⟩, 14), (⟨"RodBeads$Ways", "leastFrom", "(II)I"⟩, 14), (⟨"RodBeads$Ways", "isInReach", "(II)Z"⟩, 14), (⟨"RodBeads$Ways", "shownByWay", "(II)I"⟩, 14), (⟨"RodBeads", "carryOver", "(LRodBeads$Standing;I)I"⟩, 16), (⟨"RodBeads", "pushAllBack", "()V"⟩, 16), (⟨"RodBeads", "doneByTrial", "(I)I"⟩, 16), (⟨"RodBeads$Ways", "howManyFrom", "(II)I"⟩, 14), (⟨"RodBeads", "leastCost", "(IZ)I"⟩, 16), (⟨"RodBeads", "gap", "(I)I"⟩, 16), (⟨"RodBeads$Ways", "siftFrom", "(I)V"⟩, 14), (⟨"RodBeads$Ways", "sieveOf", "(I)[I"⟩, 14), (⟨"RodBeads$Ways", "canShow", "(II)Z"⟩, 14), (⟨"RodBeads$Ways", "isSiftedFrom", "(II)Z"⟩, 14), (⟨"RodBeads", "nearestShown", "(I)I"⟩, 16)]
theorem lw_r2 : ∀ q ∈ lw_privs_2, lw_okq q := List.forall_mem_cons.mpr ⟨lw_p16, List.forall_mem_cons.mpr ⟨lw_p17, List.forall_mem_cons.mpr ⟨lw_p18, List.forall_mem_cons.mpr ⟨lw_p19, List.forall_mem_cons.mpr ⟨lw_p20, List.forall_mem_cons.mpr ⟨lw_p21, List.forall_mem_cons.mpr ⟨lw_p22, List.forall_mem_cons.mpr ⟨lw_p23, List.forall_mem_cons.mpr ⟨lw_p24, List.forall_mem_cons.mpr ⟨lw_p25, List.forall_mem_cons.mpr ⟨lw_p26, List.forall_mem_cons.mpr ⟨lw_p27, List.forall_mem_cons.mpr ⟨lw_p28, List.forall_mem_cons.mpr ⟨lw_p29, List.forall_mem_cons.mpr ⟨lw_p30, List.forall_mem_cons.mpr ⟨lw_p31, fun _ h => absurd h List.not_mem_nil⟩⟩⟩⟩⟩⟩⟩⟩⟩⟩⟩⟩⟩⟩⟩⟩
theorem lw_p32 : lw_okq (⟨"RodBeads", "goOn", "(LRodBeads$Standing;II)Z"⟩, 16) := ⟨⟨by decide +kernel, by decide +kernel⟩, List.mem_of_getElem? (i := 21) (by decide +kernel), List.mem_of_getElem? (i := 883) (by decide +kernel), List.mem_of_getElem? (i := 884) (by decide +kernel)⟩
theorem lw_p33 : lw_okq (⟨"RodBeads", "spentOnPath", "()I"⟩, 16) := ⟨⟨by decide +kernel, by decide +kernel⟩, List.mem_of_getElem? (i := 21) (by decide +kernel), List.mem_of_getElem? (i := 887) (by decide +kernel), List.mem_of_getElem? (i := 888) (by decide +kernel)⟩
theorem lw_p34 : lw_okq (⟨"RodBeads", "fitsSeen", "(ILRodBeads$Rod;)Z"⟩, 16) := ⟨⟨by decide +kernel, by decide +kernel⟩, List.mem_of_getElem? (i := 21) (by decide +kernel), List.mem_of_getElem? (i := 905) (by decide +kernel), List.mem_of_getElem? (i := 906) (by decide +kernel)⟩
theorem lw_p35 : lw_okq (⟨"RodBeads", "fullRods", "()I"⟩, 16) := ⟨⟨by decide +kernel, by decide +kernel⟩, List.mem_of_getElem? (i := 21) (by decide +kernel), List.mem_of_getElem? (i := 937) (by decide +kernel), List.mem_of_getElem? (i := 938) (by decide +kernel)⟩
theorem lw_p36 : lw_okq (⟨"RodBeadsModel", "numberOf", "([I)J"⟩, 44) := ⟨⟨by decide +kernel, by decide +kernel⟩, List.mem_of_getElem? (i := 941) (by decide +kernel), List.mem_of_getElem? (i := 1086) (by decide +kernel), List.mem_of_getElem? (i := 1087) (by decide +kernel)⟩
theorem lw_p37 : lw_okq (⟨"RodBeadsModel", "shows", "([II)I"⟩, 44) := ⟨⟨by decide +kernel, by decide +kernel⟩, List.mem_of_getElem? (i := 941) (by decide +kernel), List.mem_of_getElem? (i := 1090) (by decide +kernel), List.mem_of_getElem? (i := 1091) (by decide +kernel)⟩
theorem lw_p38 : lw_okq (⟨"RodBeadsModel", "worth", "(I)I"⟩, 44) := ⟨⟨by decide +kernel, by decide +kernel⟩, List.mem_of_getElem? (i := 941) (by decide +kernel), List.mem_of_getElem? (i := 1094) (by decide +kernel), List.mem_of_getElem? (i := 1095) (by decide +kernel)⟩
theorem lw_p39 : lw_okq (⟨"RodBeadsModel", "worthBy", "(II)I"⟩, 44) := ⟨⟨by decide +kernel, by decide +kernel⟩, List.mem_of_getElem? (i := 941) (by decide +kernel), List.mem_of_getElem? (i := 1098) (by decide +kernel), List.mem_of_getElem? (i := 1099) (by decide +kernel)⟩
theorem lw_p40 : lw_okq (⟨"RodBeadsModel", "isRod", "(I)Z"⟩, 44) := ⟨⟨by decide +kernel, by decide +kernel⟩, List.mem_of_getElem? (i := 941) (by decide +kernel), List.mem_of_getElem? (i := 1106) (by decide +kernel), List.mem_of_getElem? (i := 1107) (by decide +kernel)⟩
theorem lw_p41 : lw_okq (⟨"RodBeadsModel", "readsFrame", "()Z"⟩, 44) := ⟨⟨by decide +kernel, by decide +kernel⟩, List.mem_of_getElem? (i := 941) (by decide +kernel), List.mem_of_getElem? (i := 1137) (by decide +kernel), List.mem_of_getElem? (i := 1138) (by decide +kernel)⟩
theorem lw_p42 : lw_okq (⟨"RodBeadsModel", "reads", "()V"⟩, 44) := ⟨⟨by decide +kernel, by decide +kernel⟩, List.mem_of_getElem? (i := 941) (by decide +kernel), List.mem_of_getElem? (i := 1141) (by decide +kernel), List.mem_of_getElem? (i := 1142) (by decide +kernel)⟩
theorem lw_p43 : lw_okq (⟨"RodBeadsModel", "letterAt", "(I)I"⟩, 44) := ⟨⟨by decide +kernel, by decide +kernel⟩, List.mem_of_getElem? (i := 941) (by decide +kernel), List.mem_of_getElem? (i := 1145) (by decide +kernel), List.mem_of_getElem? (i := 1146) (by decide +kernel)⟩
theorem lw_p44 : lw_okq (⟨"RodBeadsModel", "wordOf", "(II)I"⟩, 44) := ⟨⟨by decide +kernel, by decide +kernel⟩, List.mem_of_getElem? (i := 941) (by decide +kernel), List.mem_of_getElem? (i := 1154) (by decide +kernel), List.mem_of_getElem? (i := 1155) (by decide +kernel)⟩
theorem lw_p45 : lw_okq (⟨"RodBeadsModel", "readsNumber", "()V"⟩, 44) := ⟨⟨by decide +kernel, by decide +kernel⟩, List.mem_of_getElem? (i := 941) (by decide +kernel), List.mem_of_getElem? (i := 1167) (by decide +kernel), List.mem_of_getElem? (i := 1168) (by decide +kernel)⟩
theorem lw_p46 : lw_okq (⟨"RodBeadsModel", "readsClause", "()Z"⟩, 44) := ⟨⟨by decide +kernel, by decide +kernel⟩, List.mem_of_getElem? (i := 941) (by decide +kernel), List.mem_of_getElem? (i := 1172) (by decide +kernel), List.mem_of_getElem? (i := 1173) (by decide +kernel)⟩
theorem lw_p47 : lw_okq (⟨"RodBeadsModel", "readsRod", "(I)Z"⟩, 44) := ⟨⟨by decide +kernel, by decide +kernel⟩, List.mem_of_getElem? (i := 941) (by decide +kernel), List.mem_of_getElem? (i := 1176) (by decide +kernel), List.mem_of_getElem? (i := 1177) (by decide +kernel)⟩
def lw_privs_3 : List (MethodName × Nat) := [(⟨"RodBeads", "goOn", "(LRodBeads$Standing;II)Z"⟩, 16), (⟨"RodBeads", "spentOnPath", "()I"⟩, 16), (⟨"RodBeads", "fitsSeen", "(ILRodBeads$Rod;)Z"⟩, 16), (⟨"RodBeads", "fullRods", "()I"⟩, 16), (⟨"RodBeadsModel", "numberOf", "([I)J"⟩, 44), (⟨"RodBeadsModel", "shows", "([II)I"⟩, 44), (⟨"RodBeadsModel", "worth", "(I)I"⟩, 44), (⟨"RodBeadsModel", "worthBy", "(II)I"⟩, 44), (⟨"RodBeadsModel", "isRod", "(I)Z"⟩, 44), (⟨"RodBeadsModel", "readsFrame", "()Z"⟩, 44), (⟨"RodBeadsModel", "reads", "()V"⟩, 44), (⟨"RodBeadsModel", "letterAt", "(I)I"⟩, 44), (⟨"RodBeadsModel", "wordOf", "(II)I"⟩, 44), (⟨"RodBeadsModel", "readsNumber", "()V"⟩, 44), (⟨"RodBeadsModel", "readsClause", "()Z"⟩, 44), (⟨"RodBeadsModel", "readsRod", "(I)Z"⟩, 44)]
theorem lw_r3 : ∀ q ∈ lw_privs_3, lw_okq q := List.forall_mem_cons.mpr ⟨lw_p32, List.forall_mem_cons.mpr ⟨lw_p33, List.forall_mem_cons.mpr ⟨lw_p34, List.forall_mem_cons.mpr ⟨lw_p35, List.forall_mem_cons.mpr ⟨lw_p36, List.forall_mem_cons.mpr ⟨lw_p37, List.forall_mem_cons.mpr ⟨lw_p38, List.forall_mem_cons.mpr ⟨lw_p39, List.forall_mem_cons.mpr ⟨lw_p40, List.forall_mem_cons.mpr ⟨lw_p41, List.forall_mem_cons.mpr ⟨lw_p42, List.forall_mem_cons.mpr ⟨lw_p43, List.forall_mem_cons.mpr ⟨lw_p44, List.forall_mem_cons.mpr ⟨lw_p45, List.forall_mem_cons.mpr ⟨lw_p46, List.forall_mem_cons.mpr ⟨lw_p47, fun _ h => absurd h List.not_mem_nil⟩⟩⟩⟩⟩⟩⟩⟩⟩⟩⟩⟩⟩⟩⟩⟩
theorem lw_p48 : lw_okq (⟨"RodBeadsModel", "numbered", "(II)Z"⟩, 44) := ⟨⟨by decide +kernel, by decide +kernel⟩, List.mem_of_getElem? (i := 941) (by decide +kernel), List.mem_of_getElem? (i := 1180) (by decide +kernel), List.mem_of_getElem? (i := 1181) (by decide +kernel)⟩
theorem lw_p49 : lw_okq (⟨"RodBeadsModel", "readsStuck", "()Z"⟩, 44) := ⟨⟨by decide +kernel, by decide +kernel⟩, List.mem_of_getElem? (i := 941) (by decide +kernel), List.mem_of_getElem? (i := 1184) (by decide +kernel), List.mem_of_getElem? (i := 1185) (by decide +kernel)⟩
theorem lw_p50 : lw_okq (⟨"RodBeadsModel", "readsSums", "([IZ)Z"⟩, 44) := ⟨⟨by decide +kernel, by decide +kernel⟩, List.mem_of_getElem? (i := 941) (by decide +kernel), List.mem_of_getElem? (i := 1188) (by decide +kernel), List.mem_of_getElem? (i := 1189) (by decide +kernel)⟩
theorem lw_p51 : lw_okq (⟨"RodBeadsModel", "readsStatement", "([I)Z"⟩, 44) := ⟨⟨by decide +kernel, by decide +kernel⟩, List.mem_of_getElem? (i := 941) (by decide +kernel), List.mem_of_getElem? (i := 1192) (by decide +kernel), List.mem_of_getElem? (i := 1193) (by decide +kernel)⟩
theorem lw_p52 : lw_okq (⟨"RodBeadsModel", "readsExpr", "([I)Z"⟩, 44) := ⟨⟨by decide +kernel, by decide +kernel⟩, List.mem_of_getElem? (i := 941) (by decide +kernel), List.mem_of_getElem? (i := 1196) (by decide +kernel), List.mem_of_getElem? (i := 1197) (by decide +kernel)⟩
theorem lw_p53 : lw_okq (⟨"RodBeadsModel", "opens", "()V"⟩, 44) := ⟨⟨by decide +kernel, by decide +kernel⟩, List.mem_of_getElem? (i := 941) (by decide +kernel), List.mem_of_getElem? (i := 1200) (by decide +kernel), List.mem_of_getElem? (i := 1201) (by decide +kernel)⟩
theorem lw_p54 : lw_okq (⟨"RodBeadsModel", "part", "(J)V"⟩, 44) := ⟨⟨by decide +kernel, by decide +kernel⟩, List.mem_of_getElem? (i := 941) (by decide +kernel), List.mem_of_getElem? (i := 1204) (by decide +kernel), List.mem_of_getElem? (i := 1205) (by decide +kernel)⟩
theorem lw_p55 : lw_okq (⟨"RodBeadsModel", "product", "(JJ)J"⟩, 44) := ⟨⟨by decide +kernel, by decide +kernel⟩, List.mem_of_getElem? (i := 941) (by decide +kernel), List.mem_of_getElem? (i := 1208) (by decide +kernel), List.mem_of_getElem? (i := 1209) (by decide +kernel)⟩
theorem lw_p56 : lw_okq (⟨"RodBeadsModel", "bounded", "(J)J"⟩, 44) := ⟨⟨by decide +kernel, by decide +kernel⟩, List.mem_of_getElem? (i := 941) (by decide +kernel), List.mem_of_getElem? (i := 1216) (by decide +kernel), List.mem_of_getElem? (i := 1217) (by decide +kernel)⟩
theorem lw_p57 : lw_okq (⟨"RodBeadsModel", "closesTerm", "()V"⟩, 44) := ⟨⟨by decide +kernel, by decide +kernel⟩, List.mem_of_getElem? (i := 941) (by decide +kernel), List.mem_of_getElem? (i := 1221) (by decide +kernel), List.mem_of_getElem? (i := 1222) (by decide +kernel)⟩
theorem lw_p58 : lw_okq (⟨"RodBeadsModel", "sets", "([IJ)I"⟩, 44) := ⟨⟨by decide +kernel, by decide +kernel⟩, List.mem_of_getElem? (i := 941) (by decide +kernel), List.mem_of_getElem? (i := 1225) (by decide +kernel), List.mem_of_getElem? (i := 1226) (by decide +kernel)⟩
theorem lw_p59 : lw_okq (⟨"RodBeadsModel", "isShown", "([IIJ)Z"⟩, 44) := ⟨⟨by decide +kernel, by decide +kernel⟩, List.mem_of_getElem? (i := 941) (by decide +kernel), List.mem_of_getElem? (i := 1229) (by decide +kernel), List.mem_of_getElem? (i := 1230) (by decide +kernel)⟩
theorem lw_p60 : lw_okq (⟨"RodBeadsModel", "lay", "([IIJ)V"⟩, 44) := ⟨⟨by decide +kernel, by decide +kernel⟩, List.mem_of_getElem? (i := 941) (by decide +kernel), List.mem_of_getElem? (i := 1234) (by decide +kernel), List.mem_of_getElem? (i := 1235) (by decide +kernel)⟩
theorem lw_p61 : lw_okq (⟨"RodBeadsModel", "layCell", "([IIII)V"⟩, 44) := ⟨⟨by decide +kernel, by decide +kernel⟩, List.mem_of_getElem? (i := 941) (by decide +kernel), List.mem_of_getElem? (i := 1242) (by decide +kernel), List.mem_of_getElem? (i := 1243) (by decide +kernel)⟩
theorem lw_p62 : lw_okq (⟨"RodBeadsModel", "onward", "(III)I"⟩, 44) := ⟨⟨by decide +kernel, by decide +kernel⟩, List.mem_of_getElem? (i := 941) (by decide +kernel), List.mem_of_getElem? (i := 1249) (by decide +kernel), List.mem_of_getElem? (i := 1250) (by decide +kernel)⟩
theorem lw_p63 : lw_okq (⟨"RodBeadsModel", "change", "([IIII)I"⟩, 44) := ⟨⟨by decide +kernel, by decide +kernel⟩, List.mem_of_getElem? (i := 941) (by decide +kernel), List.mem_of_getElem? (i := 1254) (by decide +kernel), List.mem_of_getElem? (i := 1255) (by decide +kernel)⟩
def lw_privs_4 : List (MethodName × Nat) := [(⟨"RodBeadsModel", "numbered", "(II)Z"⟩, 44), (⟨"RodBeadsModel", "readsStuck", "()Z"⟩, 44), (⟨"RodBeadsModel", "readsSums", "([IZ)Z"⟩, 44), (⟨"RodBeadsModel", "readsStatement", "([I)Z"⟩, 44), (⟨"RodBeadsModel", "readsExpr", "([I)Z"⟩, 44), (⟨"RodBeadsModel", "opens", "()V"⟩, 44), (⟨"RodBeadsModel", "part", "(J)V"⟩, 44), (⟨"RodBeadsModel", "product", "(JJ)J"⟩, 44), (⟨"RodBeadsModel", "bounded", "(J)J"⟩, 44), (⟨"RodBeadsModel", "closesTerm", "()V"⟩, 44), (⟨"RodBeadsModel", "sets", "([IJ)I"⟩, 44), (⟨"RodBeadsModel", "isShown", "([IIJ)Z"⟩, 44), (⟨"RodBeadsModel", "lay", "([IIJ)V"⟩, 44), (⟨"RodBeadsModel", "layCell", "([IIII)V"⟩, 44), (⟨"RodBeadsModel", "onward", "(III)I"⟩, 44), (⟨"RodBeadsModel", "change", "([IIII)I"⟩, 44)]
theorem lw_r4 : ∀ q ∈ lw_privs_4, lw_okq q := List.forall_mem_cons.mpr ⟨lw_p48, List.forall_mem_cons.mpr ⟨lw_p49, List.forall_mem_cons.mpr ⟨lw_p50, List.forall_mem_cons.mpr ⟨lw_p51, List.forall_mem_cons.mpr ⟨lw_p52, List.forall_mem_cons.mpr ⟨lw_p53, List.forall_mem_cons.mpr ⟨lw_p54, List.forall_mem_cons.mpr ⟨lw_p55, List.forall_mem_cons.mpr ⟨lw_p56, List.forall_mem_cons.mpr ⟨lw_p57, List.forall_mem_cons.mpr ⟨lw_p58, List.forall_mem_cons.mpr ⟨lw_p59, List.forall_mem_cons.mpr ⟨lw_p60, List.forall_mem_cons.mpr ⟨lw_p61, List.forall_mem_cons.mpr ⟨lw_p62, List.forall_mem_cons.mpr ⟨lw_p63, fun _ h => absurd h List.not_mem_nil⟩⟩⟩⟩⟩⟩⟩⟩⟩⟩⟩⟩⟩⟩⟩⟩
theorem lw_p64 : lw_okq (⟨"RodBeadsModel", "layDue", "([II)V"⟩, 44) := ⟨⟨by decide +kernel, by decide +kernel⟩, List.mem_of_getElem? (i := 941) (by decide +kernel), List.mem_of_getElem? (i := 1264) (by decide +kernel), List.mem_of_getElem? (i := 1265) (by decide +kernel)⟩
theorem lw_p65 : lw_okq (⟨"RodBeadsModel", "clears", "([I)V"⟩, 44) := ⟨⟨by decide +kernel, by decide +kernel⟩, List.mem_of_getElem? (i := 941) (by decide +kernel), List.mem_of_getElem? (i := 1272) (by decide +kernel), List.mem_of_getElem? (i := 1273) (by decide +kernel)⟩
theorem lw_p66 : lw_okq (⟨"RodBeadsModel", "carries", "([II)I"⟩, 44) := ⟨⟨by decide +kernel, by decide +kernel⟩, List.mem_of_getElem? (i := 941) (by decide +kernel), List.mem_of_getElem? (i := 1276) (by decide +kernel), List.mem_of_getElem? (i := 1277) (by decide +kernel)⟩
theorem lw_p67 : lw_okq (⟨"RodBeadsModel", "alone", "([III)I"⟩, 44) := ⟨⟨by decide +kernel, by decide +kernel⟩, List.mem_of_getElem? (i := 941) (by decide +kernel), List.mem_of_getElem? (i := 1280) (by decide +kernel), List.mem_of_getElem? (i := 1281) (by decide +kernel)⟩
theorem lw_p68 : lw_okq (⟨"RodBeadsModel", "remember", "()V"⟩, 44) := ⟨⟨by decide +kernel, by decide +kernel⟩, List.mem_of_getElem? (i := 941) (by decide +kernel), List.mem_of_getElem? (i := 1292) (by decide +kernel), List.mem_of_getElem? (i := 1293) (by decide +kernel)⟩
theorem lw_p69 : lw_okq (⟨"RodBeadsModel", "isPart", "(II)Z"⟩, 44) := ⟨⟨by decide +kernel, by decide +kernel⟩, List.mem_of_getElem? (i := 941) (by decide +kernel), List.mem_of_getElem? (i := 1300) (by decide +kernel), List.mem_of_getElem? (i := 1301) (by decide +kernel)⟩
theorem lw_p70 : lw_okq (⟨"RodBeadsModel", "beads", "(II)I"⟩, 44) := ⟨⟨by decide +kernel, by decide +kernel⟩, List.mem_of_getElem? (i := 941) (by decide +kernel), List.mem_of_getElem? (i := 1304) (by decide +kernel), List.mem_of_getElem? (i := 1305) (by decide +kernel)⟩
theorem lw_p71 : lw_okq (⟨"RodBeadsModel", "copyNow", "()V"⟩, 44) := ⟨⟨by decide +kernel, by decide +kernel⟩, List.mem_of_getElem? (i := 941) (by decide +kernel), List.mem_of_getElem? (i := 1326) (by decide +kernel), List.mem_of_getElem? (i := 1327) (by decide +kernel)⟩
theorem lw_p72 : lw_okq (⟨"RodBeadsModel", "allPushed", "()I"⟩, 44) := ⟨⟨by decide +kernel, by decide +kernel⟩, List.mem_of_getElem? (i := 941) (by decide +kernel), List.mem_of_getElem? (i := 1338) (by decide +kernel), List.mem_of_getElem? (i := 1339) (by decide +kernel)⟩
theorem lw_p73 : lw_okq (⟨"RodBeadsModel", "edge", "(Z)J"⟩, 44) := ⟨⟨by decide +kernel, by decide +kernel⟩, List.mem_of_getElem? (i := 941) (by decide +kernel), List.mem_of_getElem? (i := 1364) (by decide +kernel), List.mem_of_getElem? (i := 1365) (by decide +kernel)⟩
theorem lw_p74 : lw_okq (⟨"RodBeadsModel", "least", "(III)I"⟩, 44) := ⟨⟨by decide +kernel, by decide +kernel⟩, List.mem_of_getElem? (i := 941) (by decide +kernel), List.mem_of_getElem? (i := 1402) (by decide +kernel), List.mem_of_getElem? (i := 1403) (by decide +kernel)⟩
def lw_privs_5 : List (MethodName × Nat) := [(⟨"RodBeadsModel", "layDue", "([II)V"⟩, 44), (⟨"RodBeadsModel", "clears", "([I)V"⟩, 44), (⟨"RodBeadsModel", "carries", "([II)I"⟩, 44), (⟨"RodBeadsModel", "alone", "([III)I"⟩, 44), (⟨"RodBeadsModel", "remember", "()V"⟩, 44), (⟨"RodBeadsModel", "isPart", "(II)Z"⟩, 44), (⟨"RodBeadsModel", "beads", "(II)I"⟩, 44), (⟨"RodBeadsModel", "copyNow", "()V"⟩, 44), (⟨"RodBeadsModel", "allPushed", "()I"⟩, 44), (⟨"RodBeadsModel", "edge", "(Z)J"⟩, 44), (⟨"RodBeadsModel", "least", "(III)I"⟩, 44)]
theorem lw_r5 : ∀ q ∈ lw_privs_5, lw_okq q := List.forall_mem_cons.mpr ⟨lw_p64, List.forall_mem_cons.mpr ⟨lw_p65, List.forall_mem_cons.mpr ⟨lw_p66, List.forall_mem_cons.mpr ⟨lw_p67, List.forall_mem_cons.mpr ⟨lw_p68, List.forall_mem_cons.mpr ⟨lw_p69, List.forall_mem_cons.mpr ⟨lw_p70, List.forall_mem_cons.mpr ⟨lw_p71, List.forall_mem_cons.mpr ⟨lw_p72, List.forall_mem_cons.mpr ⟨lw_p73, List.forall_mem_cons.mpr ⟨lw_p74, fun _ h => absurd h List.not_mem_nil⟩⟩⟩⟩⟩⟩⟩⟩⟩⟩⟩
def lw_privs : List (MethodName × Nat) := lw_privs_1 ++ (lw_privs_2 ++ (lw_privs_3 ++ (lw_privs_4 ++ (lw_privs_5))))
def lw_tbl : List Cond := k2_sels lw_privs ++ tables_1
theorem lw_privs_ok : ∀ q ∈ lw_privs, lw_okq q := by
  show ∀ q ∈ lw_privs_1 ++ (lw_privs_2 ++ (lw_privs_3 ++ (lw_privs_4 ++ (lw_privs_5)))), lw_okq q
  exact List.forall_mem_append.mpr ⟨lw_r1, List.forall_mem_append.mpr ⟨lw_r2, List.forall_mem_append.mpr ⟨lw_r3, List.forall_mem_append.mpr ⟨lw_r4, lw_r5⟩⟩⟩⟩
end
section
def RX0 : String := "RodBeads$Five"
def TX0 : u_T := fun k => match k with
  | 0 => ("RodBeads$Rod", "base", "I", true)
  | 1 => ("RodBeads$Rod", "lowBeads", "I", true)
  | _ => ("RodBeads$Rod", "highBeads", "I", true)
def tyX0 : Nat → FieldType := fun k => match k with
  | 0 => .int
  | 1 => .int
  | _ => .int
abbrev wsX00 : List Cond := u_ws RX0 TX0 3
theorem nmX0 : ∀ a, a < 3 → ∀ b, b < 3 → a ≠ b → (TX0 a).2.1 ≠ (TX0 b).2.1 := by decide +kernel
theorem tyX0_ok : ∀ k, k < 3 → parseFieldDescriptor (TX0 k).2.2.1 = some (tyX0 k) := by decide +kernel
abbrev cX0_init : ByteArray := prog_2_method_1_code
def yX0_init : MethodName := ⟨RX0, "<init>", "(III)V"⟩
abbrev cX0_kindNumber : ByteArray := prog_2_method_2_code
def yX0_kindNumber : MethodName := ⟨RX0, "kindNumber", "()I"⟩
abbrev cX0_highWorth : ByteArray := prog_2_method_3_code
def yX0_highWorth : MethodName := ⟨RX0, "highWorth", "()I"⟩
def RX1 : String := "RodBeads$Frame"
def TX1 : u_T := fun k => match k with
  | 0 => ("RodBeads$Frame", "rods", "[LRodBeads$Rod;", true)
  | 1 => ("RodBeads$Frame", "size", "I", false)
  | _ => ("RodBeads$Frame", "told", "I", false)
def tyX1 : Nat → FieldType := fun k => match k with
  | 0 => .array (.object "RodBeads$Rod")
  | 1 => .int
  | _ => .int
abbrev wsX10 : List Cond := u_ws RX1 TX1 3
theorem nmX1 : ∀ a, a < 3 → ∀ b, b < 3 → a ≠ b → (TX1 a).2.1 ≠ (TX1 b).2.1 := by decide +kernel
theorem tyX1_ok : ∀ k, k < 3 → parseFieldDescriptor (TX1 k).2.2.1 = some (tyX1 k) := by decide +kernel
abbrev cX1_init : ByteArray := prog_3_method_1_code
def yX1_init : MethodName := ⟨RX1, "<init>", "()V"⟩
abbrev cX1_rodAt : ByteArray := prog_3_method_2_code
def yX1_rodAt : MethodName := ⟨RX1, "rodAt", "(I)LRodBeads$Rod;"⟩
abbrev cX1_copy : ByteArray := prog_3_method_3_code
def yX1_copy : MethodName := ⟨RX1, "copy", "(LRodBeads$Frame;)V"⟩
abbrev cX1_read : ByteArray := prog_3_method_4_code
def yX1_read : MethodName := ⟨RX1, "read", "(LRodBeads$Text;)I"⟩
abbrev cX1_readClause : ByteArray := prog_3_method_5_code
def yX1_readClause : MethodName := ⟨RX1, "readClause", "(LRodBeads$Text;)V"⟩
abbrev cX1_kindTold : ByteArray := prog_3_method_6_code
def yX1_kindTold : MethodName := ⟨RX1, "kindTold", "(LRodBeads$Text;)I"⟩
abbrev cX1_readRod : ByteArray := prog_3_method_7_code
def yX1_readRod : MethodName := ⟨RX1, "readRod", "(LRodBeads$Text;I)V"⟩
abbrev cX1_makeRod : ByteArray := prog_3_method_8_code
def yX1_makeRod : MethodName := ⟨RX1, "makeRod", "(IIII)LRodBeads$Rod;"⟩
def RX2 : String := "RodBeads$Heir"
def TX2 : u_T := fun k => match k with
  | 0 => ("RodBeads$Rod", "base", "I", true)
  | 1 => ("RodBeads$Rod", "lowBeads", "I", true)
  | _ => ("RodBeads$Rod", "highBeads", "I", true)
def tyX2 : Nat → FieldType := fun k => match k with
  | 0 => .int
  | 1 => .int
  | _ => .int
abbrev wsX20 : List Cond := u_ws RX2 TX2 3
theorem nmX2 : ∀ a, a < 3 → ∀ b, b < 3 → a ≠ b → (TX2 a).2.1 ≠ (TX2 b).2.1 := by decide +kernel
theorem tyX2_ok : ∀ k, k < 3 → parseFieldDescriptor (TX2 k).2.2.1 = some (tyX2 k) := by decide +kernel
abbrev cX2_init : ByteArray := prog_4_method_1_code
def yX2_init : MethodName := ⟨RX2, "<init>", "(III)V"⟩
abbrev cX2_kindNumber : ByteArray := prog_4_method_2_code
def yX2_kindNumber : MethodName := ⟨RX2, "kindNumber", "()I"⟩
abbrev cX2_highWorth : ByteArray := prog_4_method_3_code
def yX2_highWorth : MethodName := ⟨RX2, "highWorth", "()I"⟩
abbrev cX2_highTime : ByteArray := prog_4_method_4_code
def yX2_highTime : MethodName := ⟨RX2, "highTime", "()I"⟩
def RX3 : String := "RodBeads$Plain"
def TX3 : u_T := fun k => match k with
  | 0 => ("RodBeads$Rod", "base", "I", true)
  | 1 => ("RodBeads$Rod", "lowBeads", "I", true)
  | _ => ("RodBeads$Rod", "highBeads", "I", true)
def tyX3 : Nat → FieldType := fun k => match k with
  | 0 => .int
  | 1 => .int
  | _ => .int
abbrev wsX30 : List Cond := u_ws RX3 TX3 3
theorem nmX3 : ∀ a, a < 3 → ∀ b, b < 3 → a ≠ b → (TX3 a).2.1 ≠ (TX3 b).2.1 := by decide +kernel
theorem tyX3_ok : ∀ k, k < 3 → parseFieldDescriptor (TX3 k).2.2.1 = some (tyX3 k) := by decide +kernel
abbrev cX3_init : ByteArray := prog_5_method_1_code
def yX3_init : MethodName := ⟨RX3, "<init>", "(II)V"⟩
abbrev cX3_kindNumber : ByteArray := prog_5_method_2_code
def yX3_kindNumber : MethodName := ⟨RX3, "kindNumber", "()I"⟩
abbrev cX3_highWorth : ByteArray := prog_5_method_3_code
def yX3_highWorth : MethodName := ⟨RX3, "highWorth", "()I"⟩
def RX4 : String := "RodBeads$Rod"
def TX4 : u_T := fun k => match k with
  | _ => ("", "", "", false)
def tyX4 : Nat → FieldType := fun k => match k with
  | _ => .int
abbrev wsX40 : List Cond := u_ws RX4 TX4 0
theorem nmX4 : ∀ a, a < 0 → ∀ b, b < 0 → a ≠ b → (TX4 a).2.1 ≠ (TX4 b).2.1 := by decide +kernel
theorem tyX4_ok : ∀ k, k < 0 → parseFieldDescriptor (TX4 k).2.2.1 = some (tyX4 k) := by decide +kernel
abbrev cX4_init : ByteArray := prog_6_method_1_code
def yX4_init : MethodName := ⟨RX4, "<init>", "(III)V"⟩
abbrev cX4_lowTime : ByteArray := prog_6_method_4_code
def yX4_lowTime : MethodName := ⟨RX4, "lowTime", "()I"⟩
abbrev cX4_highTime : ByteArray := prog_6_method_5_code
def yX4_highTime : MethodName := ⟨RX4, "highTime", "()I"⟩
abbrev cX4_beadsOf : ByteArray := prog_6_method_6_code
def yX4_beadsOf : MethodName := ⟨RX4, "beadsOf", "(I)I"⟩
abbrev cX4_timeOf : ByteArray := prog_6_method_7_code
def yX4_timeOf : MethodName := ⟨RX4, "timeOf", "(I)I"⟩
abbrev cX4_worthOf : ByteArray := prog_6_method_8_code
def yX4_worthOf : MethodName := ⟨RX4, "worthOf", "(II)I"⟩
abbrev cX4_leastTimeFor : ByteArray := prog_6_method_9_code
def yX4_leastTimeFor : MethodName := ⟨RX4, "leastTimeFor", "(I)I"⟩
def RX5 : String := "RodBeads$Rows"
def TX5 : u_T := fun k => match k with
  | _ => ("", "", "", false)
def tyX5 : Nat → FieldType := fun k => match k with
  | _ => .int
abbrev wsX50 : List Cond := u_ws RX5 TX5 0
theorem nmX5 : ∀ a, a < 0 → ∀ b, b < 0 → a ≠ b → (TX5 a).2.1 ≠ (TX5 b).2.1 := by decide +kernel
theorem tyX5_ok : ∀ k, k < 0 → parseFieldDescriptor (TX5 k).2.2.1 = some (tyX5 k) := by decide +kernel
abbrev cX5_at : ByteArray := prog_7_method_2_code
def yX5_at : MethodName := ⟨RX5, "at", "([II)I"⟩
abbrev cX5_put : ByteArray := prog_7_method_3_code
def yX5_put : MethodName := ⟨RX5, "put", "([III)V"⟩
def RX6 : String := "RodBeads$Slow"
def TX6 : u_T := fun k => match k with
  | 0 => ("RodBeads$Rod", "base", "I", true)
  | 1 => ("RodBeads$Rod", "lowBeads", "I", true)
  | _ => ("RodBeads$Rod", "highBeads", "I", true)
def tyX6 : Nat → FieldType := fun k => match k with
  | 0 => .int
  | 1 => .int
  | _ => .int
abbrev wsX60 : List Cond := u_ws RX6 TX6 3
theorem nmX6 : ∀ a, a < 3 → ∀ b, b < 3 → a ≠ b → (TX6 a).2.1 ≠ (TX6 b).2.1 := by decide +kernel
theorem tyX6_ok : ∀ k, k < 3 → parseFieldDescriptor (TX6 k).2.2.1 = some (tyX6 k) := by decide +kernel
abbrev cX6_init : ByteArray := prog_8_method_1_code
def yX6_init : MethodName := ⟨RX6, "<init>", "(III)V"⟩
abbrev cX6_kindNumber : ByteArray := prog_8_method_2_code
def yX6_kindNumber : MethodName := ⟨RX6, "kindNumber", "()I"⟩
abbrev cX6_lowTime : ByteArray := prog_8_method_3_code
def yX6_lowTime : MethodName := ⟨RX6, "lowTime", "()I"⟩
abbrev cX6_highTime : ByteArray := prog_8_method_4_code
def yX6_highTime : MethodName := ⟨RX6, "highTime", "()I"⟩
def RX7 : String := "RodBeads$Standing"
def TX7 : u_T := fun k => match k with
  | 0 => ("RodBeads$Standing", "low", "[I", true)
  | 1 => ("RodBeads$Standing", "high", "[I", true)
  | 2 => ("RodBeads$Standing", "stuck", "I", false)
  | _ => ("RodBeads$Standing", "spent", "I", false)
def tyX7 : Nat → FieldType := fun k => match k with
  | 0 => .array .int
  | 1 => .array .int
  | 2 => .int
  | _ => .int
abbrev wsX70 : List Cond := u_ws RX7 TX7 4
theorem nmX7 : ∀ a, a < 4 → ∀ b, b < 4 → a ≠ b → (TX7 a).2.1 ≠ (TX7 b).2.1 := by decide +kernel
theorem tyX7_ok : ∀ k, k < 4 → parseFieldDescriptor (TX7 k).2.2.1 = some (tyX7 k) := by decide +kernel
abbrev cX7_init : ByteArray := prog_9_method_1_code
def yX7_init : MethodName := ⟨RX7, "<init>", "()V"⟩
abbrev cX7_begin : ByteArray := prog_9_method_2_code
def yX7_begin : MethodName := ⟨RX7, "begin", "(I)V"⟩
abbrev cX7_copy : ByteArray := prog_9_method_3_code
def yX7_copy : MethodName := ⟨RX7, "copy", "(LRodBeads$Standing;)V"⟩
abbrev cX7_beads : ByteArray := prog_9_method_4_code
def yX7_beads : MethodName := ⟨RX7, "beads", "(II)I"⟩
abbrev cX7_place : ByteArray := prog_9_method_5_code
def yX7_place : MethodName := ⟨RX7, "place", "(III)V"⟩
abbrev cX7_partBit : ByteArray := prog_9_method_6_code
def yX7_partBit : MethodName := ⟨RX7, "partBit", "(II)I"⟩
abbrev cX7_isStuck : ByteArray := prog_9_method_7_code
def yX7_isStuck : MethodName := ⟨RX7, "isStuck", "(II)Z"⟩
abbrev cX7_shows : ByteArray := prog_9_method_8_code
def yX7_shows : MethodName := ⟨RX7, "shows", "(ILRodBeads$Rod;)I"⟩
abbrev cX7_beadsInAll : ByteArray := prog_9_method_9_code
def yX7_beadsInAll : MethodName := ⟨RX7, "beadsInAll", "()I"⟩
abbrev cX7_spend : ByteArray := prog_9_method_10_code
def yX7_spend : MethodName := ⟨RX7, "spend", "(I)V"⟩
def RX8 : String := "RodBeads$Sums"
def TX8 : u_T := fun k => match k with
  | 0 => ("RodBeads$Sums", "verb", "I", false)
  | 1 => ("RodBeads$Sums", "value", "J", false)
  | 2 => ("RodBeads$Sums", "possible", "Z", false)
  | _ => ("RodBeads$Sums", "theNumber", "J", false)
def tyX8 : Nat → FieldType := fun k => match k with
  | 0 => .int
  | 1 => .long
  | 2 => .boolean
  | _ => .long
abbrev wsX80 : List Cond := u_ws RX8 TX8 4
theorem nmX8 : ∀ a, a < 4 → ∀ b, b < 4 → a ≠ b → (TX8 a).2.1 ≠ (TX8 b).2.1 := by decide +kernel
theorem tyX8_ok : ∀ k, k < 4 → parseFieldDescriptor (TX8 k).2.2.1 = some (tyX8 k) := by decide +kernel
abbrev cX8_init : ByteArray := prog_10_method_1_code
def yX8_init : MethodName := ⟨RX8, "<init>", "()V"⟩
abbrev cX8_check : ByteArray := prog_10_method_2_code
def yX8_check : MethodName := ⟨RX8, "check", "(LRodBeads$Text;I)I"⟩
abbrev cX8_readStatement : ByteArray := prog_10_method_3_code
def yX8_readStatement : MethodName := ⟨RX8, "readStatement", "(LRodBeads$Text;IJ)V"⟩
abbrev cX8_verbTold : ByteArray := prog_10_method_4_code
def yX8_verbTold : MethodName := ⟨RX8, "verbTold", "(LRodBeads$Text;)I"⟩
abbrev cX8_expression : ByteArray := prog_10_method_5_code
def yX8_expression : MethodName := ⟨RX8, "expression", "(LRodBeads$Text;I)J"⟩
abbrev cX8_part : ByteArray := prog_10_method_6_code
def yX8_part : MethodName := ⟨RX8, "part", "(LRodBeads$Text;I)J"⟩
abbrev cX8_bounded : ByteArray := prog_10_method_7_code
def yX8_bounded : MethodName := ⟨RX8, "bounded", "(J)J"⟩
abbrev cX8_multiplied : ByteArray := prog_10_method_8_code
def yX8_multiplied : MethodName := ⟨RX8, "multiplied", "(JJ)J"⟩
abbrev cX8_divided : ByteArray := prog_10_method_9_code
def yX8_divided : MethodName := ⟨RX8, "divided", "(JJ)J"⟩
def RX9 : String := "RodBeads$Text"
def TX9 : u_T := fun k => match k with
  | 0 => ("RodBeads$Text", "letters", "[I", true)
  | 1 => ("RodBeads$Text", "size", "I", false)
  | 2 => ("RodBeads$Text", "fault", "I", false)
  | 3 => ("RodBeads$Text", "start", "I", false)
  | 4 => ("RodBeads$Text", "stop", "I", false)
  | _ => ("RodBeads$Text", "isNumber", "Z", false)
def tyX9 : Nat → FieldType := fun k => match k with
  | 0 => .array .int
  | 1 => .int
  | 2 => .int
  | 3 => .int
  | 4 => .int
  | _ => .boolean
abbrev wsX90 : List Cond := u_ws RX9 TX9 6
theorem nmX9 : ∀ a, a < 6 → ∀ b, b < 6 → a ≠ b → (TX9 a).2.1 ≠ (TX9 b).2.1 := by decide +kernel
theorem tyX9_ok : ∀ k, k < 6 → parseFieldDescriptor (TX9 k).2.2.1 = some (tyX9 k) := by decide +kernel
abbrev cX9_init : ByteArray := prog_11_method_1_code
def yX9_init : MethodName := ⟨RX9, "<init>", "()V"⟩
abbrev cX9_add : ByteArray := prog_11_method_2_code
def yX9_add : MethodName := ⟨RX9, "add", "(I)Z"⟩
abbrev cX9_begin : ByteArray := prog_11_method_3_code
def yX9_begin : MethodName := ⟨RX9, "begin", "()V"⟩
abbrev cX9_step : ByteArray := prog_11_method_4_code
def yX9_step : MethodName := ⟨RX9, "step", "()V"⟩
abbrev cX9_letterAt : ByteArray := prog_11_method_5_code
def yX9_letterAt : MethodName := ⟨RX9, "letterAt", "(I)I"⟩
abbrev cX9_isSmall : ByteArray := prog_11_method_6_code
def yX9_isSmall : MethodName := ⟨RX9, "isSmall", "(I)Z"⟩
abbrev cX9_isDigit : ByteArray := prog_11_method_7_code
def yX9_isDigit : MethodName := ⟨RX9, "isDigit", "(I)Z"⟩
abbrev cX9_isSound : ByteArray := prog_11_method_8_code
def yX9_isSound : MethodName := ⟨RX9, "isSound", "()Z"⟩
abbrev cX9_fail : ByteArray := prog_11_method_9_code
def yX9_fail : MethodName := ⟨RX9, "fail", "()V"⟩
abbrev cX9_isAtEnd : ByteArray := prog_11_method_10_code
def yX9_isAtEnd : MethodName := ⟨RX9, "isAtEnd", "()Z"⟩
abbrev cX9_isSign : ByteArray := prog_11_method_11_code
def yX9_isSign : MethodName := ⟨RX9, "isSign", "(C)Z"⟩
abbrev cX9_isWord : ByteArray := prog_11_method_12_code
def yX9_isWord : MethodName := ⟨RX9, "isWord", "(Ljava/lang/String;)Z"⟩
abbrev cX9_takeNumber : ByteArray := prog_11_method_13_code
def yX9_takeNumber : MethodName := ⟨RX9, "takeNumber", "(III)I"⟩
abbrev cX9_another : ByteArray := prog_11_method_14_code
def yX9_another : MethodName := ⟨RX9, "another", "(I)Z"⟩
def RX10 : String := "RodBeads$Ways"
def TX10 : u_T := fun k => match k with
  | 0 => ("RodBeads$Ways", "cost", "[I", true)
  | 1 => ("RodBeads$Ways", "highs", "[I", true)
  | 2 => ("RodBeads$Ways", "choices", "[I", true)
  | 3 => ("RodBeads$Ways", "bases", "[I", true)
  | 4 => ("RodBeads$Ways", "worths", "[I", true)
  | 5 => ("RodBeads$Ways", "most", "[I", true)
  | 6 => ("RodBeads$Ways", "fewest", "[I", true)
  | 7 => ("RodBeads$Ways", "known", "[I", true)
  | 8 => ("RodBeads$Ways", "top", "[I", true)
  | 9 => ("RodBeads$Ways", "sieveFrom", "[I", true)
  | 10 => ("RodBeads$Ways", "sieveUpTo", "[I", true)
  | 11 => ("RodBeads$Ways", "evenSieve", "[I", true)
  | 12 => ("RodBeads$Ways", "oddSieve", "[I", true)
  | _ => ("RodBeads$Ways", "size", "I", false)
def tyX10 : Nat → FieldType := fun k => match k with
  | 0 => .array .int
  | 1 => .array .int
  | 2 => .array .int
  | 3 => .array .int
  | 4 => .array .int
  | 5 => .array .int
  | 6 => .array .int
  | 7 => .array .int
  | 8 => .array .int
  | 9 => .array .int
  | 10 => .array .int
  | 11 => .array .int
  | 12 => .array .int
  | _ => .int
abbrev wsX100 : List Cond := u_ws RX10 TX10 14
theorem nmX10 : ∀ a, a < 14 → ∀ b, b < 14 → a ≠ b → (TX10 a).2.1 ≠ (TX10 b).2.1 := by decide +kernel
theorem tyX10_ok : ∀ k, k < 14 → parseFieldDescriptor (TX10 k).2.2.1 = some (tyX10 k) := by decide +kernel
abbrev cX10_init : ByteArray := prog_12_method_1_code
def yX10_init : MethodName := ⟨RX10, "<init>", "()V"⟩
abbrev cX10_load : ByteArray := prog_12_method_2_code
def yX10_load : MethodName := ⟨RX10, "load", "(LRodBeads$Frame;LRodBeads$Standing;Z)V"⟩
abbrev cX10_loadRod : ByteArray := prog_12_method_3_code
def yX10_loadRod : MethodName := ⟨RX10, "loadRod", "(ILRodBeads$Rod;LRodBeads$Standing;Z)V"⟩
abbrev cX10_price : ByteArray := prog_12_method_4_code
def yX10_price : MethodName := ⟨RX10, "price", "(ILRodBeads$Rod;IILRodBeads$Standing;Z)I"⟩
abbrev cX10_addChoice : ByteArray := prog_12_method_5_code
def yX10_addChoice : MethodName := ⟨RX10, "addChoice", "(III)V"⟩
abbrev cX10_loadBounds : ByteArray := prog_12_method_6_code
def yX10_loadBounds : MethodName := ⟨RX10, "loadBounds", "(II)V"⟩
abbrev cX10_slot : ByteArray := prog_12_method_7_code
def yX10_slot : MethodName := ⟨RX10, "slot", "(II)I"⟩
abbrev cX10_costOf : ByteArray := prog_12_method_8_code
def yX10_costOf : MethodName := ⟨RX10, "costOf", "(II)I"⟩
abbrev cX10_mostFrom : ByteArray := prog_12_method_9_code
def yX10_mostFrom : MethodName := ⟨RX10, "mostFrom", "(I)I"⟩
abbrev cX10_fewestFrom : ByteArray := prog_12_method_10_code
def yX10_fewestFrom : MethodName := ⟨RX10, "fewestFrom", "(I)I"⟩
abbrev cX10_baseOf : ByteArray := prog_12_method_11_code
def yX10_baseOf : MethodName := ⟨RX10, "baseOf", "(I)I"⟩
abbrev cX10_least : ByteArray := prog_12_method_12_code
def yX10_least : MethodName := ⟨RX10, "least", "(J)I"⟩
abbrev cX10_howMany : ByteArray := prog_12_method_13_code
def yX10_howMany : MethodName := ⟨RX10, "howMany", "(J)I"⟩
abbrev cX10_aim : ByteArray := prog_12_method_14_code
def yX10_aim : MethodName := ⟨RX10, "aim", "(I)V"⟩
abbrev cX10_isInReach : ByteArray := prog_12_method_15_code
def yX10_isInReach : MethodName := ⟨RX10, "isInReach", "(II)Z"⟩
abbrev cX10_leastFrom : ByteArray := prog_12_method_16_code
def yX10_leastFrom : MethodName := ⟨RX10, "leastFrom", "(II)I"⟩
abbrev cX10_howManyFrom : ByteArray := prog_12_method_17_code
def yX10_howManyFrom : MethodName := ⟨RX10, "howManyFrom", "(II)I"⟩
abbrev cX10_placeAll : ByteArray := prog_12_method_18_code
def yX10_placeAll : MethodName := ⟨RX10, "placeAll", "(LRodBeads$Standing;)V"⟩
abbrev cX10_shownByWay : ByteArray := prog_12_method_19_code
def yX10_shownByWay : MethodName := ⟨RX10, "shownByWay", "(II)I"⟩
abbrev cX10_placeRod : ByteArray := prog_12_method_20_code
def yX10_placeRod : MethodName := ⟨RX10, "placeRod", "(LRodBeads$Standing;II)V"⟩
abbrev cX10_sift : ByteArray := prog_12_method_21_code
def yX10_sift : MethodName := ⟨RX10, "sift", "(II)V"⟩
abbrev cX10_siftFrom : ByteArray := prog_12_method_22_code
def yX10_siftFrom : MethodName := ⟨RX10, "siftFrom", "(I)V"⟩
abbrev cX10_canShow : ByteArray := prog_12_method_23_code
def yX10_canShow : MethodName := ⟨RX10, "canShow", "(II)Z"⟩
abbrev cX10_sieveOf : ByteArray := prog_12_method_24_code
def yX10_sieveOf : MethodName := ⟨RX10, "sieveOf", "(I)[I"⟩
abbrev cX10_isSiftedFrom : ByteArray := prog_12_method_25_code
def yX10_isSiftedFrom : MethodName := ⟨RX10, "isSiftedFrom", "(II)Z"⟩
abbrev cX10_isSifted : ByteArray := prog_12_method_26_code
def yX10_isSifted : MethodName := ⟨RX10, "isSifted", "(I)Z"⟩
def RX11 : String := "RodBeads"
def TX11 : u_T := fun k => match k with
  | 0 => ("RodBeads", "text", "LRodBeads$Text;", true)
  | 1 => ("RodBeads", "sums", "LRodBeads$Sums;", true)
  | 2 => ("RodBeads", "ways", "LRodBeads$Ways;", true)
  | 3 => ("RodBeads", "frame", "LRodBeads$Frame;", true)
  | 4 => ("RodBeads", "draft", "LRodBeads$Frame;", true)
  | 5 => ("RodBeads", "now", "LRodBeads$Standing;", true)
  | 6 => ("RodBeads", "trial", "LRodBeads$Standing;", true)
  | 7 => ("RodBeads", "path", "[LRodBeads$Standing;", true)
  | 8 => ("RodBeads", "past", "[LRodBeads$Standing;", true)
  | 9 => ("RodBeads", "pastSize", "I", false)
  | 10 => ("RodBeads", "kept", "[LRodBeads$Standing;", true)
  | 11 => ("RodBeads", "keptBits", "I", false)
  | 12 => ("RodBeads", "seenRod", "[I", true)
  | 13 => ("RodBeads", "seenShown", "[I", true)
  | 14 => ("RodBeads", "seenTime", "[I", true)
  | _ => ("RodBeads", "seenSize", "I", false)
def tyX11 : Nat → FieldType := fun k => match k with
  | 0 => .object "RodBeads$Text"
  | 1 => .object "RodBeads$Sums"
  | 2 => .object "RodBeads$Ways"
  | 3 => .object "RodBeads$Frame"
  | 4 => .object "RodBeads$Frame"
  | 5 => .object "RodBeads$Standing"
  | 6 => .object "RodBeads$Standing"
  | 7 => .array (.object "RodBeads$Standing")
  | 8 => .array (.object "RodBeads$Standing")
  | 9 => .int
  | 10 => .array (.object "RodBeads$Standing")
  | 11 => .int
  | 12 => .array .int
  | 13 => .array .int
  | 14 => .array .int
  | _ => .int
abbrev wsX110 : List Cond := u_ws RX11 TX11 16
theorem nmX11 : ∀ a, a < 16 → ∀ b, b < 16 → a ≠ b → (TX11 a).2.1 ≠ (TX11 b).2.1 := by decide +kernel
theorem tyX11_ok : ∀ k, k < 16 → parseFieldDescriptor (TX11 k).2.2.1 = some (tyX11 k) := by decide +kernel
abbrev cX11_init : ByteArray := prog_1_method_1_code
def yX11_init : MethodName := ⟨RX11, "<init>", "()V"⟩
abbrev cX11_write : ByteArray := prog_1_method_2_code
def yX11_write : MethodName := ⟨RX11, "write", "(I)I"⟩
abbrev cX11_erase : ByteArray := prog_1_method_3_code
def yX11_erase : MethodName := ⟨RX11, "erase", "()I"⟩
abbrev cX11_fault : ByteArray := prog_1_method_4_code
def yX11_fault : MethodName := ⟨RX11, "fault", "(I)I"⟩
abbrev cX11_frame : ByteArray := prog_1_method_5_code
def yX11_frame : MethodName := ⟨RX11, "frame", "()I"⟩
abbrev cX11_run : ByteArray := prog_1_method_6_code
def yX11_run : MethodName := ⟨RX11, "run", "()I"⟩
abbrev cX11_rod : ByteArray := prog_1_method_7_code
def yX11_rod : MethodName := ⟨RX11, "rod", "(II)I"⟩
abbrev cX11_number : ByteArray := prog_1_method_8_code
def yX11_number : MethodName := ⟨RX11, "number", "()J"⟩
abbrev cX11_as : ByteArray := prog_1_method_9_code
def yX11_as : MethodName := ⟨RX11, "as", "(II)I"⟩
abbrev cX11_push : ByteArray := prog_1_method_10_code
def yX11_push : MethodName := ⟨RX11, "push", "(III)I"⟩
abbrev cX11_stick : ByteArray := prog_1_method_11_code
def yX11_stick : MethodName := ⟨RX11, "stick", "(II)I"⟩
abbrev cX11_set : ByteArray := prog_1_method_12_code
def yX11_set : MethodName := ⟨RX11, "set", "(I)I"⟩
abbrev cX11_carry : ByteArray := prog_1_method_13_code
def yX11_carry : MethodName := ⟨RX11, "carry", "(I)I"⟩
abbrev cX11_undo : ByteArray := prog_1_method_14_code
def yX11_undo : MethodName := ⟨RX11, "undo", "()I"⟩
abbrev cX11_keep : ByteArray := prog_1_method_15_code
def yX11_keep : MethodName := ⟨RX11, "keep", "(I)I"⟩
abbrev cX11_back : ByteArray := prog_1_method_16_code
def yX11_back : MethodName := ⟨RX11, "back", "(I)I"⟩
abbrev cX11_ways : ByteArray := prog_1_method_17_code
def yX11_ways : MethodName := ⟨RX11, "ways", "(I)I"⟩
abbrev cX11_time : ByteArray := prog_1_method_18_code
def yX11_time : MethodName := ⟨RX11, "time", "(I)I"⟩
abbrev cX11_pushed : ByteArray := prog_1_method_19_code
def yX11_pushed : MethodName := ⟨RX11, "pushed", "(III)I"⟩
abbrev cX11_span : ByteArray := prog_1_method_20_code
def yX11_span : MethodName := ⟨RX11, "span", "(I)J"⟩
abbrev cX11_nearest : ByteArray := prog_1_method_21_code
def yX11_nearest : MethodName := ⟨RX11, "nearest", "(I)I"⟩
abbrev cX11_loosen : ByteArray := prog_1_method_22_code
def yX11_loosen : MethodName := ⟨RX11, "loosen", "(I)I"⟩
abbrev cX11_tour : ByteArray := prog_1_method_23_code
def yX11_tour : MethodName := ⟨RX11, "tour", "(IIII)I"⟩
abbrev cX11_seen : ByteArray := prog_1_method_24_code
def yX11_seen : MethodName := ⟨RX11, "seen", "(III)I"⟩
abbrev cX11_forget : ByteArray := prog_1_method_25_code
def yX11_forget : MethodName := ⟨RX11, "forget", "()I"⟩
abbrev cX11_kinds : ByteArray := prog_1_method_26_code
def yX11_kinds : MethodName := ⟨RX11, "kinds", "(I)I"⟩
abbrev cX11_slips : ByteArray := prog_1_method_27_code
def yX11_slips : MethodName := ⟨RX11, "slips", "(IIII)J"⟩
abbrev cX11_count : ByteArray := prog_1_method_28_code
def yX11_count : MethodName := ⟨RX11, "count", "(I)I"⟩
abbrev cX11_isPart : ByteArray := prog_1_method_29_code
def yX11_isPart : MethodName := ⟨RX11, "isPart", "(I)Z"⟩
abbrev cX11_isNumber : ByteArray := prog_1_method_30_code
def yX11_isNumber : MethodName := ⟨RX11, "isNumber", "(I)Z"⟩
abbrev cX11_isOfTour : ByteArray := prog_1_method_31_code
def yX11_isOfTour : MethodName := ⟨RX11, "isOfTour", "(I)Z"⟩
abbrev cX11_newStandings : ByteArray := prog_1_method_32_code
def yX11_newStandings : MethodName := ⟨RX11, "newStandings", "(I)[LRodBeads$Standing;"⟩
abbrev cX11_standingAt : ByteArray := prog_1_method_33_code
def yX11_standingAt : MethodName := ⟨RX11, "standingAt", "([LRodBeads$Standing;I)LRodBeads$Standing;"⟩
abbrev cX11_isUnder : ByteArray := prog_1_method_34_code
def yX11_isUnder : MethodName := ⟨RX11, "isUnder", "(LRodBeads$Rod;I)Z"⟩
abbrev cX11_readDraft : ByteArray := prog_1_method_35_code
def yX11_readDraft : MethodName := ⟨RX11, "readDraft", "()I"⟩
abbrev cX11_theNumber : ByteArray := prog_1_method_36_code
def yX11_theNumber : MethodName := ⟨RX11, "theNumber", "()J"⟩
abbrev cX11_fullRods : ByteArray := prog_1_method_37_code
def yX11_fullRods : MethodName := ⟨RX11, "fullRods", "()I"⟩
abbrev cX11_remember : ByteArray := prog_1_method_38_code
def yX11_remember : MethodName := ⟨RX11, "remember", "()V"⟩
abbrev cX11_doneByTrial : ByteArray := prog_1_method_39_code
def yX11_doneByTrial : MethodName := ⟨RX11, "doneByTrial", "(I)I"⟩
abbrev cX11_settle : ByteArray := prog_1_method_40_code
def yX11_settle : MethodName := ⟨RX11, "settle", "(LRodBeads$Standing;J)I"⟩
abbrev cX11_carryOver : ByteArray := prog_1_method_41_code
def yX11_carryOver : MethodName := ⟨RX11, "carryOver", "(LRodBeads$Standing;I)I"⟩
abbrev cX11_pushAllBack : ByteArray := prog_1_method_42_code
def yX11_pushAllBack : MethodName := ⟨RX11, "pushAllBack", "()V"⟩
abbrev cX11_doStatement : ByteArray := prog_1_method_43_code
def yX11_doStatement : MethodName := ⟨RX11, "doStatement", "()Z"⟩
abbrev cX11_leastCost : ByteArray := prog_1_method_44_code
def yX11_leastCost : MethodName := ⟨RX11, "leastCost", "(IZ)I"⟩
abbrev cX11_gap : ByteArray := prog_1_method_45_code
def yX11_gap : MethodName := ⟨RX11, "gap", "(I)I"⟩
abbrev cX11_nearestShown : ByteArray := prog_1_method_46_code
def yX11_nearestShown : MethodName := ⟨RX11, "nearestShown", "(I)I"⟩
abbrev cX11_secondOf : ByteArray := prog_1_method_47_code
def yX11_secondOf : MethodName := ⟨RX11, "secondOf", "(I)I"⟩
abbrev cX11_pick : ByteArray := prog_1_method_48_code
def yX11_pick : MethodName := ⟨RX11, "pick", "(IIII)I"⟩
abbrev cX11_goOn : ByteArray := prog_1_method_49_code
def yX11_goOn : MethodName := ⟨RX11, "goOn", "(LRodBeads$Standing;II)Z"⟩
abbrev cX11_spentOnPath : ByteArray := prog_1_method_50_code
def yX11_spentOnPath : MethodName := ⟨RX11, "spentOnPath", "()I"⟩
abbrev cX11_fitsSeen : ByteArray := prog_1_method_51_code
def yX11_fitsSeen : MethodName := ⟨RX11, "fitsSeen", "(ILRodBeads$Rod;)Z"⟩
abbrev cX11_chancesToStay : ByteArray := prog_1_method_52_code
def yX11_chancesToStay : MethodName := ⟨RX11, "chancesToStay", "(III)J"⟩
abbrev cX11_power : ByteArray := prog_1_method_53_code
def yX11_power : MethodName := ⟨RX11, "power", "(JI)J"⟩
abbrev cX11_commonDivisor : ByteArray := prog_1_method_54_code
def yX11_commonDivisor : MethodName := ⟨RX11, "commonDivisor", "(JJ)J"⟩
def RX12 : String := "RodBeadsModel"
def TX12 : u_T := fun k => match k with
  | 0 => ("RodBeadsModel", "n", "I", false)
  | 1 => ("RodBeadsModel", "kindOf", "[I", true)
  | 2 => ("RodBeadsModel", "bases", "[I", true)
  | 3 => ("RodBeadsModel", "lows", "[I", true)
  | 4 => ("RodBeadsModel", "highs", "[I", true)
  | 5 => ("RodBeadsModel", "now", "[I", true)
  | 6 => ("RodBeadsModel", "tried", "[I", true)
  | 7 => ("RodBeadsModel", "told", "I", false)
  | 8 => ("RodBeadsModel", "dues", "[J", true)
  | 9 => ("RodBeadsModel", "wayMany", "[J", true)
  | 10 => ("RodBeadsModel", "times", "[I", true)
  | 11 => ("RodBeadsModel", "due", "[I", true)
  | 12 => ("RodBeadsModel", "letterMany", "I", false)
  | 13 => ("RodBeadsModel", "text", "[I", true)
  | 14 => ("RodBeadsModel", "readAt", "I", false)
  | 15 => ("RodBeadsModel", "tokenAt", "I", false)
  | 16 => ("RodBeadsModel", "token", "I", false)
  | 17 => ("RodBeadsModel", "digits", "I", false)
  | 18 => ("RodBeadsModel", "value", "J", false)
  | 19 => ("RodBeadsModel", "word", "I", false)
  | 20 => ("RodBeadsModel", "readMany", "I", false)
  | 21 => ("RodBeadsModel", "readStuck", "I", false)
  | 22 => ("RodBeadsModel", "clauses", "I", false)
  | 23 => ("RodBeadsModel", "readKind", "[I", true)
  | 24 => ("RodBeadsModel", "readBase", "[I", true)
  | 25 => ("RodBeadsModel", "readLow", "[I", true)
  | 26 => ("RodBeadsModel", "readHigh", "[I", true)
  | 27 => ("RodBeadsModel", "isDoing", "Z", false)
  | 28 => ("RodBeadsModel", "isTrouble", "Z", false)
  | 29 => ("RodBeadsModel", "depth", "I", false)
  | 30 => ("RodBeadsModel", "sums", "[J", true)
  | 31 => ("RodBeadsModel", "terms", "[J", true)
  | 32 => ("RodBeadsModel", "sumSigns", "[I", true)
  | 33 => ("RodBeadsModel", "termSigns", "[I", true)
  | 34 => ("RodBeadsModel", "answer", "J", false)
  | 35 => ("RodBeadsModel", "undoMany", "I", false)
  | 36 => ("RodBeadsModel", "undoAt", "I", false)
  | 37 => ("RodBeadsModel", "undos", "[I", true)
  | 38 => ("RodBeadsModel", "isKept", "[Z", true)
  | 39 => ("RodBeadsModel", "kept", "[I", true)
  | 40 => ("RodBeadsModel", "seenMany", "I", false)
  | 41 => ("RodBeadsModel", "seenRod", "[I", true)
  | 42 => ("RodBeadsModel", "seenShown", "[I", true)
  | _ => ("RodBeadsModel", "seenTime", "[I", true)
def tyX12 : Nat → FieldType := fun k => match k with
  | 0 => .int
  | 1 => .array .int
  | 2 => .array .int
  | 3 => .array .int
  | 4 => .array .int
  | 5 => .array .int
  | 6 => .array .int
  | 7 => .int
  | 8 => .array .long
  | 9 => .array .long
  | 10 => .array .int
  | 11 => .array .int
  | 12 => .int
  | 13 => .array .int
  | 14 => .int
  | 15 => .int
  | 16 => .int
  | 17 => .int
  | 18 => .long
  | 19 => .int
  | 20 => .int
  | 21 => .int
  | 22 => .int
  | 23 => .array .int
  | 24 => .array .int
  | 25 => .array .int
  | 26 => .array .int
  | 27 => .boolean
  | 28 => .boolean
  | 29 => .int
  | 30 => .array .long
  | 31 => .array .long
  | 32 => .array .int
  | 33 => .array .int
  | 34 => .long
  | 35 => .int
  | 36 => .int
  | 37 => .array .int
  | 38 => .array .boolean
  | 39 => .array .int
  | 40 => .int
  | 41 => .array .int
  | 42 => .array .int
  | _ => .array .int
abbrev wsX120 : List Cond := u_ws RX12 TX12 44
theorem nmX12 : ∀ a, a < 44 → ∀ b, b < 44 → a ≠ b → (TX12 a).2.1 ≠ (TX12 b).2.1 := by decide +kernel
theorem tyX12_ok : ∀ k, k < 44 → parseFieldDescriptor (TX12 k).2.2.1 = some (tyX12 k) := by decide +kernel
abbrev cX12_init : ByteArray := prog_14_method_1_code
def yX12_init : MethodName := ⟨RX12, "<init>", "()V"⟩
abbrev cX12_in : ByteArray := prog_14_method_2_code
def yX12_in : MethodName := ⟨RX12, "in", "(JJJ)Z"⟩
abbrev cX12_has : ByteArray := prog_14_method_3_code
def yX12_has : MethodName := ⟨RX12, "has", "(II)Z"⟩
abbrev cX12_bits : ByteArray := prog_14_method_4_code
def yX12_bits : MethodName := ⟨RX12, "bits", "(I)I"⟩
abbrev cX12_apart : ByteArray := prog_14_method_5_code
def yX12_apart : MethodName := ⟨RX12, "apart", "(II)I"⟩
abbrev cX12_isRod : ByteArray := prog_14_method_6_code
def yX12_isRod : MethodName := ⟨RX12, "isRod", "(I)Z"⟩
abbrev cX12_worthBy : ByteArray := prog_14_method_7_code
def yX12_worthBy : MethodName := ⟨RX12, "worthBy", "(II)I"⟩
abbrev cX12_worth : ByteArray := prog_14_method_8_code
def yX12_worth : MethodName := ⟨RX12, "worth", "(I)I"⟩
abbrev cX12_takes : ByteArray := prog_14_method_9_code
def yX12_takes : MethodName := ⟨RX12, "takes", "(II)I"⟩
abbrev cX12_pushedOf : ByteArray := prog_14_method_10_code
def yX12_pushedOf : MethodName := ⟨RX12, "pushedOf", "([III)I"⟩
abbrev cX12_shows : ByteArray := prog_14_method_11_code
def yX12_shows : MethodName := ⟨RX12, "shows", "([II)I"⟩
abbrev cX12_beads : ByteArray := prog_14_method_12_code
def yX12_beads : MethodName := ⟨RX12, "beads", "(II)I"⟩
abbrev cX12_isStuck : ByteArray := prog_14_method_13_code
def yX12_isStuck : MethodName := ⟨RX12, "isStuck", "(III)Z"⟩
abbrev cX12_may : ByteArray := prog_14_method_14_code
def yX12_may : MethodName := ⟨RX12, "may", "([IIIII)Z"⟩
abbrev cX12_change : ByteArray := prog_14_method_15_code
def yX12_change : MethodName := ⟨RX12, "change", "([IIII)I"⟩
abbrev cX12_numberOf : ByteArray := prog_14_method_16_code
def yX12_numberOf : MethodName := ⟨RX12, "numberOf", "([I)J"⟩
abbrev cX12_number : ByteArray := prog_14_method_17_code
def yX12_number : MethodName := ⟨RX12, "number", "()J"⟩
abbrev cX12_rod : ByteArray := prog_14_method_18_code
def yX12_rod : MethodName := ⟨RX12, "rod", "(II)I"⟩
abbrev cX12_as : ByteArray := prog_14_method_19_code
def yX12_as : MethodName := ⟨RX12, "as", "(II)I"⟩
abbrev cX12_cell : ByteArray := prog_14_method_20_code
def yX12_cell : MethodName := ⟨RX12, "cell", "(II)I"⟩
abbrev cX12_lay : ByteArray := prog_14_method_21_code
def yX12_lay : MethodName := ⟨RX12, "lay", "([IIJ)V"⟩
abbrev cX12_onward : ByteArray := prog_14_method_22_code
def yX12_onward : MethodName := ⟨RX12, "onward", "(III)I"⟩
abbrev cX12_layCell : ByteArray := prog_14_method_23_code
def yX12_layCell : MethodName := ⟨RX12, "layCell", "([IIII)V"⟩
abbrev cX12_isShown : ByteArray := prog_14_method_24_code
def yX12_isShown : MethodName := ⟨RX12, "isShown", "([IIJ)Z"⟩
abbrev cX12_layDue : ByteArray := prog_14_method_25_code
def yX12_layDue : MethodName := ⟨RX12, "layDue", "([II)V"⟩
abbrev cX12_counted : ByteArray := prog_14_method_26_code
def yX12_counted : MethodName := ⟨RX12, "counted", "(I)I"⟩
abbrev cX12_sets : ByteArray := prog_14_method_27_code
def yX12_sets : MethodName := ⟨RX12, "sets", "([IJ)I"⟩
abbrev cX12_alone : ByteArray := prog_14_method_28_code
def yX12_alone : MethodName := ⟨RX12, "alone", "([III)I"⟩
abbrev cX12_carries : ByteArray := prog_14_method_29_code
def yX12_carries : MethodName := ⟨RX12, "carries", "([II)I"⟩
abbrev cX12_clears : ByteArray := prog_14_method_30_code
def yX12_clears : MethodName := ⟨RX12, "clears", "([I)V"⟩
abbrev cX12_write : ByteArray := prog_14_method_31_code
def yX12_write : MethodName := ⟨RX12, "write", "(I)I"⟩
abbrev cX12_erase : ByteArray := prog_14_method_32_code
def yX12_erase : MethodName := ⟨RX12, "erase", "()I"⟩
abbrev cX12_letterAt : ByteArray := prog_14_method_33_code
def yX12_letterAt : MethodName := ⟨RX12, "letterAt", "(I)I"⟩
abbrev cX12_isSmall : ByteArray := prog_14_method_34_code
def yX12_isSmall : MethodName := ⟨RX12, "isSmall", "(I)Z"⟩
abbrev cX12_isFigure : ByteArray := prog_14_method_35_code
def yX12_isFigure : MethodName := ⟨RX12, "isFigure", "(I)Z"⟩
abbrev cX12_reads : ByteArray := prog_14_method_36_code
def yX12_reads : MethodName := ⟨RX12, "reads", "()V"⟩
abbrev cX12_readsNumber : ByteArray := prog_14_method_37_code
def yX12_readsNumber : MethodName := ⟨RX12, "readsNumber", "()V"⟩
abbrev cX12_code : ByteArray := prog_14_method_38_code
def yX12_code : MethodName := ⟨RX12, "code", "(IIIII)J"⟩
abbrev cX12_wordOf : ByteArray := prog_14_method_39_code
def yX12_wordOf : MethodName := ⟨RX12, "wordOf", "(II)I"⟩
abbrev cX12_numbered : ByteArray := prog_14_method_40_code
def yX12_numbered : MethodName := ⟨RX12, "numbered", "(II)Z"⟩
abbrev cX12_readsRod : ByteArray := prog_14_method_41_code
def yX12_readsRod : MethodName := ⟨RX12, "readsRod", "(I)Z"⟩
abbrev cX12_readsStuck : ByteArray := prog_14_method_42_code
def yX12_readsStuck : MethodName := ⟨RX12, "readsStuck", "()Z"⟩
abbrev cX12_readsClause : ByteArray := prog_14_method_43_code
def yX12_readsClause : MethodName := ⟨RX12, "readsClause", "()Z"⟩
abbrev cX12_readsFrame : ByteArray := prog_14_method_44_code
def yX12_readsFrame : MethodName := ⟨RX12, "readsFrame", "()Z"⟩
abbrev cX12_bounded : ByteArray := prog_14_method_45_code
def yX12_bounded : MethodName := ⟨RX12, "bounded", "(J)J"⟩
abbrev cX12_size : ByteArray := prog_14_method_46_code
def yX12_size : MethodName := ⟨RX12, "size", "(J)J"⟩
abbrev cX12_product : ByteArray := prog_14_method_47_code
def yX12_product : MethodName := ⟨RX12, "product", "(JJ)J"⟩
abbrev cX12_opens : ByteArray := prog_14_method_48_code
def yX12_opens : MethodName := ⟨RX12, "opens", "()V"⟩
abbrev cX12_part : ByteArray := prog_14_method_49_code
def yX12_part : MethodName := ⟨RX12, "part", "(J)V"⟩
abbrev cX12_closesTerm : ByteArray := prog_14_method_50_code
def yX12_closesTerm : MethodName := ⟨RX12, "closesTerm", "()V"⟩
abbrev cX12_readsExpr : ByteArray := prog_14_method_51_code
def yX12_readsExpr : MethodName := ⟨RX12, "readsExpr", "([I)Z"⟩
abbrev cX12_readsStatement : ByteArray := prog_14_method_52_code
def yX12_readsStatement : MethodName := ⟨RX12, "readsStatement", "([I)Z"⟩
abbrev cX12_readsSums : ByteArray := prog_14_method_53_code
def yX12_readsSums : MethodName := ⟨RX12, "readsSums", "([IZ)Z"⟩
abbrev cX12_fault : ByteArray := prog_14_method_54_code
def yX12_fault : MethodName := ⟨RX12, "fault", "(I)I"⟩
abbrev cX12_frame : ByteArray := prog_14_method_55_code
def yX12_frame : MethodName := ⟨RX12, "frame", "()I"⟩
abbrev cX12_run : ByteArray := prog_14_method_56_code
def yX12_run : MethodName := ⟨RX12, "run", "()I"⟩
abbrev cX12_remember : ByteArray := prog_14_method_57_code
def yX12_remember : MethodName := ⟨RX12, "remember", "()V"⟩
abbrev cX12_isPart : ByteArray := prog_14_method_58_code
def yX12_isPart : MethodName := ⟨RX12, "isPart", "(II)Z"⟩
abbrev cX12_push : ByteArray := prog_14_method_59_code
def yX12_push : MethodName := ⟨RX12, "push", "(III)I"⟩
abbrev cX12_stick : ByteArray := prog_14_method_60_code
def yX12_stick : MethodName := ⟨RX12, "stick", "(II)I"⟩
abbrev cX12_isNumber : ByteArray := prog_14_method_61_code
def yX12_isNumber : MethodName := ⟨RX12, "isNumber", "(I)Z"⟩
abbrev cX12_set : ByteArray := prog_14_method_62_code
def yX12_set : MethodName := ⟨RX12, "set", "(I)I"⟩
abbrev cX12_copyNow : ByteArray := prog_14_method_63_code
def yX12_copyNow : MethodName := ⟨RX12, "copyNow", "()V"⟩
abbrev cX12_carry : ByteArray := prog_14_method_64_code
def yX12_carry : MethodName := ⟨RX12, "carry", "(I)I"⟩
abbrev cX12_undo : ByteArray := prog_14_method_65_code
def yX12_undo : MethodName := ⟨RX12, "undo", "()I"⟩
abbrev cX12_allPushed : ByteArray := prog_14_method_66_code
def yX12_allPushed : MethodName := ⟨RX12, "allPushed", "()I"⟩
abbrev cX12_keep : ByteArray := prog_14_method_67_code
def yX12_keep : MethodName := ⟨RX12, "keep", "(I)I"⟩
abbrev cX12_back : ByteArray := prog_14_method_68_code
def yX12_back : MethodName := ⟨RX12, "back", "(I)I"⟩
abbrev cX12_ways : ByteArray := prog_14_method_69_code
def yX12_ways : MethodName := ⟨RX12, "ways", "(I)I"⟩
abbrev cX12_time : ByteArray := prog_14_method_70_code
def yX12_time : MethodName := ⟨RX12, "time", "(I)I"⟩
abbrev cX12_pushed : ByteArray := prog_14_method_71_code
def yX12_pushed : MethodName := ⟨RX12, "pushed", "(III)I"⟩
abbrev cX12_edge : ByteArray := prog_14_method_72_code
def yX12_edge : MethodName := ⟨RX12, "edge", "(Z)J"⟩
abbrev cX12_span : ByteArray := prog_14_method_73_code
def yX12_span : MethodName := ⟨RX12, "span", "(I)J"⟩
abbrev cX12_nearest : ByteArray := prog_14_method_74_code
def yX12_nearest : MethodName := ⟨RX12, "nearest", "(I)I"⟩
abbrev cX12_loosen : ByteArray := prog_14_method_75_code
def yX12_loosen : MethodName := ⟨RX12, "loosen", "(I)I"⟩
abbrev cX12_inOrder : ByteArray := prog_14_method_76_code
def yX12_inOrder : MethodName := ⟨RX12, "inOrder", "(II)I"⟩
abbrev cX12_tour : ByteArray := prog_14_method_77_code
def yX12_tour : MethodName := ⟨RX12, "tour", "(IIII)I"⟩
abbrev cX12_seen : ByteArray := prog_14_method_78_code
def yX12_seen : MethodName := ⟨RX12, "seen", "(III)I"⟩
abbrev cX12_forget : ByteArray := prog_14_method_79_code
def yX12_forget : MethodName := ⟨RX12, "forget", "()I"⟩
abbrev cX12_least : ByteArray := prog_14_method_80_code
def yX12_least : MethodName := ⟨RX12, "least", "(III)I"⟩
abbrev cX12_kinds : ByteArray := prog_14_method_81_code
def yX12_kinds : MethodName := ⟨RX12, "kinds", "(I)I"⟩
abbrev cX12_common : ByteArray := prog_14_method_82_code
def yX12_common : MethodName := ⟨RX12, "common", "(JJ)J"⟩
abbrev cX12_partsOf : ByteArray := prog_14_method_83_code
def yX12_partsOf : MethodName := ⟨RX12, "partsOf", "(III)J"⟩
abbrev cX12_slips : ByteArray := prog_14_method_84_code
def yX12_slips : MethodName := ⟨RX12, "slips", "(IIII)J"⟩
abbrev cX12_count : ByteArray := prog_14_method_85_code
def yX12_count : MethodName := ⟨RX12, "count", "(I)I"⟩
def RJx145de : String := "java/io/Serializable"
def TJx145de : u_T := fun k => match k with
  | _ => ("", "", "", false)
def tyJx145de : Nat → FieldType := fun k => match k with
  | _ => .int
abbrev wsJx145de0 : List Cond := u_ws RJx145de TJx145de 0
theorem nmJx145de : ∀ a, a < 0 → ∀ b, b < 0 → a ≠ b → (TJx145de a).2.1 ≠ (TJx145de b).2.1 := by decide +kernel
theorem tyJx145de_ok : ∀ k, k < 0 → parseFieldDescriptor (TJx145de k).2.2.1 = some (tyJx145de k) := by decide +kernel
def RJx9f9b0 : String := "java/lang/CharSequence"
def TJx9f9b0 : u_T := fun k => match k with
  | _ => ("", "", "", false)
def tyJx9f9b0 : Nat → FieldType := fun k => match k with
  | _ => .int
abbrev wsJx9f9b00 : List Cond := u_ws RJx9f9b0 TJx9f9b0 0
theorem nmJx9f9b0 : ∀ a, a < 0 → ∀ b, b < 0 → a ≠ b → (TJx9f9b0 a).2.1 ≠ (TJx9f9b0 b).2.1 := by decide +kernel
theorem tyJx9f9b0_ok : ∀ k, k < 0 → parseFieldDescriptor (TJx9f9b0 k).2.2.1 = some (tyJx9f9b0 k) := by decide +kernel
def RJxb160c : String := "java/lang/Comparable"
def TJxb160c : u_T := fun k => match k with
  | _ => ("", "", "", false)
def tyJxb160c : Nat → FieldType := fun k => match k with
  | _ => .int
abbrev wsJxb160c0 : List Cond := u_ws RJxb160c TJxb160c 0
theorem nmJxb160c : ∀ a, a < 0 → ∀ b, b < 0 → a ≠ b → (TJxb160c a).2.1 ≠ (TJxb160c b).2.1 := by decide +kernel
theorem tyJxb160c_ok : ∀ k, k < 0 → parseFieldDescriptor (TJxb160c k).2.2.1 = some (tyJxb160c k) := by decide +kernel
def RJ9 : String := "java/lang/Math"
def TJ9 : u_T := fun k => match k with
  | _ => ("", "", "", false)
def tyJ9 : Nat → FieldType := fun k => match k with
  | _ => .int
abbrev wsJ90 : List Cond := u_ws RJ9 TJ9 0
theorem nmJ9 : ∀ a, a < 0 → ∀ b, b < 0 → a ≠ b → (TJ9 a).2.1 ≠ (TJ9 b).2.1 := by decide +kernel
theorem tyJ9_ok : ∀ k, k < 0 → parseFieldDescriptor (TJ9 k).2.2.1 = some (tyJ9 k) := by decide +kernel
abbrev cJ9_abs_0f7a4 : ByteArray := prog_15_method_59_code
def yJ9_abs_0f7a4 : MethodName := ⟨RJ9, "abs", "(I)I"⟩
abbrev cJ9_abs_067f4 : ByteArray := prog_15_method_61_code
def yJ9_abs_067f4 : MethodName := ⟨RJ9, "abs", "(J)J"⟩
abbrev cJ9_max_7cf53 : ByteArray := prog_15_method_65_code
def yJ9_max_7cf53 : MethodName := ⟨RJ9, "max", "(II)I"⟩
abbrev cJ9_min_7cf53 : ByteArray := prog_15_method_69_code
def yJ9_min_7cf53 : MethodName := ⟨RJ9, "min", "(II)I"⟩
def RJ0 : String := "java/lang/String"
def TJ0 : u_T := fun k => match k with
  | _ => ("", "", "", false)
def tyJ0 : Nat → FieldType := fun k => match k with
  | _ => .int
abbrev wsJ00 : List Cond := u_ws RJ0 TJ0 0
theorem nmJ0 : ∀ a, a < 0 → ∀ b, b < 0 → a ≠ b → (TJ0 a).2.1 ≠ (TJ0 b).2.1 := by decide +kernel
theorem tyJ0_ok : ∀ k, k < 0 → parseFieldDescriptor (TJ0 k).2.2.1 = some (tyJ0 k) := by decide +kernel
abbrev cJ0_length_8abf5 : ByteArray := prog_16_method_54_code
def yJ0_length_8abf5 : MethodName := ⟨RJ0, "length", "()I"⟩
abbrev cJ0_charAt_5068e : ByteArray := prog_16_method_56_code
def yJ0_charAt_5068e : MethodName := ⟨RJ0, "charAt", "(I)C"⟩
abbrev cJ0_coder_7d493 : ByteArray := prog_16_method_152_code
def yJ0_coder_7d493 : MethodName := ⟨RJ0, "coder", "()B"⟩
abbrev cJ0_isLatin1_aae02 : ByteArray := prog_16_method_154_code
def yJ0_isLatin1_aae02 : MethodName := ⟨RJ0, "isLatin1", "()Z"⟩
abbrev cJ0_checkIndex_df160 : ByteArray := prog_16_method_155_code
def yJ0_checkIndex_df160 : MethodName := ⟨RJ0, "checkIndex", "(II)V"⟩
def RJ1 : String := "java/lang/StringLatin1"
def TJ1 : u_T := fun k => match k with
  | _ => ("", "", "", false)
def tyJ1 : Nat → FieldType := fun k => match k with
  | _ => .int
abbrev wsJ10 : List Cond := u_ws RJ1 TJ1 0
theorem nmJ1 : ∀ a, a < 0 → ∀ b, b < 0 → a ≠ b → (TJ1 a).2.1 ≠ (TJ1 b).2.1 := by decide +kernel
theorem tyJ1_ok : ∀ k, k < 0 → parseFieldDescriptor (TJ1 k).2.2.1 = some (tyJ1 k) := by decide +kernel
abbrev cJ1_charAt_3b067 : ByteArray := prog_17_method_2_code
def yJ1_charAt_3b067 : MethodName := ⟨RJ1, "charAt", "([BI)C"⟩
def RJ2 : String := "java/lang/StringUTF16"
def TJ2 : u_T := fun k => match k with
  | _ => ("", "", "", false)
def tyJ2 : Nat → FieldType := fun k => match k with
  | _ => .int
abbrev wsJ20 : List Cond := u_ws RJ2 TJ2 0
theorem nmJ2 : ∀ a, a < 0 → ∀ b, b < 0 → a ≠ b → (TJ2 a).2.1 ≠ (TJ2 b).2.1 := by decide +kernel
theorem tyJ2_ok : ∀ k, k < 0 → parseFieldDescriptor (TJ2 k).2.2.1 = some (tyJ2 k) := by decide +kernel
abbrev cJ2_getChar_3b067 : ByteArray := prog_18_method_5_code
def yJ2_getChar_3b067 : MethodName := ⟨RJ2, "getChar", "([BI)C"⟩
abbrev cJ2_length_9d52b : ByteArray := prog_18_method_6_code
def yJ2_length_9d52b : MethodName := ⟨RJ2, "length", "([B)I"⟩
abbrev cJ2_charAt_3b067 : ByteArray := prog_18_method_83_code
def yJ2_charAt_3b067 : MethodName := ⟨RJ2, "charAt", "([BI)C"⟩
abbrev cJ2_checkIndex_2214a : ByteArray := prog_18_method_91_code
def yJ2_checkIndex_2214a : MethodName := ⟨RJ2, "checkIndex", "(I[B)V"⟩
def RJxfd54e : String := "java/lang/constant/Constable"
def TJxfd54e : u_T := fun k => match k with
  | _ => ("", "", "", false)
def tyJxfd54e : Nat → FieldType := fun k => match k with
  | _ => .int
abbrev wsJxfd54e0 : List Cond := u_ws RJxfd54e TJxfd54e 0
theorem nmJxfd54e : ∀ a, a < 0 → ∀ b, b < 0 → a ≠ b → (TJxfd54e a).2.1 ≠ (TJxfd54e b).2.1 := by decide +kernel
theorem tyJxfd54e_ok : ∀ k, k < 0 → parseFieldDescriptor (TJxfd54e k).2.2.1 = some (tyJxfd54e k) := by decide +kernel
def RJx3cf43 : String := "java/lang/constant/ConstantDesc"
def TJx3cf43 : u_T := fun k => match k with
  | _ => ("", "", "", false)
def tyJx3cf43 : Nat → FieldType := fun k => match k with
  | _ => .int
abbrev wsJx3cf430 : List Cond := u_ws RJx3cf43 TJx3cf43 0
theorem nmJx3cf43 : ∀ a, a < 0 → ∀ b, b < 0 → a ≠ b → (TJx3cf43 a).2.1 ≠ (TJx3cf43 b).2.1 := by decide +kernel
theorem tyJx3cf43_ok : ∀ k, k < 0 → parseFieldDescriptor (TJx3cf43 k).2.2.1 = some (tyJx3cf43 k) := by decide +kernel
def RJ7 : String := "java/util/Arrays"
def TJ7 : u_T := fun k => match k with
  | _ => ("", "", "", false)
def tyJ7 : Nat → FieldType := fun k => match k with
  | _ => .int
abbrev wsJ70 : List Cond := u_ws RJ7 TJ7 0
theorem nmJ7 : ∀ a, a < 0 → ∀ b, b < 0 → a ≠ b → (TJ7 a).2.1 ≠ (TJ7 b).2.1 := by decide +kernel
theorem tyJ7_ok : ∀ k, k < 0 → parseFieldDescriptor (TJ7 k).2.2.1 = some (tyJ7 k) := by decide +kernel
abbrev cJ7_fill_53178 : ByteArray := prog_19_method_103_code
def yJ7_fill_53178 : MethodName := ⟨RJ7, "fill", "([II)V"⟩
def RJ3 : String := "jdk/internal/util/Preconditions"
def TJ3 : u_T := fun k => match k with
  | _ => ("", "", "", false)
def tyJ3 : Nat → FieldType := fun k => match k with
  | _ => .int
abbrev wsJ30 : List Cond := u_ws RJ3 TJ3 0
theorem nmJ3 : ∀ a, a < 0 → ∀ b, b < 0 → a ≠ b → (TJ3 a).2.1 ≠ (TJ3 b).2.1 := by decide +kernel
theorem tyJ3_ok : ∀ k, k < 0 → parseFieldDescriptor (TJ3 k).2.2.1 = some (tyJ3 k) := by decide +kernel
abbrev cJ3_checkIndex_8e157 : ByteArray := prog_20_method_11_code
def yJ3_checkIndex_8e157 : MethodName := ⟨RJ3, "checkIndex", "(IILjava/util/function/BiFunction;)I"⟩
def RL : String := "RodBeadsLaw"
abbrev cL_law : ByteArray := code
def yL_law : MethodName := ⟨RL, "law", "([I)Z"⟩
abbrev vwCl : List vw_C := [(RX0, TX0, 3), (RX1, TX1, 3), (RX2, TX2, 3), (RX3, TX3, 3), (RX6, TX6, 3), (RX7, TX7, 4), (RX8, TX8, 4), (RX9, TX9, 6), (RX10, TX10, 14), (RX11, TX11, 16), (RX12, TX12, 44)]
end
section
/-- the text constants' letters, in the order of the tables; where the pools name them; the pairs of rods' classes of which none is the other -/
def am_tx : List (List Int32) := [[102, 114, 97, 109, 101], [115, 116, 117, 99, 107], [112, 108, 97, 105, 110], [102, 105, 118, 101], [115, 108, 111, 119], [104, 101, 105, 114], [115, 101, 116], [97, 100, 100], [115, 117, 98], [99, 108, 101, 97, 114], [99, 97, 114, 114, 121]]
def am_sr : List (String × Nat × String) := [("RodBeads$Frame", 41, "frame"), ("RodBeads$Frame", 50, "stuck"), ("RodBeads$Frame", 74, "plain"), ("RodBeads$Frame", 76, "five"), ("RodBeads$Frame", 78, "slow"), ("RodBeads$Frame", 80, "heir"), ("RodBeads$Sums", 60, "set"), ("RodBeads$Sums", 66, "add"), ("RodBeads$Sums", 68, "sub"), ("RodBeads$Sums", 70, "clear"), ("RodBeads$Sums", 72, "carry")]
def am_nc : List (String × String) := [("RodBeads$Five", "RodBeads$Plain"), ("RodBeads$Heir", "RodBeads$Plain"), ("RodBeads$Slow", "RodBeads$Plain"), ("RodBeads$Plain", "RodBeads$Five"), ("RodBeads$Five", "RodBeads$Slow"), ("RodBeads$Heir", "RodBeads$Slow"), ("RodBeads$Plain", "RodBeads$Slow"), ("RodBeads$Five", "RodBeads$Heir"), ("RodBeads$Plain", "RodBeads$Heir"), ("RodBeads$Slow", "RodBeads$Heir")]
end
section
/-! THE SMALL MACHINE: what the claim's code does, as a function on lists. References are numbers of cells in the order of making; 'retAddr k' stands for what was there before (0: the script; 1 ..: the text constants; 21 ..: their bytes; 50: a static reference). -/
abbrev am_I : Type := Nat × Instr × Nat × List Nat × Value
abbrev am_L : Type := List (Nat × Value)
abbrev am_H : Type := List va_E
abbrev am_F : Type := Nat × am_L × List Value
abbrev am_O : Type := (am_F × am_H) ⊕ (Option Value) ⊕ (Nat × List Value × List Value)
def am_at (code : List am_I) (pc : Nat) : Option am_I := code.find? (fun q => q.1 == pc)
def am_lg (l : am_L) (i : Nat) : Option Value := (l.find? (fun q => q.1 == i)).map (fun q => q.2)
def am_insr (i : Nat) (v : Value) : am_L → am_L
  | [] => [(i, v)]
  | q :: r => bif Nat.blt i q.1 then (i, v) :: q :: r else q :: am_insr i v r
def am_s1 (l : am_L) (i : Nat) (v : Value) : am_L := am_insr i v (l.filter (fun q => !(q.1 == i) && !(q.1 + 1 == i && q.2.category == 2)))
def am_s2 (l : am_L) (i : Nat) (v : Value) : am_L := am_insr i v (l.filter (fun q => !(q.1 == i) && (!(q.1 == i + 1) && !(q.1 + 1 == i && q.2.category == 2))))
def am_t (rs : List Nat) : Nat := rs.headD 0
def am_fit (ty : Nat) (v : Value) : Bool := match v with
  | .int x => ty == 0 || (ty == 2 && (x == 0 || x == 1))
  | .long _ => ty == 1
  | .null => ty == 3
  | .ref _ => ty == 3
  | _ => false
def am_pop (n : Nat) (st : List Value) : Option (List Value × List Value) := if n ≤ st.length then some ((st.take n).reverse, st.drop n) else none
def am_dis : List Nat → Nat → Option Nat
  | a :: b :: r, c => if a = c then some b else am_dis r c
  | _, _ => none
def am_zero (t : Nat) : (Nat → Int32) ⊕ (Nat → Int64) ⊕ (Nat → UInt32) ⊕ (Nat → UInt64) ⊕ (Nat → Option Nat) := match t with
  | 0 => .inl (fun _ => 0)
  | 1 => .inr (.inl (fun _ => 0))
  | 2 => .inl (fun _ => 0)
  | _ => .inr (.inr (.inr (.inr (fun _ => none))))
/-- may an object of class ci lie in an array of references of kind t? -/
def am_may (t ci : Nat) : Bool := (t == 4 && ci == 5) || (t == 3 && (ci == 0 || ci == 2 || ci == 3 || ci == 4))
def am_call (M : Nat) (as r : List Value) : Option am_O := if (r.map fun v => v.category).sum ≤ 8 then some (.inr (.inr (M, as, r))) else none
def am_ldI (pc i : Nat) (l : am_L) (st : List Value) (h : am_H) : Option am_O := match am_lg l i with
  | some (.int x) => some (.inl ((pc, l, .int x :: st), h))
  | _ => none
theorem am_ldI_inv {pc i : Nat} {l : am_L} {st : List Value} {h : am_H} {o : am_O} (hd : am_ldI pc i l st h = some o) : (∃ (x : Int32), am_lg l i = some (.int x) ∧ o = .inl ((pc, l, .int x :: st), h)) := by
  unfold am_ldI at hd
  split at hd
  · exact ⟨_, by assumption, (Option.some.inj hd).symm⟩
  · cases hd
def am_ldL (pc i : Nat) (l : am_L) (st : List Value) (h : am_H) : Option am_O := match am_lg l i with
  | some (.long x) => some (.inl ((pc, l, .long x :: st), h))
  | _ => none
theorem am_ldL_inv {pc i : Nat} {l : am_L} {st : List Value} {h : am_H} {o : am_O} (hd : am_ldL pc i l st h = some o) : (∃ (x : Int64), am_lg l i = some (.long x) ∧ o = .inl ((pc, l, .long x :: st), h)) := by
  unfold am_ldL at hd
  split at hd
  · exact ⟨_, by assumption, (Option.some.inj hd).symm⟩
  · cases hd
def am_ldA (pc i : Nat) (l : am_L) (st : List Value) (h : am_H) : Option am_O := match am_lg l i with
  | some (.ref x) => some (.inl ((pc, l, .ref x :: st), h))
  | some .null => some (.inl ((pc, l, .null :: st), h))
  | some (.retAddr x) => some (.inl ((pc, l, .retAddr x :: st), h))
  | _ => none
theorem am_ldA_inv {pc i : Nat} {l : am_L} {st : List Value} {h : am_H} {o : am_O} (hd : am_ldA pc i l st h = some o) : (∃ (x : Nat), am_lg l i = some (.ref x) ∧ o = .inl ((pc, l, .ref x :: st), h)) ∨ (am_lg l i = some .null ∧ o = .inl ((pc, l, .null :: st), h)) ∨ (∃ (x : Nat), am_lg l i = some (.retAddr x) ∧ o = .inl ((pc, l, .retAddr x :: st), h)) := by
  unfold am_ldA at hd
  split at hd
  · exact Or.inl (⟨_, by assumption, (Option.some.inj hd).symm⟩)
  · exact Or.inr (Or.inl (⟨by assumption, (Option.some.inj hd).symm⟩))
  · exact Or.inr (Or.inr (⟨_, by assumption, (Option.some.inj hd).symm⟩))
  · cases hd
def am_stI (pc i : Nat) (l : am_L) (st : List Value) (h : am_H) : Option am_O := match st with
  | .int x :: r => some (.inl ((pc, am_s1 l i (.int x), r), h))
  | _ => none
theorem am_stI_inv {pc i : Nat} {l : am_L} {st : List Value} {h : am_H} {o : am_O} (hd : am_stI pc i l st h = some o) : (∃ (x : Int32), ∃ (r : List Value), st = .int x :: r ∧ o = .inl ((pc, am_s1 l i (.int x), r), h)) := by
  unfold am_stI at hd
  split at hd
  · exact ⟨_, _, rfl, (Option.some.inj hd).symm⟩
  · cases hd
def am_stL (pc i : Nat) (l : am_L) (st : List Value) (h : am_H) : Option am_O := match st with
  | .long x :: r => some (.inl ((pc, am_s2 l i (.long x), r), h))
  | _ => none
theorem am_stL_inv {pc i : Nat} {l : am_L} {st : List Value} {h : am_H} {o : am_O} (hd : am_stL pc i l st h = some o) : (∃ (x : Int64), ∃ (r : List Value), st = .long x :: r ∧ o = .inl ((pc, am_s2 l i (.long x), r), h)) := by
  unfold am_stL at hd
  split at hd
  · exact ⟨_, _, rfl, (Option.some.inj hd).symm⟩
  · cases hd
def am_stA (pc i : Nat) (l : am_L) (st : List Value) (h : am_H) : Option am_O := match st with
  | .ref x :: r => some (.inl ((pc, am_s1 l i (.ref x), r), h))
  | .null :: r => some (.inl ((pc, am_s1 l i .null, r), h))
  | .retAddr x :: r => some (.inl ((pc, am_s1 l i (.retAddr x), r), h))
  | _ => none
theorem am_stA_inv {pc i : Nat} {l : am_L} {st : List Value} {h : am_H} {o : am_O} (hd : am_stA pc i l st h = some o) : (∃ (x : Nat), ∃ (r : List Value), st = .ref x :: r ∧ o = .inl ((pc, am_s1 l i (.ref x), r), h)) ∨ (∃ (r : List Value), st = .null :: r ∧ o = .inl ((pc, am_s1 l i .null, r), h)) ∨ (∃ (x : Nat), ∃ (r : List Value), st = .retAddr x :: r ∧ o = .inl ((pc, am_s1 l i (.retAddr x), r), h)) := by
  unfold am_stA at hd
  split at hd
  · exact Or.inl (⟨_, _, rfl, (Option.some.inj hd).symm⟩)
  · exact Or.inr (Or.inl (⟨_, rfl, (Option.some.inj hd).symm⟩))
  · exact Or.inr (Or.inr (⟨_, _, rfl, (Option.some.inj hd).symm⟩))
  · cases hd
def am_inc (pc i : Nat) (n : Int) (l : am_L) (st : List Value) (h : am_H) : Option am_O := match am_lg l i with
  | some (.int x) => some (.inl ((pc + 3, am_s1 l i (.int (x + Int32.ofInt n)), st), h))
  | _ => none
theorem am_inc_inv {pc i : Nat} {n : Int} {l : am_L} {st : List Value} {h : am_H} {o : am_O} (hd : am_inc pc i n l st h = some o) : (∃ (x : Int32), am_lg l i = some (.int x) ∧ o = .inl ((pc + 3, am_s1 l i (.int (x + Int32.ofInt n)), st), h)) := by
  unfold am_inc at hd
  split at hd
  · exact ⟨_, by assumption, (Option.some.inj hd).symm⟩
  · cases hd
def am_b (f : Int32 → Int32 → Int32) (pc : Nat) (l : am_L) (st : List Value) (h : am_H) : Option am_O := match st with
  | .int y :: .int x :: r => some (.inl ((pc + 1, l, .int (f x y) :: r), h))
  | _ => none
theorem am_b_inv {f : Int32 → Int32 → Int32} {pc : Nat} {l : am_L} {st : List Value} {h : am_H} {o : am_O} (hd : am_b f pc l st h = some o) : (∃ (y : Int32), ∃ (x : Int32), ∃ (r : List Value), st = .int y :: .int x :: r ∧ o = .inl ((pc + 1, l, .int (f x y) :: r), h)) := by
  unfold am_b at hd
  split at hd
  · exact ⟨_, _, _, rfl, (Option.some.inj hd).symm⟩
  · cases hd
def am_bL (f : Int64 → Int64 → Int64) (pc : Nat) (l : am_L) (st : List Value) (h : am_H) : Option am_O := match st with
  | .long y :: .long x :: r => some (.inl ((pc + 1, l, .long (f x y) :: r), h))
  | _ => none
theorem am_bL_inv {f : Int64 → Int64 → Int64} {pc : Nat} {l : am_L} {st : List Value} {h : am_H} {o : am_O} (hd : am_bL f pc l st h = some o) : (∃ (y : Int64), ∃ (x : Int64), ∃ (r : List Value), st = .long y :: .long x :: r ∧ o = .inl ((pc + 1, l, .long (f x y) :: r), h)) := by
  unfold am_bL at hd
  split at hd
  · exact ⟨_, _, _, rfl, (Option.some.inj hd).symm⟩
  · cases hd
def am_dv (f : Int32 → Int32 → Int32) (pc : Nat) (l : am_L) (st : List Value) (h : am_H) : Option am_O := match st with
  | .int y :: .int x :: r => if y = 0 then none else some (.inl ((pc + 1, l, .int (f x y) :: r), h))
  | _ => none
theorem am_dv_inv {f : Int32 → Int32 → Int32} {pc : Nat} {l : am_L} {st : List Value} {h : am_H} {o : am_O} (hd : am_dv f pc l st h = some o) : (∃ (y : Int32), ∃ (x : Int32), ∃ (r : List Value), st = .int y :: .int x :: r ∧ ¬ (y = 0) ∧ o = .inl ((pc + 1, l, .int (f x y) :: r), h)) := by
  unfold am_dv at hd
  split at hd
  · split at hd
    · cases hd
    · rename_i hc
      exact ⟨_, _, _, rfl, hc, (Option.some.inj hd).symm⟩
  · cases hd
def am_dvL (f : Int64 → Int64 → Int64) (pc : Nat) (l : am_L) (st : List Value) (h : am_H) : Option am_O := match st with
  | .long y :: .long x :: r => if y = 0 then none else some (.inl ((pc + 1, l, .long (f x y) :: r), h))
  | _ => none
theorem am_dvL_inv {f : Int64 → Int64 → Int64} {pc : Nat} {l : am_L} {st : List Value} {h : am_H} {o : am_O} (hd : am_dvL f pc l st h = some o) : (∃ (y : Int64), ∃ (x : Int64), ∃ (r : List Value), st = .long y :: .long x :: r ∧ ¬ (y = 0) ∧ o = .inl ((pc + 1, l, .long (f x y) :: r), h)) := by
  unfold am_dvL at hd
  split at hd
  · split at hd
    · cases hd
    · rename_i hc
      exact ⟨_, _, _, rfl, hc, (Option.some.inj hd).symm⟩
  · cases hd
def am_u (f : Int32 → Value) (pc : Nat) (l : am_L) (st : List Value) (h : am_H) : Option am_O := match st with
  | .int x :: r => some (.inl ((pc + 1, l, f x :: r), h))
  | _ => none
theorem am_u_inv {f : Int32 → Value} {pc : Nat} {l : am_L} {st : List Value} {h : am_H} {o : am_O} (hd : am_u f pc l st h = some o) : (∃ (x : Int32), ∃ (r : List Value), st = .int x :: r ∧ o = .inl ((pc + 1, l, f x :: r), h)) := by
  unfold am_u at hd
  split at hd
  · exact ⟨_, _, rfl, (Option.some.inj hd).symm⟩
  · cases hd
def am_uL (f : Int64 → Value) (pc : Nat) (l : am_L) (st : List Value) (h : am_H) : Option am_O := match st with
  | .long x :: r => some (.inl ((pc + 1, l, f x :: r), h))
  | _ => none
theorem am_uL_inv {f : Int64 → Value} {pc : Nat} {l : am_L} {st : List Value} {h : am_H} {o : am_O} (hd : am_uL f pc l st h = some o) : (∃ (x : Int64), ∃ (r : List Value), st = .long x :: r ∧ o = .inl ((pc + 1, l, f x :: r), h)) := by
  unfold am_uL at hd
  split at hd
  · exact ⟨_, _, rfl, (Option.some.inj hd).symm⟩
  · cases hd
def am_cmp (pc : Nat) (l : am_L) (st : List Value) (h : am_H) : Option am_O := match st with
  | .long y :: .long x :: r => some (.inl ((pc + 1, l, .int (lg_cmp x y) :: r), h))
  | _ => none
theorem am_cmp_inv {pc : Nat} {l : am_L} {st : List Value} {h : am_H} {o : am_O} (hd : am_cmp pc l st h = some o) : (∃ (y : Int64), ∃ (x : Int64), ∃ (r : List Value), st = .long y :: .long x :: r ∧ o = .inl ((pc + 1, l, .int (lg_cmp x y) :: r), h)) := by
  unfold am_cmp at hd
  split at hd
  · exact ⟨_, _, _, rfl, (Option.some.inj hd).symm⟩
  · cases hd
def am_dup (pc : Nat) (l : am_L) (st : List Value) (h : am_H) : Option am_O := match st with
  | v :: r => if ¬ v.category = 1 then none else some (.inl ((pc + 1, l, v :: v :: r), h))
  | _ => none
theorem am_dup_inv {pc : Nat} {l : am_L} {st : List Value} {h : am_H} {o : am_O} (hd : am_dup pc l st h = some o) : (∃ (v : Value), ∃ (r : List Value), st = v :: r ∧ ¬ (¬ v.category = 1) ∧ o = .inl ((pc + 1, l, v :: v :: r), h)) := by
  unfold am_dup at hd
  split at hd
  · split at hd
    · cases hd
    · rename_i hc
      exact ⟨_, _, rfl, hc, (Option.some.inj hd).symm⟩
  · cases hd
def am_dup2 (pc : Nat) (l : am_L) (st : List Value) (h : am_H) : Option am_O := match st with
  | v :: w :: r => if ¬ (v.category = 1 ∧ w.category = 1) then none else some (.inl ((pc + 1, l, v :: w :: v :: w :: r), h))
  | _ => none
theorem am_dup2_inv {pc : Nat} {l : am_L} {st : List Value} {h : am_H} {o : am_O} (hd : am_dup2 pc l st h = some o) : (∃ (v : Value), ∃ (w : Value), ∃ (r : List Value), st = v :: w :: r ∧ ¬ (¬ (v.category = 1 ∧ w.category = 1)) ∧ o = .inl ((pc + 1, l, v :: w :: v :: w :: r), h)) := by
  unfold am_dup2 at hd
  split at hd
  · split at hd
    · cases hd
    · rename_i hc
      exact ⟨_, _, _, rfl, hc, (Option.some.inj hd).symm⟩
  · cases hd
def am_drop (pc : Nat) (l : am_L) (st : List Value) (h : am_H) : Option am_O := match st with
  | v :: r => if ¬ v.category = 1 then none else some (.inl ((pc + 1, l, r), h))
  | _ => none
theorem am_drop_inv {pc : Nat} {l : am_L} {st : List Value} {h : am_H} {o : am_O} (hd : am_drop pc l st h = some o) : (∃ (v : Value), ∃ (r : List Value), st = v :: r ∧ ¬ (¬ v.category = 1) ∧ o = .inl ((pc + 1, l, r), h)) := by
  unfold am_drop at hd
  split at hd
  · split at hd
    · cases hd
    · rename_i hc
      exact ⟨_, _, rfl, hc, (Option.some.inj hd).symm⟩
  · cases hd
def am_null (a b : Nat) (l : am_L) (st : List Value) (h : am_H) : Option am_O := match st with
  | .null :: r => some (.inl ((a, l, r), h))
  | .ref x :: r => some (.inl ((b, l, r), h))
  | _ => none
theorem am_null_inv {a b : Nat} {l : am_L} {st : List Value} {h : am_H} {o : am_O} (hd : am_null a b l st h = some o) : (∃ (r : List Value), st = .null :: r ∧ o = .inl ((a, l, r), h)) ∨ (∃ (x : Nat), ∃ (r : List Value), st = .ref x :: r ∧ o = .inl ((b, l, r), h)) := by
  unfold am_null at hd
  split at hd
  · exact Or.inl (⟨_, rfl, (Option.some.inj hd).symm⟩)
  · exact Or.inr (⟨_, _, rfl, (Option.some.inj hd).symm⟩)
  · cases hd
/-- a jump on one number, on two -/
def am_if (P : Int32 → Bool) (pc t : Nat) (l : am_L) (st : List Value) (h : am_H) : Option am_O := match st with
  | .int x :: r => some (.inl ((bif P x then t else pc + 3, l, r), h))
  | _ => none
theorem am_if_inv {P : Int32 → Bool} {pc t : Nat} {l : am_L} {st : List Value} {h : am_H} {o : am_O} (hd : am_if P pc t l st h = some o) : ∃ (x : Int32) (r : List Value), st = .int x :: r ∧ o = .inl ((bif P x then t else pc + 3, l, r), h) := by
  unfold am_if at hd
  split at hd
  · exact ⟨_, _, rfl, (Option.some.inj hd).symm⟩
  · cases hd
def am_ic (P : Int32 → Int32 → Bool) (pc t : Nat) (l : am_L) (st : List Value) (h : am_H) : Option am_O := match st with
  | .int y :: .int x :: r => some (.inl ((bif P x y then t else pc + 3, l, r), h))
  | _ => none
theorem am_ic_inv {P : Int32 → Int32 → Bool} {pc t : Nat} {l : am_L} {st : List Value} {h : am_H} {o : am_O} (hd : am_ic P pc t l st h = some o) : ∃ (y x : Int32) (r : List Value), st = .int y :: .int x :: r ∧ o = .inl ((bif P x y then t else pc + 3, l, r), h) := by
  unfold am_ic at hd
  split at hd
  · exact ⟨_, _, _, rfl, (Option.some.inj hd).symm⟩
  · cases hd
def am_tsw (lo hi : Int) (rs : List Nat) (l : am_L) (st : List Value) (h : am_H) : Option am_O := match st with
  | .int x :: r => if x.toInt < lo ∨ hi < x.toInt then some (.inl ((am_t rs, l, r), h)) else (match rs[(x.toInt - lo).toNat + 1]? with
    | some t => some (.inl ((t, l, r), h))
    | none => none)
  | _ => none
theorem am_tsw_inv {lo hi : Int} {rs : List Nat} {l : am_L} {st : List Value} {h : am_H} {o : am_O} (hd : am_tsw lo hi rs l st h = some o) : ∃ (x : Int32) (r : List Value), st = .int x :: r ∧ (((x.toInt < lo ∨ hi < x.toInt) ∧ o = .inl ((am_t rs, l, r), h)) ∨ (¬ (x.toInt < lo ∨ hi < x.toInt) ∧ ∃ t, rs[(x.toInt - lo).toNat + 1]? = some t ∧ o = .inl ((t, l, r), h))) := by
  unfold am_tsw at hd
  split at hd
  · rename_i x r
    split at hd
    · rename_i hc
      exact ⟨_, _, rfl, Or.inl ⟨hc, (Option.some.inj hd).symm⟩⟩
    · rename_i hc
      split at hd
      · rename_i t ht
        exact ⟨_, _, rfl, Or.inr ⟨hc, t, ht, (Option.some.inj hd).symm⟩⟩
      · cases hd
  · cases hd
def am_gf (pc : Nat) (rs : List Nat) (l : am_L) (st : List Value) (h : am_H) : Option am_O := match st with
  | .ref a :: r => (match h[a]? with
    | some (.inr (ci, fs)) => if (rs.drop 1).contains ci = true then (match fs[am_t rs]? with
      | some v => some (.inl ((pc + 3, l, v :: r), h))
      | none => none) else none
    | _ => none)
  | .retAddr k :: r => if 1 ≤ k ∧ k ≤ am_tx.length then (if rs = [100] then some (.inl ((pc + 3, l, .retAddr (k + 20) :: r), h)) else if rs = [101] then some (.inl ((pc + 3, l, .int 0 :: r), h)) else none) else none
  | _ => none
theorem am_gf_inv {pc : Nat} {rs : List Nat} {l : am_L} {st : List Value} {h : am_H} {o : am_O} (hd : am_gf pc rs l st h = some o) : (∃ (a : Nat) (r : List Value) (ci : Nat) (fs : List Value) (v : Value), st = .ref a :: r ∧ h[a]? = some (.inr (ci, fs)) ∧ ci ∈ rs.drop 1 ∧ fs[am_t rs]? = some v ∧ o = .inl ((pc + 3, l, v :: r), h)) ∨ (∃ (k : Nat) (r : List Value), st = .retAddr k :: r ∧ (1 ≤ k ∧ k ≤ am_tx.length) ∧ ((rs = [100] ∧ o = .inl ((pc + 3, l, .retAddr (k + 20) :: r), h)) ∨ (rs = [101] ∧ o = .inl ((pc + 3, l, .int 0 :: r), h)))) := by
  unfold am_gf at hd
  split at hd
  · split at hd
    · rename_i hh
      split at hd
      · rename_i hc
        split at hd
        · rename_i hv
          exact Or.inl ⟨_, _, _, _, _, rfl, hh, List.contains_iff_mem.mp hc, hv, (Option.some.inj hd).symm⟩
        · cases hd
      · cases hd
    · cases hd
  · split at hd
    · rename_i hk
      split at hd
      · rename_i hr
        exact Or.inr ⟨_, _, rfl, hk, Or.inl ⟨hr, (Option.some.inj hd).symm⟩⟩
      · split at hd
        · rename_i hr
          exact Or.inr ⟨_, _, rfl, hk, Or.inr ⟨hr, (Option.some.inj hd).symm⟩⟩
        · cases hd
    · cases hd
  · cases hd
def am_pf (pc : Nat) (rs : List Nat) (l : am_L) (st : List Value) (h : am_H) : Option am_O := match st with
  | v :: .ref a :: r => (match h[a]? with
    | some (.inr (ci, fs)) => if ((rs.drop 2).contains ci && (am_fit (am_t (rs.drop 1)) v && decide (am_t rs < fs.length))) = true then some (.inl ((pc + 3, l, r), h.set a (.inr (ci, fs.set (am_t rs) v)))) else none
    | _ => none)
  | _ => none
theorem am_pf_inv {pc : Nat} {rs : List Nat} {l : am_L} {st : List Value} {h : am_H} {o : am_O} (hd : am_pf pc rs l st h = some o) : ∃ (v : Value) (a : Nat) (r : List Value) (ci : Nat) (fs : List Value), st = v :: .ref a :: r ∧ h[a]? = some (.inr (ci, fs)) ∧ ci ∈ rs.drop 2 ∧ am_fit (am_t (rs.drop 1)) v = true ∧ am_t rs < fs.length ∧ o = .inl ((pc + 3, l, r), h.set a (.inr (ci, fs.set (am_t rs) v))) := by
  unfold am_pf at hd
  split at hd
  · split at hd
    · rename_i hh
      split at hd
      · rename_i hc
        simp only [Bool.and_eq_true, decide_eq_true_eq] at hc
        exact ⟨_, _, _, _, _, rfl, hh, List.contains_iff_mem.mp hc.1, hc.2.1, hc.2.2, (Option.some.inj hd).symm⟩
      · cases hd
    · cases hd
  · cases hd
def am_lal (pc : Nat) (l : am_L) (st : List Value) (h : am_H) : Option am_O := match st with
  | .int i :: .ref a :: r => (match h[a]? with
    | some (.inl (1, n, .inr (.inl f))) => if i < 0 ∨ n ≤ i.toNatClampNeg then none else some (.inl ((pc + 1, l, .long (f i.toNatClampNeg) :: r), h))
    | _ => none)
  | _ => none
theorem am_lal_inv {pc : Nat} {l : am_L} {st : List Value} {h : am_H} {o : am_O} (hd : am_lal pc l st h = some o) : ∃ (i : Int32) (a : Nat) (r : List Value) (n : Nat) (f : Nat → Int64), st = .int i :: .ref a :: r ∧ h[a]? = some (.inl (1, n, .inr (.inl f))) ∧ vp_in i n ∧ o = .inl ((pc + 1, l, .long (f i.toNatClampNeg) :: r), h) := by
  unfold am_lal at hd
  split at hd
  · split at hd
    · rename_i hh
      split at hd
      · cases hd
      · rename_i hc
        exact ⟨_, _, _, _, _, rfl, hh, hc, (Option.some.inj hd).symm⟩
    · cases hd
  · cases hd
def am_ial (sc : Nat × (Nat → Int32)) (pc : Nat) (l : am_L) (st : List Value) (h : am_H) : Option am_O := match st with
  | .int i :: .ref a :: r => (match h[a]? with
    | some (.inl (0, n, .inl f)) => if i < 0 ∨ n ≤ i.toNatClampNeg then none else some (.inl ((pc + 1, l, .int (f i.toNatClampNeg) :: r), h))
    | _ => none)
  | .int i :: .retAddr k :: r => if k = 0 then (if i < 0 ∨ sc.1 ≤ i.toNatClampNeg then none else some (.inl ((pc + 1, l, .int (sc.2 i.toNatClampNeg) :: r), h))) else none
  | _ => none
theorem am_ial_inv {sc : Nat × (Nat → Int32)} {pc : Nat} {l : am_L} {st : List Value} {h : am_H} {o : am_O} (hd : am_ial sc pc l st h = some o) : (∃ (i : Int32) (a : Nat) (r : List Value) (n : Nat) (f : Nat → Int32), st = .int i :: .ref a :: r ∧ h[a]? = some (.inl (0, n, .inl f)) ∧ vp_in i n ∧ o = .inl ((pc + 1, l, .int (f i.toNatClampNeg) :: r), h)) ∨ (∃ (i : Int32) (r : List Value), st = .int i :: .retAddr 0 :: r ∧ vp_in i sc.1 ∧ o = .inl ((pc + 1, l, .int (sc.2 i.toNatClampNeg) :: r), h)) := by
  unfold am_ial at hd
  split at hd
  · split at hd
    · rename_i hh
      split at hd
      · cases hd
      · rename_i hc
        exact Or.inl ⟨_, _, _, _, _, rfl, hh, hc, (Option.some.inj hd).symm⟩
    · cases hd
  · split at hd
    · rename_i hk
      subst hk
      split at hd
      · cases hd
      · rename_i hc
        exact Or.inr ⟨_, _, rfl, hc, (Option.some.inj hd).symm⟩
    · cases hd
  · cases hd
def am_bal (pc : Nat) (l : am_L) (st : List Value) (h : am_H) : Option am_O := match st with
  | .int i :: .ref a :: r => (match h[a]? with
    | some (.inl (2, n, .inl f)) => if i < 0 ∨ n ≤ i.toNatClampNeg then none else some (.inl ((pc + 1, l, .int (f i.toNatClampNeg) :: r), h))
    | _ => none)
  | .int i :: .retAddr k :: r => if 21 ≤ k ∧ k ≤ am_tx.length + 20 then (if i < 0 ∨ (am_tx.getD (k - 21) []).length ≤ i.toNatClampNeg then none else some (.inl ((pc + 1, l, .int ((am_tx.getD (k - 21) []).getD i.toNatClampNeg 0) :: r), h))) else none
  | _ => none
theorem am_bal_inv {pc : Nat} {l : am_L} {st : List Value} {h : am_H} {o : am_O} (hd : am_bal pc l st h = some o) : (∃ (i : Int32) (a : Nat) (r : List Value) (n : Nat) (f : Nat → Int32), st = .int i :: .ref a :: r ∧ h[a]? = some (.inl (2, n, .inl f)) ∧ vp_in i n ∧ o = .inl ((pc + 1, l, .int (f i.toNatClampNeg) :: r), h)) ∨ (∃ (i : Int32) (k : Nat) (r : List Value), st = .int i :: .retAddr k :: r ∧ (21 ≤ k ∧ k ≤ am_tx.length + 20) ∧ vp_in i (am_tx.getD (k - 21) []).length ∧ o = .inl ((pc + 1, l, .int ((am_tx.getD (k - 21) []).getD i.toNatClampNeg 0) :: r), h)) := by
  unfold am_bal at hd
  split at hd
  · split at hd
    · rename_i hh
      split at hd
      · cases hd
      · rename_i hc
        exact Or.inl ⟨_, _, _, _, _, rfl, hh, hc, (Option.some.inj hd).symm⟩
    · cases hd
  · split at hd
    · rename_i hk
      split at hd
      · cases hd
      · rename_i hc
        exact Or.inr ⟨_, _, _, rfl, hk, hc, (Option.some.inj hd).symm⟩
    · cases hd
  · cases hd
def am_aal (pc : Nat) (l : am_L) (st : List Value) (h : am_H) : Option am_O := match st with
  | .int i :: .ref a :: r => (match h[a]? with
    | some (.inl (t, n, .inr (.inr (.inr (.inr f))))) => if (i < 0 ∨ n ≤ i.toNatClampNeg) ∨ ¬ (t = 3 ∨ t = 4) then none else some (.inl ((pc + 1, l, va_rf (f i.toNatClampNeg) :: r), h))
    | _ => none)
  | _ => none
theorem am_aal_inv {pc : Nat} {l : am_L} {st : List Value} {h : am_H} {o : am_O} (hd : am_aal pc l st h = some o) : ∃ (i : Int32) (a : Nat) (r : List Value) (t n : Nat) (f : Nat → Option Nat), st = .int i :: .ref a :: r ∧ h[a]? = some (.inl (t, n, .inr (.inr (.inr (.inr f))))) ∧ vp_in i n ∧ (t = 3 ∨ t = 4) ∧ o = .inl ((pc + 1, l, va_rf (f i.toNatClampNeg) :: r), h) := by
  unfold am_aal at hd
  split at hd
  · split at hd
    · rename_i hh
      split at hd
      · cases hd
      · rename_i hc
        exact ⟨_, _, _, _, _, _, rfl, hh, fun z => hc (Or.inl z), Classical.not_not.mp (fun z => hc (Or.inr z)), (Option.some.inj hd).symm⟩
    · cases hd
  · cases hd
def am_ias (pc : Nat) (l : am_L) (st : List Value) (h : am_H) : Option am_O := match st with
  | .int x :: .int i :: .ref a :: r => (match h[a]? with
    | some (.inl (0, n, .inl f)) => if i < 0 ∨ n ≤ i.toNatClampNeg then none else some (.inl ((pc + 1, l, r), h.set a (.inl (0, n, .inl (upd f i.toNatClampNeg x)))))
    | _ => none)
  | _ => none
theorem am_ias_inv {pc : Nat} {l : am_L} {st : List Value} {h : am_H} {o : am_O} (hd : am_ias pc l st h = some o) : ∃ (x i : Int32) (a : Nat) (r : List Value) (n : Nat) (f : Nat → Int32), st = .int x :: .int i :: .ref a :: r ∧ h[a]? = some (.inl (0, n, .inl f)) ∧ vp_in i n ∧ o = .inl ((pc + 1, l, r), h.set a (.inl (0, n, .inl (upd f i.toNatClampNeg x)))) := by
  unfold am_ias at hd
  split at hd
  · split at hd
    · rename_i hh
      split at hd
      · cases hd
      · rename_i hc
        exact ⟨_, _, _, _, _, _, rfl, hh, hc, (Option.some.inj hd).symm⟩
    · cases hd
  · cases hd
def am_las (pc : Nat) (l : am_L) (st : List Value) (h : am_H) : Option am_O := match st with
  | .long x :: .int i :: .ref a :: r => (match h[a]? with
    | some (.inl (1, n, .inr (.inl f))) => if i < 0 ∨ n ≤ i.toNatClampNeg then none else some (.inl ((pc + 1, l, r), h.set a (.inl (1, n, .inr (.inl (vp_updL f i.toNatClampNeg x))))))
    | _ => none)
  | _ => none
theorem am_las_inv {pc : Nat} {l : am_L} {st : List Value} {h : am_H} {o : am_O} (hd : am_las pc l st h = some o) : ∃ (x : Int64) (i : Int32) (a : Nat) (r : List Value) (n : Nat) (f : Nat → Int64), st = .long x :: .int i :: .ref a :: r ∧ h[a]? = some (.inl (1, n, .inr (.inl f))) ∧ vp_in i n ∧ o = .inl ((pc + 1, l, r), h.set a (.inl (1, n, .inr (.inl (vp_updL f i.toNatClampNeg x))))) := by
  unfold am_las at hd
  split at hd
  · split at hd
    · rename_i hh
      split at hd
      · cases hd
      · rename_i hc
        exact ⟨_, _, _, _, _, _, rfl, hh, hc, (Option.some.inj hd).symm⟩
    · cases hd
  · cases hd
def am_bas (pc : Nat) (l : am_L) (st : List Value) (h : am_H) : Option am_O := match st with
  | .int x :: .int i :: .ref a :: r => (match h[a]? with
    | some (.inl (2, n, .inl f)) => if (i < 0 ∨ n ≤ i.toNatClampNeg) ∨ ¬ (x = 0 ∨ x = 1) then none else some (.inl ((pc + 1, l, r), h.set a (.inl (2, n, .inl (upd f i.toNatClampNeg x)))))
    | _ => none)
  | _ => none
theorem am_bas_inv {pc : Nat} {l : am_L} {st : List Value} {h : am_H} {o : am_O} (hd : am_bas pc l st h = some o) : ∃ (x i : Int32) (a : Nat) (r : List Value) (n : Nat) (f : Nat → Int32), st = .int x :: .int i :: .ref a :: r ∧ h[a]? = some (.inl (2, n, .inl f)) ∧ vp_in i n ∧ (x = 0 ∨ x = 1) ∧ o = .inl ((pc + 1, l, r), h.set a (.inl (2, n, .inl (upd f i.toNatClampNeg x)))) := by
  unfold am_bas at hd
  split at hd
  · split at hd
    · rename_i hh
      split at hd
      · cases hd
      · rename_i hc
        exact ⟨_, _, _, _, _, _, rfl, hh, fun z => hc (Or.inl z), Classical.not_not.mp (fun z => hc (Or.inr z)), (Option.some.inj hd).symm⟩
    · cases hd
  · cases hd
def am_aas (pc : Nat) (l : am_L) (st : List Value) (h : am_H) : Option am_O := match st with
  | .null :: .int i :: .ref a :: r => (match h[a]? with
    | some (.inl (t, n, .inr (.inr (.inr (.inr f))))) => if (i < 0 ∨ n ≤ i.toNatClampNeg) ∨ ¬ (t = 3 ∨ t = 4) then none else some (.inl ((pc + 1, l, r), h.set a (.inl (t, n, .inr (.inr (.inr (.inr (va_up f i.toNatClampNeg none))))))))
    | _ => none)
  | .ref v :: .int i :: .ref a :: r => (match h[a]?, h[v]? with
    | some (.inl (t, n, .inr (.inr (.inr (.inr f))))), some (.inr (ci, fs)) => if (i < 0 ∨ n ≤ i.toNatClampNeg) ∨ ¬ (am_may t ci = true) then none else some (.inl ((pc + 1, l, r), h.set a (.inl (t, n, .inr (.inr (.inr (.inr (va_up f i.toNatClampNeg (some v)))))))))
    | _, _ => none)
  | _ => none
theorem am_aas_inv {pc : Nat} {l : am_L} {st : List Value} {h : am_H} {o : am_O} (hd : am_aas pc l st h = some o) : (∃ (i : Int32) (a : Nat) (r : List Value) (t n : Nat) (f : Nat → Option Nat), st = .null :: .int i :: .ref a :: r ∧ h[a]? = some (.inl (t, n, .inr (.inr (.inr (.inr f))))) ∧ vp_in i n ∧ (t = 3 ∨ t = 4) ∧ o = .inl ((pc + 1, l, r), h.set a (.inl (t, n, .inr (.inr (.inr (.inr (va_up f i.toNatClampNeg none)))))))) ∨ (∃ (v : Nat) (i : Int32) (a : Nat) (r : List Value) (t n : Nat) (f : Nat → Option Nat) (ci : Nat) (fs : List Value), st = .ref v :: .int i :: .ref a :: r ∧ h[a]? = some (.inl (t, n, .inr (.inr (.inr (.inr f))))) ∧ h[v]? = some (.inr (ci, fs)) ∧ vp_in i n ∧ am_may t ci = true ∧ o = .inl ((pc + 1, l, r), h.set a (.inl (t, n, .inr (.inr (.inr (.inr (va_up f i.toNatClampNeg (some v))))))))) := by
  unfold am_aas at hd
  split at hd
  · split at hd
    · rename_i hh
      split at hd
      · cases hd
      · rename_i hc
        exact Or.inl ⟨_, _, _, _, _, _, rfl, hh, fun z => hc (Or.inl z), Classical.not_not.mp (fun z => hc (Or.inr z)), (Option.some.inj hd).symm⟩
    · cases hd
  · split at hd
    · rename_i hh hv
      split at hd
      · cases hd
      · rename_i hc
        exact Or.inr ⟨_, _, _, _, _, _, _, _, _, rfl, hh, hv, fun z => hc (Or.inl z), Classical.not_not.mp (fun z => hc (Or.inr z)), (Option.some.inj hd).symm⟩
    · cases hd
  · cases hd
def am_len (sc : Nat × (Nat → Int32)) (pc : Nat) (l : am_L) (st : List Value) (h : am_H) : Option am_O := match st with
  | .ref a :: r => (match h[a]? with
    | some (.inl (t, x)) => if t < 5 then some (.inl ((pc + 1, l, .int (Int32.ofNat x.1) :: r), h)) else none
    | _ => none)
  | .retAddr k :: r => if k = 0 then some (.inl ((pc + 1, l, .int (Int32.ofNat sc.1) :: r), h)) else if 21 ≤ k ∧ k ≤ am_tx.length + 20 then some (.inl ((pc + 1, l, .int (Int32.ofNat (am_tx.getD (k - 21) []).length) :: r), h)) else none
  | _ => none
theorem am_len_inv {sc : Nat × (Nat → Int32)} {pc : Nat} {l : am_L} {st : List Value} {h : am_H} {o : am_O} (hd : am_len sc pc l st h = some o) : (∃ (a : Nat) (r : List Value) (t : Nat) (x : vp_A), st = .ref a :: r ∧ h[a]? = some (.inl (t, x)) ∧ t < 5 ∧ o = .inl ((pc + 1, l, .int (Int32.ofNat x.1) :: r), h)) ∨ (∃ (r : List Value), st = .retAddr 0 :: r ∧ o = .inl ((pc + 1, l, .int (Int32.ofNat sc.1) :: r), h)) ∨ (∃ (k : Nat) (r : List Value), st = .retAddr k :: r ∧ (21 ≤ k ∧ k ≤ am_tx.length + 20) ∧ o = .inl ((pc + 1, l, .int (Int32.ofNat (am_tx.getD (k - 21) []).length) :: r), h)) := by
  unfold am_len at hd
  split at hd
  · split at hd
    · rename_i hh
      split at hd
      · rename_i hc
        exact Or.inl ⟨_, _, _, _, rfl, hh, hc, (Option.some.inj hd).symm⟩
      · cases hd
    · cases hd
  · split at hd
    · rename_i hk
      subst hk
      exact Or.inr (Or.inl ⟨_, rfl, (Option.some.inj hd).symm⟩)
    · split at hd
      · rename_i hk
        exact Or.inr (Or.inr ⟨_, _, rfl, hk, (Option.some.inj hd).symm⟩)
      · cases hd
  · cases hd
def am_tag (t : ArrayType) : Nat := match t with
  | .int => 0
  | .long => 1
  | .boolean => 2
  | _ => 9
def am_nar (t : ArrayType) (pc : Nat) (l : am_L) (st : List Value) (h : am_H) : Option am_O := match st with
  | .int n :: r => if (n < 0 ∨ 100000 ≤ n.toNatClampNeg) ∨ am_tag t = 9 then none else some (.inl ((pc + 2, l, .ref h.length :: r), h ++ [.inl (am_tag t, n.toNatClampNeg, am_zero (am_tag t))]))
  | _ => none
theorem am_nar_inv {t : ArrayType} {pc : Nat} {l : am_L} {st : List Value} {h : am_H} {o : am_O} (hd : am_nar t pc l st h = some o) : ∃ (n : Int32) (r : List Value), st = .int n :: r ∧ ¬ n < 0 ∧ n.toNatClampNeg < 100000 ∧ am_tag t ≠ 9 ∧ o = .inl ((pc + 2, l, .ref h.length :: r), h ++ [.inl (am_tag t, n.toNatClampNeg, am_zero (am_tag t))]) := by
  unfold am_nar at hd
  split at hd
  · split at hd
    · cases hd
    · rename_i hc
      exact ⟨_, _, rfl, fun z => hc (Or.inl (Or.inl z)), Nat.not_le.mp (fun z => hc (Or.inl (Or.inr z))), fun z => hc (Or.inr z), (Option.some.inj hd).symm⟩
  · cases hd
def am_anw (t pc : Nat) (l : am_L) (st : List Value) (h : am_H) : Option am_O := match st with
  | .int n :: r => if (n < 0 ∨ 100000 ≤ n.toNatClampNeg) ∨ ¬ (t = 3 ∨ t = 4) then none else some (.inl ((pc + 3, l, .ref h.length :: r), h ++ [.inl (t, n.toNatClampNeg, am_zero 3)]))
  | _ => none
theorem am_anw_inv {t pc : Nat} {l : am_L} {st : List Value} {h : am_H} {o : am_O} (hd : am_anw t pc l st h = some o) : ∃ (n : Int32) (r : List Value), st = .int n :: r ∧ ¬ n < 0 ∧ n.toNatClampNeg < 100000 ∧ (t = 3 ∨ t = 4) ∧ o = .inl ((pc + 3, l, .ref h.length :: r), h ++ [.inl (t, n.toNatClampNeg, am_zero 3)]) := by
  unfold am_anw at hd
  split at hd
  · split at hd
    · cases hd
    · rename_i hc
      exact ⟨_, _, rfl, fun z => hc (Or.inl (Or.inl z)), Nat.not_le.mp (fun z => hc (Or.inl (Or.inr z))), Classical.not_not.mp (fun z => hc (Or.inr z)), (Option.some.inj hd).symm⟩
  · cases hd
/-- instanceof, of rods alone: rs are the classes that are it -/
def am_ins (pc : Nat) (rs : List Nat) (l : am_L) (st : List Value) (h : am_H) : Option am_O := match st with
  | .ref a :: r => (match h[a]? with
    | some (.inr (ci, _)) => if ci = 0 ∨ ci = 2 ∨ ci = 3 ∨ ci = 4 then some (.inl ((pc + 3, l, .int (bif rs.contains ci then 1 else 0) :: r), h)) else none
    | _ => none)
  | _ => none
theorem am_ins_inv {pc : Nat} {rs : List Nat} {l : am_L} {st : List Value} {h : am_H} {o : am_O} (hd : am_ins pc rs l st h = some o) : ∃ (a : Nat) (r : List Value) (ci : Nat) (fs : List Value), st = .ref a :: r ∧ h[a]? = some (.inr (ci, fs)) ∧ (ci = 0 ∨ ci = 2 ∨ ci = 3 ∨ ci = 4) ∧ o = .inl ((pc + 3, l, .int (bif rs.contains ci then 1 else 0) :: r), h) := by
  unfold am_ins at hd
  split at hd
  · split at hd
    · rename_i hh
      split at hd
      · rename_i hc
        exact ⟨_, _, _, _, rfl, hh, hc, (Option.some.inj hd).symm⟩
      · cases hd
    · cases hd
  · cases hd
/-- may x be what a method of this kind of answer gives? 0 int, 2 boolean, 3 byte, 4 char -/
def am_nw (t : Nat) (x : Int32) : Bool := match t with
  | 0 => true
  | 2 => x == 0 || x == 1
  | 3 => x == 0
  | 4 => x == (x.toUInt32 % 65536).toInt32
  | _ => false
def am_rec (h : am_H) (v : Value) : Option Nat := match v with
  | .ref a => (match h[a]? with
    | some (.inr (ci, _)) => some ci
    | _ => none)
  | .retAddr k => if 1 ≤ k ∧ k ≤ am_tx.length then some 60 else none
  | _ => none
def am_inv (rs : List Nat) (st : List Value) (h : am_H) : Option am_O := match rs with
  | n :: ds => (match am_pop n st with
    | some (as, v :: r) => (match am_rec h v with
      | some ci => (match am_dis ds ci with
        | some M => am_call M (v :: as) r
        | none => none)
      | none => none)
    | _ => none)
  | _ => none
/-- Math.abs, abs of longs, max, min -/
def am_mth (z pc : Nat) (l : am_L) (st : List Value) (h : am_H) : Option am_O := match z, st with
  | 900, .int x :: r => if (r.map fun v => v.category).sum ≤ 8 then some (.inl ((pc + 3, l, .int (if 0 ≤ x then x else 0 - x) :: r), h)) else none
  | 901, .long x :: r => if (r.map fun v => v.category).sum ≤ 8 then some (.inl ((pc + 3, l, .long (if 0 < x then x else -x) :: r), h)) else none
  | 902, .int y :: .int x :: r => if (r.map fun v => v.category).sum ≤ 8 then some (.inl ((pc + 3, l, .int (if x < y then y else x) :: r), h)) else none
  | 903, .int y :: .int x :: r => if (r.map fun v => v.category).sum ≤ 8 then some (.inl ((pc + 3, l, .int (if y < x then y else x) :: r), h)) else none
  | _, _ => none
theorem am_mth_inv {z pc : Nat} {l : am_L} {st : List Value} {h : am_H} {o : am_O} (hd : am_mth z pc l st h = some o) :
    (∃ (x : Int32) (r : List Value), z = 900 ∧ st = .int x :: r ∧ (r.map fun v => v.category).sum ≤ 8 ∧ o = .inl ((pc + 3, l, .int (if 0 ≤ x then x else 0 - x) :: r), h)) ∨
    (∃ (x : Int64) (r : List Value), z = 901 ∧ st = .long x :: r ∧ (r.map fun v => v.category).sum ≤ 8 ∧ o = .inl ((pc + 3, l, .long (if 0 < x then x else -x) :: r), h)) ∨
    (∃ (y x : Int32) (r : List Value), z = 902 ∧ st = .int y :: .int x :: r ∧ (r.map fun v => v.category).sum ≤ 8 ∧ o = .inl ((pc + 3, l, .int (if x < y then y else x) :: r), h)) ∨
    (∃ (y x : Int32) (r : List Value), z = 903 ∧ st = .int y :: .int x :: r ∧ (r.map fun v => v.category).sum ≤ 8 ∧ o = .inl ((pc + 3, l, .int (if y < x then y else x) :: r), h)) := by
  unfold am_mth at hd
  split at hd
  · split at hd
    · rename_i hc
      exact Or.inl ⟨_, _, rfl, rfl, hc, (Option.some.inj hd).symm⟩
    · cases hd
  · split at hd
    · rename_i hc
      exact Or.inr (Or.inl ⟨_, _, rfl, rfl, hc, (Option.some.inj hd).symm⟩)
    · cases hd
  · split at hd
    · rename_i hc
      exact Or.inr (Or.inr (Or.inl ⟨_, _, _, rfl, rfl, hc, (Option.some.inj hd).symm⟩))
    · cases hd
  · split at hd
    · rename_i hc
      exact Or.inr (Or.inr (Or.inr ⟨_, _, _, rfl, rfl, hc, (Option.some.inj hd).symm⟩))
    · cases hd
  · cases hd
def am_sta (rs : List Nat) (st : List Value) : Option am_O := match rs with
  | [n, M] => (match am_pop n st with
    | some (as, r) => am_call M as r
    | none => none)
  | _ => none
def am_spc (rs : List Nat) (pc : Nat) (l : am_L) (st : List Value) (h : am_H) : Option am_O := match rs with
  | [] => (match st with
    | .ref _ :: r => if (r.map fun v => v.category).sum ≤ 8 then some (.inl ((pc + 3, l, r), h)) else none
    | _ => none)
  | [n, M] => (match am_pop n st with
    | some (as, .ref a :: r) => am_call M (.ref a :: as) r
    | _ => none)
  | _ => none
def am_ret (t : Nat) (st : List Value) : Option am_O := match st with
  | [.int x] => if am_nw t x = true then some (.inr (.inl (some (.int x)))) else none
  | _ => none
def am_retA (st : List Value) : Option am_O := match st with
  | [.ref x] => some (.inr (.inl (some (.ref x))))
  | [.null] => some (.inr (.inl (some .null)))
  | _ => none
def am_retL (st : List Value) : Option am_O := match st with
  | [.long x] => some (.inr (.inl (some (.long x))))
  | _ => none
def am_retV (st : List Value) : Option am_O := match st with
  | [] => some (.inr (.inl none))
  | _ => none
def am_do (df : Nat → List Value) (sc : Nat × (Nat → Int32)) (q : am_I) (l : am_L) (st : List Value) (h : am_H) : Option am_O := match q with
  | (pc, ins, _, rs, cv) => match ins with
    | .iconst n => some (.inl ((pc + 1, l, .int (Int32.ofInt n) :: st), h))
    | .bipush n => some (.inl ((pc + 2, l, .int (Int8.ofInt n).toInt32 :: st), h))
    | .sipush n => some (.inl ((pc + 3, l, .int (Int16.ofInt n).toInt32 :: st), h))
    | .lconst n => some (.inl ((pc + 1, l, .long (Int64.ofNat (n : Nat)) :: st), h))
    | .aconst_null => some (.inl ((pc + 1, l, .null :: st), h))
    | .ldc _ => some (.inl ((pc + 2, l, cv :: st), h))
    | .ldc_w _ => some (.inl ((pc + 3, l, cv :: st), h))
    | .ldc2_w _ => some (.inl ((pc + 3, l, cv :: st), h))
    | .getstatic _ => some (.inl ((pc + 3, l, cv :: st), h))
    | .iload_n k => am_ldI (pc + 1) k l st h
    | .iload k => am_ldI (pc + 2) k l st h
    | .lload_n k => am_ldL (pc + 1) k l st h
    | .lload k => am_ldL (pc + 2) k l st h
    | .aload_n k => am_ldA (pc + 1) k l st h
    | .aload k => am_ldA (pc + 2) k l st h
    | .istore_n k => am_stI (pc + 1) k l st h
    | .istore k => am_stI (pc + 2) k l st h
    | .lstore_n k => am_stL (pc + 1) k l st h
    | .lstore k => am_stL (pc + 2) k l st h
    | .astore_n k => am_stA (pc + 1) k l st h
    | .astore k => am_stA (pc + 2) k l st h
    | .iinc i n => am_inc pc i n l st h
    | .iadd => am_b (fun x y => x + y) pc l st h
    | .isub => am_b (fun x y => x - y) pc l st h
    | .imul => am_b (fun x y => x * y) pc l st h
    | .iand => am_b (fun x y => x &&& y) pc l st h
    | .ior => am_b (fun x y => x ||| y) pc l st h
    | .ixor => am_b (fun x y => x ^^^ y) pc l st h
    | .ishl => am_b (fun x y => x <<< (y &&& 31)) pc l st h
    | .ishr => am_b (fun x y => x >>> (y &&& 31)) pc l st h
    | .idiv => am_dv (fun x y => x / y) pc l st h
    | .irem => am_dv (fun x y => x - x / y * y) pc l st h
    | .ineg => am_u (fun x => .int (-x)) pc l st h
    | .i2l => am_u (fun x => .long x.toInt64) pc l st h
    | .i2c => am_u (fun x => .int (x.toUInt32 % 65536).toInt32) pc l st h
    | .ladd => am_bL (fun x y => x + y) pc l st h
    | .lsub => am_bL (fun x y => x - y) pc l st h
    | .lmul => am_bL (fun x y => x * y) pc l st h
    | .ldiv => am_dvL (fun x y => x / y) pc l st h
    | .lrem => am_dvL (fun x y => x - x / y * y) pc l st h
    | .lneg => am_uL (fun x => .long (-x)) pc l st h
    | .l2i => am_uL (fun x => .int x.toInt32) pc l st h
    | .lcmp => am_cmp pc l st h
    | .dup => am_dup pc l st h
    | .dup2 => am_dup2 pc l st h
    | .pop => am_drop pc l st h
    | .ifCond c _ => (match c with
      | .eq => am_if (fun x => decide (x = 0)) pc (am_t rs) l st h
      | .ne => am_if (fun x => !decide (x = 0)) pc (am_t rs) l st h
      | .lt => am_if (fun x => decide (x < 0)) pc (am_t rs) l st h
      | .ge => am_if (fun x => decide (0 ≤ x)) pc (am_t rs) l st h
      | .gt => am_if (fun x => decide (0 < x)) pc (am_t rs) l st h
      | .le => am_if (fun x => decide (x ≤ 0)) pc (am_t rs) l st h)
    | .if_icmp c _ => (match c with
      | .eq => am_ic (fun x y => decide (x = y)) pc (am_t rs) l st h
      | .ne => am_ic (fun x y => !decide (x = y)) pc (am_t rs) l st h
      | .lt => am_ic (fun x y => decide (x < y)) pc (am_t rs) l st h
      | .ge => am_ic (fun x y => decide (y ≤ x)) pc (am_t rs) l st h
      | .gt => am_ic (fun x y => decide (y < x)) pc (am_t rs) l st h
      | .le => am_ic (fun x y => decide (x ≤ y)) pc (am_t rs) l st h)
    | .goto _ => some (.inl ((am_t rs, l, st), h))
    | .ifnull _ => am_null (am_t rs) (pc + 3) l st h
    | .ifnonnull _ => am_null (pc + 3) (am_t rs) l st h
    | .tableswitch _ lo hi _ => am_tsw lo hi rs l st h
    | .getfield _ => am_gf pc rs l st h
    | .putfield _ => am_pf pc rs l st h
    | .iaload => am_ial sc pc l st h
    | .laload => am_lal pc l st h
    | .baload => am_bal pc l st h
    | .aaload => am_aal pc l st h
    | .iastore => am_ias pc l st h
    | .lastore => am_las pc l st h
    | .bastore => am_bas pc l st h
    | .aastore => am_aas pc l st h
    | .arraylength => am_len sc pc l st h
    | .new _ => some (.inl ((pc + 3, l, .ref h.length :: st), h ++ [.inr (am_t rs, df (am_t rs))]))
    | .newarray t => am_nar t pc l st h
    | .anewarray _ => am_anw (am_t rs) pc l st h
    | .instanceof _ => am_ins pc rs l st h
    | .ireturn => am_ret (am_t rs) st
    | .lreturn => am_retL st
    | .areturn => am_retA st
    | .return_ => am_retV st
    | .invokestatic _ => bif rs.length == 1 then am_mth (am_t rs) pc l st h else am_sta rs st
    | .invokespecial _ => am_spc rs pc l st h
    | .invokevirtual _ => am_inv rs st h
    | _ => none
def am_isR (i : Instr) : Bool := match i with
  | .ireturn | .lreturn | .areturn | .return_ => true
  | _ => false
def am_isC (i : Instr) : Bool := match i with
  | .invokestatic _ | .invokespecial _ | .invokevirtual _ => true
  | _ => false
/-- one method's steps, over what its calls do -/
def am_steps (df : Nat → List Value) (sc : Nat × (Nat → Int32)) (call : Nat → List Value → am_H → Option (Option Value × am_H)) (code : List am_I) : Nat → am_F → am_H → Option (Option Value × am_H)
  | 0, _, _ => none
  | n + 1, f, h => match am_at code f.1 with
    | none => none
    | some q => match am_do df sc q f.2.1 f.2.2 h with
      | none => none
      | some (.inl (f', h')) => am_steps df sc call code n f' h'
      | some (.inr (.inl r)) => bif am_isR q.2.1 then some (r, h) else none
      | some (.inr (.inr (M, as, r))) => bif am_isC q.2.1 then (match call M as h with
        | none => none
        | some (v, h') => am_steps df sc call code n (f.1 + 3, f.2.1, v.toList ++ r) h') else none
/-- calls d deep at most, n steps at most in each; P: a method's locals and code -/
def am_run (df : Nat → List Value) (sc : Nat × (Nat → Int32)) (P : Nat → Nat × List am_I) (n : Nat) : Nat → Nat → List Value → am_H → Option (Option Value × am_H)
  | 0, _, _, _ => none
  | d + 1, M, as, h => if (as.map fun v => v.category).sum ≤ (P M).1 then am_steps df sc (am_run df sc P n d) (P M).2 n (0, lv_args 0 as, []) h else none
end
section
/-! What the small machine's lists are on the machine: values, locals, cells. B: where the new cells begin; X: where what was there before lies; cA: the array classes. -/
def am_v (B : Nat) (X : Nat → Option Nat) (v : Value) : Value := match v with
  | .ref i => .ref (B + i)
  | .retAddr k => va_rf (X k)
  | w => w
theorem am_v_cat (B : Nat) (X : Nat → Option Nat) (v : Value) : (am_v B X v).category = v.category := by
  cases v with
  | retAddr k =>
    show (va_rf (X k)).category = 1
    cases X k <;> rfl
  | _ => rfl
def am_vs (B : Nat) (X : Nat → Option Nat) (st : List Value) : List Value := st.map (am_v B X)
def am_lm (B : Nat) (X : Nat → Option Nat) (l : am_L) : am_L := l.map (fun q => (q.1, am_v B X q.2))
theorem am_vs_sum (B : Nat) (X : Nat → Option Nat) (st : List Value) : ((am_vs B X st).map fun v => v.category).sum = (st.map fun v => v.category).sum := by
  unfold am_vs
  rw [List.map_map]
  congr 1
  exact List.map_congr_left (fun v _ => am_v_cat B X v)
theorem am_lm_filter (B : Nat) (X : Nat → Option Nat) (l : am_L) (f : Nat → Nat → Bool) : am_lm B X (l.filter (fun q => f q.1 q.2.category)) = (am_lm B X l).filter (fun q => f q.1 q.2.category) := by
  unfold am_lm
  rw [List.filter_map]
  congr 1
  refine List.filter_congr (fun q _ => ?_)
  show f q.1 q.2.category = f q.1 (am_v B X q.2).category
  rw [am_v_cat]
theorem am_insr_mem {i : Nat} {v : Value} {q : Nat × Value} : ∀ {l : am_L}, q ∈ am_insr i v l → q = (i, v) ∨ q ∈ l
  | [], h => Or.inl (List.mem_singleton.mp h)
  | x :: r, h => by
    unfold am_insr at h
    cases hb : Nat.blt i x.1 with
    | true =>
      rw [hb] at h
      rcases List.mem_cons.mp h with h | h
      · exact Or.inl h
      · exact Or.inr h
    | false =>
      rw [hb] at h
      rcases List.mem_cons.mp h with h | h
      · exact Or.inr (h ▸ List.mem_cons_self)
      · rcases am_insr_mem h with h | h
        · exact Or.inl h
        · exact Or.inr (List.mem_cons_of_mem _ h)
theorem am_lm_ins {B : Nat} {X : Nat → Option Nat} {ls : Array Slot} {nL i : Nat} {v : Value} {l : am_L} (h : lv_has ls nL ((i, am_v B X v) :: am_lm B X l)) : lv_has ls nL (am_lm B X (am_insr i v l)) := by
  refine ⟨h.1, h.2.1, fun q hq => h.2.2 q ?_⟩
  obtain ⟨y, hy, rfl⟩ := List.mem_map.mp hq
  rcases am_insr_mem hy with h | h
  · rw [h]; exact List.mem_cons_self
  · exact List.mem_cons_of_mem _ (List.mem_map.mpr ⟨y, h, rfl⟩)
theorem am_lm_s1 {B : Nat} {X : Nat → Option Nat} {l : am_L} {i nL : Nat} {v : Value} {ls : Array Slot} (hh : lv_has ls nL ((i, am_v B X v) :: (am_lm B X l).filter (fun q => !(q.1 == i) && !(q.1 + 1 == i && q.2.category == 2)))) : lv_has ls nL (am_lm B X (am_s1 l i v)) := by
  have h := am_lm_filter B X l (fun a c => !(a == i) && !(a + 1 == i && c == 2))
  refine am_lm_ins ?_
  rw [h]
  exact hh
theorem am_lm_s2 {B : Nat} {X : Nat → Option Nat} {l : am_L} {i nL : Nat} {v : Value} {ls : Array Slot} (hh : lv_has ls nL ((i, am_v B X v) :: (am_lm B X l).filter (fun q => !(q.1 == i) && (!(q.1 == i + 1) && !(q.1 + 1 == i && q.2.category == 2))))) : lv_has ls nL (am_lm B X (am_s2 l i v)) := by
  have h := am_lm_filter B X l (fun a c => !(a == i) && (!(a == i + 1) && !(a + 1 == i && c == 2)))
  refine am_lm_ins ?_
  rw [h]
  exact hh
theorem am_lg_mem {B : Nat} {X : Nat → Option Nat} {l : am_L} {i : Nat} {v : Value} (h : am_lg l i = some v) : ∃ k : Nat, (am_lm B X l)[k]? = some (i, am_v B X v) := by
  unfold am_lg at h
  cases hf : l.find? (fun q => q.1 == i) with
  | none => rw [hf] at h; cases h
  | some q =>
    rw [hf] at h
    have h1 : q.1 = i := by simpa using List.find?_some hf
    have h2 : q.2 = v := Option.some.inj h
    have h3 : (q.1, am_v B X q.2) ∈ am_lm B X l := List.mem_map.mpr ⟨q, List.mem_of_find?_eq_some hf, rfl⟩
    rw [h1, h2] at h3
    exact List.getElem?_of_mem h3
theorem am_lg_at {B : Nat} {X : Nat → Option Nat} {ls : Array Slot} {nL : Nat} {l : am_L} {i : Nat} {v : Value} (hl : lv_has ls nL (am_lm B X l)) (h : am_lg l i = some v) : ls[i]? = some (.val (am_v B X v)) := by
  obtain ⟨k, hk⟩ := am_lg_mem (B := B) (X := X) h
  exact lv_at hl k hk
theorem am_lm_args (B : Nat) (X : Nat → Option Nat) : ∀ (i : Nat) (vs : List Value), lv_args i (am_vs B X vs) = am_lm B X (lv_args i vs)
  | _, [] => rfl
  | i, v :: vs => by
    show (i, am_v B X v) :: lv_args (if (am_v B X v).category = 2 then i + 2 else i + 1) (am_vs B X vs) = (i, am_v B X v) :: am_lm B X (lv_args (if v.category = 2 then i + 2 else i + 1) vs)
    rw [am_v_cat, am_lm_args B X _ vs]
def am_e (B : Nat) (X : Nat → Option Nat) (cA : Nat → Nat) (x : va_E) : va_E := match x with
  | .inl (t, n, .inl f) => .inl (cA t, n, .inl f)
  | .inl (t, n, .inr (.inl f)) => .inl (cA t, n, .inr (.inl f))
  | .inl (t, n, .inr (.inr (.inl f))) => .inl (cA t, n, .inr (.inr (.inl f)))
  | .inl (t, n, .inr (.inr (.inr (.inl f)))) => .inl (cA t, n, .inr (.inr (.inr (.inl f))))
  | .inl (t, n, .inr (.inr (.inr (.inr f)))) => .inl (cA t, n, .inr (.inr (.inr (.inr (fun j => (f j).map (fun i => B + i))))))
  | .inr (ci, fs) => .inr (ci, fs.map (am_v B X))
theorem am_e_arr (B : Nat) (X : Nat → Option Nat) (cA : Nat → Nat) (t : Nat) (x : vp_A) : ∃ y : vp_A, y.1 = x.1 ∧ am_e B X cA (.inl (t, x)) = .inl (cA t, y) := by
  obtain ⟨n, y⟩ := x
  rcases y with f | f | f | f | f
  · exact ⟨(n, .inl f), rfl, rfl⟩
  · exact ⟨(n, .inr (.inl f)), rfl, rfl⟩
  · exact ⟨(n, .inr (.inr (.inl f))), rfl, rfl⟩
  · exact ⟨(n, .inr (.inr (.inr (.inl f)))), rfl, rfl⟩
  · exact ⟨(n, .inr (.inr (.inr (.inr (fun j => (f j).map (fun i => B + i)))))), rfl, rfl⟩
def am_w (B : Nat) (X : Nat → Option Nat) (cA : Nat → Nat) (h : am_H) : va_W := h.mapIdx (fun i x => (B + i, am_e B X cA x))
theorem am_w_at {B : Nat} {X : Nat → Option Nat} {cA : Nat → Nat} {h : am_H} {a : Nat} {x : va_E} (hh : h[a]? = some x) : (am_w B X cA h)[a]? = some (B + a, am_e B X cA x) := by
  unfold am_w
  rw [List.getElem?_mapIdx, hh]
  rfl
theorem am_w_of {B : Nat} {X : Nat → Option Nat} {cA : Nat → Nat} {h : am_H} {a : Nat} {q : Nat × va_E} (hh : (am_w B X cA h)[a]? = some q) : ∃ x, h[a]? = some x ∧ q = (B + a, am_e B X cA x) := by
  unfold am_w at hh
  rw [List.getElem?_mapIdx] at hh
  cases hx : h[a]? with
  | none => rw [hx] at hh; cases hh
  | some x =>
    rw [hx] at hh
    exact ⟨x, rfl, (Option.some.inj hh).symm⟩
theorem am_w_set (B : Nat) (X : Nat → Option Nat) (cA : Nat → Nat) (h : am_H) (a : Nat) (x : va_E) : (am_w B X cA h).set a (B + a, am_e B X cA x) = am_w B X cA (h.set a x) := by
  refine List.ext_getElem? (fun i => ?_)
  unfold am_w
  rw [List.getElem?_mapIdx, List.getElem?_set, List.getElem?_set, List.length_mapIdx, List.getElem?_mapIdx]
  by_cases hi : a = i
  · subst hi
    rw [if_pos rfl, if_pos rfl]
    by_cases hl : a < h.length
    · rw [if_pos hl, if_pos hl]; rfl
    · rw [if_neg hl, if_neg hl]; rfl
  · rw [if_neg hi, if_neg hi]
theorem am_w_app (B : Nat) (X : Nat → Option Nat) (cA : Nat → Nat) (h : am_H) (x : va_E) : am_w B X cA (h ++ [x]) = am_w B X cA h ++ [(B + h.length, am_e B X cA x)] := by
  unfold am_w
  rw [List.mapIdx_append]
  simp
def am_A (B : Nat) : Nat → Prop := fun q => B ≤ q
theorem am_D (B : Nat) (X : Nat → Option Nat) (cA : Nat → Nat) (h : am_H) : va_D (am_A B) (am_w B X cA h) := by
  refine ⟨fun i j x y hi hj e => ?_, fun k q hk => ?_⟩
  · obtain ⟨_, -, rfl⟩ := am_w_of hi
    obtain ⟨_, -, rfl⟩ := am_w_of hj
    have e2 : B + i = B + j := e
    omega
  · obtain ⟨_, -, rfl⟩ := am_w_of hk
    exact Nat.le_add_right B k
/-- the heap holds the small machine's cells, and they are its last ones -/
def am_R (B : Nat) (X : Nat → Option Nat) (D : va_G) (cA : Nat → Nat) (h : am_H) (H : Heap) : Prop := H.size = B + h.length ∧ va_P D vwCl (am_w B X cA h) H
theorem am_R.put {B : Nat} {X : Nat → Option Nat} {D : va_G} {cA : Nat → Nat} {h : am_H} {H H1 : Heap} {a : Nat} {x0 x : va_E} (hR : am_R B X D cA h H) (h0 : h[a]? = some x0) (z : H1.size = H.size) (oq : ∀ q : Nat, q ≠ B + a → H1[q]? = H[q]?) (he : va_at D vwCl (B + a, am_e B X cA x) H1) : am_R B X D cA (h.set a x) H1 := by
  refine ⟨by rw [z, List.length_set]; exact hR.1, ?_⟩
  rw [← am_w_set]
  exact hR.2.set (am_D B X cA h) (am_w_at h0) he oq
theorem am_R.push {B : Nat} {X : Nat → Option Nat} {D : va_G} {cA : Nat → Nat} {h : am_H} {H H1 : Heap} {x : va_E} (hR : am_R B X D cA h H) (z : H1.size = H.size + 1) (oq : ∀ q : Nat, q < H.size → H1[q]? = H[q]?) (he : va_at D vwCl (B + h.length, am_e B X cA x) H1) : am_R B X D cA (h ++ [x]) H1 := by
  refine ⟨by rw [z, hR.1, List.length_append]; rfl, ?_⟩
  rw [am_w_app]
  refine va_P.app (hR.2.kept (fun k q hq => oq q.1 ((hR.2 k q hq).lt))) (fun k q hq => ?_)
  have hz : k < 1 := (List.getElem?_eq_some_iff.mp hq).1
  rw [show k = 0 by omega] at hq
  cases hq
  exact he
theorem am_S.push {B : Nat} {H0 H H1 : Heap} {locs : List Loc} (hS : va_S (am_A B) H0 H locs) (z : H1.size = H.size + 1) (oq : ∀ q : Nat, q < H.size → H1[q]? = H[q]?) : va_S (am_A B) H0 H1 locs :=
  ⟨Nat.le_trans hS.1 (by omega), fun x h1 h2 => (oq x (Nat.lt_of_lt_of_le h1 hS.1)).trans (hS.2.1 x h1 h2), hS.2.2⟩
/-- the words that every method may use -/
def am_tb : List Cond := lw_tbl.filter goodWord
theorem am_tb_good : GoodIn am_tb am_tb := fun w h => ⟨h, good_of_word (List.mem_filter.mp h).2⟩
/-- the words that no reader of steady words carries -/
def am_isx (w : Cond) : Bool := match w with
  | .castable _ _ => true
  | .methodLinkNest _ _ _ _ => true
  | .declares _ => true
  | _ => false
def am_xw : List Cond := lw_tbl.filter am_isx
theorem am_xw_warm {s U : State} (hW : s.WarmedH U.vm) {w : Cond} (hw : w ∈ am_xw) (h : va_Nw w s) : va_Nw w U := by
  have h1 := (List.mem_filter.mp hw).2
  cases w with
  | castable a b => exact h.warmC hW
  | methodLinkNest a b c d => exact h.warmM hW
  | declares a => exact h.warmD hW
  | _ => cases h1
theorem am_xw_same {s U : State} (hv : U.vm = s.vm) {w : Cond} (hw : w ∈ am_xw) (h : va_Nw w s) : va_Nw w U := by
  have h1 := (List.mem_filter.mp hw).2
  cases w with
  | castable a b => exact h.same rfl hv.symm
  | methodLinkNest a b c d => exact h.same rfl hv.symm
  | declares a => exact h.same rfl hv.symm
  | _ => cases h1
def am_ty (cA : Nat → Nat) : List (ClassId × FieldType) := [(cA 0, .int), (cA 1, .long), (cA 2, .boolean), (cA 3, .object "RodBeads$Rod"), (cA 4, .object "RodBeads$Standing")]
end
section
/-! What the tables must say of an instruction, and the machine's state at a method's point. -/
/-- a class of the worlds: its row, and its fields' words -/
def am_cl (C : String) (T : u_T) (N : Nat) (ty : Nat → FieldType) (ci : Nat) : Prop := vwCl[ci]? = some (C, T, N) ∧ (∀ w ∈ u_ws C T N, w ∈ am_tb) ∧ (∀ k, k < N → parseFieldDescriptor (T k).2.2.1 = some (ty k)) ∧ (∀ a, a < N → ∀ b, b < N → a ≠ b → (T a).2.1 ≠ (T b).2.1)
/-- a field of it under a pool's number -/
def am_fl (own : String) (idx k ci : Nat) : Prop := ∃ (C : String) (T : u_T) (N : Nat) (ty : Nat → FieldType) (ref : String), am_cl C T N ty ci ∧ k < N ∧ Cond.fieldLink own idx ref (T k).2.1 (T k).2.2.1 ∈ am_tb ∧ ((T k).1 = ref ∨ Cond.sameField ref (T k).1 (T k).2.1 (T k).2.2.1 ∈ am_tb)
def am_tyc (c : Nat) (ty : FieldType) : Prop := (c = 0 ∧ ty = .int) ∨ (c = 1 ∧ ty = .long) ∨ (c = 2 ∧ ty = .boolean) ∨ (c = 3 ∧ ((∃ n, ty = .object n) ∨ ∃ t, ty = .array t))
def am_fp (own nm : String) (idx k c ci : Nat) : Prop := ∃ (C : String) (T : u_T) (N : Nat) (ty : Nat → FieldType) (ref : String), am_cl C T N ty ci ∧ k < N ∧ Cond.fieldLink own idx ref (T k).2.1 (T k).2.2.1 ∈ am_tb ∧ ((T k).1 = ref ∨ Cond.sameField ref (T k).1 (T k).2.1 (T k).2.2.1 ∈ am_tb) ∧ am_tyc c (ty k) ∧ ((T k).2.2.2 = false ∨ ((T k).2.2.2 = true ∧ nm = "<init>" ∧ (T k).1 = own))
def am_new (own : String) (df : Nat → List Value) (idx ci : Nat) : Prop := ∃ (C : String) (T : u_T) (N : Nat) (ty : Nat → FieldType), am_cl C T N ty ci ∧ Cond.classLink own idx C ∈ am_tb ∧ Cond.instantiable C N ∈ am_tb ∧ Cond.initialized C ∈ am_tb ∧ (∀ j, j < N → defaultValue (ty j) = vp_V (df ci) j) ∧ (df ci).length = N ∧ ∀ v ∈ df ci, (∀ i, v ≠ .ref i) ∧ ∀ i, v ≠ .retAddr i
def am_okM (own : String) (idx z : Nat) : Prop := Cond.initialized "java/lang/Math" ∈ am_tb ∧
  ((z = 900 ∧ Cond.methodLink own idx Lib.Math.abs.name ∈ am_tb ∧ Cond.static Lib.Math.abs.name ∈ am_tb ∧ Cond.code Lib.Math.abs.name Lib.Math.abs.code 1 (some .int) ∈ am_tb) ∨
   (z = 901 ∧ Cond.methodLink own idx Lib.MathLoose.abs_long.x ∈ am_tb ∧ Cond.static Lib.MathLoose.abs_long.x ∈ am_tb ∧ Cond.code Lib.MathLoose.abs_long.x Lib.MathLoose.abs_long.code 2 (some .long) ∈ am_tb) ∨
   (z = 902 ∧ Cond.methodLink own idx Lib.Math.max.name ∈ am_tb ∧ Cond.static Lib.Math.max.name ∈ am_tb ∧ Cond.code Lib.Math.max.name Lib.Math.max.code 2 (some .int) ∈ am_tb) ∨
   (z = 903 ∧ Cond.methodLink own idx Lib.Math.min.name ∈ am_tb ∧ Cond.static Lib.Math.min.name ∈ am_tb ∧ Cond.code Lib.Math.min.name Lib.Math.min.code 2 (some .int) ∈ am_tb))
def am_okP (df : Nat → List Value) (own nm : String) (nL : Nat) (ret : Option FieldType) (q : am_I) : Prop := match q with
  | (pc, ins, len, rs, cv) => match ins with
    | .iconst _ => len = 1
    | .bipush _ => len = 2
    | .sipush _ => len = 3
    | .lconst _ => len = 1
    | .aconst_null => len = 1
    | .ldc idx => len = 2 ∧ ((∃ x, cv = .int x ∧ Cond.constant own idx x ∈ am_tb) ∨ (∃ (i : Nat) (tx : String), cv = .retAddr (i + 1) ∧ i < am_tx.length ∧ am_sr[i]? = some (own, idx, tx)))
    | .ldc_w idx => len = 3 ∧ (∃ x, cv = .int x ∧ Cond.constant own idx x ∈ am_tb)
    | .ldc2_w idx => len = 3 ∧ (∃ x, cv = .long x ∧ Cond.constantLong own idx x ∈ am_tb)
    | .getstatic idx => len = 3 ∧ ((cv = .int 1 ∧ Cond.fieldLink own idx "java/lang/String" "COMPACT_STRINGS" "Z" ∈ am_tb) ∨ (cv = .retAddr 50 ∧ Cond.fieldLink own idx "jdk/internal/util/Preconditions" "SIOOBE_FORMATTER" "Ljava/util/function/BiFunction;" ∈ am_tb))
    | .instanceof idx => len = 3 ∧ ∃ T, Cond.classLink own idx T ∈ am_tb ∧ ∀ ci, (ci = 0 ∨ ci = 2 ∨ ci = 3 ∨ ci = 4) → ∃ r : vw_C, vwCl[ci]? = some r ∧ ((rs.contains ci = true ∧ (r.1 = T ∨ Cond.castable r.1 T ∈ am_xw)) ∨ (rs.contains ci = false ∧ (r.1, T) ∈ am_nc))
    | .anewarray idx => len = 3 ∧ ((am_t rs = 3 ∧ Cond.classLink own idx "RodBeads$Rod" ∈ am_tb) ∨ (am_t rs = 4 ∧ Cond.classLink own idx "RodBeads$Standing" ∈ am_tb))
    | .iload_n _ => len = 1
    | .iload _ => len = 2
    | .lload_n _ => len = 1
    | .lload _ => len = 2
    | .aload_n _ => len = 1
    | .aload _ => len = 2
    | .istore_n k => len = 1 ∧ (k : Nat) < nL
    | .istore k => len = 2 ∧ k < nL
    | .lstore_n k => len = 1 ∧ (k : Nat) + 1 < nL
    | .lstore k => len = 2 ∧ k + 1 < nL
    | .astore_n k => len = 1 ∧ (k : Nat) < nL
    | .astore k => len = 2 ∧ k < nL
    | .iinc i _ => len = 3 ∧ i < nL
    | .iadd | .isub | .imul | .iand | .ior | .ixor | .ishl | .ishr | .idiv | .irem | .ineg | .ladd | .lsub | .lmul | .ldiv | .lrem | .lneg | .lcmp | .i2l | .i2c | .l2i | .dup | .dup2 | .pop => len = 1
    | .ifCond _ off => len = 3 ∧ (pc : Int) + off = (am_t rs : Int)
    | .if_icmp _ off => len = 3 ∧ (pc : Int) + off = (am_t rs : Int)
    | .goto off => len = 3 ∧ (pc : Int) + off = (am_t rs : Int)
    | .ifnull off => len = 3 ∧ (pc : Int) + off = (am_t rs : Int)
    | .ifnonnull off => len = 3 ∧ (pc : Int) + off = (am_t rs : Int)
    | .tableswitch d _ _ offs => (pc : Int) + d = (am_t rs : Int) ∧ ∀ (i t : Nat), rs[i + 1]? = some t → ∃ o, offs[i]? = some o ∧ (pc : Int) + o = (t : Int)
    | .getfield idx => len = 3 ∧ (∀ ci ∈ rs.drop 1, am_fl own idx (am_t rs) ci) ∧ (rs = [100] → Cond.fieldLink own idx "java/lang/String" "value" "[B" ∈ am_tb) ∧ (rs = [101] → Cond.fieldLink own idx "java/lang/String" "coder" "B" ∈ am_tb)
    | .putfield idx => len = 3 ∧ ∀ ci ∈ rs.drop 2, am_fp own nm idx (am_t rs) (am_t (rs.drop 1)) ci
    | .iaload | .laload | .baload | .aaload | .iastore | .lastore | .bastore | .aastore | .arraylength => len = 1
    | .invokestatic idx => len = 3 ∧ ((rs.length == 1) = true → am_okM own idx (am_t rs))
    | .invokespecial idx => len = 3 ∧ (rs = [] → Cond.methodLink own idx Lib.objectInit ∈ am_tb ∧ Cond.instanceMethod Lib.objectInit ∈ am_tb ∧ Cond.code Lib.objectInit ⟨#[0xb1]⟩ 1 none ∈ am_tb)
    | .new idx => len = 3 ∧ am_new own df idx (am_t rs)
    | .newarray t => len = 2 ∧ Cond.arrayClass (newarray.typeOf t) ∈ am_tb
    | .ireturn => len = 1 ∧ ((am_t rs = 0 ∧ ret = some .int) ∨ (am_t rs = 2 ∧ ret = some .boolean) ∨ (am_t rs = 3 ∧ ret = some .byte) ∨ (am_t rs = 4 ∧ ret = some .char))
    | .lreturn => len = 1 ∧ ret = some .long
    | .areturn => len = 1 ∧ ∃ rt, ret = some rt ∧ ((∃ n, rt = .object n) ∨ ∃ t, rt = .array t)
    | .return_ => len = 1 ∧ ret = none
    | _ => True
/-- a method's point: the machine, its tables, the world; X names what was there before -/
def am_G (B : Nat) (X : Nat → Option Nat) (D : va_G) (cA : Nat → Nat) (sc : Nat × (Nat → Int32)) (s : State) : Prop :=
  va_K D vwCl (am_ty cA) s ∧ (∃ b, X 0 = some b ∧ b < B ∧ va_X b sc.1 sc.2 s s.heap) ∧ B ≤ s.heap.size ∧
  (∃ adK adV : Nat → Nat, (∀ i, i < am_tx.length → X (i + 1) = some (adK i) ∧ X (i + 21) = some (adV i)) ∧ vk_S am_tx.length (am_tx.map List.length) am_tx adK adV (am_A B) s s.heap ∧ ∀ (i : Nat) (q : String × Nat × String), am_sr[i]? = some q → vk_R q.1 q.2.1 q.2.2 (adK i) s) ∧
  (∀ q ∈ am_nc, va_Nc q.1 q.2 s) ∧ va_Z "java/lang/String" "COMPACT_STRINGS" "Z" (.int 1) (am_A B) s s.heap ∧
  va_Z "jdk/internal/util/Preconditions" "SIOOBE_FORMATTER" "Ljava/util/function/BiFunction;" (va_rf (X 50)) (am_A B) s s.heap ∧ va_AO "RodBeads$Rod" s ∧ va_AO "RodBeads$Standing" s ∧ ∀ w ∈ am_xw, va_Nw w s
def am_C (B : Nat) (X : Nat → Option Nat) (D : va_G) (cA : Nat → Nat) (sc : Nat × (Nat → Int32)) (own nm : String) (cc : ByteArray) (nL : Nat) (ret : Option FieldType) (p : Program) (s : State) (m : MethodId) (args : Array Value) (meth : Method) (c : Code) : Prop :=
  p.tables.exec = Jvm.exec ∧ c.code = cc ∧ c.maxLocals = nL ∧ s.vm.findClass own = some m.cls ∧ (∀ w ∈ am_tb, w.before args s = true) ∧ meth.sig.returnType = ret ∧ meth.locks = false ∧ meth.name = nm ∧ am_G B X D cA sc s
theorem am_G.moved {B : Nat} {X : Nat → Option Nat} {D : va_G} {cA : Nat → Nat} {sc : Nat × (Nat → Int32)} {s U : State} {locs : List Loc} (hW : s.WarmedH U.vm) (hS : va_S (am_A B) s.heap U.heap locs) (h : am_G B X D cA sc s) : am_G B X D cA sc U := by
  obtain ⟨hK, ⟨b, hb, hlt, hX⟩, hB, ⟨adK, adV, hx, hv, hr⟩, hn, hz, hf, ha1, ha2, hxw⟩ := h
  refine ⟨va_K.moved hW.alike hK, ⟨b, hb, hlt, (hX.moved hW.alike).kept (hS.2.1 b (by omega) (Nat.not_le.mpr hlt))⟩, Nat.le_trans hB hS.1, ⟨adK, adV, hx, (hv.moved hW.alike).kept hS.2.1, fun i q hq => (hr i q hq).warm hW⟩, fun q hq => (hn q hq).moved hW.alike, (hz.moved hW.alike).kept hS.2.1, (hf.moved hW.alike).kept hS.2.1, ha1.moved hW.alike, ha2.moved hW.alike, fun w hw => am_xw_warm hW hw (hxw w hw)⟩
theorem am_G.same {B : Nat} {X : Nat → Option Nat} {D : va_G} {cA : Nat → Nat} {sc : Nat × (Nat → Int32)} {s U : State} (hv : U.vm = s.vm) (hh : U.heap = s.heap) (h : am_G B X D cA sc s) : am_G B X D cA sc U := by
  have hA : s.vm.Alike U.vm := by rw [hv]; exact Vm.Alike.refl s.vm
  obtain ⟨hK, ⟨b, hb, hlt, hX⟩, hB, ⟨adK, adV, hx, hvk, hr⟩, hn, hz, hf, ha1, ha2, hxw⟩ := h
  refine ⟨va_K.moved hA hK, ⟨b, hb, hlt, by rw [hh]; exact hX.moved hA⟩, by rw [hh]; exact hB, ⟨adK, adV, hx, by rw [hh]; exact hvk.moved hA, fun i q hq => (hr i q hq).same hv⟩, fun q hq => (hn q hq).moved hA, by rw [hh]; exact hz.moved hA, by rw [hh]; exact hf.moved hA, ha1.moved hA, ha2.moved hA, fun w hw => am_xw_same hv hw (hxw w hw)⟩
def am_sz (x : va_E) : Nat := match x with
  | .inl (_, n, _) => n
  | .inr (_, fs) => fs.length
def am_sl (h : am_H) : Nat := (h.map am_sz).sum
theorem am_sl_app (h : am_H) (x : va_E) : am_sl (h ++ [x]) = am_sl h + am_sz x := by
  unfold am_sl
  simp
theorem am_sl_set {h : am_H} {a : Nat} {x y : va_E} (hx : h[a]? = some x) (he : am_sz y = am_sz x) : am_sl (h.set a y) = am_sl h := by
  have hm : (h.set a y).map am_sz = h.map am_sz := by
    refine List.ext_getElem? (fun i => ?_)
    rw [List.getElem?_map, List.getElem?_map, List.getElem?_set]
    by_cases hi : a = i
    · subst hi
      rw [if_pos rfl, if_pos (List.getElem?_eq_some_iff.mp hx).1, hx]
      show some (am_sz y) = some (am_sz x)
      rw [he]
    · rw [if_neg hi]
  unfold am_sl
  rw [hm]
end
section
/-! Rows that write cells, over the small machine's lists. -/
theorem am_map_set (f : Value → Value) (fs : List Value) (k : Nat) (v : Value) : (fs.set k v).map f = (fs.map f).set k (f v) := by
  refine List.ext_getElem? (fun i => ?_)
  rw [List.getElem?_map, List.getElem?_set, List.getElem?_set, List.length_map, List.getElem?_map]
  by_cases hi : k = i
  · subst hi
    rw [if_pos rfl, if_pos rfl]
    by_cases hl : k < fs.length
    · rw [if_pos hl, if_pos hl]; rfl
    · rw [if_neg hl, if_neg hl]; rfl
  · rw [if_neg hi, if_neg hi]
theorem am_rf (B : Nat) (X : Nat → Option Nat) (y : Option Nat) : am_v B X (va_rf y) = va_rf (y.map (fun i => B + i)) := by cases y <;> rfl
theorem am_fit_ok {B : Nat} {X : Nat → Option Nat} {c : Nat} {v : Value} {ty : FieldType} (hf : am_fit c v = true) (ht : am_tyc c ty) : narrow ty (am_v B X v) = am_v B X v ∧ fits ty (am_v B X v) = true := by
  rcases ht with ⟨rfl, rfl⟩ | ⟨rfl, rfl⟩ | ⟨rfl, rfl⟩ | ⟨rfl, ht⟩
  · cases v with
    | int x => exact ⟨rfl, rfl⟩
    | _ => simp [am_fit] at hf
  · cases v with
    | long x => exact ⟨rfl, rfl⟩
    | _ => simp [am_fit] at hf
  · cases v with
    | int x =>
      have h2 : x = 0 ∨ x = 1 := by simpa [am_fit] using hf
      rcases h2 with rfl | rfl
      · exact ⟨show narrow .boolean (.int 0) = .int 0 by decide, show fits .boolean (.int 0) = true by decide⟩
      · exact ⟨show narrow .boolean (.int 1) = .int 1 by decide, show fits .boolean (.int 1) = true by decide⟩
    | _ => simp [am_fit] at hf
  · cases v with
    | null => rcases ht with ⟨n, rfl⟩ | ⟨t, rfl⟩ <;> exact ⟨rfl, rfl⟩
    | ref x => rcases ht with ⟨n, rfl⟩ | ⟨t, rfl⟩ <;> exact ⟨rfl, rfl⟩
    | _ => simp [am_fit] at hf
section AMS
variable {p : Program} {l : Launch} {e : Env} {R : Room} {s : State} {m : MethodId} {args : Array Value} {below : List Frame} {meth : Method} {c : Code} {H : Heap} {locs : List Loc} {cells slots : Nat} {Q : State → Prop}
variable {cc : ByteArray} {pc : Nat} {ls : Array Slot} {rest : List Value} {B : Nat} {X : Nat → Option Nat} {D : va_G} {cA : Nat → Nat} {h : am_H} {H0 : Heap} {tys : List (ClassId × FieldType)}
theorem am_put (hexec : p.tables.exec = Jvm.exec) (hb : c.code = cc) {own ref C : String} {T : u_T} {N ci index : Nat} {ty0 : Nat → FieldType} (hts : ∀ w ∈ am_tb, w.before args s = true) (hcl : am_cl C T N ty0 ci) (hown : s.vm.findClass own = some m.cls) (hK : va_K D vwCl tys s) (hR : am_R B X D cA h H) (hS0 : va_S (am_A B) H0 H locs) {a : Nat} {fs : List Value} (he : h[a]? = some (.inr (ci, fs))) (k : Nat) (hk : k < N) (hlink : (Cond.fieldLink own index ref (T k).2.1 (T k).2.2.1).before args s = true) (hsame : ∀ x, s.fieldFound? (T k).1 (T k).2.1 (T k).2.2.1 = some x → s.fieldFound? ref (T k).2.1 (T k).2.2.1 = some x) (hfin : (T k).2.2.2 = false ∨ ((T k).2.2.2 = true ∧ meth.name = "<init>" ∧ (T k).1 = own)) {v : Value} (hnf : narrow (ty0 k) (am_v B X v) = am_v B X v ∧ fits (ty0 k) (am_v B X v) = true) (hl : k < fs.length)
    (hdg : decode cc pc = .ok (.putfield index, 3)) (kk : ∀ (H1 : Heap) (locs1 : List Loc), am_R B X D cA (h.set a (.inr (ci, fs.set k v))) H1 → va_S (am_A B) H0 H1 locs1 → W p l e R s m args below meth c H1 locs1 cells slots Q (F0 m (pc + 3) ls rest)) : W p l e R s m args below meth c H locs cells slots Q (F0 m pc ls (am_v B X v :: .ref (B + a) :: rest)) := by
  obtain ⟨hc, hin, hty, hnm⟩ := hcl
  have hap := va_apart (own := own) hts hin ty0 hty hnm hK hc
  obtain ⟨r, h1, cell, q1, q2, q3, q4⟩ := hR.2 a _ (am_w_at he)
  have hr : r = (C, T, N) := Option.some.inj (h1.symm.trans hc)
  subst hr
  obtain ⟨hS, hfc, kC, hkC, hkind⟩ := hK.1 ci _ hc
  obtain ⟨cf, kf, fi, f, hi, hsl⟩ := hS k hk
  have hlay := hts _ (hin _ (u_in_lay hk))
  have hst := (u_facts hfc hkC (u_lays hts hin hk) hi).1
  have hl2 : k < (fs.map (am_v B X)).length := by rw [List.length_map]; exact hl
  have fin : ∀ (H1 : Heap), H1[B + a]? = some (cell.setSlot ((D.2 ci) k) (am_v B X v)) → H1.size = H.size → (∀ q, q ≠ B + a → H1[q]? = H[q]?) → W p l e R s m args below meth c H1 (locs ++ [⟨B + a, (D.2 ci) k⟩]) cells slots Q (F0 m (pc + 3) ls rest) := by
    intro H1 e1 e2 e3
    refine kk H1 _ (hR.put he e2 e3 ⟨_, hc, ?_⟩) (hS0.put e2 e3 (Nat.le_add_right B a))
    show t_OB (B + a) _ _ _ H1 (vp_V ((fs.set k v).map (am_v B X)))
    rw [am_map_set]
    exact t_OB.to (V := updV (vp_V (fs.map (am_v B X))) k (am_v B X v)) ⟨_, e1, q2, q3, t_set q4 hap hk (am_v B X v)⟩ (fun j _ => vp_updV_set hl2 (am_v B X v) j)
  rcases hfin with hfin | ⟨hfin, hin2, hdecl⟩
  · unfold u_lay at hlay
    rw [if_neg (by rw [hfin]; decide)] at hlay
    have h6 := u_store hfc hkC hkind hlay hi (hty k hk) hnf.1 hnf.2
    refine W.putK hexec hb (f := f) ⟨hown, hlink, ⟨_, _, _, hsame _ hi⟩, hst⟩ (by rw [q2]; exact h6) q1 q3 (by rw [hsl]; exact k2_hasslot (q4 k hk)) rfl rfl hdg fun H1 e1 e2 e3 => ?_
    rw [hsl] at e1 ⊢
    exact fin H1 e1 e2 e3
  · unfold u_lay at hlay
    rw [if_pos hfin] at hlay
    have hcf : m.cls = cf := by
      obtain ⟨_, _, c', _, _, _, -, -, hf', -, -, -, hown2, -⟩ := Cond.laysFinal_spec hlay
      have e1 : c' = cf := by have := hi.symm.trans hf'; simp at this; exact this.1.symm
      rw [hdecl] at hown2
      rw [← e1]; exact Option.some.inj (hown.symm.trans hown2)
    have h6 := u_fits hfc hkC hkind (Or.inr hlay) hi (hty k hk) hnf.1 hnf.2
    refine W.putFinK hexec hb hown hlink (hsame _ hi) hst hcf hin2 (by rw [q2]; exact h6) q1 q3 (by rw [hsl]; exact k2_hasslot (q4 k hk)) rfl rfl hdg fun H1 e1 e2 e3 => ?_
    rw [hsl] at e1 ⊢
    exact fin H1 e1 e2 e3
theorem am_iast (hexec : p.tables.exec = Jvm.exec) (hb : c.code = cc) (hK : va_K D vwCl (am_ty cA) s) (hR : am_R B X D cA h H) (hS : va_S (am_A B) H0 H locs) {a n : Nat} {f : Nat → Int32} (ha : h[a]? = some (.inl (0, n, .inl f))) {i x : Int32} (hin : vp_in i n) (hdg : decode cc pc = .ok (.iastore, 1))
    (kk : ∀ (H1 : Heap) (locs1 : List Loc), am_R B X D cA (h.set a (.inl (0, n, .inl (upd f i.toNatClampNeg x)))) H1 → va_S (am_A B) H0 H1 locs1 → W p l e R s m args below meth c H1 locs1 cells slots Q (F0 m (pc + 1) ls rest)) : W p l e R s m args below meth c H locs cells slots Q (F0 m pc ls (.int x :: .int i :: .ref (B + a) :: rest)) := by
  have hcell : H[B + a]? = some (arrV (cA 0) n (fun j => .int (f j))) := hR.2 a _ (am_w_at ha)
  refine W.iast hexec hb hcell ((hK.2 0 _ rfl).1 n (fun j => .int (f j))) (fun q => by cases q) (by rw [arrV_size]; exact hin) rfl rfl hdg fun H1 e1 z oq => ?_
  refine kk H1 _ (hR.put ha z oq ?_) (hS.put z oq (Nat.le_add_right B a))
  show H1[B + a]? = some (arrV (cA 0) n (fun j => .int (upd f i.toNatClampNeg x j)))
  rw [e1, arrV_store]
  congr 2
  funext q
  by_cases hq : q = i.toNatClampNeg
  · simp [updV, upd, hq]
  · simp [updV, upd, hq]
theorem am_last (hexec : p.tables.exec = Jvm.exec) (hb : c.code = cc) (hK : va_K D vwCl (am_ty cA) s) (hR : am_R B X D cA h H) (hS : va_S (am_A B) H0 H locs) {a n : Nat} {f : Nat → Int64} (ha : h[a]? = some (.inl (1, n, .inr (.inl f)))) {i : Int32} {x : Int64} (hin : vp_in i n) (hdg : decode cc pc = .ok (.lastore, 1))
    (kk : ∀ (H1 : Heap) (locs1 : List Loc), am_R B X D cA (h.set a (.inl (1, n, .inr (.inl (vp_updL f i.toNatClampNeg x))))) H1 → va_S (am_A B) H0 H1 locs1 → W p l e R s m args below meth c H1 locs1 cells slots Q (F0 m (pc + 1) ls rest)) : W p l e R s m args below meth c H locs cells slots Q (F0 m pc ls (.long x :: .int i :: .ref (B + a) :: rest)) := by
  have hcell : H[B + a]? = some (arrV (cA 1) n (fun j => .long (f j))) := hR.2 a _ (am_w_at ha)
  refine W.last hexec hb hcell ((hK.2 1 _ rfl).1 n (fun j => .long (f j))) (fun q => by cases q) (by rw [arrV_size]; exact hin) rfl rfl hdg fun H1 e1 z oq => ?_
  refine kk H1 _ (hR.put ha z oq ?_) (hS.put z oq (Nat.le_add_right B a))
  show H1[B + a]? = some (arrV (cA 1) n (fun j => .long (vp_updL f i.toNatClampNeg x j)))
  rw [e1, arrV_store]
  congr 2
  funext q
  by_cases hq : q = i.toNatClampNeg
  · simp [updV, vp_updL, hq]
  · simp [updV, vp_updL, hq]
theorem am_zast (hexec : p.tables.exec = Jvm.exec) (hb : c.code = cc) (hK : va_K D vwCl (am_ty cA) s) (hR : am_R B X D cA h H) (hS : va_S (am_A B) H0 H locs) {a n : Nat} {f : Nat → Int32} (ha : h[a]? = some (.inl (2, n, .inl f))) {i x : Int32} (hin : vp_in i n) (hx1 : x = 0 ∨ x = 1) (hdg : decode cc pc = .ok (.bastore, 1))
    (kk : ∀ (H1 : Heap) (locs1 : List Loc), am_R B X D cA (h.set a (.inl (2, n, .inl (upd f i.toNatClampNeg x)))) H1 → va_S (am_A B) H0 H1 locs1 → W p l e R s m args below meth c H1 locs1 cells slots Q (F0 m (pc + 1) ls rest)) : W p l e R s m args below meth c H locs cells slots Q (F0 m pc ls (.int x :: .int i :: .ref (B + a) :: rest)) := by
  have hcell : H[B + a]? = some (arrV (cA 2) n (fun j => .int (f j))) := hR.2 a _ (am_w_at ha)
  have hnr : narrow .boolean (.int x) = .int x := by rcases hx1 with rfl | rfl <;> decide
  refine W.zast hexec hb hcell ((hK.2 2 _ rfl).1 n (fun j => .int (f j))) (fun q => by cases q) (by rw [arrV_size]; exact hin) rfl rfl hdg fun H1 e1 z oq => ?_
  refine kk H1 _ (hR.put ha z oq ?_) (hS.put z oq (Nat.le_add_right B a))
  show H1[B + a]? = some (arrV (cA 2) n (fun j => .int (upd f i.toNatClampNeg x j)))
  rw [e1, arrV_store, hnr]
  congr 2
  funext q
  by_cases hq : q = i.toNatClampNeg
  · simp [updV, upd, hq]
  · simp [updV, upd, hq]
theorem am_aastN (hexec : p.tables.exec = Jvm.exec) (hb : c.code = cc) (hK : va_K D vwCl (am_ty cA) s) (hR : am_R B X D cA h H) (hS : va_S (am_A B) H0 H locs) {a t n : Nat} {f : Nat → Option Nat} (ha : h[a]? = some (.inl (t, n, .inr (.inr (.inr (.inr f)))))) (ht : t = 3 ∨ t = 4) {i : Int32} (hin : vp_in i n) (hdg : decode cc pc = .ok (.aastore, 1))
    (kk : ∀ (H1 : Heap) (locs1 : List Loc), am_R B X D cA (h.set a (.inl (t, n, .inr (.inr (.inr (.inr (va_up f i.toNatClampNeg none))))))) H1 → va_S (am_A B) H0 H1 locs1 → W p l e R s m args below meth c H1 locs1 cells slots Q (F0 m (pc + 1) ls rest)) : W p l e R s m args below meth c H locs cells slots Q (F0 m pc ls (.null :: .int i :: .ref (B + a) :: rest)) := by
  have hcell : H[B + a]? = some (arrV (cA t) n (fun j => va_rf ((f j).map (fun i => B + i)))) := hR.2 a _ (am_w_at ha)
  have hty : ∃ C, (am_ty cA)[t]? = some (cA t, .object C) := by rcases ht with rfl | rfl <;> exact ⟨_, rfl⟩
  obtain ⟨C, hty⟩ := hty
  refine va_WaastN hexec hb hcell ((hK.2 t _ hty).1 n (fun j => va_rf ((f j).map (fun i => B + i)))) (fun q => by cases q) (by rw [arrV_size]; exact hin) rfl rfl hdg fun H1 e1 z oq => ?_
  refine kk H1 _ (hR.put ha z oq ?_) (hS.put z oq (Nat.le_add_right B a))
  show H1[B + a]? = some (arrV (cA t) n (fun j => va_rf ((va_up f i.toNatClampNeg none j).map (fun i => B + i))))
  rw [e1, arrV_store]
  congr 2
  funext q
  by_cases hq : q = i.toNatClampNeg
  · simp [updV, va_up, hq, va_rf]
  · simp [updV, va_up, hq]
theorem am_aast (hexec : p.tables.exec = Jvm.exec) (hb : c.code = cc) (hts : ∀ w ∈ am_tb, w.before args s = true) (hK : va_K D vwCl (am_ty cA) s) (hR : am_R B X D cA h H) (hS : va_S (am_A B) H0 H locs) {a v t n ci : Nat} {fs : List Value} {f : Nat → Option Nat} (ha : h[a]? = some (.inl (t, n, .inr (.inr (.inr (.inr f)))))) (hv : h[v]? = some (.inr (ci, fs))) {E : String} {r : vw_C} (hty : (am_ty cA)[t]? = some (cA t, .object E)) (hc : vwCl[ci]? = some r) (hca : r.1 = E ∨ va_Nw (.castable r.1 E) s) {i : Int32} (hin : vp_in i n) (hdg : decode cc pc = .ok (.aastore, 1))
    (kk : ∀ (H1 : Heap) (locs1 : List Loc), am_R B X D cA (h.set a (.inl (t, n, .inr (.inr (.inr (.inr (va_up f i.toNatClampNeg (some v)))))))) H1 → va_S (am_A B) H0 H1 locs1 → W p l e R s m args below meth c H1 locs1 cells slots Q (F0 m (pc + 1) ls rest)) : W p l e R s m args below meth c H locs cells slots Q (F0 m pc ls (.ref (B + v) :: .int i :: .ref (B + a) :: rest)) := by
  have hcell : H[B + a]? = some (arrV (cA t) n (fun j => va_rf ((f j).map (fun i => B + i)))) := hR.2 a _ (am_w_at ha)
  have hlt : i.toNatClampNeg < n := Nat.not_le.mp fun q => hin (Or.inr q)
  have h0 : ¬ i < 0 := fun q => hin (Or.inl q)
  obtain ⟨r', hr', cellV, g1, g2, g3, -⟩ := hR.2 v _ (am_w_at hv)
  have hcls := (hK.1 ci r hc).2
  obtain ⟨kC, hkC, -⟩ := hcls.2
  obtain ⟨kA, comp, k1, k2, k3, -⟩ := (hK.2 t _ hty).2
  have hasg : s.vm.assignable (D.1 ci) comp = true ∧ ∃ kc, s.vm.classes[comp]? = some kc := by
    rcases hca with he | he
    · have hcomp : comp = D.1 ci := by
        have h2 : s.vm.findClass E = some (D.1 ci) := by rw [← he]; exact hcls.1
        exact Option.some.inj (k3.symm.trans h2)
      rw [hcomp]
      exact ⟨va_assign hcls, kC, hkC⟩
    · obtain ⟨c1, c2, f1, f2, f3⟩ := Cond.castable_spec (va_Nw.use (A := args) rfl he)
      have e1 : c1 = D.1 ci := Option.some.inj (f1.symm.trans hcls.1)
      have e2 : c2 = comp := Option.some.inj (f2.symm.trans k3)
      subst e1; subst e2
      obtain ⟨kE, hkE, -⟩ := Vm.findClass_spec k3
      exact ⟨f3, kE, hkE⟩
  obtain ⟨hasg, kc, hkc⟩ := hasg
  refine W.aast hexec hb hcell (fun q h => by cases h) (fun h => by cases h) k1 k2 rfl hkc ⟨h0, by rw [arrV_size]; exact hlt⟩ g1 (fun q h => by rw [g3] at h; cases h) (by rw [g2]; exact hkC) (by rw [g2]; exact hasg) rfl rfl hdg fun H1 e1 z oq => ?_
  refine kk H1 _ (hR.put ha z oq ?_) (hS.put z oq (Nat.le_add_right B a))
  show H1[B + a]? = some (arrV (cA t) n (fun j => va_rf ((va_up f i.toNatClampNeg (some v) j).map (fun i => B + i))))
  rw [e1, arrV_store]
  congr 2
  funext q
  by_cases hq : q = i.toNatClampNeg
  · simp [updV, va_up, hq, va_rf]
  · simp [updV, va_up, hq]
end AMS
theorem am_plain {B : Nat} {X : Nat → Option Nat} {fs : List Value} (h : ∀ v ∈ fs, (∀ i, v ≠ .ref i) ∧ ∀ i, v ≠ .retAddr i) : fs.map (am_v B X) = fs := by
  refine (List.map_congr_left (fun v hv => ?_)).trans (List.map_id fs)
  have h1 := h v hv
  cases v with
  | ref i => exact absurd rfl (h1.1 i)
  | retAddr i => exact absurd rfl (h1.2 i)
  | _ => rfl
theorem am_born {B : Nat} {X : Nat → Option Nat} {D : va_G} {cA : Nat → Nat} {s : State} {H1 : Heap} {t : ArrayType} {n q : Nat} {c1 : ClassId} (hK : va_K D vwCl (am_ty cA) s) (htag : am_tag t ≠ 9) (hNm : s.vm.findClass ("[" ++ (newarray.typeOf t).toString) = some c1) (e1 : H1[q]? = some (arrV c1 n (fun _ => defaultValue (newarray.typeOf t)))) : va_at D vwCl (q, am_e B X cA (.inl (am_tag t, n, am_zero (am_tag t)))) H1 := by
  cases t with
  | int =>
    have e2 : s.vm.findClass ("[" ++ FieldType.int.toString) = some (cA 0) := (hK.2 0 _ rfl).2
    cases hNm.symm.trans e2
    exact e1
  | long =>
    have e2 : s.vm.findClass ("[" ++ FieldType.long.toString) = some (cA 1) := (hK.2 1 _ rfl).2
    cases hNm.symm.trans e2
    exact e1
  | boolean =>
    have e2 : s.vm.findClass ("[" ++ FieldType.boolean.toString) = some (cA 2) := (hK.2 2 _ rfl).2
    cases hNm.symm.trans e2
    exact e1
  | _ => exact absurd rfl htag
theorem am_may_ok {cA : Nat → Nat} {t ci : Nat} (h : am_may t ci = true) : ∃ (E : String) (r : vw_C), (am_ty cA)[t]? = some (cA t, .object E) ∧ vwCl[ci]? = some r ∧ (r.1 = E ∨ Cond.castable r.1 E ∈ am_xw) := by
  have h2 : (t = 4 ∧ ci = 5) ∨ (t = 3 ∧ (ci = 0 ∨ ci = 2 ∨ ci = 3 ∨ ci = 4)) := by
    simp only [am_may, Bool.or_eq_true, Bool.and_eq_true, beq_iff_eq] at h
    omega
  rcases h2 with ⟨rfl, rfl⟩ | ⟨rfl, rfl | rfl | rfl | rfl⟩
  · exact ⟨_, _, rfl, rfl, Or.inl rfl⟩
  · exact ⟨_, _, rfl, rfl, Or.inr (List.mem_filter.mpr ⟨by decide +kernel, rfl⟩)⟩
  · exact ⟨_, _, rfl, rfl, Or.inr (List.mem_filter.mpr ⟨by decide +kernel, rfl⟩)⟩
  · exact ⟨_, _, rfl, rfl, Or.inr (List.mem_filter.mpr ⟨by decide +kernel, rfl⟩)⟩
  · exact ⟨_, _, rfl, rfl, Or.inr (List.mem_filter.mpr ⟨by decide +kernel, rfl⟩)⟩
theorem am_call_inv {M : Nat} {as r : List Value} {o : am_O} (h : am_call M as r = some o) : (r.map fun v => v.category).sum ≤ 8 ∧ o = .inr (.inr (M, as, r)) := by
  unfold am_call at h
  split at h
  · rename_i hc
    exact ⟨hc, (Option.some.inj h).symm⟩
  · cases h
theorem am_spc_inv {rs : List Nat} {pc : Nat} {l : am_L} {st : List Value} {h : am_H} {f' : am_F} {h' : am_H} (hd : am_spc rs pc l st h = some (.inl (f', h'))) : rs = [] ∧ ∃ (a : Nat) (r : List Value), st = .ref a :: r ∧ (r.map fun v => v.category).sum ≤ 8 ∧ (Sum.inl (f', h') : am_O) = .inl ((pc + 3, l, r), h) := by
  unfold am_spc at hd
  split at hd
  · split at hd
    · split at hd
      · rename_i hc
        exact ⟨rfl, _, _, rfl, hc, (Option.some.inj hd).symm⟩
      · cases hd
    · cases hd
  · split at hd
    · have := (am_call_inv hd).2
      cases this
    · cases hd
  · cases hd
theorem am_ret_inv {t : Nat} {st : List Value} {o : am_O} (hd : am_ret t st = some o) : ∃ x : Int32, st = [.int x] ∧ am_nw t x = true ∧ o = .inr (.inl (some (.int x))) := by
  unfold am_ret at hd
  split at hd
  · split at hd
    · rename_i hc
      exact ⟨_, rfl, hc, (Option.some.inj hd).symm⟩
    · cases hd
  · cases hd
theorem am_retL_inv {st : List Value} {o : am_O} (hd : am_retL st = some o) : ∃ x : Int64, st = [.long x] ∧ o = .inr (.inl (some (.long x))) := by
  unfold am_retL at hd
  split at hd
  · exact ⟨_, rfl, (Option.some.inj hd).symm⟩
  · cases hd
theorem am_retA_inv {st : List Value} {o : am_O} (hd : am_retA st = some o) : ∃ v : Value, st = [v] ∧ (v = .null ∨ ∃ a, v = .ref a) ∧ o = .inr (.inl (some v)) := by
  unfold am_retA at hd
  split at hd
  · exact ⟨_, rfl, Or.inr ⟨_, rfl⟩, (Option.some.inj hd).symm⟩
  · exact ⟨_, rfl, Or.inl rfl, (Option.some.inj hd).symm⟩
  · cases hd
theorem am_retV_inv {st : List Value} {o : am_O} (hd : am_retV st = some o) : st = [] ∧ o = .inr (.inl none) := by
  unfold am_retV at hd
  split at hd
  · exact ⟨rfl, (Option.some.inj hd).symm⟩
  · cases hd
theorem am_sta_inv {rs : List Nat} {st : List Value} {o : am_O} (hd : am_sta rs st = some o) : ∃ (n M : Nat) (as r : List Value), rs = [n, M] ∧ am_pop n st = some (as, r) ∧ (r.map fun v => v.category).sum ≤ 8 ∧ o = .inr (.inr (M, as, r)) := by
  unfold am_sta at hd
  split at hd
  · split at hd
    · rename_i hp
      exact ⟨_, _, _, _, rfl, hp, (am_call_inv hd).1, (am_call_inv hd).2⟩
    · cases hd
  · cases hd
theorem am_inv_inv {rs : List Nat} {st : List Value} {h : am_H} {o : am_O} (hd : am_inv rs st h = some o) : ∃ (n : Nat) (ds : List Nat) (as : List Value) (v : Value) (r : List Value) (ci M : Nat), rs = n :: ds ∧ am_pop n st = some (as, v :: r) ∧ am_rec h v = some ci ∧ am_dis ds ci = some M ∧ (r.map fun v => v.category).sum ≤ 8 ∧ o = .inr (.inr (M, v :: as, r)) := by
  unfold am_inv at hd
  split at hd
  · split at hd
    · rename_i hp
      split at hd
      · rename_i hr
        split at hd
        · rename_i hm
          exact ⟨_, _, _, _, _, _, _, rfl, hp, hr, hm, (am_call_inv hd).1, (am_call_inv hd).2⟩
        · cases hd
      · cases hd
    · cases hd
  · cases hd
theorem am_spc_inv2 {rs : List Nat} {pc : Nat} {l : am_L} {st : List Value} {h : am_H} {o : Option Value ⊕ (Nat × List Value × List Value)} (hd : am_spc rs pc l st h = some (.inr o)) : ∃ (n M : Nat) (as : List Value) (a : Nat) (r : List Value), rs = [n, M] ∧ am_pop n st = some (as, .ref a :: r) ∧ (r.map fun v => v.category).sum ≤ 8 ∧ o = .inr (M, .ref a :: as, r) := by
  unfold am_spc at hd
  split at hd
  · split at hd
    · split at hd
      · cases hd
      · cases hd
    · cases hd
  · split at hd
    · rename_i hp
      exact ⟨_, _, _, _, _, rfl, hp, (am_call_inv hd).1, Sum.inr.inj (am_call_inv hd).2⟩
    · cases hd
  · cases hd
theorem am_pop_inv {n : Nat} {st as r : List Value} (h : am_pop n st = some (as, r)) : st = as.reverse ++ r ∧ as.length = n := by
  unfold am_pop at h
  split at h
  · rename_i hn
    cases h
    refine ⟨?_, ?_⟩
    · rw [List.reverse_reverse, List.take_append_drop]
    · rw [List.length_reverse, List.length_take]
      omega
  · cases h
end
section
/-! Each instruction of the small machine that goes on is the machine's own. -/
theorem am_inl {f f' : am_F} {h h' : am_H} (e : (Sum.inl (f', h') : am_O) = Sum.inl (f, h)) : f' = f ∧ h' = h := by
  cases e
  exact ⟨rfl, rfl⟩
theorem am_bt {P : Bool} {a b : Nat} (h : P = true) : a = bif P then a else b := by rw [h]; rfl
theorem am_bf {P : Bool} {a b : Nat} (h : P = false) : b = bif P then a else b := by rw [h]; rfl
theorem am_len_tx (i : Nat) : (am_tx.map List.length).getD i 0 = (am_tx.getD i []).length := by
  rw [List.getD_eq_getElem?_getD, List.getD_eq_getElem?_getD, List.getElem?_map]
  cases am_tx[i]? <;> rfl
section AMG
variable {p : Program} {l : Launch} {e : Env} {R : Room} {s : State} {m : MethodId} {args : Array Value} {below : List Frame} {meth : Method} {c : Code} {H : Heap} {locs : List Loc} {cells slots : Nat} {Q : State → Prop}
variable {cc : ByteArray} {pc : Nat} {ls : Array Slot} {rest : List Value}
theorem am_aloadq (hx : p.tables.exec = Jvm.exec) (hb : c.code = cc) {i : Nat} {y : Option Nat} (hd : decode cc pc = .ok (.aload i, 2)) (hl : ls[i]? = some (.val (va_rf y))) (k : W p l e R s m args below meth c H locs cells slots Q (F0 m (pc + 2) ls (va_rf y :: rest))) : W p l e R s m args below meth c H locs cells slots Q (F0 m pc ls rest) := by
  cases y with
  | none => exact lv_aloadN hx hb hd hl k
  | some a => exact lv_aload hx hb hd hl k
theorem am_aload_nq (hx : p.tables.exec = Jvm.exec) (hb : c.code = cc) {i : Fin 4} {y : Option Nat} (hd : decode cc pc = .ok (.aload_n i, 1)) (hl : ls[(i : Nat)]? = some (.val (va_rf y))) (k : W p l e R s m args below meth c H locs cells slots Q (F0 m (pc + 1) ls (va_rf y :: rest))) : W p l e R s m args below meth c H locs cells slots Q (F0 m pc ls rest) := by
  cases y with
  | none => exact lv_aload_nN hx hb hd rfl hl k
  | some a => exact lv_aload_n hx hb hd rfl hl k
theorem am_astoreq (hx : p.tables.exec = Jvm.exec) (hb : c.code = cc) {i nL : Nat} {y : Option Nat} {lv lv' : List (Nat × Value)} (hd : decode cc pc = .ok (.astore i, 2)) (h : lv_has ls nL lv) (hn : i < nL) (hl : (i, va_rf y) :: lv.filter (fun q => !(q.1 == i) && !(q.1 + 1 == i && q.2.category == 2)) = lv') (kk : ∀ ls' : Array Slot, lv_has ls' nL lv' → W p l e R s m args below meth c H locs cells slots Q (F0 m (pc + 2) ls' rest)) : W p l e R s m args below meth c H locs cells slots Q (F0 m pc ls (va_rf y :: rest)) := by
  cases y with
  | none => exact lv_astoreN hx hb hd h hn hl kk
  | some a => exact lv_astore hx hb hd h hn hl kk
theorem am_astore_nq (hx : p.tables.exec = Jvm.exec) (hb : c.code = cc) {i : Fin 4} {nL : Nat} {y : Option Nat} {lv lv' : List (Nat × Value)} (hd : decode cc pc = .ok (.astore_n i, 1)) (h : lv_has ls nL lv) (hn : (i : Nat) < nL) (hl : ((i : Nat), va_rf y) :: lv.filter (fun q => !(q.1 == (i : Nat)) && !(q.1 + 1 == (i : Nat) && q.2.category == 2)) = lv') (kk : ∀ ls' : Array Slot, lv_has ls' nL lv' → W p l e R s m args below meth c H locs cells slots Q (F0 m (pc + 1) ls' rest)) : W p l e R s m args below meth c H locs cells slots Q (F0 m pc ls (va_rf y :: rest)) := by
  cases y with
  | none => exact lv_astore_nN hx hb hd rfl h hn hl kk
  | some a => exact lv_astore_n hx hb hd rfl h hn hl kk
end AMG
set_option maxHeartbeats 4000000 in
theorem am_snd {B : Nat} {X : Nat → Option Nat} {D : va_G} {cA : Nat → Nat} {sc : Nat × (Nat → Int32)} {own nm : String} {cc : ByteArray} {nL : Nat} {ret : Option FieldType} {df : Nat → List Value}
    {p : Program} {l : Launch} {e : Env} {R : Room} {s : State} {m : MethodId} {args : Array Value} {below : List Frame} {meth : Method} {c : Code} {H : Heap} {locs : List Loc} {cells slots : Nat} {Q : State → Prop} {ls : Array Slot}
    (hC : am_C B X D cA sc own nm cc nL ret p s m args meth c) (hF : 1 ≤ R.frames ∧ 21 ≤ R.locals) {q : am_I} (hd : decode cc q.1 = .ok (q.2.1, q.2.2.1)) (hok : am_okP df own nm nL ret q) {l0 : am_L} {st : List Value} {h : am_H} (hl : lv_has ls nL (am_lm B X l0)) (hR : am_R B X D cA h H) (hS : va_S (am_A B) s.heap H locs)
    {f' : am_F} {h' : am_H} (hdo : am_do df sc q l0 st h = some (.inl (f', h'))) (hc : cells + (h'.length - h.length) ≤ R.cells) (hs : slots + (am_sl h' - am_sl h) ≤ R.slots)
    (k : ∀ (ls' : Array Slot) (H' : Heap) (locs' : List Loc), lv_has ls' nL (am_lm B X f'.2.1) → am_R B X D cA h' H' → va_S (am_A B) s.heap H' locs' → W p l e R s m args below meth c H' locs' (cells + (h'.length - h.length)) (slots + (am_sl h' - am_sl h)) Q (F0 m f'.1 ls' (am_vs B X f'.2.2))) :
    W p l e R s m args below meth c H locs cells slots Q (F0 m q.1 ls (am_vs B X st)) := by
  obtain ⟨hx, hb, hml, hown, hts, hret, hlocks, hnm, hG⟩ := hC
  obtain ⟨pc, ins, len, rs, cv⟩ := q
  obtain ⟨hK, ⟨b0, hb0, hbB, hX0⟩, hBs, ⟨adK, adV, hst, hvk, hvr⟩, hnc, hz, hfm, hao1, hao2, hxw⟩ := id hG
  cases ins with
  | iconst n =>
    have hok : len = 1 := hok
    subst hok
    have e1 := (Option.some.inj (show some _ = some _ from hdo)).symm
    obtain ⟨rfl, e2⟩ := am_inl e1
    subst e2
    simp only [Nat.sub_self, Nat.add_zero] at k
    exact lv_iconst hx hb hd rfl (k ls H locs hl hR hS)
  | bipush n =>
    have hok : len = 2 := hok
    subst hok
    have e1 := (Option.some.inj (show some _ = some _ from hdo)).symm
    obtain ⟨rfl, e2⟩ := am_inl e1
    subst e2
    simp only [Nat.sub_self, Nat.add_zero] at k
    exact lv_bipush hx hb hd rfl (k ls H locs hl hR hS)
  | sipush n =>
    have hok : len = 3 := hok
    subst hok
    have e1 := (Option.some.inj (show some _ = some _ from hdo)).symm
    obtain ⟨rfl, e2⟩ := am_inl e1
    subst e2
    simp only [Nat.sub_self, Nat.add_zero] at k
    exact lv_sipush hx hb hd rfl (k ls H locs hl hR hS)
  | lconst n =>
    have hok : len = 1 := hok
    subst hok
    have e1 := (Option.some.inj (show some _ = some _ from hdo)).symm
    obtain ⟨rfl, e2⟩ := am_inl e1
    subst e2
    simp only [Nat.sub_self, Nat.add_zero] at k
    exact lv_lconst hx hb hd rfl (k ls H locs hl hR hS)
  | aconst_null =>
    have hok : len = 1 := hok
    subst hok
    have e1 := (Option.some.inj (show some _ = some _ from hdo)).symm
    obtain ⟨rfl, e2⟩ := am_inl e1
    subst e2
    simp only [Nat.sub_self, Nat.add_zero] at k
    exact lv_null hx hb hd (k ls H locs hl hR hS)
  | ldc idx =>
    obtain ⟨rfl, hok⟩ : len = 2 ∧ _ := hok
    have e1 := (Option.some.inj (show some _ = some _ from hdo)).symm
    obtain ⟨rfl, e2⟩ := am_inl e1
    subst e2
    simp only [Nat.sub_self, Nat.add_zero] at k
    rcases hok with ⟨x, rfl, hw⟩ | ⟨i, tx, rfl, hi, hsr⟩
    · exact lv_ldc hx hb hown (hts _ hw) hd (k ls H locs hl hR hS)
    · refine va_ldcS hx hb hown (hvr i _ hsr) hd ?_
      have e3 : am_v B X (.retAddr (i + 1)) = .ref (adK i) := by
        show va_rf (X (i + 1)) = _
        rw [(hst i hi).1]; rfl
      rw [← e3]
      exact k ls H locs hl hR hS
  | ldc_w idx =>
    obtain ⟨rfl, x, rfl, hw⟩ : len = 3 ∧ _ := hok
    have e1 := (Option.some.inj (show some _ = some _ from hdo)).symm
    obtain ⟨rfl, e2⟩ := am_inl e1
    subst e2
    simp only [Nat.sub_self, Nat.add_zero] at k
    exact lv_ldcw hx hb hown (hts _ hw) hd (k ls H locs hl hR hS)
  | ldc2_w idx =>
    obtain ⟨rfl, x, rfl, hw⟩ : len = 3 ∧ _ := hok
    have e1 := (Option.some.inj (show some _ = some _ from hdo)).symm
    obtain ⟨rfl, e2⟩ := am_inl e1
    subst e2
    simp only [Nat.sub_self, Nat.add_zero] at k
    exact lv_ldc2 hx hb hown (hts _ hw) hd (k ls H locs hl hR hS)
  | getstatic idx =>
    obtain ⟨rfl, hok⟩ : len = 3 ∧ _ := hok
    have e1 := (Option.some.inj (show some _ = some _ from hdo)).symm
    obtain ⟨rfl, e2⟩ := am_inl e1
    subst e2
    simp only [Nat.sub_self, Nat.add_zero] at k
    rcases hok with ⟨rfl, hw⟩ | ⟨rfl, hw⟩
    · exact va_gets hx hb hz hS hown (hts _ hw) (fun _ h9 => h9) hd (k ls H locs hl hR hS)
    · exact va_gets hx hb hfm hS hown (hts _ hw) (fun _ h9 => h9) hd (k ls H locs hl hR hS)
  | iload_n i =>
    have hok : len = 1 := hok
    subst hok
    obtain ⟨x, hg, e1⟩ := am_ldI_inv (show am_ldI _ _ _ _ _ = _ from hdo)
    obtain ⟨rfl, e2⟩ := am_inl e1
    subst e2
    simp only [Nat.sub_self, Nat.add_zero] at k
    exact lv_iload_n hx hb hd rfl (am_lg_at hl hg) (k ls H locs hl hR hS)
  | iload i =>
    have hok : len = 2 := hok
    subst hok
    obtain ⟨x, hg, e1⟩ := am_ldI_inv (show am_ldI _ _ _ _ _ = _ from hdo)
    obtain ⟨rfl, e2⟩ := am_inl e1
    subst e2
    simp only [Nat.sub_self, Nat.add_zero] at k
    exact lv_iload hx hb hd (am_lg_at hl hg) (k ls H locs hl hR hS)
  | lload_n i =>
    have hok : len = 1 := hok
    subst hok
    obtain ⟨x, hg, e1⟩ := am_ldL_inv (show am_ldL _ _ _ _ _ = _ from hdo)
    obtain ⟨rfl, e2⟩ := am_inl e1
    subst e2
    simp only [Nat.sub_self, Nat.add_zero] at k
    exact lv_lload_n hx hb hd rfl (am_lg_at hl hg) (k ls H locs hl hR hS)
  | lload i =>
    have hok : len = 2 := hok
    subst hok
    obtain ⟨x, hg, e1⟩ := am_ldL_inv (show am_ldL _ _ _ _ _ = _ from hdo)
    obtain ⟨rfl, e2⟩ := am_inl e1
    subst e2
    simp only [Nat.sub_self, Nat.add_zero] at k
    exact lv_lload hx hb hd (am_lg_at hl hg) (k ls H locs hl hR hS)
  | aload_n i =>
    have hok : len = 1 := hok
    subst hok
    rcases am_ldA_inv (show am_ldA _ _ _ _ _ = _ from hdo) with ⟨x, hg, e1⟩ | ⟨hg, e1⟩ | ⟨x, hg, e1⟩
    · obtain ⟨rfl, e2⟩ := am_inl e1; subst e2; simp only [Nat.sub_self, Nat.add_zero] at k; exact lv_aload_n hx hb hd rfl (am_lg_at hl hg) (k ls H locs hl hR hS)
    · obtain ⟨rfl, e2⟩ := am_inl e1; subst e2; simp only [Nat.sub_self, Nat.add_zero] at k; exact lv_aload_nN hx hb hd rfl (am_lg_at hl hg) (k ls H locs hl hR hS)
    · obtain ⟨rfl, e2⟩ := am_inl e1; subst e2; simp only [Nat.sub_self, Nat.add_zero] at k; exact am_aload_nq hx hb hd (am_lg_at hl hg) (k ls H locs hl hR hS)
  | aload i =>
    have hok : len = 2 := hok
    subst hok
    rcases am_ldA_inv (show am_ldA _ _ _ _ _ = _ from hdo) with ⟨x, hg, e1⟩ | ⟨hg, e1⟩ | ⟨x, hg, e1⟩
    · obtain ⟨rfl, e2⟩ := am_inl e1; subst e2; simp only [Nat.sub_self, Nat.add_zero] at k; exact lv_aload hx hb hd (am_lg_at hl hg) (k ls H locs hl hR hS)
    · obtain ⟨rfl, e2⟩ := am_inl e1; subst e2; simp only [Nat.sub_self, Nat.add_zero] at k; exact lv_aloadN hx hb hd (am_lg_at hl hg) (k ls H locs hl hR hS)
    · obtain ⟨rfl, e2⟩ := am_inl e1; subst e2; simp only [Nat.sub_self, Nat.add_zero] at k; exact am_aloadq hx hb hd (am_lg_at hl hg) (k ls H locs hl hR hS)
  | istore_n i =>
    have hok : len = 1 ∧ (i : Nat) < nL := hok
    obtain ⟨rfl, ok2⟩ := hok
    obtain ⟨x, r, rfl, e1⟩ := am_stI_inv (show am_stI _ _ _ _ _ = _ from hdo)
    obtain ⟨rfl, e2⟩ := am_inl e1
    subst e2
    simp only [Nat.sub_self, Nat.add_zero] at k
    exact lv_istore_n hx hb hd rfl hl ok2 rfl (fun ls' hl' => k ls' H locs (am_lm_s1 hl') hR hS)
  | istore i =>
    have hok : len = 2 ∧ i < nL := hok
    obtain ⟨rfl, ok2⟩ := hok
    obtain ⟨x, r, rfl, e1⟩ := am_stI_inv (show am_stI _ _ _ _ _ = _ from hdo)
    obtain ⟨rfl, e2⟩ := am_inl e1
    subst e2
    simp only [Nat.sub_self, Nat.add_zero] at k
    exact lv_istore hx hb hd hl ok2 rfl (fun ls' hl' => k ls' H locs (am_lm_s1 hl') hR hS)
  | lstore_n i =>
    have hok : len = 1 ∧ (i : Nat) + 1 < nL := hok
    obtain ⟨rfl, ok2⟩ := hok
    obtain ⟨x, r, rfl, e1⟩ := am_stL_inv (show am_stL _ _ _ _ _ = _ from hdo)
    obtain ⟨rfl, e2⟩ := am_inl e1
    subst e2
    simp only [Nat.sub_self, Nat.add_zero] at k
    exact lv_lstore_n hx hb hd rfl hl ok2 rfl (fun ls' hl' => k ls' H locs (am_lm_s2 hl') hR hS)
  | lstore i =>
    have hok : len = 2 ∧ i + 1 < nL := hok
    obtain ⟨rfl, ok2⟩ := hok
    obtain ⟨x, r, rfl, e1⟩ := am_stL_inv (show am_stL _ _ _ _ _ = _ from hdo)
    obtain ⟨rfl, e2⟩ := am_inl e1
    subst e2
    simp only [Nat.sub_self, Nat.add_zero] at k
    exact lv_lstore hx hb hd hl ok2 rfl (fun ls' hl' => k ls' H locs (am_lm_s2 hl') hR hS)
  | astore_n i =>
    have hok : len = 1 ∧ (i : Nat) < nL := hok
    obtain ⟨rfl, ok2⟩ := hok
    rcases am_stA_inv (show am_stA _ _ _ _ _ = _ from hdo) with ⟨x, r, rfl, e1⟩ | ⟨r, rfl, e1⟩ | ⟨x, r, rfl, e1⟩
    · obtain ⟨rfl, e2⟩ := am_inl e1; subst e2; simp only [Nat.sub_self, Nat.add_zero] at k; exact lv_astore_n hx hb hd rfl hl ok2 rfl (fun ls' hl' => k ls' H locs (am_lm_s1 hl') hR hS)
    · obtain ⟨rfl, e2⟩ := am_inl e1; subst e2; simp only [Nat.sub_self, Nat.add_zero] at k; exact lv_astore_nN hx hb hd rfl hl ok2 rfl (fun ls' hl' => k ls' H locs (am_lm_s1 hl') hR hS)
    · obtain ⟨rfl, e2⟩ := am_inl e1; subst e2; simp only [Nat.sub_self, Nat.add_zero] at k; exact am_astore_nq hx hb hd hl ok2 rfl (fun ls' hl' => k ls' H locs (am_lm_s1 hl') hR hS)
  | astore i =>
    have hok : len = 2 ∧ (i : Nat) < nL := hok
    obtain ⟨rfl, ok2⟩ := hok
    rcases am_stA_inv (show am_stA _ _ _ _ _ = _ from hdo) with ⟨x, r, rfl, e1⟩ | ⟨r, rfl, e1⟩ | ⟨x, r, rfl, e1⟩
    · obtain ⟨rfl, e2⟩ := am_inl e1; subst e2; simp only [Nat.sub_self, Nat.add_zero] at k; exact lv_astore hx hb hd hl ok2 rfl (fun ls' hl' => k ls' H locs (am_lm_s1 hl') hR hS)
    · obtain ⟨rfl, e2⟩ := am_inl e1; subst e2; simp only [Nat.sub_self, Nat.add_zero] at k; exact lv_astoreN hx hb hd hl ok2 rfl (fun ls' hl' => k ls' H locs (am_lm_s1 hl') hR hS)
    · obtain ⟨rfl, e2⟩ := am_inl e1; subst e2; simp only [Nat.sub_self, Nat.add_zero] at k; exact am_astoreq hx hb hd hl ok2 rfl (fun ls' hl' => k ls' H locs (am_lm_s1 hl') hR hS)
  | iinc i n =>
    have hok : len = 3 ∧ i < nL := hok
    obtain ⟨rfl, ok2⟩ := hok
    obtain ⟨x, hg, e1⟩ := am_inc_inv (show am_inc _ _ _ _ _ _ = _ from hdo)
    obtain ⟨rfl, e2⟩ := am_inl e1
    subst e2
    simp only [Nat.sub_self, Nat.add_zero] at k
    obtain ⟨k9, hk9⟩ := am_lg_mem (B := B) (X := X) hg
    exact lv_iinc hx hb hd hl hk9 rfl ok2 rfl (fun ls' hl' => k ls' H locs (am_lm_s1 hl') hR hS)
  | iadd =>
    have hok : len = 1 := hok
    subst hok
    obtain ⟨y, x, r, rfl, e1⟩ := am_b_inv (show am_b _ _ _ _ _ = _ from hdo)
    obtain ⟨rfl, e2⟩ := am_inl e1
    subst e2
    simp only [Nat.sub_self, Nat.add_zero] at k
    exact lv_iadd hx hb hd (k ls H locs hl hR hS)
  | isub =>
    have hok : len = 1 := hok
    subst hok
    obtain ⟨y, x, r, rfl, e1⟩ := am_b_inv (show am_b _ _ _ _ _ = _ from hdo)
    obtain ⟨rfl, e2⟩ := am_inl e1
    subst e2
    simp only [Nat.sub_self, Nat.add_zero] at k
    exact lv_isub hx hb hd (k ls H locs hl hR hS)
  | imul =>
    have hok : len = 1 := hok
    subst hok
    obtain ⟨y, x, r, rfl, e1⟩ := am_b_inv (show am_b _ _ _ _ _ = _ from hdo)
    obtain ⟨rfl, e2⟩ := am_inl e1
    subst e2
    simp only [Nat.sub_self, Nat.add_zero] at k
    exact lv_imul hx hb hd (k ls H locs hl hR hS)
  | iand =>
    have hok : len = 1 := hok
    subst hok
    obtain ⟨y, x, r, rfl, e1⟩ := am_b_inv (show am_b _ _ _ _ _ = _ from hdo)
    obtain ⟨rfl, e2⟩ := am_inl e1
    subst e2
    simp only [Nat.sub_self, Nat.add_zero] at k
    exact lv_iand hx hb hd (k ls H locs hl hR hS)
  | ior =>
    have hok : len = 1 := hok
    subst hok
    obtain ⟨y, x, r, rfl, e1⟩ := am_b_inv (show am_b _ _ _ _ _ = _ from hdo)
    obtain ⟨rfl, e2⟩ := am_inl e1
    subst e2
    simp only [Nat.sub_self, Nat.add_zero] at k
    exact lv_ior hx hb hd (k ls H locs hl hR hS)
  | ixor =>
    have hok : len = 1 := hok
    subst hok
    obtain ⟨y, x, r, rfl, e1⟩ := am_b_inv (show am_b _ _ _ _ _ = _ from hdo)
    obtain ⟨rfl, e2⟩ := am_inl e1
    subst e2
    simp only [Nat.sub_self, Nat.add_zero] at k
    exact lv_ixor hx hb hd (k ls H locs hl hR hS)
  | ishl =>
    have hok : len = 1 := hok
    subst hok
    obtain ⟨y, x, r, rfl, e1⟩ := am_b_inv (show am_b _ _ _ _ _ = _ from hdo)
    obtain ⟨rfl, e2⟩ := am_inl e1
    subst e2
    simp only [Nat.sub_self, Nat.add_zero] at k
    exact lv_ishl hx hb hd (k ls H locs hl hR hS)
  | ishr =>
    have hok : len = 1 := hok
    subst hok
    obtain ⟨y, x, r, rfl, e1⟩ := am_b_inv (show am_b _ _ _ _ _ = _ from hdo)
    obtain ⟨rfl, e2⟩ := am_inl e1
    subst e2
    simp only [Nat.sub_self, Nat.add_zero] at k
    exact lv_ishr hx hb hd (k ls H locs hl hR hS)
  | ladd =>
    have hok : len = 1 := hok
    subst hok
    obtain ⟨y, x, r, rfl, e1⟩ := am_bL_inv (show am_bL _ _ _ _ _ = _ from hdo)
    obtain ⟨rfl, e2⟩ := am_inl e1
    subst e2
    simp only [Nat.sub_self, Nat.add_zero] at k
    exact lv_ladd hx hb hd (k ls H locs hl hR hS)
  | lsub =>
    have hok : len = 1 := hok
    subst hok
    obtain ⟨y, x, r, rfl, e1⟩ := am_bL_inv (show am_bL _ _ _ _ _ = _ from hdo)
    obtain ⟨rfl, e2⟩ := am_inl e1
    subst e2
    simp only [Nat.sub_self, Nat.add_zero] at k
    exact lv_lsub hx hb hd (k ls H locs hl hR hS)
  | lmul =>
    have hok : len = 1 := hok
    subst hok
    obtain ⟨y, x, r, rfl, e1⟩ := am_bL_inv (show am_bL _ _ _ _ _ = _ from hdo)
    obtain ⟨rfl, e2⟩ := am_inl e1
    subst e2
    simp only [Nat.sub_self, Nat.add_zero] at k
    exact lv_lmul hx hb hd (k ls H locs hl hR hS)
  | idiv =>
    have hok : len = 1 := hok
    subst hok
    obtain ⟨y, x, r, rfl, hne, e1⟩ := am_dv_inv (show am_dv _ _ _ _ _ = _ from hdo)
    obtain ⟨rfl, e2⟩ := am_inl e1
    subst e2
    simp only [Nat.sub_self, Nat.add_zero] at k
    exact lv_idiv hx hb hd hne (k ls H locs hl hR hS)
  | irem =>
    have hok : len = 1 := hok
    subst hok
    obtain ⟨y, x, r, rfl, hne, e1⟩ := am_dv_inv (show am_dv _ _ _ _ _ = _ from hdo)
    obtain ⟨rfl, e2⟩ := am_inl e1
    subst e2
    simp only [Nat.sub_self, Nat.add_zero] at k
    exact lv_irem hx hb hd hne (k ls H locs hl hR hS)
  | ldiv =>
    have hok : len = 1 := hok
    subst hok
    obtain ⟨y, x, r, rfl, hne, e1⟩ := am_dvL_inv (show am_dvL _ _ _ _ _ = _ from hdo)
    obtain ⟨rfl, e2⟩ := am_inl e1
    subst e2
    simp only [Nat.sub_self, Nat.add_zero] at k
    exact lv_ldiv hx hb hd hne (k ls H locs hl hR hS)
  | lrem =>
    have hok : len = 1 := hok
    subst hok
    obtain ⟨y, x, r, rfl, hne, e1⟩ := am_dvL_inv (show am_dvL _ _ _ _ _ = _ from hdo)
    obtain ⟨rfl, e2⟩ := am_inl e1
    subst e2
    simp only [Nat.sub_self, Nat.add_zero] at k
    exact lv_lrem hx hb hd hne (k ls H locs hl hR hS)
  | ineg =>
    have hok : len = 1 := hok
    subst hok
    obtain ⟨x, r, rfl, e1⟩ := am_u_inv (show am_u _ _ _ _ _ = _ from hdo)
    obtain ⟨rfl, e2⟩ := am_inl e1
    subst e2
    simp only [Nat.sub_self, Nat.add_zero] at k
    exact lv_ineg hx hb hd (k ls H locs hl hR hS)
  | i2l =>
    have hok : len = 1 := hok
    subst hok
    obtain ⟨x, r, rfl, e1⟩ := am_u_inv (show am_u _ _ _ _ _ = _ from hdo)
    obtain ⟨rfl, e2⟩ := am_inl e1
    subst e2
    simp only [Nat.sub_self, Nat.add_zero] at k
    exact lv_i2l hx hb hd rfl (k ls H locs hl hR hS)
  | i2c =>
    have hok : len = 1 := hok
    subst hok
    obtain ⟨x, r, rfl, e1⟩ := am_u_inv (show am_u _ _ _ _ _ = _ from hdo)
    obtain ⟨rfl, e2⟩ := am_inl e1
    subst e2
    simp only [Nat.sub_self, Nat.add_zero] at k
    exact lv_i2c hx hb hd rfl (k ls H locs hl hR hS)
  | lneg =>
    have hok : len = 1 := hok
    subst hok
    obtain ⟨x, r, rfl, e1⟩ := am_uL_inv (show am_uL _ _ _ _ _ = _ from hdo)
    obtain ⟨rfl, e2⟩ := am_inl e1
    subst e2
    simp only [Nat.sub_self, Nat.add_zero] at k
    exact lv_lneg hx hb hd (k ls H locs hl hR hS)
  | l2i =>
    have hok : len = 1 := hok
    subst hok
    obtain ⟨x, r, rfl, e1⟩ := am_uL_inv (show am_uL _ _ _ _ _ = _ from hdo)
    obtain ⟨rfl, e2⟩ := am_inl e1
    subst e2
    simp only [Nat.sub_self, Nat.add_zero] at k
    exact lv_l2i hx hb hd rfl (k ls H locs hl hR hS)
  | lcmp =>
    have hok : len = 1 := hok
    subst hok
    obtain ⟨y, x, r, rfl, e1⟩ := am_cmp_inv (show am_cmp _ _ _ _ = _ from hdo)
    obtain ⟨rfl, e2⟩ := am_inl e1
    subst e2
    simp only [Nat.sub_self, Nat.add_zero] at k
    exact W.lcmp hx hb hd (k ls H locs hl hR hS)
  | dup =>
    have hok : len = 1 := hok
    subst hok
    obtain ⟨v, r, rfl, hcat, e1⟩ := am_dup_inv (show am_dup _ _ _ _ = _ from hdo)
    obtain ⟨rfl, e2⟩ := am_inl e1
    subst e2
    simp only [Nat.sub_self, Nat.add_zero] at k
    exact lv_dup hx hb hd (by rw [am_v_cat]; exact Classical.not_not.mp hcat) (k ls H locs hl hR hS)
  | dup2 =>
    have hok : len = 1 := hok
    subst hok
    obtain ⟨v, w, r, rfl, hcat, e1⟩ := am_dup2_inv (show am_dup2 _ _ _ _ = _ from hdo)
    obtain ⟨rfl, e2⟩ := am_inl e1
    subst e2
    simp only [Nat.sub_self, Nat.add_zero] at k
    exact lv_dup2_11 hx hb hd (by rw [am_v_cat]; exact (Classical.not_not.mp hcat).1) (by rw [am_v_cat]; exact (Classical.not_not.mp hcat).2) (k ls H locs hl hR hS)
  | pop =>
    have hok : len = 1 := hok
    subst hok
    obtain ⟨v, r, rfl, hcat, e1⟩ := am_drop_inv (show am_drop _ _ _ _ = _ from hdo)
    obtain ⟨rfl, e2⟩ := am_inl e1
    subst e2
    simp only [Nat.sub_self, Nat.add_zero] at k
    exact lv_pop hx hb hd (by rw [am_v_cat]; exact Classical.not_not.mp hcat) (k ls H locs hl hR hS)
  | ifCond cnd off =>
    obtain ⟨rfl, hok⟩ : len = 3 ∧ (pc : Int) + off = (am_t rs : Int) := hok
    cases cnd with
    | eq =>
      obtain ⟨x, r, rfl, e1⟩ := am_if_inv (P := fun x => decide (x = 0)) (show am_if _ _ _ _ _ _ = _ from hdo)
      obtain ⟨rfl, e2⟩ := am_inl e1
      subst e2
      simp only [Nat.sub_self, Nat.add_zero] at k
      refine lv_if_eq hx hb hd hok (fun hP => ?_) (fun hP => ?_)
      · exact W.eq (congrArg (fun t => F0 m t ls _) (am_bt (by simp [hP]))) (k ls H locs hl hR hS)
      · exact W.eq (congrArg (fun t => F0 m t ls _) (am_bf (by simp [hP]))) (k ls H locs hl hR hS)
    | ne =>
      obtain ⟨x, r, rfl, e1⟩ := am_if_inv (P := fun x => !decide (x = 0)) (show am_if _ _ _ _ _ _ = _ from hdo)
      obtain ⟨rfl, e2⟩ := am_inl e1
      subst e2
      simp only [Nat.sub_self, Nat.add_zero] at k
      refine lv_if_ne hx hb hd hok (fun hP => ?_) (fun hP => ?_)
      · exact W.eq (congrArg (fun t => F0 m t ls _) (am_bt (by simp [hP]))) (k ls H locs hl hR hS)
      · exact W.eq (congrArg (fun t => F0 m t ls _) (am_bf (by simp [hP]))) (k ls H locs hl hR hS)
    | lt =>
      obtain ⟨x, r, rfl, e1⟩ := am_if_inv (P := fun x => decide (x < 0)) (show am_if _ _ _ _ _ _ = _ from hdo)
      obtain ⟨rfl, e2⟩ := am_inl e1
      subst e2
      simp only [Nat.sub_self, Nat.add_zero] at k
      refine lv_if_lt hx hb hd hok (fun hP => ?_) (fun hP => ?_)
      · exact W.eq (congrArg (fun t => F0 m t ls _) (am_bt (by simp [hP]))) (k ls H locs hl hR hS)
      · exact W.eq (congrArg (fun t => F0 m t ls _) (am_bf (by simp [hP]))) (k ls H locs hl hR hS)
    | ge =>
      obtain ⟨x, r, rfl, e1⟩ := am_if_inv (P := fun x => decide (0 ≤ x)) (show am_if _ _ _ _ _ _ = _ from hdo)
      obtain ⟨rfl, e2⟩ := am_inl e1
      subst e2
      simp only [Nat.sub_self, Nat.add_zero] at k
      refine lv_if_ge hx hb hd hok (fun hP => ?_) (fun hP => ?_)
      · exact W.eq (congrArg (fun t => F0 m t ls _) (am_bt (by simp [hP]))) (k ls H locs hl hR hS)
      · exact W.eq (congrArg (fun t => F0 m t ls _) (am_bf (by simp [hP]))) (k ls H locs hl hR hS)
    | gt =>
      obtain ⟨x, r, rfl, e1⟩ := am_if_inv (P := fun x => decide (0 < x)) (show am_if _ _ _ _ _ _ = _ from hdo)
      obtain ⟨rfl, e2⟩ := am_inl e1
      subst e2
      simp only [Nat.sub_self, Nat.add_zero] at k
      refine lv_if_gt hx hb hd hok (fun hP => ?_) (fun hP => ?_)
      · exact W.eq (congrArg (fun t => F0 m t ls _) (am_bt (by simp [hP]))) (k ls H locs hl hR hS)
      · exact W.eq (congrArg (fun t => F0 m t ls _) (am_bf (by simp [hP]))) (k ls H locs hl hR hS)
    | le =>
      obtain ⟨x, r, rfl, e1⟩ := am_if_inv (P := fun x => decide (x ≤ 0)) (show am_if _ _ _ _ _ _ = _ from hdo)
      obtain ⟨rfl, e2⟩ := am_inl e1
      subst e2
      simp only [Nat.sub_self, Nat.add_zero] at k
      refine lv_if_le hx hb hd hok (fun hP => ?_) (fun hP => ?_)
      · exact W.eq (congrArg (fun t => F0 m t ls _) (am_bt (by simp [hP]))) (k ls H locs hl hR hS)
      · exact W.eq (congrArg (fun t => F0 m t ls _) (am_bf (by simp [hP]))) (k ls H locs hl hR hS)
  | if_icmp cnd off =>
    obtain ⟨rfl, hok⟩ : len = 3 ∧ (pc : Int) + off = (am_t rs : Int) := hok
    cases cnd with
    | eq =>
      obtain ⟨y, x, r, rfl, e1⟩ := am_ic_inv (P := fun x y => decide (x = y)) (show am_ic _ _ _ _ _ _ = _ from hdo)
      obtain ⟨rfl, e2⟩ := am_inl e1
      subst e2
      simp only [Nat.sub_self, Nat.add_zero] at k
      refine lv_icmp_eq hx hb hd hok (fun hP => ?_) (fun hP => ?_)
      · exact W.eq (congrArg (fun t => F0 m t ls _) (am_bt (by simp [hP]))) (k ls H locs hl hR hS)
      · exact W.eq (congrArg (fun t => F0 m t ls _) (am_bf (by simp [hP]))) (k ls H locs hl hR hS)
    | ne =>
      obtain ⟨y, x, r, rfl, e1⟩ := am_ic_inv (P := fun x y => !decide (x = y)) (show am_ic _ _ _ _ _ _ = _ from hdo)
      obtain ⟨rfl, e2⟩ := am_inl e1
      subst e2
      simp only [Nat.sub_self, Nat.add_zero] at k
      refine lv_icmp_ne hx hb hd hok (fun hP => ?_) (fun hP => ?_)
      · exact W.eq (congrArg (fun t => F0 m t ls _) (am_bt (by simp [hP]))) (k ls H locs hl hR hS)
      · exact W.eq (congrArg (fun t => F0 m t ls _) (am_bf (by simp [hP]))) (k ls H locs hl hR hS)
    | lt =>
      obtain ⟨y, x, r, rfl, e1⟩ := am_ic_inv (P := fun x y => decide (x < y)) (show am_ic _ _ _ _ _ _ = _ from hdo)
      obtain ⟨rfl, e2⟩ := am_inl e1
      subst e2
      simp only [Nat.sub_self, Nat.add_zero] at k
      refine lv_icmp_lt hx hb hd hok (fun hP => ?_) (fun hP => ?_)
      · exact W.eq (congrArg (fun t => F0 m t ls _) (am_bt (by simp [hP]))) (k ls H locs hl hR hS)
      · exact W.eq (congrArg (fun t => F0 m t ls _) (am_bf (by simp [hP]))) (k ls H locs hl hR hS)
    | ge =>
      obtain ⟨y, x, r, rfl, e1⟩ := am_ic_inv (P := fun x y => decide (y ≤ x)) (show am_ic _ _ _ _ _ _ = _ from hdo)
      obtain ⟨rfl, e2⟩ := am_inl e1
      subst e2
      simp only [Nat.sub_self, Nat.add_zero] at k
      refine lv_icmp_ge hx hb hd hok (fun hP => ?_) (fun hP => ?_)
      · exact W.eq (congrArg (fun t => F0 m t ls _) (am_bt (by simp [hP]))) (k ls H locs hl hR hS)
      · exact W.eq (congrArg (fun t => F0 m t ls _) (am_bf (by simp [hP]))) (k ls H locs hl hR hS)
    | gt =>
      obtain ⟨y, x, r, rfl, e1⟩ := am_ic_inv (P := fun x y => decide (y < x)) (show am_ic _ _ _ _ _ _ = _ from hdo)
      obtain ⟨rfl, e2⟩ := am_inl e1
      subst e2
      simp only [Nat.sub_self, Nat.add_zero] at k
      refine lv_icmp_gt hx hb hd hok (fun hP => ?_) (fun hP => ?_)
      · exact W.eq (congrArg (fun t => F0 m t ls _) (am_bt (by simp [hP]))) (k ls H locs hl hR hS)
      · exact W.eq (congrArg (fun t => F0 m t ls _) (am_bf (by simp [hP]))) (k ls H locs hl hR hS)
    | le =>
      obtain ⟨y, x, r, rfl, e1⟩ := am_ic_inv (P := fun x y => decide (x ≤ y)) (show am_ic _ _ _ _ _ _ = _ from hdo)
      obtain ⟨rfl, e2⟩ := am_inl e1
      subst e2
      simp only [Nat.sub_self, Nat.add_zero] at k
      refine lv_icmp_le hx hb hd hok (fun hP => ?_) (fun hP => ?_)
      · exact W.eq (congrArg (fun t => F0 m t ls _) (am_bt (by simp [hP]))) (k ls H locs hl hR hS)
      · exact W.eq (congrArg (fun t => F0 m t ls _) (am_bf (by simp [hP]))) (k ls H locs hl hR hS)
  | goto off =>
    have hok : len = 3 ∧ (pc : Int) + off = (am_t rs : Int) := hok
    obtain ⟨rfl, ok2⟩ := hok
    have e1 := (Option.some.inj (show some _ = some _ from hdo)).symm
    obtain ⟨rfl, e2⟩ := am_inl e1
    subst e2
    simp only [Nat.sub_self, Nat.add_zero] at k
    exact lv_goto hx hb hd ok2 (k ls H locs hl hR hS)
  | ifnull off =>
    obtain ⟨rfl, hok⟩ : len = 3 ∧ (pc : Int) + off = (am_t rs : Int) := hok
    rcases am_null_inv (show am_null _ _ _ _ _ = _ from hdo) with ⟨r, rfl, e1⟩ | ⟨x, r, rfl, e1⟩
    · obtain ⟨rfl, e2⟩ := am_inl e1; subst e2; simp only [Nat.sub_self, Nat.add_zero] at k; exact lv_ifnullN hx hb hd hok (k ls H locs hl hR hS)
    · obtain ⟨rfl, e2⟩ := am_inl e1; subst e2; simp only [Nat.sub_self, Nat.add_zero] at k; exact lv_ifnull hx hb hd (k ls H locs hl hR hS)
  | ifnonnull off =>
    obtain ⟨rfl, hok⟩ : len = 3 ∧ (pc : Int) + off = (am_t rs : Int) := hok
    rcases am_null_inv (show am_null _ _ _ _ _ = _ from hdo) with ⟨r, rfl, e1⟩ | ⟨x, r, rfl, e1⟩
    · obtain ⟨rfl, e2⟩ := am_inl e1; subst e2; simp only [Nat.sub_self, Nat.add_zero] at k; exact lv_ifnonnullN hx hb hd (k ls H locs hl hR hS)
    · obtain ⟨rfl, e2⟩ := am_inl e1; subst e2; simp only [Nat.sub_self, Nat.add_zero] at k; exact lv_ifnonnull hx hb hd hok (k ls H locs hl hR hS)
  | tableswitch d lo hi offs =>
    obtain ⟨x, r, rfl, ⟨hout, e1⟩ | ⟨hin, t, ht, e1⟩⟩ := am_tsw_inv (show am_tsw _ _ _ _ _ _ = _ from hdo)
    · obtain ⟨rfl, e2⟩ := am_inl e1; subst e2; simp only [Nat.sub_self, Nat.add_zero] at k; exact lv_tableOut hx hb hd hout hok.1 (k ls H locs hl hR hS)
    · obtain ⟨rfl, e2⟩ := am_inl e1; subst e2; simp only [Nat.sub_self, Nat.add_zero] at k
      obtain ⟨o, ho, hp⟩ := hok.2 _ _ ht
      exact lv_tableIn hx hb hd (fun z => hin (Or.inl z)) (fun z => hin (Or.inr z)) ho hp (k ls H locs hl hR hS)
  | getfield idx =>
    obtain ⟨rfl, hok, hok1, hok2⟩ : len = 3 ∧ _ := hok
    rcases am_gf_inv (show am_gf _ _ _ _ _ = _ from hdo) with ⟨a, r, ci, fs, v, rfl, hh, hci, hv, e1⟩ | ⟨kk, r, rfl, hkk, ⟨hr, e1⟩ | ⟨hr, e1⟩⟩
    · obtain ⟨rfl, e2⟩ := am_inl e1; subst e2; simp only [Nat.sub_self, Nat.add_zero] at k
      obtain ⟨C, T, N, ty, ref, ⟨hcl, hin, hty, hnm2⟩, hkN, hlk, hsm⟩ := hok ci hci
      refine va_get (D := D) (fs := fs.map (am_v B X)) (v := am_v B X v) hx hb hts hin hown hK hR.2 a (am_w_at hh) hcl _ hkN (hts _ hlk) ?_ (by rw [List.getElem?_map, hv]; rfl) hd (k ls H locs hl hR hS)
      rcases hsm with he | he
      · intro x9 h9; rw [← he]; exact h9
      · exact u_same (hts _ he)
    · obtain ⟨rfl, e2⟩ := am_inl e1; subst e2; simp only [Nat.sub_self, Nat.add_zero] at k
      obtain ⟨i, rfl⟩ : ∃ i, kk = i + 1 := ⟨kk - 1, by omega⟩
      have hi : i < am_tx.length := by omega
      have e3 : am_v B X (.retAddr (i + 1)) = .ref (adK i) := by
        show va_rf (X (i + 1)) = _
        rw [(hst i hi).1]; rfl
      have e4 : am_v B X (.retAddr (i + 1 + 20)) = .ref (adV i) := by
        show va_rf (X (i + 1 + 20)) = _
        rw [show i + 1 + 20 = i + 21 by omega, (hst i hi).2]; rfl
      show W p l e R s m args below meth c H locs cells slots Q (F0 m pc ls (am_v B X (.retAddr (i + 1)) :: am_vs B X r))
      rw [e3]
      refine vk_getf hx hb (hvk.1 i hi).2.2.1 hS hown (hts _ (hok1 hr)) (fun _ h9 => h9) hd ?_
      rw [← e4]
      exact k ls H locs hl hR hS
    · obtain ⟨rfl, e2⟩ := am_inl e1; subst e2; simp only [Nat.sub_self, Nat.add_zero] at k
      obtain ⟨i, rfl⟩ : ∃ i, kk = i + 1 := ⟨kk - 1, by omega⟩
      have hi : i < am_tx.length := by omega
      have e3 : am_v B X (.retAddr (i + 1)) = .ref (adK i) := by
        show va_rf (X (i + 1)) = _
        rw [(hst i hi).1]; rfl
      show W p l e R s m args below meth c H locs cells slots Q (F0 m pc ls (am_v B X (.retAddr (i + 1)) :: am_vs B X r))
      rw [e3]
      exact vk_getf hx hb (hvk.1 i hi).2.1 hS hown (hts _ (hok2 hr)) (fun _ h9 => h9) hd (k ls H locs hl hR hS)
  | putfield idx =>
    obtain ⟨rfl, hok⟩ : len = 3 ∧ _ := hok
    obtain ⟨v, a, r, ci, fs, rfl, hh, hci, hfit, hkl, e1⟩ := am_pf_inv (show am_pf _ _ _ _ _ = _ from hdo)
    obtain ⟨rfl, rfl⟩ := am_inl e1
    obtain ⟨C, T, N, ty, ref, hcl, hkN, hlk, hsm, htyc, hfin⟩ := hok ci hci
    have hsl : am_sl (h.set a (.inr (ci, fs.set (am_t rs) v))) = am_sl h := am_sl_set hh (by show (fs.set _ _).length = fs.length; rw [List.length_set])
    rw [hsl] at k
    simp only [List.length_set, Nat.sub_self, Nat.add_zero] at k
    refine am_put hx hb hts hcl hown hK hR hS hh _ hkN (hts _ hlk) ?_ ?_ (am_fit_ok hfit htyc) hkl hd (fun H1 locs1 hR1 hS1 => k ls H1 locs1 hl hR1 hS1)
    · rcases hsm with he | he
      · intro x9 h9; rw [← he]; exact h9
      · exact u_same (hts _ he)
    · rcases hfin with z | ⟨z1, z2, z3⟩
      · exact Or.inl z
      · exact Or.inr ⟨z1, hnm.trans z2, z3⟩
  | iaload =>
    have hok : len = 1 := hok
    subst hok
    rcases am_ial_inv (show am_ial _ _ _ _ _ = _ from hdo) with ⟨i, a, r, n, f, rfl, hh, hin, e1⟩ | ⟨i, r, rfl, hin, e1⟩
    · obtain ⟨rfl, e2⟩ := am_inl e1; subst e2; simp only [Nat.sub_self, Nat.add_zero] at k
      exact va_iald hx hb hK hR.2 a 0 (am_w_at hh) rfl hin hd (k ls H locs hl hR hS)
    · obtain ⟨rfl, e2⟩ := am_inl e1; subst e2; simp only [Nat.sub_self, Nat.add_zero] at k
      have e3 : am_v B X (.retAddr 0) = .ref b0 := by
        show va_rf (X 0) = _
        rw [hb0]; rfl
      show W p l e R s m args below meth c H locs cells slots Q (F0 m pc ls (.int i :: am_v B X (.retAddr 0) :: am_vs B X r))
      rw [e3]
      exact va_sld hx hb hX0 (by omega) (Nat.not_le.mpr hbB) hS hin hd (k ls H locs hl hR hS)
  | laload =>
    have hok : len = 1 := hok
    subst hok
    obtain ⟨i, a, r, n, f, rfl, hh, hin, e1⟩ := am_lal_inv (show am_lal _ _ _ _ = _ from hdo)
    obtain ⟨rfl, e2⟩ := am_inl e1
    subst e2
    simp only [Nat.sub_self, Nat.add_zero] at k
    exact va_lald hx hb hK hR.2 a 1 (am_w_at hh) rfl hin hd (k ls H locs hl hR hS)
  | baload =>
    have hok : len = 1 := hok
    subst hok
    rcases am_bal_inv (show am_bal _ _ _ _ = _ from hdo) with ⟨i, a, r, n, f, rfl, hh, hin, e1⟩ | ⟨i, kk, r, rfl, hkk, hin, e1⟩
    · obtain ⟨rfl, e2⟩ := am_inl e1; subst e2; simp only [Nat.sub_self, Nat.add_zero] at k
      exact va_zald hx hb hK hR.2 a 2 (am_w_at hh) rfl hin hd (k ls H locs hl hR hS)
    · obtain ⟨rfl, e2⟩ := am_inl e1; subst e2; simp only [Nat.sub_self, Nat.add_zero] at k
      obtain ⟨j, rfl⟩ : ∃ j, kk = j + 21 := ⟨kk - 21, by omega⟩
      have hi : j < am_tx.length := by omega
      have e3 : am_v B X (.retAddr (j + 21)) = .ref (adV j) := by
        show va_rf (X (j + 21)) = _
        rw [(hst j hi).2]; rfl
      show W p l e R s m args below meth c H locs cells slots Q (F0 m pc ls (.int i :: am_v B X (.retAddr (j + 21)) :: am_vs B X r))
      rw [e3]
      have hT := (hvk.1 j hi).2.2.2
      rw [am_len_tx] at hT
      rw [show j + 21 - 21 = j by omega] at hin k
      exact va_tb hx hb hT hS hin rfl hd (k ls H locs hl hR hS)
  | aaload =>
    have hok : len = 1 := hok
    subst hok
    obtain ⟨i, a, r, t, n, f, rfl, hh, hin, ht, e1⟩ := am_aal_inv (show am_aal _ _ _ _ = _ from hdo)
    obtain ⟨rfl, e2⟩ := am_inl e1; subst e2; simp only [Nat.sub_self, Nat.add_zero] at k
    obtain ⟨C, hty⟩ : ∃ C, (am_ty cA)[t]? = some (cA t, .object C) := by rcases ht with rfl | rfl <;> exact ⟨_, rfl⟩
    refine va_aldq hx hb hK hR.2 a t (am_w_at hh) hty hin hd ?_
    have K := k ls H locs hl hR hS
    rw [← am_rf B X]
    exact K
  | iastore =>
    have hok : len = 1 := hok
    subst hok
    obtain ⟨x, i, a, r, n, f, rfl, hh, hin, e1⟩ := am_ias_inv (show am_ias _ _ _ _ = _ from hdo)
    obtain ⟨rfl, rfl⟩ := am_inl e1
    rw [am_sl_set (y := .inl (0, n, .inl (upd f i.toNatClampNeg x))) hh rfl] at k
    simp only [List.length_set, Nat.sub_self, Nat.add_zero] at k
    exact am_iast hx hb hK hR hS hh hin hd (fun H1 locs1 hR1 hS1 => k ls H1 locs1 hl hR1 hS1)
  | lastore =>
    have hok : len = 1 := hok
    subst hok
    obtain ⟨x, i, a, r, n, f, rfl, hh, hin, e1⟩ := am_las_inv (show am_las _ _ _ _ = _ from hdo)
    obtain ⟨rfl, rfl⟩ := am_inl e1
    rw [am_sl_set (y := .inl (1, n, .inr (.inl (vp_updL f i.toNatClampNeg x)))) hh rfl] at k
    simp only [List.length_set, Nat.sub_self, Nat.add_zero] at k
    exact am_last hx hb hK hR hS hh hin hd (fun H1 locs1 hR1 hS1 => k ls H1 locs1 hl hR1 hS1)
  | bastore =>
    have hok : len = 1 := hok
    subst hok
    obtain ⟨x, i, a, r, n, f, rfl, hh, hin, hx1, e1⟩ := am_bas_inv (show am_bas _ _ _ _ = _ from hdo)
    obtain ⟨rfl, rfl⟩ := am_inl e1
    rw [am_sl_set (y := .inl (2, n, .inl (upd f i.toNatClampNeg x))) hh rfl] at k
    simp only [List.length_set, Nat.sub_self, Nat.add_zero] at k
    exact am_zast hx hb hK hR hS hh hin hx1 hd (fun H1 locs1 hR1 hS1 => k ls H1 locs1 hl hR1 hS1)
  | aastore =>
    have hok : len = 1 := hok
    subst hok
    rcases am_aas_inv (show am_aas _ _ _ _ = _ from hdo) with ⟨i, a, r, t, n, f, rfl, hh, hin, ht, e1⟩ | ⟨v, i, a, r, t, n, f, ci, fs, rfl, hh, hv, hin, hmay, e1⟩
    · obtain ⟨rfl, rfl⟩ := am_inl e1
      rw [am_sl_set (y := .inl (t, n, .inr (.inr (.inr (.inr (va_up f i.toNatClampNeg none)))))) hh rfl] at k
      simp only [List.length_set, Nat.sub_self, Nat.add_zero] at k
      exact am_aastN hx hb hK hR hS hh ht hin hd (fun H1 locs1 hR1 hS1 => k ls H1 locs1 hl hR1 hS1)
    · obtain ⟨rfl, rfl⟩ := am_inl e1
      rw [am_sl_set (y := .inl (t, n, .inr (.inr (.inr (.inr (va_up f i.toNatClampNeg (some v))))))) hh rfl] at k
      simp only [List.length_set, Nat.sub_self, Nat.add_zero] at k
      obtain ⟨E, r9, h1, h2, h3⟩ := am_may_ok (cA := cA) hmay
      exact am_aast hx hb hts hK hR hS hh hv h1 h2 (h3.imp id (fun z => hxw _ z)) hin hd (fun H1 locs1 hR1 hS1 => k ls H1 locs1 hl hR1 hS1)
  | arraylength =>
    have hok : len = 1 := hok
    subst hok
    rcases am_len_inv (show am_len _ _ _ _ _ = _ from hdo) with ⟨a, r, t, x, rfl, hh, ht, e1⟩ | ⟨r, rfl, e1⟩ | ⟨kk, r, rfl, hkk, e1⟩
    · obtain ⟨rfl, e2⟩ := am_inl e1; subst e2; simp only [Nat.sub_self, Nat.add_zero] at k
      obtain ⟨y, hy1, hy2⟩ := am_e_arr B X cA t x
      have hw := am_w_at (B := B) (X := X) (cA := cA) hh
      rw [hy2] at hw
      obtain ⟨ty, hty⟩ : ∃ ty, (am_ty cA)[t]? = some (cA t, ty) := by
        rcases (show t = 0 ∨ t = 1 ∨ t = 2 ∨ t = 3 ∨ t = 4 by omega) with rfl | rfl | rfl | rfl | rfl <;> exact ⟨_, rfl⟩
      exact va_alen hx hb hK hR.2 a t hw hty (by rw [hy1]) hd (k ls H locs hl hR hS)
    · obtain ⟨rfl, e2⟩ := am_inl e1; subst e2; simp only [Nat.sub_self, Nat.add_zero] at k
      have e3 : am_v B X (.retAddr 0) = .ref b0 := by
        show va_rf (X 0) = _
        rw [hb0]; rfl
      show W p l e R s m args below meth c H locs cells slots Q (F0 m pc ls (am_v B X (.retAddr 0) :: am_vs B X r))
      rw [e3]
      exact va_slen hx hb hX0 (by omega) (Nat.not_le.mpr hbB) hS hd (k ls H locs hl hR hS)
    · obtain ⟨rfl, e2⟩ := am_inl e1; subst e2; simp only [Nat.sub_self, Nat.add_zero] at k
      obtain ⟨j, rfl⟩ : ∃ j, kk = j + 21 := ⟨kk - 21, by omega⟩
      have hi : j < am_tx.length := by omega
      have e3 : am_v B X (.retAddr (j + 21)) = .ref (adV j) := by
        show va_rf (X (j + 21)) = _
        rw [(hst j hi).2]; rfl
      show W p l e R s m args below meth c H locs cells slots Q (F0 m pc ls (am_v B X (.retAddr (j + 21)) :: am_vs B X r))
      rw [e3]
      have hT := (hvk.1 j hi).2.2.2
      rw [am_len_tx] at hT
      rw [show j + 21 - 21 = j by omega] at k
      exact va_tlen hx hb hT hS rfl hd (k ls H locs hl hR hS)
  | new idx =>
    obtain ⟨rfl, C, T, N, ty, ⟨hcl, hin, hty, hnm2⟩, hw1, hw2, hw3, hdf, hlen, hplain⟩ : len = 3 ∧ _ := hok
    have e1 := (Option.some.inj (show some _ = some _ from hdo)).symm
    obtain ⟨rfl, rfl⟩ := am_inl e1
    have hsz : am_sl (h ++ [.inr (am_t rs, df (am_t rs))]) - am_sl h = N := by rw [am_sl_app, ← hlen]; show am_sl h + (df (am_t rs)).length - am_sl h = _; omega
    have hln : (h ++ [.inr (am_t rs, df (am_t rs))] : am_H).length - h.length = 1 := by rw [List.length_append]; show h.length + 1 - h.length = 1; omega
    rw [hsz] at k hs
    rw [hln] at k hc
    have hKn := hK.1 _ _ hcl
    refine W.newcK hx hb hown (hts _ hw1) (hts _ hw2) (hts _ hw3) rfl hd hc hs hKn.2.1 hR.1 fun H1 kC hkC e1 z1 o1 => ?_
    refine k ls H1 locs hl (hR.push (by rw [z1, hR.1]) (fun q hq => o1 q (by rw [← hR.1]; exact hq)) ⟨_, hcl, ?_⟩) (am_S.push hS (by rw [z1, hR.1]) (fun q hq => o1 q (by rw [← hR.1]; exact hq)))
    show t_OB (B + h.length) _ _ _ H1 (vp_V ((df (am_t rs)).map (am_v B X)))
    rw [am_plain hplain]
    exact (u_born ty hts hin hKn hkC e1 hty).to hdf
  | newarray t =>
    obtain ⟨rfl, hw⟩ : len = 2 ∧ _ := hok
    obtain ⟨n, r, rfl, hn0, hnl, htag, e1⟩ := am_nar_inv (show am_nar _ _ _ _ _ = _ from hdo)
    obtain ⟨rfl, rfl⟩ := am_inl e1
    have hsz : am_sl (h ++ [.inl (am_tag t, n.toNatClampNeg, am_zero (am_tag t))]) - am_sl h = n.toNatClampNeg := by rw [am_sl_app]; show am_sl h + n.toNatClampNeg - am_sl h = _; omega
    have hln : (h ++ [.inl (am_tag t, n.toNatClampNeg, am_zero (am_tag t))] : am_H).length - h.length = 1 := by rw [List.length_append]; show h.length + 1 - h.length = 1; omega
    rw [hsz] at k hs
    rw [hln] at k hc
    have hcb : componentBytes (newarray.typeOf t) ≤ 8 := by cases t <;> decide
    refine va_newaK hx hb (hts _ hw) rfl hd rfl hn0 rfl (by have := Nat.mul_le_mul (Nat.le_of_lt hnl) hcb; omega) hc hs hR.1 fun H1 cA1 e1 z1 o1 hAr hNm => ?_
    refine k ls H1 locs hl (hR.push (by rw [z1, hR.1]) (fun q hq => o1 q (by rw [← hR.1]; exact hq)) ?_) (am_S.push hS (by rw [z1, hR.1]) (fun q hq => o1 q (by rw [← hR.1]; exact hq)))
    exact am_born hK htag hNm e1
  | anewarray idx =>
    obtain ⟨rfl, hw⟩ : len = 3 ∧ _ := hok
    obtain ⟨n, r, rfl, hn0, hnl, ht, e1⟩ := am_anw_inv (show am_anw _ _ _ _ _ = _ from hdo)
    obtain ⟨rfl, rfl⟩ := am_inl e1
    have hsz : am_sl (h ++ [.inl (am_t rs, n.toNatClampNeg, am_zero 3)]) - am_sl h = n.toNatClampNeg := by rw [am_sl_app]; show am_sl h + n.toNatClampNeg - am_sl h = _; omega
    have hln : (h ++ [.inl (am_t rs, n.toNatClampNeg, am_zero 3)] : am_H).length - h.length = 1 := by rw [List.length_append]; show h.length + 1 - h.length = 1; omega
    rw [hsz] at k hs
    rw [hln] at k hc
    have hav : ∃ E, Cond.classLink own idx E ∈ am_tb ∧ va_AO E s ∧ (am_ty cA)[am_t rs]? = some (cA (am_t rs), .object E) := by
      rcases hw with ⟨h1, h2⟩ | ⟨h1, h2⟩
      · exact ⟨_, h2, hao1, by rw [h1]; rfl⟩
      · exact ⟨_, h2, hao2, by rw [h1]; rfl⟩
    obtain ⟨E, hw1, hao, hty⟩ := hav
    refine W.anew hx hb hown (hts _ hw1) (va_AO.use hao) rfl hd rfl hn0 (by omega) hc hs fun cA1 kA comp f1 f2 f3 f4 => ?_
    have hcA : cA1 = cA (am_t rs) := by
      obtain ⟨kA2, comp2, g1, g2, g3, g4⟩ := (hK.2 _ _ hty).2
      exact Option.some.inj (f1.symm.trans g4)
    subst hcA
    generalize hH1 : H.push ({ cls := cA (am_t rs), slots := Array.replicate n.toNatClampNeg .null, vm := .none } : Cell) = H1
    have z1 : H1.size = H.size + 1 := by rw [← hH1, Array.size_push]
    have o1 : ∀ q : Nat, q < H.size → H1[q]? = H[q]? := fun q hq => by rw [← hH1, Array.getElem?_push, if_neg (Nat.ne_of_lt hq)]
    have e1 : H1[H.size]? = some (arrV (cA (am_t rs)) n.toNatClampNeg (fun _ => .null)) := by rw [← hH1, Array.getElem?_push_size, ← arrV_new]
    rw [hR.1] at e1 ⊢
    exact k ls H1 locs hl (hR.push z1 o1 e1) (am_S.push hS z1 o1)
  | instanceof idx =>
    obtain ⟨rfl, T, hw, hci0⟩ : len = 3 ∧ _ := hok
    obtain ⟨a, r, ci, fs, rfl, hh, hci, e1⟩ := am_ins_inv (show am_ins _ _ _ _ _ = _ from hdo)
    obtain ⟨rfl, e2⟩ := am_inl e1; subst e2; simp only [Nat.sub_self, Nat.add_zero] at k
    obtain ⟨r9, hr9, hcase⟩ := hci0 ci hci
    have hrec := va_recv hK hR.2 hr9 (am_w_at hh)
    have hcls := (hK.1 ci r9 hr9).2
    have K := k ls H locs hl hR hS
    rcases hcase with ⟨hin, he⟩ | ⟨hin, hn⟩
    · rw [hin] at K
      rcases he with he | he
      · exact va_instS hx hb hown (hts _ hw) (he ▸ hcls) (he ▸ hrec) hd K
      · exact va_instY hx hb hown (hts _ hw) (hxw _ he) hrec hd K
    · rw [hin] at K
      exact va_instNo hx hb hown (hts _ hw) (hnc _ hn) hrec hd K
  | invokespecial idx =>
    obtain ⟨rfl, ok2⟩ : len = 3 ∧ (rs = [] → _) := hok
    obtain ⟨hr, a, r, rfl, hcat, e1⟩ := am_spc_inv (show am_spc _ _ _ _ _ = _ from hdo)
    obtain ⟨rfl, e2⟩ := am_inl e1; subst e2; simp only [Nat.sub_self, Nat.add_zero] at k
    obtain ⟨w1, w2, w3⟩ := ok2 hr
    refine W.objInit hx hb hown (hts _ w1) (hts _ w2) (hts _ w3) rfl (by rw [hml]; exact hl.1) rfl hd hF.1 ?_ ?_
    · have h1 := lv_room (m := m) (pc := pc) (ls := ls) (rest := []) (st := am_vs B X r) (by rw [am_vs_sum]; exact hcat)
      exact Nat.le_trans (Nat.add_le_add_right h1 12) (by omega)
    · exact k ls H locs hl hR hS
  | ireturn =>
    obtain ⟨x, rfl, hnw, e1⟩ := am_ret_inv (show am_ret _ _ = _ from hdo)
    cases e1
  | lreturn =>
    obtain ⟨x, rfl, e1⟩ := am_retL_inv (show am_retL _ = _ from hdo)
    cases e1
  | areturn =>
    obtain ⟨x, rfl, hv, e1⟩ := am_retA_inv (show am_retA _ = _ from hdo)
    cases e1
  | return_ =>
    obtain ⟨rfl, e1⟩ := am_retV_inv (show am_retV _ = _ from hdo)
    cases e1
  | invokestatic idx =>
    obtain ⟨rfl, ok2⟩ : len = 3 ∧ ((rs.length == 1) = true → am_okM own idx (am_t rs)) := hok
    have hdo : (bif rs.length == 1 then am_mth (am_t rs) pc l0 st h else am_sta rs st) = some (.inl (f', h')) := hdo
    cases h1r : rs.length == 1 with
    | false =>
      rw [h1r] at hdo
      obtain ⟨n, M, as, r, rfl, hp, hcat, e1⟩ := am_sta_inv (show am_sta _ _ = _ from hdo)
      cases e1
    | true =>
      rw [h1r] at hdo
      obtain ⟨hini, hw⟩ := ok2 h1r
      have hms : c.maxLocals = ls.size := hml.trans hl.1.symm
      have room : ∀ r : List Value, (r.map fun v => v.category).sum ≤ 8 → ((am_vs B X r).map fun v => v.category).sum + 13 ≤ R.locals := fun r hr => by rw [am_vs_sum]; omega
      rcases am_mth_inv (show am_mth _ _ _ _ _ = _ from hdo) with ⟨x, r, hz9, rfl, hcat, e1⟩ | ⟨x, r, hz9, rfl, hcat, e1⟩ | ⟨y, x, r, hz9, rfl, hcat, e1⟩ | ⟨y, x, r, hz9, rfl, hcat, e1⟩
      · obtain ⟨rfl, e2⟩ := am_inl e1; subst e2; simp only [Nat.sub_self, Nat.add_zero] at k hc hs
        rcases hw with ⟨-, w1, w2, w3⟩ | ⟨hz, -⟩ | ⟨hz, -⟩ | ⟨hz, -⟩
        · exact va_mabs hx hb hms hown (hts _ w1) (hts _ w2) (hts _ hini) (hts _ w3) hF.1 (room r hcat) hc hs hd (k ls H locs hl hR hS)
        all_goals (rw [hz9] at hz; cases hz)
      · obtain ⟨rfl, e2⟩ := am_inl e1; subst e2; simp only [Nat.sub_self, Nat.add_zero] at k hc hs
        rcases hw with ⟨hz, -⟩ | ⟨-, w1, w2, w3⟩ | ⟨hz, -⟩ | ⟨hz, -⟩
        · rw [hz9] at hz; cases hz
        · exact va_mabs_long hx hb hms hown (hts _ w1) (hts _ w2) (hts _ hini) (hts _ w3) hF.1 (room r hcat) hc hs hd (k ls H locs hl hR hS)
        all_goals (rw [hz9] at hz; cases hz)
      · obtain ⟨rfl, e2⟩ := am_inl e1; subst e2; simp only [Nat.sub_self, Nat.add_zero] at k hc hs
        rcases hw with ⟨hz, -⟩ | ⟨hz, -⟩ | ⟨-, w1, w2, w3⟩ | ⟨hz, -⟩
        · rw [hz9] at hz; cases hz
        · rw [hz9] at hz; cases hz
        · exact va_mmax hx hb hms hown (hts _ w1) (hts _ w2) (hts _ hini) (hts _ w3) hF.1 (room r hcat) hc hs hd (k ls H locs hl hR hS)
        · rw [hz9] at hz; cases hz
      · obtain ⟨rfl, e2⟩ := am_inl e1; subst e2; simp only [Nat.sub_self, Nat.add_zero] at k hc hs
        rcases hw with ⟨hz, -⟩ | ⟨hz, -⟩ | ⟨hz, -⟩ | ⟨-, w1, w2, w3⟩
        · rw [hz9] at hz; cases hz
        · rw [hz9] at hz; cases hz
        · rw [hz9] at hz; cases hz
        · exact va_mmin hx hb hms hown (hts _ w1) (hts _ w2) (hts _ hini) (hts _ w3) hF.1 (room r hcat) hc hs hd (k ls H locs hl hR hS)
  | invokevirtual idx =>
    obtain ⟨n, ds, as, v, r, ci, M, rfl, hp, hr, hm, hcat, e1⟩ := am_inv_inv (show am_inv _ _ _ = _ from hdo)
    cases e1
  | _ => exact absurd (show (none : Option am_O) = _ from hdo) (by simp)
end
section
/-! Returns and calls of the small machine are the machine's. mi: a method's name, bytes, locals, answer. -/
abbrev am_MI : Type := Nat → MethodName × ByteArray × Nat × Option FieldType
def am_pl (y : MethodName) (n : Nat) : Prop := y.cls ≠ "java/lang/invoke/MethodHandle" ∧ y.cls ≠ "java/lang/invoke/VarHandle" ∧ (parseMethodDescriptor y.desc).map (fun d => d.parameters.length) = some n
def am_mok (mi : am_MI) (M : Nat) : Prop := Cond.code (mi M).1 (mi M).2.1 (mi M).2.2.1 (mi M).2.2.2 ∈ am_tb ∧ (mi M).2.2.1 ≤ 45 ∧ Cond.initialized (mi M).1.cls ∈ am_tb ∧ plainName (mi M).1.cls = true
def am_lS (mi : am_MI) (own : String) (idx n M : Nat) : Prop := am_mok mi M ∧ Cond.methodLink own idx (mi M).1 ∈ am_tb ∧ Cond.static (mi M).1 ∈ am_tb ∧ am_pl (mi M).1 n
def am_lI (mi : am_MI) (own : String) (idx n M : Nat) : Prop := am_mok mi M ∧ (Cond.methodLink own idx (mi M).1 ∈ am_tb ∨ ∃ host, Cond.methodLinkNest own idx (mi M).1 host ∈ am_xw) ∧ Cond.instanceMethod (mi M).1 ∈ am_tb ∧ (mi M).1.name = "<init>" ∧ (mi M).2.2.2 = none ∧ am_pl (mi M).1 n
def am_cn (ci : Nat) (C : String) : Prop := (ci = 60 ∧ C = "java/lang/String") ∨ ∃ r : vw_C, vwCl[ci]? = some r ∧ r.1 = C
def am_lV (mi : am_MI) (own : String) (idx n ci M : Nat) : Prop := am_mok mi M ∧ ∃ C, am_cn ci C ∧ Cond.instanceMethod (mi M).1 ∈ am_tb ∧
  ((Cond.methodLink own idx (mi M).1 ∈ am_tb ∧ Cond.selects C (mi M).1 (mi M).1 ∈ am_tb ∧ am_pl (mi M).1 n) ∨
   ∃ (owner : String) (x : MethodName), Cond.methodLink own idx x ∈ am_tb ∧ Cond.sameMethod x.cls owner x.name x.desc ∈ am_tb ∧ Cond.selects C x (mi M).1 ∈ am_tb ∧ owner ≠ "java/lang/invoke/MethodHandle" ∧ owner ≠ "java/lang/invoke/VarHandle" ∧ (parseMethodDescriptor x.desc).map (fun d => d.parameters.length) = some n ∧ (Cond.declares ⟨owner, x.name, x.desc⟩ ∈ am_xw ∨ (Cond.instanceMethod ⟨owner, x.name, x.desc⟩ ∈ am_tb ∧ ∃ b0 m0 r0, Cond.code ⟨owner, x.name, x.desc⟩ b0 m0 r0 ∈ am_tb)))
def am_okC (mi : am_MI) (own : String) (q : am_I) : Prop := match q with
  | (_, ins, len, rs, _) => match ins with
    | .invokestatic idx => len = 3 ∧ ((rs.length == 1) = true ∨ am_lS mi own idx (am_t rs) (am_t (rs.drop 1)))
    | .invokespecial idx => len = 3 ∧ (rs = [] ∨ am_lI mi own idx (am_t rs) (am_t (rs.drop 1)))
    | .invokevirtual idx => len = 3 ∧ ∀ ci M, am_dis (rs.drop 1) ci = some M → am_lV mi own idx (am_t rs) ci M
    | _ => True
def am_wd (mi : am_MI) (M : Nat) : List Cond := Cond.code (mi M).1 (mi M).2.1 (mi M).2.2.1 (mi M).2.2.2 :: am_tb
def am_rm (d mc ms : Nat) : Room := { frames := d, cells := mc, slots := ms, locals := 64 * d }
def am_Pc (B : Nat) (X : Nat → Option Nat) (D : va_G) (cA : Nat → Nat) (sc : Nat × (Nat → Int32)) (as : List Value) (h : am_H) : Array Value → State → Prop := fun v U => v = (am_vs B X as).toArray ∧ am_R B X D cA h U.heap ∧ am_G B X D cA sc U
def am_Q (B : Nat) (X : Nat → Option Nat) (D : va_G) (cA : Nat → Nat) (v : Option Value) (h1 : am_H) : Array Value → State → Outcome → State → Prop := fun _ st oc t => (oc = .returned (v.map (am_v B X)) ∧ am_R B X D cA h1 t.heap) ∧ va_F (am_A B) st t
theorem am_blind (B : Nat) (X : Nat → Option Nat) (D : va_G) (cA : Nat → Nat) (sc : Nat × (Nat → Int32)) (as : List Value) (h : am_H) : FrameBlind (am_Pc B X D cA sc as h) := by
  intro a U g mk q
  obtain ⟨q1, q2, q3⟩ := q
  exact ⟨q1, q2, am_G.same (s := U) (U := U.calling g mk a) rfl rfl q3⟩
theorem am_wd_in {mi : am_MI} {M : Nat} (h : am_mok mi M) : GoodIn am_tb (am_wd mi M) := by
  intro w hw
  rcases List.mem_cons.mp hw with rfl | hw
  · exact am_tb_good _ h.1
  · exact am_tb_good _ hw
theorem am_nw_ok {t : Nat} {x : Int32} {ret : Option FieldType} (h : am_nw t x = true) (hr : (t = 0 ∧ ret = some .int) ∨ (t = 2 ∧ ret = some .boolean) ∨ (t = 3 ∧ ret = some .byte) ∨ (t = 4 ∧ ret = some .char)) : ∃ ty, ret = some ty ∧ narrow ty (.int x) = .int x := by
  rcases hr with ⟨rfl, rfl⟩ | ⟨rfl, rfl⟩ | ⟨rfl, rfl⟩ | ⟨rfl, rfl⟩
  · exact ⟨_, rfl, rfl⟩
  · have h2 : x = 0 ∨ x = 1 := by simpa [am_nw] using h
    rcases h2 with rfl | rfl
    · exact ⟨_, rfl, by decide⟩
    · exact ⟨_, rfl, by decide⟩
  · have h2 : x = 0 := by simpa [am_nw] using h
    subst h2
    exact ⟨_, rfl, by decide⟩
  · have h2 : x = (x.toUInt32 % 65536).toInt32 := by simpa [am_nw] using h
    refine ⟨_, rfl, ?_⟩
    rw [h2]
    exact pk_nc x
section AMC
variable {B : Nat} {X : Nat → Option Nat} {D : va_G} {cA : Nat → Nat} {sc : Nat × (Nat → Int32)} {own nm : String} {cc : ByteArray} {nL : Nat} {ret : Option FieldType} {df : Nat → List Value} {mi : am_MI}
variable {p : Program} {l : Launch} {e : Env} {R : Room} {s : State} {m : MethodId} {args : Array Value} {below : List Frame} {meth : Method} {c : Code} {H : Heap} {locs : List Loc} {cells slots : Nat} {Q : State → Prop} {ls : Array Slot}
theorem am_snd_ret {Qc : Array Value → State → Outcome → State → Prop} {free : Addr → Prop} (hC : am_C B X D cA sc own nm cc nL ret p s m args meth c) {q : am_I} (hd : decode cc q.1 = .ok (q.2.1, q.2.2.1)) (hok : am_okP df own nm nL ret q) {l0 : am_L} {st : List Value} {h : am_H} {r : Option Value} (hki : am_isR q.2.1 = true) (hdo : am_do df sc q l0 st h = some (.inr (.inl r)))
    (hq : ∀ t : State, t.heap = H → s.WarmedH t.vm → Qc args s (.returned (r.map (am_v B X))) t) (hf : ∀ q ∈ locs, free q.base) : W p l e R s m args below meth c H locs cells slots (MQ below Qc args s cells slots free) (F0 m q.1 ls (am_vs B X st)) := by
  obtain ⟨hx, hb, hml, hown, hts, hret, hlocks, hnm, hG⟩ := hC
  obtain ⟨pc, ins, len, rs, cv⟩ := q
  cases ins with
  | ireturn =>
    obtain ⟨rfl, hok⟩ : len = 1 ∧ _ := hok
    obtain ⟨x, rfl, hnw, e1⟩ := am_ret_inv (show am_ret _ _ = _ from hdo)
    cases e1
    obtain ⟨ty, hty, hn⟩ := am_nw_ok hnw hok
    exact W.zret (v := x) hx hb (hret.trans hty) hn hq hf hd hlocks
  | lreturn =>
    obtain ⟨rfl, hok⟩ : len = 1 ∧ _ := hok
    obtain ⟨x, rfl, e1⟩ := am_retL_inv (show am_retL _ = _ from hdo)
    cases e1
    exact W.lret (v := x) hx hb (hret.trans hok) hq hf hd hlocks
  | areturn =>
    obtain ⟨rfl, rt, hrt, hok⟩ : len = 1 ∧ _ := hok
    obtain ⟨v, rfl, hv, e1⟩ := am_retA_inv (show am_retA _ = _ from hdo)
    cases e1
    refine W.aret (v := am_v B X v) hx hb (hret.trans hrt) hok ?_ hq hf hd hlocks
    rcases hv with rfl | ⟨a, rfl⟩
    · exact Or.inl rfl
    · exact Or.inr ⟨_, rfl⟩
  | return_ =>
    obtain ⟨rfl, hok⟩ : len = 1 ∧ _ := hok
    obtain ⟨rfl, e1⟩ := am_retV_inv (show am_retV _ = _ from hdo)
    cases e1
    exact W.vret hx hb (hret.trans hok) hq hf hd hlocks
  | _ => cases hki
/-- behind a call -/
theorem am_after {pc mc ms : Nat} {st0 rest : List Value} {v : Option Value} {h1 : am_H} {a : Array Value} (hr : va_Run p l e R s m args below meth c H locs cells slots mc ms (F0 m pc ls st0) rest (am_Q B X D cA v h1 a) (am_A B)) (hS : va_S (am_A B) s.heap H locs)
    (kk : ∀ (H1 : Heap) (locs1 : List Loc), am_R B X D cA h1 H1 → va_S (am_A B) s.heap H1 locs1 → W p l e R s m args below meth c H1 locs1 (cells + mc) (slots + ms) Q (F0 m (pc + 3) ls (am_vs B X v.toList ++ rest))) : W p l e R s m args below meth c H locs cells slots Q (F0 m pc ls st0) := by
  intro T hT X0
  obtain ⟨v0, st₀, t, T', L, h0, X', hL, e1, e2, ⟨⟨hv, hb⟩, hz, hk⟩, st⟩ := hr T hT X0
  have hv0 : v0 = v.map (am_v B X) := Outcome.returned.inj hv
  subst hv0
  rw [h0] at hz hk
  have hv2 : (v.map (am_v B X)).toList = am_vs B X v.toList := by cases v <;> rfl
  rw [hv2] at st
  obtain ⟨t2, a1, b1⟩ := kk T'.heap (locs ++ L) (by rw [e1]; exact hb)
    ⟨Nat.le_trans hS.1 (by rw [e1]; exact hz), fun q h1 h2 => by rw [e1, hk q (Nat.lt_of_lt_of_le h1 hS.1) h2]; exact hS.2.1 q h1 h2, fun q hq => by
      rcases List.mem_append.mp hq with h | h
      · exact hS.2.2 q h
      · exact hL q h⟩ T' rfl X'
  exact ⟨t2, st t2 a1, b1⟩
theorem am_vs_app (st r : List Value) : am_vs B X (st ++ r) = am_vs B X st ++ am_vs B X r := List.map_append
theorem am_vs_rev (st : List Value) : am_vs B X st.reverse = (am_vs B X st).reverse := List.map_reverse
theorem am_no60 {r : vw_C} (h : vwCl[60]? = some r) : False := by cases h
theorem am_recv {h : am_H} {v : Value} {ci : Nat} {C : String} (hG : am_G B X D cA sc s) (hR : am_R B X D cA h H) (hS : va_S (am_A B) s.heap H locs) (hr : am_rec h v = some ci) (hc : am_cn ci C) : ∃ b, am_v B X v = .ref b ∧ ∃ cellB : Cell, H[b]? = some cellB ∧ cellB.vm.isStatics = false ∧ s.vm.findClass C = some cellB.cls := by
  obtain ⟨hK, -, hBs, ⟨adK, adV, hst, hvk, hvr⟩, -⟩ := hG
  cases v with
  | ref a =>
    refine ⟨B + a, rfl, ?_⟩
    unfold am_rec at hr
    dsimp only at hr
    split at hr
    · rename_i ci' fs hh
      cases hr
      rcases hc with ⟨rfl, -⟩ | ⟨r, h1, rfl⟩
      · obtain ⟨r, h1, -⟩ := hR.2 a _ (am_w_at hh)
        exact (am_no60 h1).elim
      · exact va_recv hK hR.2 h1 (am_w_at hh)
    · cases hr
  | retAddr k =>
    unfold am_rec at hr
    dsimp only at hr
    split at hr
    · rename_i hk
      cases hr
      obtain ⟨i, rfl⟩ : ∃ i, k = i + 1 := ⟨k - 1, by omega⟩
      have hi : i < am_tx.length := by omega
      refine ⟨adK i, ?_, ?_⟩
      · show va_rf (X (i + 1)) = _
        rw [(hst i hi).1]; rfl
      · rcases hc with ⟨-, rfl⟩ | ⟨r, h1, -⟩
        · exact vk_recv hvk hi hS
        · exact (am_no60 h1).elim
    · cases hr
  | _ => cases hr
theorem am_snd_call {d mc ms : Nat} (hC : am_C B X D cA sc own nm cc nL ret p s m args meth c) (hF : d + 1 ≤ R.frames ∧ 64 * d + 64 ≤ R.locals) {q : am_I} (hd : decode cc q.1 = .ok (q.2.1, q.2.2.1)) (hok : am_okC mi own q) {l0 : am_L} {st : List Value} {h : am_H} (hl : lv_has ls nL (am_lm B X l0)) (hR : am_R B X D cA h H) (hS : va_S (am_A B) s.heap H locs)
    (hki : am_isC q.2.1 = true) {M : Nat} {as r : List Value} (hdo : am_do df sc q l0 st h = some (.inr (.inr (M, as, r)))) {v : Option Value} {h1 : am_H} (hM : Met l (mi M).1 (am_wd mi M) (am_rm d mc ms) (am_Pc B X D cA sc as h) (am_Q B X D cA v h1) mc ms (am_A B)) (hf : cells + mc ≤ R.cells ∧ slots + ms ≤ R.slots)
    (k : ∀ (H1 : Heap) (locs1 : List Loc), am_R B X D cA h1 H1 → va_S (am_A B) s.heap H1 locs1 → W p l e R s m args below meth c H1 locs1 (cells + mc) (slots + ms) Q (F0 m (q.1 + 3) ls (am_vs B X (v.toList ++ r)))) :
    W p l e R s m args below meth c H locs cells slots Q (F0 m q.1 ls (am_vs B X st)) := by
  obtain ⟨hx, hb, hml, hown, hts, hret, hlocks, hnm, hG⟩ := hC
  obtain ⟨pc, ins, len, rs, cv⟩ := q
  have hpre : ∀ U : State, U.heap = H → s.WarmedH U.vm → am_Pc B X D cA sc as h (am_vs B X as).toArray U := fun U hU hW => ⟨rfl, by rw [hU]; exact hR, am_G.moved hW (by rw [hU]; exact hS) hG⟩
  cases ins with
  | invokestatic idx =>
    have hdo : (bif rs.length == 1 then am_mth (am_t rs) pc l0 st h else am_sta rs st) = some (.inr (.inr (M, as, r))) := hdo
    cases h1r : rs.length == 1 with
    | true =>
      rw [h1r] at hdo
      rcases am_mth_inv (show am_mth _ _ _ _ _ = _ from hdo) with ⟨_, _, _, _, _, e1⟩ | ⟨_, _, _, _, _, e1⟩ | ⟨_, _, _, _, _, _, e1⟩ | ⟨_, _, _, _, _, _, e1⟩ <;> cases e1
    | false =>
    rw [h1r] at hdo
    obtain ⟨n, M', as', r', rfl, hp, hcat, e1⟩ := am_sta_inv (show am_sta _ _ = _ from hdo)
    cases e1
    obtain ⟨rfl, hok⟩ : len = 3 ∧ (([n, M].length == 1) = true ∨ am_lS mi own idx n M) := hok
    rcases hok with hok | ⟨hmo, hw1, hw2, hpl⟩
    · cases hok
    obtain ⟨rfl, hn⟩ := am_pop_inv hp
    have hroom := lv_room (m := m) (pc := pc) (ls := ls) (rest := am_vs B X (as.reverse ++ r)) (st := am_vs B X r) (by rw [am_vs_sum]; exact hcat)
    refine am_after (rest := am_vs B X r) (va_runS (As := am_vs B X as) (rest := am_vs B X r) ⟨hx, hb, hml, hown, hts⟩ hM ⟨callB_of n hts (am_wd_in hmo) rfl rfl rfl (hts _ hmo.2.2.1) (hts _ hw1) hpl ⟨hF.1, ?_⟩, hts _ hw2⟩ ⟨am_blind B X D cA sc as h, hpre⟩ rfl (by unfold am_vs; rw [List.length_map]; exact hn) hl.1 ?_ hroom hd hf) hS (fun H1 locs1 hR1 hS1 => ?_)
    · have h45 := hmo.2.1
      show 8 + ((mi M).2.2.1 + 11) + 64 * d ≤ R.locals
      omega
    · show am_vs B X (as.reverse ++ r) = (am_vs B X as).reverse ++ am_vs B X r
      rw [am_vs_app, am_vs_rev]
    · rw [← am_vs_app]
      exact k H1 locs1 hR1 hS1
  | invokespecial idx =>
    obtain ⟨n, M', as', a, r', rfl, hp, hcat, e1⟩ := am_spc_inv2 (show am_spc _ _ _ _ _ = _ from hdo)
    cases e1
    obtain ⟨rfl, hok⟩ : len = 3 ∧ ([n, M] = [] ∨ am_lI mi own idx n M) := hok
    rcases hok with h9 | ⟨hmo, hw1, hw2, hini, hrn, hpl⟩
    · cases h9
    obtain ⟨rfl, hn⟩ := am_pop_inv hp
    have hroom := lv_room (m := m) (pc := pc) (ls := ls) (rest := am_vs B X (as'.reverse ++ .ref a :: r)) (st := am_vs B X r) (by rw [am_vs_sum]; exact hcat)
    have hwd : am_wd mi M = Cond.code (mi M).1 (mi M).2.1 (mi M).2.2.1 none :: am_tb := by unfold am_wd; rw [hrn]
    have h45 := hmo.2.1
    have hrm : 8 + ((mi M).2.2.1 + 11) + 64 * d ≤ R.locals := by omega
    have hstk : (F0 m pc ls (am_vs B X (as'.reverse ++ .ref a :: r))).stack = (am_vs B X as').reverse ++ .ref (B + a) :: am_vs B X r := by
      show am_vs B X (as'.reverse ++ .ref a :: r) = (am_vs B X as').reverse ++ .ref (B + a) :: am_vs B X r
      rw [am_vs_app, am_vs_rev]; rfl
    have hln : (am_vs B X as').length = n := by unfold am_vs; rw [List.length_map]; exact hn
    refine am_after (B := B) (X := X) (D := D) (cA := cA) (v := v) (h1 := h1) (mc := mc) (ms := ms) (rest := am_vs B X r) (a := (am_vs B X (.ref a :: as')).toArray) ?_ hS (fun H1 locs1 hR1 hS1 => ?_)
    · rcases hw1 with hw1 | ⟨host, hw1⟩
      · exact va_runI (As := am_vs B X as') (rest := am_vs B X r) ⟨hx, hb, hml, hown, hts⟩ hM ⟨callB_of n hts (am_wd_in hmo) hwd rfl rfl (hts _ hmo.2.2.1) (hts _ hw1) hpl ⟨hF.1, hrm⟩, hini, hts _ hw2⟩ ⟨am_blind B X D cA sc _ h, hpre⟩ rfl hln hl.1 hstk hroom hd hf
      · exact va_runIN (As := am_vs B X as') (rest := am_vs B X r) ⟨hx, hb, hml, hown, hts⟩ hM ⟨va_cnB n hts (am_wd_in hmo) hwd rfl rfl (hG.2.2.2.2.2.2.2.2.2 _ hw1) (hts _ hmo.2.2.1) hpl ⟨hF.1, hrm⟩, hini, hts _ hw2⟩ ⟨am_blind B X D cA sc _ h, hpre⟩ rfl hln hl.1 hstk hroom hd hf
    · rw [← am_vs_app]
      exact k H1 locs1 hR1 hS1
  | invokevirtual idx =>
    obtain ⟨n, ds, as', v0, r', ci, M', rfl, hp, hrc, hdi, hcat, e1⟩ := am_inv_inv (show am_inv _ _ _ = _ from hdo)
    cases e1
    obtain ⟨rfl, hok⟩ : len = 3 ∧ _ := hok
    obtain ⟨hmo, C, hcn, hw2, hok⟩ := hok ci M hdi
    obtain ⟨b, hvb, hrecv⟩ := am_recv hG hR hS hrc hcn
    obtain ⟨rfl, hn⟩ := am_pop_inv hp
    have hroom := lv_room (m := m) (pc := pc) (ls := ls) (rest := am_vs B X (as'.reverse ++ v0 :: r)) (st := am_vs B X r) (by rw [am_vs_sum]; exact hcat)
    have h45 := hmo.2.1
    have hrm : 8 + ((mi M).2.2.1 + 11) + 64 * d ≤ R.locals := by omega
    have hcons : am_vs B X (v0 :: as') = .ref b :: am_vs B X as' := by rw [← hvb]; rfl
    have hstk : (F0 m pc ls (am_vs B X (as'.reverse ++ v0 :: r))).stack = (am_vs B X as').reverse ++ .ref b :: am_vs B X r := by
      show am_vs B X (as'.reverse ++ v0 :: r) = (am_vs B X as').reverse ++ .ref b :: am_vs B X r
      rw [am_vs_app, am_vs_rev, ← hvb]; rfl
    have hln : (am_vs B X as').length = n := by unfold am_vs; rw [List.length_map]; exact hn
    rw [hcons] at hpre
    refine am_after (B := B) (X := X) (D := D) (cA := cA) (v := v) (h1 := h1) (mc := mc) (ms := ms) (rest := am_vs B X r) (a := (.ref b :: am_vs B X as').toArray) ?_ hS (fun H1 locs1 hR1 hS1 => ?_)
    · rcases hok with ⟨hl1, hl2, hpl⟩ | ⟨owner, x, hl1, hl2, hl3, hn1, hn2, hpr, hdec⟩
      · exact va_runV (C := C) (As := am_vs B X as') (rest := am_vs B X r) ⟨hx, hb, hml, hown, hts⟩ hM ⟨callB_of n hts (am_wd_in hmo) rfl rfl rfl (hts _ hmo.2.2.1) (hts _ hl1) hpl ⟨hF.1, hrm⟩, hts _ hw2, hts _ hl2⟩ ⟨am_blind B X D cA sc _ h, hrecv, hpre⟩ rfl hln hl.1 hstk hroom hd hf
      · have hc : Cond.code (mi M).1 (mi M).2.1 (mi M).2.2.1 (mi M).2.2.2 ∈ am_wd mi M := List.mem_cons_self
        have hdecl : va_Decl s ⟨owner, x.name, x.desc⟩ := by
          rcases hdec with hz | ⟨hz1, b0, m0, r0, hz2⟩
          · exact va_Decl.abs (hG.2.2.2.2.2.2.2.2.2 _ hz)
          · exact va_Decl.of (hts _ hz1) (hts _ hz2)
        exact va_runU (C := C) (owner := owner) (x := x) (n := n) (bytes := (mi M).2.1) (maxL := (mi M).2.2.1) (ret := (mi M).2.2.2) (As := am_vs B X as') (rest := am_vs B X r) ⟨hx, hb, hml, hown, hts⟩ hM ⟨⟨rfl, rfl, hF.1, hrm, pay_in hts (am_wd_in hmo), hc⟩, hts _ hmo.1, hts _ hmo.2.2.1, ⟨hn1, hn2⟩, fun sig h9 => by rw [h9] at hpr; exact (Option.some.inj hpr).symm, hts _ hl1, hts _ hl2, hdecl, hts _ hl3, hts _ hw2⟩ ⟨am_blind B X D cA sc _ h, hrecv, hpre⟩ rfl hln hl.1 hstk hroom hd hf
    · rw [← am_vs_app]
      exact k H1 locs1 hR1 hS1
  | _ => cases hki
end AMC
end
section
/-! The small machine's heap only grows; its steps and runs are the machine's. -/
theorem am_mo0 {h h' : am_H} (e : h' = h) : h.length ≤ h'.length ∧ am_sl h ≤ am_sl h' := by
  subst e
  exact ⟨Nat.le_refl _, Nat.le_refl _⟩
theorem am_mo1 {h h' : am_H} {x : va_E} (e : h' = h ++ [x]) : h.length ≤ h'.length ∧ am_sl h ≤ am_sl h' := by
  subst e
  rw [am_sl_app, List.length_append]
  exact ⟨by omega, by omega⟩
theorem am_mo2 {h h' : am_H} {a : Nat} {x y : va_E} (hh : h[a]? = some x) (e : h' = h.set a y) (hs : am_sz y = am_sz x) : h.length ≤ h'.length ∧ am_sl h ≤ am_sl h' := by
  subst e
  rw [am_sl_set hh hs, List.length_set]
  exact ⟨Nat.le_refl _, Nat.le_refl _⟩
theorem am_do_mono {df : Nat → List Value} {sc : Nat × (Nat → Int32)} {q : am_I} {l0 : am_L} {st : List Value} {h : am_H} {f' : am_F} {h' : am_H} (hdo : am_do df sc q l0 st h = some (.inl (f', h'))) : h.length ≤ h'.length ∧ am_sl h ≤ am_sl h' := by
  obtain ⟨pc, ins, len, rs, cv⟩ := q
  cases ins with
  | iconst n =>
    have e1 := (Option.some.inj (show some _ = some _ from hdo)).symm
    exact am_mo0 (am_inl e1).2
  | bipush n =>
    have e1 := (Option.some.inj (show some _ = some _ from hdo)).symm
    exact am_mo0 (am_inl e1).2
  | sipush n =>
    have e1 := (Option.some.inj (show some _ = some _ from hdo)).symm
    exact am_mo0 (am_inl e1).2
  | lconst n =>
    have e1 := (Option.some.inj (show some _ = some _ from hdo)).symm
    exact am_mo0 (am_inl e1).2
  | aconst_null =>
    have e1 := (Option.some.inj (show some _ = some _ from hdo)).symm
    exact am_mo0 (am_inl e1).2
  | ldc idx =>
    have e1 := (Option.some.inj (show some _ = some _ from hdo)).symm
    exact am_mo0 (am_inl e1).2
  | ldc_w idx =>
    have e1 := (Option.some.inj (show some _ = some _ from hdo)).symm
    exact am_mo0 (am_inl e1).2
  | ldc2_w idx =>
    have e1 := (Option.some.inj (show some _ = some _ from hdo)).symm
    exact am_mo0 (am_inl e1).2
  | getstatic idx =>
    have e1 := (Option.some.inj (show some _ = some _ from hdo)).symm
    exact am_mo0 (am_inl e1).2
  | goto off =>
    have e1 := (Option.some.inj (show some _ = some _ from hdo)).symm
    exact am_mo0 (am_inl e1).2
  | new idx =>
    have e1 := (Option.some.inj (show some _ = some _ from hdo)).symm
    exact am_mo1 (am_inl e1).2
  | iload_n i =>
    obtain ⟨x, hg, e1⟩ := am_ldI_inv (show am_ldI _ _ _ _ _ = _ from hdo)
    exact am_mo0 (am_inl e1).2
  | lload_n i =>
    obtain ⟨x, hg, e1⟩ := am_ldL_inv (show am_ldL _ _ _ _ _ = _ from hdo)
    exact am_mo0 (am_inl e1).2
  | istore_n i =>
    obtain ⟨x, r, rfl, e1⟩ := am_stI_inv (show am_stI _ _ _ _ _ = _ from hdo)
    exact am_mo0 (am_inl e1).2
  | lstore_n i =>
    obtain ⟨x, r, rfl, e1⟩ := am_stL_inv (show am_stL _ _ _ _ _ = _ from hdo)
    exact am_mo0 (am_inl e1).2
  | aload_n i =>
    rcases am_ldA_inv (show am_ldA _ _ _ _ _ = _ from hdo) with ⟨x, hg, e1⟩ | ⟨hg, e1⟩ | ⟨x, hg, e1⟩ <;> exact am_mo0 (am_inl e1).2
  | astore_n i =>
    rcases am_stA_inv (show am_stA _ _ _ _ _ = _ from hdo) with ⟨x, r, rfl, e1⟩ | ⟨r, rfl, e1⟩ | ⟨x, r, rfl, e1⟩ <;> exact am_mo0 (am_inl e1).2
  | iload i =>
    obtain ⟨x, hg, e1⟩ := am_ldI_inv (show am_ldI _ _ _ _ _ = _ from hdo)
    exact am_mo0 (am_inl e1).2
  | lload i =>
    obtain ⟨x, hg, e1⟩ := am_ldL_inv (show am_ldL _ _ _ _ _ = _ from hdo)
    exact am_mo0 (am_inl e1).2
  | istore i =>
    obtain ⟨x, r, rfl, e1⟩ := am_stI_inv (show am_stI _ _ _ _ _ = _ from hdo)
    exact am_mo0 (am_inl e1).2
  | lstore i =>
    obtain ⟨x, r, rfl, e1⟩ := am_stL_inv (show am_stL _ _ _ _ _ = _ from hdo)
    exact am_mo0 (am_inl e1).2
  | aload i =>
    rcases am_ldA_inv (show am_ldA _ _ _ _ _ = _ from hdo) with ⟨x, hg, e1⟩ | ⟨hg, e1⟩ | ⟨x, hg, e1⟩ <;> exact am_mo0 (am_inl e1).2
  | astore i =>
    rcases am_stA_inv (show am_stA _ _ _ _ _ = _ from hdo) with ⟨x, r, rfl, e1⟩ | ⟨r, rfl, e1⟩ | ⟨x, r, rfl, e1⟩ <;> exact am_mo0 (am_inl e1).2
  | iinc i n =>
    obtain ⟨x, hg, e1⟩ := am_inc_inv (show am_inc _ _ _ _ _ _ = _ from hdo)
    exact am_mo0 (am_inl e1).2
  | iadd =>
    obtain ⟨y, x, r, rfl, e1⟩ := am_b_inv (show am_b _ _ _ _ _ = _ from hdo)
    exact am_mo0 (am_inl e1).2
  | isub =>
    obtain ⟨y, x, r, rfl, e1⟩ := am_b_inv (show am_b _ _ _ _ _ = _ from hdo)
    exact am_mo0 (am_inl e1).2
  | imul =>
    obtain ⟨y, x, r, rfl, e1⟩ := am_b_inv (show am_b _ _ _ _ _ = _ from hdo)
    exact am_mo0 (am_inl e1).2
  | iand =>
    obtain ⟨y, x, r, rfl, e1⟩ := am_b_inv (show am_b _ _ _ _ _ = _ from hdo)
    exact am_mo0 (am_inl e1).2
  | ior =>
    obtain ⟨y, x, r, rfl, e1⟩ := am_b_inv (show am_b _ _ _ _ _ = _ from hdo)
    exact am_mo0 (am_inl e1).2
  | ixor =>
    obtain ⟨y, x, r, rfl, e1⟩ := am_b_inv (show am_b _ _ _ _ _ = _ from hdo)
    exact am_mo0 (am_inl e1).2
  | ishl =>
    obtain ⟨y, x, r, rfl, e1⟩ := am_b_inv (show am_b _ _ _ _ _ = _ from hdo)
    exact am_mo0 (am_inl e1).2
  | ishr =>
    obtain ⟨y, x, r, rfl, e1⟩ := am_b_inv (show am_b _ _ _ _ _ = _ from hdo)
    exact am_mo0 (am_inl e1).2
  | ladd =>
    obtain ⟨y, x, r, rfl, e1⟩ := am_bL_inv (show am_bL _ _ _ _ _ = _ from hdo)
    exact am_mo0 (am_inl e1).2
  | lsub =>
    obtain ⟨y, x, r, rfl, e1⟩ := am_bL_inv (show am_bL _ _ _ _ _ = _ from hdo)
    exact am_mo0 (am_inl e1).2
  | lmul =>
    obtain ⟨y, x, r, rfl, e1⟩ := am_bL_inv (show am_bL _ _ _ _ _ = _ from hdo)
    exact am_mo0 (am_inl e1).2
  | idiv =>
    obtain ⟨y, x, r, rfl, hne, e1⟩ := am_dv_inv (show am_dv _ _ _ _ _ = _ from hdo)
    exact am_mo0 (am_inl e1).2
  | irem =>
    obtain ⟨y, x, r, rfl, hne, e1⟩ := am_dv_inv (show am_dv _ _ _ _ _ = _ from hdo)
    exact am_mo0 (am_inl e1).2
  | ldiv =>
    obtain ⟨y, x, r, rfl, hne, e1⟩ := am_dvL_inv (show am_dvL _ _ _ _ _ = _ from hdo)
    exact am_mo0 (am_inl e1).2
  | lrem =>
    obtain ⟨y, x, r, rfl, hne, e1⟩ := am_dvL_inv (show am_dvL _ _ _ _ _ = _ from hdo)
    exact am_mo0 (am_inl e1).2
  | ineg =>
    obtain ⟨x, r, rfl, e1⟩ := am_u_inv (show am_u _ _ _ _ _ = _ from hdo)
    exact am_mo0 (am_inl e1).2
  | i2l =>
    obtain ⟨x, r, rfl, e1⟩ := am_u_inv (show am_u _ _ _ _ _ = _ from hdo)
    exact am_mo0 (am_inl e1).2
  | i2c =>
    obtain ⟨x, r, rfl, e1⟩ := am_u_inv (show am_u _ _ _ _ _ = _ from hdo)
    exact am_mo0 (am_inl e1).2
  | lneg =>
    obtain ⟨x, r, rfl, e1⟩ := am_uL_inv (show am_uL _ _ _ _ _ = _ from hdo)
    exact am_mo0 (am_inl e1).2
  | l2i =>
    obtain ⟨x, r, rfl, e1⟩ := am_uL_inv (show am_uL _ _ _ _ _ = _ from hdo)
    exact am_mo0 (am_inl e1).2
  | lcmp =>
    obtain ⟨y, x, r, rfl, e1⟩ := am_cmp_inv (show am_cmp _ _ _ _ = _ from hdo)
    exact am_mo0 (am_inl e1).2
  | dup =>
    obtain ⟨v, r, rfl, hcat, e1⟩ := am_dup_inv (show am_dup _ _ _ _ = _ from hdo)
    exact am_mo0 (am_inl e1).2
  | dup2 =>
    obtain ⟨v, w, r, rfl, hcat, e1⟩ := am_dup2_inv (show am_dup2 _ _ _ _ = _ from hdo)
    exact am_mo0 (am_inl e1).2
  | pop =>
    obtain ⟨v, r, rfl, hcat, e1⟩ := am_drop_inv (show am_drop _ _ _ _ = _ from hdo)
    exact am_mo0 (am_inl e1).2
  | ifCond cnd off =>
    cases cnd <;> (obtain ⟨x, r, rfl, e1⟩ := am_if_inv (show am_if _ _ _ _ _ _ = _ from hdo); exact am_mo0 (am_inl e1).2)
  | if_icmp cnd off =>
    cases cnd <;> (obtain ⟨y, x, r, rfl, e1⟩ := am_ic_inv (show am_ic _ _ _ _ _ _ = _ from hdo); exact am_mo0 (am_inl e1).2)
  | ifnull off =>
    rcases am_null_inv (show am_null _ _ _ _ _ = _ from hdo) with ⟨r, rfl, e1⟩ | ⟨x, r, rfl, e1⟩ <;> exact am_mo0 (am_inl e1).2
  | ifnonnull off =>
    rcases am_null_inv (show am_null _ _ _ _ _ = _ from hdo) with ⟨r, rfl, e1⟩ | ⟨x, r, rfl, e1⟩ <;> exact am_mo0 (am_inl e1).2
  | tableswitch d lo hi offs =>
    obtain ⟨x, r, rfl, ⟨hout, e1⟩ | ⟨hin, t, ht, e1⟩⟩ := am_tsw_inv (show am_tsw _ _ _ _ _ _ = _ from hdo) <;> exact am_mo0 (am_inl e1).2
  | getfield idx =>
    rcases am_gf_inv (show am_gf _ _ _ _ _ = _ from hdo) with ⟨a, r, ci, fs, v, rfl, hh, hci, hv, e1⟩ | ⟨kk, r, rfl, hkk, ⟨hr, e1⟩ | ⟨hr, e1⟩⟩ <;> exact am_mo0 (am_inl e1).2
  | putfield idx =>
    obtain ⟨v, a, r, ci, fs, rfl, hh, hci, hfit, hkl, e1⟩ := am_pf_inv (show am_pf _ _ _ _ _ = _ from hdo)
    exact am_mo2 hh (am_inl e1).2 (by show (fs.set _ _).length = fs.length; rw [List.length_set])
  | iaload =>
    rcases am_ial_inv (show am_ial _ _ _ _ _ = _ from hdo) with ⟨i, a, r, n, f, rfl, hh, hin, e1⟩ | ⟨i, r, rfl, hin, e1⟩ <;> exact am_mo0 (am_inl e1).2
  | laload =>
    obtain ⟨i, a, r, n, f, rfl, hh, hin, e1⟩ := am_lal_inv (show am_lal _ _ _ _ = _ from hdo)
    exact am_mo0 (am_inl e1).2
  | baload =>
    rcases am_bal_inv (show am_bal _ _ _ _ = _ from hdo) with ⟨i, a, r, n, f, rfl, hh, hin, e1⟩ | ⟨i, kk, r, rfl, hkk, hin, e1⟩ <;> exact am_mo0 (am_inl e1).2
  | aaload =>
    obtain ⟨i, a, r, t, n, f, rfl, hh, hin, ht, e1⟩ := am_aal_inv (show am_aal _ _ _ _ = _ from hdo)
    exact am_mo0 (am_inl e1).2
  | iastore =>
    obtain ⟨x, i, a, r, n, f, rfl, hh, hin, e1⟩ := am_ias_inv (show am_ias _ _ _ _ = _ from hdo)
    exact am_mo2 hh (am_inl e1).2 rfl
  | lastore =>
    obtain ⟨x, i, a, r, n, f, rfl, hh, hin, e1⟩ := am_las_inv (show am_las _ _ _ _ = _ from hdo)
    exact am_mo2 hh (am_inl e1).2 rfl
  | bastore =>
    obtain ⟨x, i, a, r, n, f, rfl, hh, hin, hx1, e1⟩ := am_bas_inv (show am_bas _ _ _ _ = _ from hdo)
    exact am_mo2 hh (am_inl e1).2 rfl
  | aastore =>
    rcases am_aas_inv (show am_aas _ _ _ _ = _ from hdo) with ⟨i, a, r, t, n, f, rfl, hh, hin, ht, e1⟩ | ⟨v, i, a, r, t, n, f, ci, fs, rfl, hh, hv, hin, hmay, e1⟩ <;> exact am_mo2 hh (am_inl e1).2 rfl
  | arraylength =>
    rcases am_len_inv (show am_len _ _ _ _ _ = _ from hdo) with ⟨a, r, t, x, rfl, hh, ht, e1⟩ | ⟨r, rfl, e1⟩ | ⟨kk, r, rfl, hkk, e1⟩ <;> exact am_mo0 (am_inl e1).2
  | newarray t =>
    obtain ⟨n, r, rfl, hn0, hnl, htag, e1⟩ := am_nar_inv (show am_nar _ _ _ _ _ = _ from hdo)
    exact am_mo1 (am_inl e1).2
  | anewarray idx =>
    obtain ⟨n, r, rfl, hn0, hnl, ht, e1⟩ := am_anw_inv (show am_anw _ _ _ _ _ = _ from hdo)
    exact am_mo1 (am_inl e1).2
  | instanceof idx =>
    obtain ⟨a, r, ci, fs, rfl, hh, hci, e1⟩ := am_ins_inv (show am_ins _ _ _ _ _ = _ from hdo)
    exact am_mo0 (am_inl e1).2
  | invokespecial idx =>
    obtain ⟨hr, a, r, rfl, hcat, e1⟩ := am_spc_inv (show am_spc _ _ _ _ _ = _ from hdo)
    exact am_mo0 (am_inl e1).2
  | ireturn =>
    obtain ⟨x, rfl, hnw, e1⟩ := am_ret_inv (show am_ret _ _ = _ from hdo)
    cases e1
  | lreturn =>
    obtain ⟨x, rfl, e1⟩ := am_retL_inv (show am_retL _ = _ from hdo)
    cases e1
  | areturn =>
    obtain ⟨x, rfl, hv, e1⟩ := am_retA_inv (show am_retA _ = _ from hdo)
    cases e1
  | return_ =>
    obtain ⟨rfl, e1⟩ := am_retV_inv (show am_retV _ = _ from hdo)
    cases e1
  | invokestatic idx =>
    have hdo : (bif rs.length == 1 then am_mth (am_t rs) pc l0 st h else am_sta rs st) = some (.inl (f', h')) := hdo
    cases h1r : rs.length == 1 with
    | false =>
      rw [h1r] at hdo
      obtain ⟨n, M, as, r, rfl, hp, hcat, e1⟩ := am_sta_inv (show am_sta _ _ = _ from hdo)
      cases e1
    | true =>
      rw [h1r] at hdo
      rcases am_mth_inv (show am_mth _ _ _ _ _ = _ from hdo) with ⟨x, r, hz9, rfl, hcat, e1⟩ | ⟨x, r, hz9, rfl, hcat, e1⟩ | ⟨y, x, r, hz9, rfl, hcat, e1⟩ | ⟨y, x, r, hz9, rfl, hcat, e1⟩ <;> exact am_mo0 (am_inl e1).2
  | invokevirtual idx =>
    obtain ⟨n, ds, as, v, r, ci, M, rfl, hp, hr, hm, hcat, e1⟩ := am_inv_inv (show am_inv _ _ _ = _ from hdo)
    cases e1
  | _ => exact absurd (show (none : Option am_O) = _ from hdo) (by simp)
def am_Mo (call : Nat → List Value → am_H → Option (Option Value × am_H)) : Prop := ∀ (M : Nat) (as : List Value) (h : am_H) (v : Option Value) (h1 : am_H), call M as h = some (v, h1) → h.length ≤ h1.length ∧ am_sl h ≤ am_sl h1
/-- what a step of a method is, one of three -/
theorem am_steps_inv {df : Nat → List Value} {sc : Nat × (Nat → Int32)} {call : Nat → List Value → am_H → Option (Option Value × am_H)} {code : List am_I} {n : Nat} {f : am_F} {h : am_H} {r : Option Value} {h' : am_H} (hs : am_steps df sc call code (n + 1) f h = some (r, h')) : ∃ q ∈ code, q.1 = f.1 ∧
    ((∃ (f1 : am_F) (h1 : am_H), am_do df sc q f.2.1 f.2.2 h = some (.inl (f1, h1)) ∧ am_steps df sc call code n f1 h1 = some (r, h')) ∨
     (am_do df sc q f.2.1 f.2.2 h = some (.inr (.inl r)) ∧ am_isR q.2.1 = true ∧ h' = h) ∨
     (∃ (M : Nat) (as rest : List Value) (v : Option Value) (h1 : am_H), am_do df sc q f.2.1 f.2.2 h = some (.inr (.inr (M, as, rest))) ∧ am_isC q.2.1 = true ∧ call M as h = some (v, h1) ∧ am_steps df sc call code n (f.1 + 3, f.2.1, v.toList ++ rest) h1 = some (r, h'))) := by
  unfold am_steps at hs
  split at hs
  · cases hs
  · rename_i q hq
    refine ⟨q, List.mem_of_find?_eq_some hq, by simpa using List.find?_some hq, ?_⟩
    split at hs
    · cases hs
    · rename_i f1 h1 hdo
      exact Or.inl ⟨f1, h1, hdo, hs⟩
    · rename_i r1 hdo
      cases hk : am_isR q.2.1 with
      | false => rw [hk] at hs; cases hs
      | true =>
        rw [hk] at hs
        cases hs
        exact Or.inr (Or.inl ⟨hdo, rfl, rfl⟩)
    · rename_i M as rest hdo
      cases hk : am_isC q.2.1 with
      | false => rw [hk] at hs; cases hs
      | true =>
        rw [hk] at hs
        dsimp only [cond_true] at hs
        split at hs
        · cases hs
        · rename_i v h1 hc
          exact Or.inr (Or.inr ⟨M, as, rest, v, h1, hdo, rfl, hc, hs⟩)
theorem am_steps_mono {df : Nat → List Value} {sc : Nat × (Nat → Int32)} {call : Nat → List Value → am_H → Option (Option Value × am_H)} {code : List am_I} (hm : am_Mo call) : ∀ (n : Nat) {f : am_F} {h : am_H} {r : Option Value} {h' : am_H}, am_steps df sc call code n f h = some (r, h') → h.length ≤ h'.length ∧ am_sl h ≤ am_sl h'
  | 0, f, h, r, h', hs => by cases hs
  | n + 1, f, h, r, h', hs => by
    obtain ⟨q, -, -, hq⟩ := am_steps_inv hs
    rcases hq with ⟨f1, h1, hdo, hn⟩ | ⟨-, -, rfl⟩ | ⟨M, as, rest, v, h1, -, -, hc, hn⟩
    · have a := am_do_mono hdo
      have b := am_steps_mono hm n hn
      exact ⟨Nat.le_trans a.1 b.1, Nat.le_trans a.2 b.2⟩
    · exact ⟨Nat.le_refl _, Nat.le_refl _⟩
    · have a := hm _ _ _ _ _ hc
      have b := am_steps_mono hm n hn
      exact ⟨Nat.le_trans a.1 b.1, Nat.le_trans a.2 b.2⟩
theorem am_run_mono {df : Nat → List Value} {sc : Nat × (Nat → Int32)} {P : Nat → Nat × List am_I} {n : Nat} : ∀ d, am_Mo (am_run df sc P n d)
  | 0 => fun M as h v h1 hr => by cases hr
  | d + 1 => fun M as h v h1 hr => by
    unfold am_run at hr
    split at hr
    · exact am_steps_mono (am_run_mono d) n hr
    · cases hr
/-- what must hold of a method's code -/
def am_pok (df : Nat → List Value) (mi : am_MI) (P : Nat → Nat × List am_I) (M : Nat) : Prop := am_mok mi M ∧ (P M).1 = (mi M).2.2.1 ∧ ∀ q ∈ (P M).2, decode (mi M).2.1 q.1 = .ok (q.2.1, q.2.2.1) ∧ am_okP df (mi M).1.cls (mi M).1.name (mi M).2.2.1 (mi M).2.2.2 q ∧ am_okC mi (mi M).1.cls q
def am_cal (B : Nat) (X : Nat → Option Nat) (D : va_G) (cA : Nat → Nat) (sc : Nat × (Nat → Int32)) (mi : am_MI) (l : Launch) (d : Nat) (call : Nat → List Value → am_H → Option (Option Value × am_H)) : Prop := ∀ (M : Nat) (as : List Value) (h : am_H) (v : Option Value) (h1 : am_H), call M as h = some (v, h1) → Met l (mi M).1 (am_wd mi M) (am_rm d (h1.length - h.length) (am_sl h1 - am_sl h)) (am_Pc B X D cA sc as h) (am_Q B X D cA v h1) (h1.length - h.length) (am_sl h1 - am_sl h) (am_A B)
set_option maxHeartbeats 1000000 in
theorem am_steps_snd {B : Nat} {X : Nat → Option Nat} {D : va_G} {cA : Nat → Nat} {sc : Nat × (Nat → Int32)} {own nm : String} {cc : ByteArray} {nL : Nat} {ret : Option FieldType} {df : Nat → List Value} {mi : am_MI} {d : Nat}
    {p : Program} {l : Launch} {e : Env} {R : Room} {s : State} {m : MethodId} {args : Array Value} {below : List Frame} {meth : Method} {c : Code} {Q : State → Prop} {call : Nat → List Value → am_H → Option (Option Value × am_H)} {code : List am_I}
    (hC : am_C B X D cA sc own nm cc nL ret p s m args meth c) (hF : d + 1 ≤ R.frames ∧ 64 * d + 64 ≤ R.locals) (hcal : am_cal B X D cA sc mi l d call) (hmo : am_Mo call) (hcode : ∀ q ∈ code, decode cc q.1 = .ok (q.2.1, q.2.2.1) ∧ am_okP df own nm nL ret q ∧ am_okC mi own q)
    {h0 : am_H} {r : Option Value} {h' : am_H} (hRc : h'.length - h0.length ≤ R.cells) (hRs : am_sl h' - am_sl h0 ≤ R.slots)
    (hend : ∀ (q : am_I) (l0 : am_L) (st : List Value) (ls : Array Slot) (H : Heap) (locs : List Loc), q ∈ code → am_do df sc q l0 st h' = some (.inr (.inl r)) → am_isR q.2.1 = true → lv_has ls nL (am_lm B X l0) → am_R B X D cA h' H → va_S (am_A B) s.heap H locs → W p l e R s m args below meth c H locs (h'.length - h0.length) (am_sl h' - am_sl h0) Q (F0 m q.1 ls (am_vs B X st))) :
    ∀ (n : Nat) (f : am_F) (h : am_H) (ls : Array Slot) (H : Heap) (locs : List Loc), am_steps df sc call code n f h = some (r, h') → lv_has ls nL (am_lm B X f.2.1) → am_R B X D cA h H → va_S (am_A B) s.heap H locs → h0.length ≤ h.length → am_sl h0 ≤ am_sl h → W p l e R s m args below meth c H locs (h.length - h0.length) (am_sl h - am_sl h0) Q (F0 m f.1 ls (am_vs B X f.2.2))
  | 0, f, h, ls, H, locs, hs, _, _, _, _, _ => by cases hs
  | n + 1, f, h, ls, H, locs, hs, hl, hR, hS, hc1, hc2 => by
    obtain ⟨q, hq, hpc, hst⟩ := am_steps_inv hs
    obtain ⟨k1, k2, k3⟩ := hcode q hq
    rcases hst with ⟨f1, h1, hdo, hn⟩ | ⟨hdo, hk, rfl⟩ | ⟨M, as, rest, v, h1, hdo, hk, hc, hn⟩
    · have a := am_do_mono hdo
      have b := am_steps_mono hmo n hn
      rw [← hpc]
      refine am_snd hC ⟨by omega, by omega⟩ k1 k2 hl hR hS hdo (by omega) (by omega) (fun ls' H' locs' hl' hR' hS' => ?_)
      have w := am_steps_snd hC hF hcal hmo hcode hRc hRs hend n f1 h1 ls' H' locs' hn hl' hR' hS' (by omega) (by omega)
      rw [show h.length - h0.length + (h1.length - h.length) = h1.length - h0.length by omega, show am_sl h - am_sl h0 + (am_sl h1 - am_sl h) = am_sl h1 - am_sl h0 by omega]
      exact w
    · rw [← hpc]
      exact hend q f.2.1 f.2.2 ls H locs hq hdo hk hl hR hS
    · have a := hmo _ _ _ _ _ hc
      have b := am_steps_mono hmo n hn
      rw [← hpc]
      refine am_snd_call (d := d) hC hF k1 k3 hl hR hS hk hdo (hcal M as h v h1 hc) ⟨by omega, by omega⟩ (fun H1 locs1 hR1 hS1 => ?_)
      have w := am_steps_snd hC hF hcal hmo hcode hRc hRs hend n (f.1 + 3, f.2.1, v.toList ++ rest) h1 ls H1 locs1 hn hl hR1 hS1 (by omega) (by omega)
      rw [show h.length - h0.length + (h1.length - h.length) = h1.length - h0.length by omega, show am_sl h - am_sl h0 + (am_sl h1 - am_sl h) = am_sl h1 - am_sl h0 by omega, hpc]
      exact w
theorem am_sl_len (B : Nat) (X : Nat → Option Nat) (as : List Value) : (lg_sl (am_vs B X as)).length = (as.map fun v => v.category).sum := by
  induction as with
  | nil => rfl
  | cons v as ih =>
    show (lg_sl (am_v B X v :: am_vs B X as)).length = v.category + (as.map fun v => v.category).sum
    rw [← ih]
    unfold lg_sl
    rw [List.flatMap_cons, List.length_append, am_v_cat]
    rcases lv_cat v with h | h <;> rw [h] <;> rfl
/-- A RUN of the small machine is one of the machine -/
theorem am_run_snd {B : Nat} {X : Nat → Option Nat} {D : va_G} {cA : Nat → Nat} {sc : Nat × (Nat → Int32)} {df : Nat → List Value} {mi : am_MI} {P : Nat → Nat × List am_I} {n : Nat} {l : Launch} (hall : ∀ M, (P M).2 ≠ [] → am_pok df mi P M) : ∀ d, am_cal B X D cA sc mi l d (am_run df sc P n d)
  | 0 => fun M as h v h1 hr => by cases hr
  | d + 1 => fun M as h v h1 hr => by
    unfold am_run at hr
    split at hr
    · rename_i hsum
      have hne : (P M).2 ≠ [] := by
        intro e0
        rw [e0] at hr
        cases n with
        | zero => cases hr
        | succ n => obtain ⟨q, hq, -⟩ := am_steps_inv hr; cases hq
      obtain ⟨hmok, hmx, hcode⟩ := hall M hne
      have hmono := am_steps_mono (am_run_mono d) n hr
      refine Met.ofW (cc := (mi M).2.1) (maxL := (mi M).2.2.1) (ret := (mi M).2.2.2) hmok.2.2.2 rfl ?_
      intro p e s m args below meth c s₁ B0 hml hv
      obtain ⟨rfl, hR, hG⟩ := hv
      have hts := atoms_spec (ws := am_wd mi M) B0.pre
      have hown : s.vm.findClass (mi M).1.cls = some m.cls := findClass_of_methodNamed B0.named
      have hC : am_C B X D cA sc (mi M).1.cls (mi M).1.name (mi M).2.1 (mi M).2.2.1 (mi M).2.2.2 p s m (am_vs B X as).toArray meth c := ⟨B0.exec, B0.bytes, hml, hown, fun w hw => hts w (List.mem_cons_of_mem _ hw), B0.returns, B0.notSynchronized, (name_of_methodNamed B0.named B0.method).1, hG⟩
      have hl := lv_entry (am_vs B X as) (n := (mi M).2.2.1) (by rw [am_sl_len, ← hmx]; exact hsum)
      rw [lg_entry_eq]
      generalize (lg_sl (am_vs B X as) ++ List.replicate ((mi M).2.2.1 - (lg_sl (am_vs B X as)).length) Slot.unset).toArray = ls at hl ⊢
      rw [am_lm_args] at hl
      have w := am_steps_snd (l := l) (R := am_rm (d + 1) (h1.length - h.length) (am_sl h1 - am_sl h)) (Q := MQ below (am_Q B X D cA v h1) (am_vs B X as).toArray s (h1.length - h.length) (am_sl h1 - am_sl h) (am_A B)) (below := below) (e := e) hC ⟨Nat.le_refl _, by show 64 * d + 64 ≤ 64 * (d + 1); omega⟩ (am_run_snd (l := l) hall d) (am_run_mono d) hcode (h0 := h) (r := v) (h' := h1) (Nat.le_refl _) (Nat.le_refl _) (fun q l0 st ls H locs hq hdo hk hl hR2 hS2 => am_snd_ret hC (hcode q hq).1 (hcode q hq).2.1 hk hdo (fun t ht hW => ⟨⟨rfl, by rw [ht]; exact hR2⟩, hS2.F ht⟩) hS2.2.2) n (0, lv_args 0 as, []) h ls s.heap [] hr hl hR va_S.rf (Nat.le_refl _) (Nat.le_refl _)
      rw [Nat.sub_self, Nat.sub_self] at w
      exact w
    · cases hr
end
section
theorem zz_end : True := trivial
end
