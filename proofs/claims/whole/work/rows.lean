section
-- ===== PART A: goes FIRST, ahead of the names: the tables' words, and 'selects' of the private methods out of them =====
/-- a private method of a class that the tables say can be made, by its rows of tables_1 -/
def lw_okq (q : MethodName × Nat) : Prop := (q.1.cls ≠ "java/lang/invoke/MethodHandle" ∧ q.1.cls ≠ "java/lang/invoke/VarHandle") ∧ Cond.instantiable q.1.cls q.2 ∈ tables_1 ∧ Cond.privateMethod q.1 ∈ tables_1 ∧ Cond.instanceMethod q.1 ∈ tables_1
theorem lw_p0 : lw_okq (⟨"RodBeads", "readDraft", "()I"⟩, 16) := ⟨⟨by decide +kernel, by decide +kernel⟩, List.mem_of_getElem? (i := 21) (by decide +kernel), List.mem_of_getElem? (i := 246) (by decide +kernel), List.mem_of_getElem? (i := 247) (by decide +kernel)⟩
theorem lw_p1 : lw_okq (⟨"RodBeads$Text", "letterAt", "(I)I"⟩, 6) := ⟨⟨by decide +kernel, by decide +kernel⟩, List.mem_of_getElem? (i := 29) (by decide +kernel), List.mem_of_getElem? (i := 270) (by decide +kernel), List.mem_of_getElem? (i := 271) (by decide +kernel)⟩
theorem lw_p2 : lw_okq (⟨"RodBeads$Frame", "readClause", "(LRodBeads$Text;)V"⟩, 3) := ⟨⟨by decide +kernel, by decide +kernel⟩, List.mem_of_getElem? (i := 129) (by decide +kernel), List.mem_of_getElem? (i := 283) (by decide +kernel), List.mem_of_getElem? (i := 284) (by decide +kernel)⟩
theorem lw_p3 : lw_okq (⟨"RodBeads$Frame", "readRod", "(LRodBeads$Text;I)V"⟩, 3) := ⟨⟨by decide +kernel, by decide +kernel⟩, List.mem_of_getElem? (i := 129) (by decide +kernel), List.mem_of_getElem? (i := 365) (by decide +kernel), List.mem_of_getElem? (i := 366) (by decide +kernel)⟩
theorem lw_p4 : lw_okq (⟨"RodBeads$Sums", "expression", "(LRodBeads$Text;I)J"⟩, 4) := ⟨⟨by decide +kernel, by decide +kernel⟩, List.mem_of_getElem? (i := 58) (by decide +kernel), List.mem_of_getElem? (i := 464) (by decide +kernel), List.mem_of_getElem? (i := 465) (by decide +kernel)⟩
theorem lw_p5 : lw_okq (⟨"RodBeads$Sums", "part", "(LRodBeads$Text;I)J"⟩, 4) := ⟨⟨by decide +kernel, by decide +kernel⟩, List.mem_of_getElem? (i := 58) (by decide +kernel), List.mem_of_getElem? (i := 468) (by decide +kernel), List.mem_of_getElem? (i := 469) (by decide +kernel)⟩
theorem lw_p6 : lw_okq (⟨"RodBeads$Sums", "multiplied", "(JJ)J"⟩, 4) := ⟨⟨by decide +kernel, by decide +kernel⟩, List.mem_of_getElem? (i := 58) (by decide +kernel), List.mem_of_getElem? (i := 475) (by decide +kernel), List.mem_of_getElem? (i := 476) (by decide +kernel)⟩
theorem lw_p7 : lw_okq (⟨"RodBeads$Sums", "divided", "(JJ)J"⟩, 4) := ⟨⟨by decide +kernel, by decide +kernel⟩, List.mem_of_getElem? (i := 58) (by decide +kernel), List.mem_of_getElem? (i := 483) (by decide +kernel), List.mem_of_getElem? (i := 484) (by decide +kernel)⟩
theorem lw_p8 : lw_okq (⟨"RodBeads$Sums", "bounded", "(J)J"⟩, 4) := ⟨⟨by decide +kernel, by decide +kernel⟩, List.mem_of_getElem? (i := 58) (by decide +kernel), List.mem_of_getElem? (i := 487) (by decide +kernel), List.mem_of_getElem? (i := 488) (by decide +kernel)⟩
theorem lw_p9 : lw_okq (⟨"RodBeads", "remember", "()V"⟩, 16) := ⟨⟨by decide +kernel, by decide +kernel⟩, List.mem_of_getElem? (i := 21) (by decide +kernel), List.mem_of_getElem? (i := 508) (by decide +kernel), List.mem_of_getElem? (i := 509) (by decide +kernel)⟩
theorem lw_p10 : lw_okq (⟨"RodBeads", "theNumber", "()J"⟩, 16) := ⟨⟨by decide +kernel, by decide +kernel⟩, List.mem_of_getElem? (i := 21) (by decide +kernel), List.mem_of_getElem? (i := 524) (by decide +kernel), List.mem_of_getElem? (i := 525) (by decide +kernel)⟩
theorem lw_p11 : lw_okq (⟨"RodBeads", "doStatement", "()Z"⟩, 16) := ⟨⟨by decide +kernel, by decide +kernel⟩, List.mem_of_getElem? (i := 21) (by decide +kernel), List.mem_of_getElem? (i := 559) (by decide +kernel), List.mem_of_getElem? (i := 560) (by decide +kernel)⟩
theorem lw_p12 : lw_okq (⟨"RodBeads", "settle", "(LRodBeads$Standing;J)I"⟩, 16) := ⟨⟨by decide +kernel, by decide +kernel⟩, List.mem_of_getElem? (i := 21) (by decide +kernel), List.mem_of_getElem? (i := 563) (by decide +kernel), List.mem_of_getElem? (i := 564) (by decide +kernel)⟩
theorem lw_p13 : lw_okq (⟨"RodBeads$Ways", "loadRod", "(ILRodBeads$Rod;LRodBeads$Standing;Z)V"⟩, 14) := ⟨⟨by decide +kernel, by decide +kernel⟩, List.mem_of_getElem? (i := 80) (by decide +kernel), List.mem_of_getElem? (i := 576) (by decide +kernel), List.mem_of_getElem? (i := 577) (by decide +kernel)⟩
theorem lw_p14 : lw_okq (⟨"RodBeads$Ways", "addChoice", "(III)V"⟩, 14) := ⟨⟨by decide +kernel, by decide +kernel⟩, List.mem_of_getElem? (i := 80) (by decide +kernel), List.mem_of_getElem? (i := 628) (by decide +kernel), List.mem_of_getElem? (i := 629) (by decide +kernel)⟩
theorem lw_p15 : lw_okq (⟨"RodBeads$Ways", "loadBounds", "(II)V"⟩, 14) := ⟨⟨by decide +kernel, by decide +kernel⟩, List.mem_of_getElem? (i := 80) (by decide +kernel), List.mem_of_getElem? (i := 633) (by decide +kernel), List.mem_of_getElem? (i := 634) (by decide +kernel)⟩
def lw_privs_1 : List (MethodName × Nat) := [(⟨"RodBeads", "readDraft", "()I"⟩, 16), (⟨"RodBeads$Text", "letterAt", "(I)I"⟩, 6), (⟨"RodBeads$Frame", "readClause", "(LRodBeads$Text;)V"⟩, 3), (⟨"RodBeads$Frame", "readRod", "(LRodBeads$Text;I)V"⟩, 3), (⟨"RodBeads$Sums", "expression", "(LRodBeads$Text;I)J"⟩, 4), (⟨"RodBeads$Sums", "part", "(LRodBeads$Text;I)J"⟩, 4), (⟨"RodBeads$Sums", "multiplied", "(JJ)J"⟩, 4), (⟨"RodBeads$Sums", "divided", "(JJ)J"⟩, 4), (⟨"RodBeads$Sums", "bounded", "(J)J"⟩, 4), (⟨"RodBeads", "remember", "()V"⟩, 16), (⟨"RodBeads", "theNumber", "()J"⟩, 16), (⟨"RodBeads", "doStatement", "()Z"⟩, 16), (⟨"RodBeads", "settle", "(LRodBeads$Standing;J)I"⟩, 16), (⟨"RodBeads$Ways", "loadRod", "(ILRodBeads$Rod;LRodBeads$Standing;Z)V"⟩, 14), (⟨"RodBeads$Ways", "addChoice", "(III)V"⟩, 14), (⟨"RodBeads$Ways", "loadBounds", "(II)V"⟩, 14)]
theorem lw_r1 : ∀ q ∈ lw_privs_1, lw_okq q := List.forall_mem_cons.mpr ⟨lw_p0, List.forall_mem_cons.mpr ⟨lw_p1, List.forall_mem_cons.mpr ⟨lw_p2, List.forall_mem_cons.mpr ⟨lw_p3, List.forall_mem_cons.mpr ⟨lw_p4, List.forall_mem_cons.mpr ⟨lw_p5, List.forall_mem_cons.mpr ⟨lw_p6, List.forall_mem_cons.mpr ⟨lw_p7, List.forall_mem_cons.mpr ⟨lw_p8, List.forall_mem_cons.mpr ⟨lw_p9, List.forall_mem_cons.mpr ⟨lw_p10, List.forall_mem_cons.mpr ⟨lw_p11, List.forall_mem_cons.mpr ⟨lw_p12, List.forall_mem_cons.mpr ⟨lw_p13, List.forall_mem_cons.mpr ⟨lw_p14, List.forall_mem_cons.mpr ⟨lw_p15, fun _ h => absurd h List.not_mem_nil⟩⟩⟩⟩⟩⟩⟩⟩⟩⟩⟩⟩⟩⟩⟩⟩
theorem lw_p16 : lw_okq (⟨"RodBeads$Ways", "aim", "(I)V"⟩, 14) := ⟨⟨by decide +kernel, by decide +kernel⟩, List.mem_of_getElem? (i := 80) (by decide +kernel), List.mem_of_getElem? (i := 653) (by decide +kernel), List.mem_of_getElem? (i := 654) (by decide +kernel)⟩
theorem lw_p17 : lw_okq (⟨"RodBeads$Ways", "baseOf", "(I)I"⟩, 14) := ⟨⟨by decide +kernel, by decide +kernel⟩, List.mem_of_getElem? (i := 80) (by decide +kernel), List.mem_of_getElem? (i := 657) (by decide +kernel), List.mem_of_getElem? (i := 658) (by decide +kernel)⟩
theorem lw_p18 : lw_okq (⟨"RodBeads$Ways", "leastFrom", "(II)I"⟩, 14) := ⟨⟨by decide +kernel, by decide +kernel⟩, List.mem_of_getElem? (i := 80) (by decide +kernel), List.mem_of_getElem? (i := 662) (by decide +kernel), List.mem_of_getElem? (i := 663) (by decide +kernel)⟩
theorem lw_p19 : lw_okq (⟨"RodBeads$Ways", "isInReach", "(II)Z"⟩, 14) := ⟨⟨by decide +kernel, by decide +kernel⟩, List.mem_of_getElem? (i := 80) (by decide +kernel), List.mem_of_getElem? (i := 666) (by decide +kernel), List.mem_of_getElem? (i := 667) (by decide +kernel)⟩
theorem lw_p20 : lw_okq (⟨"RodBeads$Ways", "shownByWay", "(II)I"⟩, 14) := ⟨⟨by decide +kernel, by decide +kernel⟩, List.mem_of_getElem? (i := 80) (by decide +kernel), List.mem_of_getElem? (i := 675) (by decide +kernel), List.mem_of_getElem? (i := 676) (by decide +kernel)⟩
theorem lw_p21 : lw_okq (⟨"RodBeads", "carryOver", "(LRodBeads$Standing;I)I"⟩, 16) := ⟨⟨by decide +kernel, by decide +kernel⟩, List.mem_of_getElem? (i := 21) (by decide +kernel), List.mem_of_getElem? (i := 693) (by decide +kernel), List.mem_of_getElem? (i := 694) (by decide +kernel)⟩
theorem lw_p22 : lw_okq (⟨"RodBeads", "pushAllBack", "()V"⟩, 16) := ⟨⟨by decide +kernel, by decide +kernel⟩, List.mem_of_getElem? (i := 21) (by decide +kernel), List.mem_of_getElem? (i := 699) (by decide +kernel), List.mem_of_getElem? (i := 700) (by decide +kernel)⟩
theorem lw_p23 : lw_okq (⟨"RodBeads", "doneByTrial", "(I)I"⟩, 16) := ⟨⟨by decide +kernel, by decide +kernel⟩, List.mem_of_getElem? (i := 21) (by decide +kernel), List.mem_of_getElem? (i := 773) (by decide +kernel), List.mem_of_getElem? (i := 774) (by decide +kernel)⟩
theorem lw_p24 : lw_okq (⟨"RodBeads$Ways", "howManyFrom", "(II)I"⟩, 14) := ⟨⟨by decide +kernel, by decide +kernel⟩, List.mem_of_getElem? (i := 80) (by decide +kernel), List.mem_of_getElem? (i := 805) (by decide +kernel), List.mem_of_getElem? (i := 806) (by decide +kernel)⟩
theorem lw_p25 : lw_okq (⟨"RodBeads", "leastCost", "(IZ)I"⟩, 16) := ⟨⟨by decide +kernel, by decide +kernel⟩, List.mem_of_getElem? (i := 21) (by decide +kernel), List.mem_of_getElem? (i := 813) (by decide +kernel), List.mem_of_getElem? (i := 814) (by decide +kernel)⟩
theorem lw_p26 : lw_okq (⟨"RodBeads", "gap", "(I)I"⟩, 16) := ⟨⟨by decide +kernel, by decide +kernel⟩, List.mem_of_getElem? (i := 21) (by decide +kernel), List.mem_of_getElem? (i := 828) (by decide +kernel), List.mem_of_getElem? (i := 829) (by decide +kernel)⟩
theorem lw_p27 : lw_okq (⟨"RodBeads$Ways", "siftFrom", "(I)V"⟩, 14) := ⟨⟨by decide +kernel, by decide +kernel⟩, List.mem_of_getElem? (i := 80) (by decide +kernel), List.mem_of_getElem? (i := 836) (by decide +kernel), List.mem_of_getElem? (i := 837) (by decide +kernel)⟩
theorem lw_p28 : lw_okq (⟨"RodBeads$Ways", "sieveOf", "(I)[I"⟩, 14) := ⟨⟨by decide +kernel, by decide +kernel⟩, List.mem_of_getElem? (i := 80) (by decide +kernel), List.mem_of_getElem? (i := 840) (by decide +kernel), List.mem_of_getElem? (i := 841) (by decide +kernel)⟩
theorem lw_p29 : lw_okq (⟨"RodBeads$Ways", "canShow", "(II)Z"⟩, 14) := ⟨⟨by decide +kernel, by decide +kernel⟩, List.mem_of_getElem? (i := 80) (by decide +kernel), List.mem_of_getElem? (i := 844) (by decide +kernel), List.mem_of_getElem? (i := 845) (by decide +kernel)⟩
theorem lw_p30 : lw_okq (⟨"RodBeads$Ways", "isSiftedFrom", "(II)Z"⟩, 14) := ⟨⟨by decide +kernel, by decide +kernel⟩, List.mem_of_getElem? (i := 80) (by decide +kernel), List.mem_of_getElem? (i := 848) (by decide +kernel), List.mem_of_getElem? (i := 849) (by decide +kernel)⟩
theorem lw_p31 : lw_okq (⟨"RodBeads", "nearestShown", "(I)I"⟩, 16) := ⟨⟨by decide +kernel, by decide +kernel⟩, List.mem_of_getElem? (i := 21) (by decide +kernel), List.mem_of_getElem? (i := 860) (by decide +kernel), List.mem_of_getElem? (i := 861) (by decide +kernel)⟩
def lw_privs_2 : List (MethodName × Nat) := [(⟨"RodBeads$Ways", "aim", "(I)V"⟩, 14), (⟨"RodBeads$Ways", "baseOf", "(I)I"⟩, 14), (⟨"RodBeads$Ways", "leastFrom", "(II)I"⟩, 14), (⟨"RodBeads$Ways", "isInReach", "(II)Z"⟩, 14), (⟨"RodBeads$Ways", "shownByWay", "(II)I"⟩, 14), (⟨"RodBeads", "carryOver", "(LRodBeads$Standing;I)I"⟩, 16), (⟨"RodBeads", "pushAllBack", "()V"⟩, 16), (⟨"RodBeads", "doneByTrial", "(I)I"⟩, 16), (⟨"RodBeads$Ways", "howManyFrom", "(II)I"⟩, 14), (⟨"RodBeads", "leastCost", "(IZ)I"⟩, 16), (⟨"RodBeads", "gap", "(I)I"⟩, 16), (⟨"RodBeads$Ways", "siftFrom", "(I)V"⟩, 14), (⟨"RodBeads$Ways", "sieveOf", "(I)[I"⟩, 14), (⟨"RodBeads$Ways", "canShow", "(II)Z"⟩, 14), (⟨"RodBeads$Ways", "isSiftedFrom", "(II)Z"⟩, 14), (⟨"RodBeads", "nearestShown", "(I)I"⟩, 16)]
theorem lw_r2 : ∀ q ∈ lw_privs_2, lw_okq q := List.forall_mem_cons.mpr ⟨lw_p16, List.forall_mem_cons.mpr ⟨lw_p17, List.forall_mem_cons.mpr ⟨lw_p18, List.forall_mem_cons.mpr ⟨lw_p19, List.forall_mem_cons.mpr ⟨lw_p20, List.forall_mem_cons.mpr ⟨lw_p21, List.forall_mem_cons.mpr ⟨lw_p22, List.forall_mem_cons.mpr ⟨lw_p23, List.forall_mem_cons.mpr ⟨lw_p24, List.forall_mem_cons.mpr ⟨lw_p25, List.forall_mem_cons.mpr ⟨lw_p26, List.forall_mem_cons.mpr ⟨lw_p27, List.forall_mem_cons.mpr ⟨lw_p28, List.forall_mem_cons.mpr ⟨lw_p29, List.forall_mem_cons.mpr ⟨lw_p30, List.forall_mem_cons.mpr ⟨lw_p31, fun _ h => absurd h List.not_mem_nil⟩⟩⟩⟩⟩⟩⟩⟩⟩⟩⟩⟩⟩⟩⟩⟩
theorem lw_p32 : lw_okq (⟨"RodBeads", "goOn", "(LRodBeads$Standing;II)Z"⟩, 16) := ⟨⟨by decide +kernel, by decide +kernel⟩, List.mem_of_getElem? (i := 21) (by decide +kernel), List.mem_of_getElem? (i := 883) (by decide +kernel), List.mem_of_getElem? (i := 884) (by decide +kernel)⟩
theorem lw_p33 : lw_okq (⟨"RodBeads", "spentOnPath", "()I"⟩, 16) := ⟨⟨by decide +kernel, by decide +kernel⟩, List.mem_of_getElem? (i := 21) (by decide +kernel), List.mem_of_getElem? (i := 887) (by decide +kernel), List.mem_of_getElem? (i := 888) (by decide +kernel)⟩
theorem lw_p34 : lw_okq (⟨"RodBeads", "fitsSeen", "(ILRodBeads$Rod;)Z"⟩, 16) := ⟨⟨by decide +kernel, by decide +kernel⟩, List.mem_of_getElem? (i := 21) (by decide +kernel), List.mem_of_getElem? (i := 905) (by decide +kernel), List.mem_of_getElem? (i := 906) (by decide +kernel)⟩
theorem lw_p35 : lw_okq (⟨"RodBeads", "fullRods", "()I"⟩, 16) := ⟨⟨by decide +kernel, by decide +kernel⟩, List.mem_of_getElem? (i := 21) (by decide +kernel), List.mem_of_getElem? (i := 937) (by decide +kernel), List.mem_of_getElem? (i := 938) (by decide +kernel)⟩
theorem lw_p36 : lw_okq (⟨"RodBeadsModel", "numberOf", "([I)J"⟩, 44) := ⟨⟨by decide +kernel, by decide +kernel⟩, List.mem_of_getElem? (i := 941) (by decide +kernel), List.mem_of_getElem? (i := 1086) (by decide +kernel), List.mem_of_getElem? (i := 1087) (by decide +kernel)⟩
theorem lw_p37 : lw_okq (⟨"RodBeadsModel", "shows", "([II)I"⟩, 44) := ⟨⟨by decide +kernel, by decide +kernel⟩, List.mem_of_getElem? (i := 941) (by decide +kernel), List.mem_of_getElem? (i := 1090) (by decide +kernel), List.mem_of_getElem? (i := 1091) (by decide +kernel)⟩
theorem lw_p38 : lw_okq (⟨"RodBeadsModel", "worth", "(I)I"⟩, 44) := ⟨⟨by decide +kernel, by decide +kernel⟩, List.mem_of_getElem? (i := 941) (by decide +kernel), List.mem_of_getElem? (i := 1094) (by decide +kernel), List.mem_of_getElem? (i := 1095) (by decide +kernel)⟩
theorem lw_p39 : lw_okq (⟨"RodBeadsModel", "worthBy", "(II)I"⟩, 44) := ⟨⟨by decide +kernel, by decide +kernel⟩, List.mem_of_getElem? (i := 941) (by decide +kernel), List.mem_of_getElem? (i := 1098) (by decide +kernel), List.mem_of_getElem? (i := 1099) (by decide +kernel)⟩
theorem lw_p40 : lw_okq (⟨"RodBeadsModel", "isRod", "(I)Z"⟩, 44) := ⟨⟨by decide +kernel, by decide +kernel⟩, List.mem_of_getElem? (i := 941) (by decide +kernel), List.mem_of_getElem? (i := 1106) (by decide +kernel), List.mem_of_getElem? (i := 1107) (by decide +kernel)⟩
theorem lw_p41 : lw_okq (⟨"RodBeadsModel", "readsFrame", "()Z"⟩, 44) := ⟨⟨by decide +kernel, by decide +kernel⟩, List.mem_of_getElem? (i := 941) (by decide +kernel), List.mem_of_getElem? (i := 1137) (by decide +kernel), List.mem_of_getElem? (i := 1138) (by decide +kernel)⟩
theorem lw_p42 : lw_okq (⟨"RodBeadsModel", "reads", "()V"⟩, 44) := ⟨⟨by decide +kernel, by decide +kernel⟩, List.mem_of_getElem? (i := 941) (by decide +kernel), List.mem_of_getElem? (i := 1141) (by decide +kernel), List.mem_of_getElem? (i := 1142) (by decide +kernel)⟩
theorem lw_p43 : lw_okq (⟨"RodBeadsModel", "letterAt", "(I)I"⟩, 44) := ⟨⟨by decide +kernel, by decide +kernel⟩, List.mem_of_getElem? (i := 941) (by decide +kernel), List.mem_of_getElem? (i := 1145) (by decide +kernel), List.mem_of_getElem? (i := 1146) (by decide +kernel)⟩
theorem lw_p44 : lw_okq (⟨"RodBeadsModel", "wordOf", "(II)I"⟩, 44) := ⟨⟨by decide +kernel, by decide +kernel⟩, List.mem_of_getElem? (i := 941) (by decide +kernel), List.mem_of_getElem? (i := 1154) (by decide +kernel), List.mem_of_getElem? (i := 1155) (by decide +kernel)⟩
theorem lw_p45 : lw_okq (⟨"RodBeadsModel", "readsNumber", "()V"⟩, 44) := ⟨⟨by decide +kernel, by decide +kernel⟩, List.mem_of_getElem? (i := 941) (by decide +kernel), List.mem_of_getElem? (i := 1167) (by decide +kernel), List.mem_of_getElem? (i := 1168) (by decide +kernel)⟩
theorem lw_p46 : lw_okq (⟨"RodBeadsModel", "readsClause", "()Z"⟩, 44) := ⟨⟨by decide +kernel, by decide +kernel⟩, List.mem_of_getElem? (i := 941) (by decide +kernel), List.mem_of_getElem? (i := 1172) (by decide +kernel), List.mem_of_getElem? (i := 1173) (by decide +kernel)⟩
theorem lw_p47 : lw_okq (⟨"RodBeadsModel", "readsRod", "(I)Z"⟩, 44) := ⟨⟨by decide +kernel, by decide +kernel⟩, List.mem_of_getElem? (i := 941) (by decide +kernel), List.mem_of_getElem? (i := 1176) (by decide +kernel), List.mem_of_getElem? (i := 1177) (by decide +kernel)⟩
def lw_privs_3 : List (MethodName × Nat) := [(⟨"RodBeads", "goOn", "(LRodBeads$Standing;II)Z"⟩, 16), (⟨"RodBeads", "spentOnPath", "()I"⟩, 16), (⟨"RodBeads", "fitsSeen", "(ILRodBeads$Rod;)Z"⟩, 16), (⟨"RodBeads", "fullRods", "()I"⟩, 16), (⟨"RodBeadsModel", "numberOf", "([I)J"⟩, 44), (⟨"RodBeadsModel", "shows", "([II)I"⟩, 44), (⟨"RodBeadsModel", "worth", "(I)I"⟩, 44), (⟨"RodBeadsModel", "worthBy", "(II)I"⟩, 44), (⟨"RodBeadsModel", "isRod", "(I)Z"⟩, 44), (⟨"RodBeadsModel", "readsFrame", "()Z"⟩, 44), (⟨"RodBeadsModel", "reads", "()V"⟩, 44), (⟨"RodBeadsModel", "letterAt", "(I)I"⟩, 44), (⟨"RodBeadsModel", "wordOf", "(II)I"⟩, 44), (⟨"RodBeadsModel", "readsNumber", "()V"⟩, 44), (⟨"RodBeadsModel", "readsClause", "()Z"⟩, 44), (⟨"RodBeadsModel", "readsRod", "(I)Z"⟩, 44)]
theorem lw_r3 : ∀ q ∈ lw_privs_3, lw_okq q := List.forall_mem_cons.mpr ⟨lw_p32, List.forall_mem_cons.mpr ⟨lw_p33, List.forall_mem_cons.mpr ⟨lw_p34, List.forall_mem_cons.mpr ⟨lw_p35, List.forall_mem_cons.mpr ⟨lw_p36, List.forall_mem_cons.mpr ⟨lw_p37, List.forall_mem_cons.mpr ⟨lw_p38, List.forall_mem_cons.mpr ⟨lw_p39, List.forall_mem_cons.mpr ⟨lw_p40, List.forall_mem_cons.mpr ⟨lw_p41, List.forall_mem_cons.mpr ⟨lw_p42, List.forall_mem_cons.mpr ⟨lw_p43, List.forall_mem_cons.mpr ⟨lw_p44, List.forall_mem_cons.mpr ⟨lw_p45, List.forall_mem_cons.mpr ⟨lw_p46, List.forall_mem_cons.mpr ⟨lw_p47, fun _ h => absurd h List.not_mem_nil⟩⟩⟩⟩⟩⟩⟩⟩⟩⟩⟩⟩⟩⟩⟩⟩
theorem lw_p48 : lw_okq (⟨"RodBeadsModel", "numbered", "(II)Z"⟩, 44) := ⟨⟨by decide +kernel, by decide +kernel⟩, List.mem_of_getElem? (i := 941) (by decide +kernel), List.mem_of_getElem? (i := 1180) (by decide +kernel), List.mem_of_getElem? (i := 1181) (by decide +kernel)⟩
theorem lw_p49 : lw_okq (⟨"RodBeadsModel", "readsStuck", "()Z"⟩, 44) := ⟨⟨by decide +kernel, by decide +kernel⟩, List.mem_of_getElem? (i := 941) (by decide +kernel), List.mem_of_getElem? (i := 1184) (by decide +kernel), List.mem_of_getElem? (i := 1185) (by decide +kernel)⟩
theorem lw_p50 : lw_okq (⟨"RodBeadsModel", "readsSums", "([IZ)Z"⟩, 44) := ⟨⟨by decide +kernel, by decide +kernel⟩, List.mem_of_getElem? (i := 941) (by decide +kernel), List.mem_of_getElem? (i := 1188) (by decide +kernel), List.mem_of_getElem? (i := 1189) (by decide +kernel)⟩
theorem lw_p51 : lw_okq (⟨"RodBeadsModel", "readsStatement", "([I)Z"⟩, 44) := ⟨⟨by decide +kernel, by decide +kernel⟩, List.mem_of_getElem? (i := 941) (by decide +kernel), List.mem_of_getElem? (i := 1192) (by decide +kernel), List.mem_of_getElem? (i := 1193) (by decide +kernel)⟩
theorem lw_p52 : lw_okq (⟨"RodBeadsModel", "readsExpr", "([I)Z"⟩, 44) := ⟨⟨by decide +kernel, by decide +kernel⟩, List.mem_of_getElem? (i := 941) (by decide +kernel), List.mem_of_getElem? (i := 1196) (by decide +kernel), List.mem_of_getElem? (i := 1197) (by decide +kernel)⟩
theorem lw_p53 : lw_okq (⟨"RodBeadsModel", "opens", "()V"⟩, 44) := ⟨⟨by decide +kernel, by decide +kernel⟩, List.mem_of_getElem? (i := 941) (by decide +kernel), List.mem_of_getElem? (i := 1200) (by decide +kernel), List.mem_of_getElem? (i := 1201) (by decide +kernel)⟩
theorem lw_p54 : lw_okq (⟨"RodBeadsModel", "part", "(J)V"⟩, 44) := ⟨⟨by decide +kernel, by decide +kernel⟩, List.mem_of_getElem? (i := 941) (by decide +kernel), List.mem_of_getElem? (i := 1204) (by decide +kernel), List.mem_of_getElem? (i := 1205) (by decide +kernel)⟩
theorem lw_p55 : lw_okq (⟨"RodBeadsModel", "product", "(JJ)J"⟩, 44) := ⟨⟨by decide +kernel, by decide +kernel⟩, List.mem_of_getElem? (i := 941) (by decide +kernel), List.mem_of_getElem? (i := 1208) (by decide +kernel), List.mem_of_getElem? (i := 1209) (by decide +kernel)⟩
theorem lw_p56 : lw_okq (⟨"RodBeadsModel", "bounded", "(J)J"⟩, 44) := ⟨⟨by decide +kernel, by decide +kernel⟩, List.mem_of_getElem? (i := 941) (by decide +kernel), List.mem_of_getElem? (i := 1216) (by decide +kernel), List.mem_of_getElem? (i := 1217) (by decide +kernel)⟩
theorem lw_p57 : lw_okq (⟨"RodBeadsModel", "closesTerm", "()V"⟩, 44) := ⟨⟨by decide +kernel, by decide +kernel⟩, List.mem_of_getElem? (i := 941) (by decide +kernel), List.mem_of_getElem? (i := 1221) (by decide +kernel), List.mem_of_getElem? (i := 1222) (by decide +kernel)⟩
theorem lw_p58 : lw_okq (⟨"RodBeadsModel", "sets", "([IJ)I"⟩, 44) := ⟨⟨by decide +kernel, by decide +kernel⟩, List.mem_of_getElem? (i := 941) (by decide +kernel), List.mem_of_getElem? (i := 1225) (by decide +kernel), List.mem_of_getElem? (i := 1226) (by decide +kernel)⟩
theorem lw_p59 : lw_okq (⟨"RodBeadsModel", "isShown", "([IIJ)Z"⟩, 44) := ⟨⟨by decide +kernel, by decide +kernel⟩, List.mem_of_getElem? (i := 941) (by decide +kernel), List.mem_of_getElem? (i := 1229) (by decide +kernel), List.mem_of_getElem? (i := 1230) (by decide +kernel)⟩
theorem lw_p60 : lw_okq (⟨"RodBeadsModel", "lay", "([IIJ)V"⟩, 44) := ⟨⟨by decide +kernel, by decide +kernel⟩, List.mem_of_getElem? (i := 941) (by decide +kernel), List.mem_of_getElem? (i := 1234) (by decide +kernel), List.mem_of_getElem? (i := 1235) (by decide +kernel)⟩
theorem lw_p61 : lw_okq (⟨"RodBeadsModel", "layCell", "([IIII)V"⟩, 44) := ⟨⟨by decide +kernel, by decide +kernel⟩, List.mem_of_getElem? (i := 941) (by decide +kernel), List.mem_of_getElem? (i := 1242) (by decide +kernel), List.mem_of_getElem? (i := 1243) (by decide +kernel)⟩
theorem lw_p62 : lw_okq (⟨"RodBeadsModel", "onward", "(III)I"⟩, 44) := ⟨⟨by decide +kernel, by decide +kernel⟩, List.mem_of_getElem? (i := 941) (by decide +kernel), List.mem_of_getElem? (i := 1249) (by decide +kernel), List.mem_of_getElem? (i := 1250) (by decide +kernel)⟩
theorem lw_p63 : lw_okq (⟨"RodBeadsModel", "change", "([IIII)I"⟩, 44) := ⟨⟨by decide +kernel, by decide +kernel⟩, List.mem_of_getElem? (i := 941) (by decide +kernel), List.mem_of_getElem? (i := 1254) (by decide +kernel), List.mem_of_getElem? (i := 1255) (by decide +kernel)⟩
def lw_privs_4 : List (MethodName × Nat) := [(⟨"RodBeadsModel", "numbered", "(II)Z"⟩, 44), (⟨"RodBeadsModel", "readsStuck", "()Z"⟩, 44), (⟨"RodBeadsModel", "readsSums", "([IZ)Z"⟩, 44), (⟨"RodBeadsModel", "readsStatement", "([I)Z"⟩, 44), (⟨"RodBeadsModel", "readsExpr", "([I)Z"⟩, 44), (⟨"RodBeadsModel", "opens", "()V"⟩, 44), (⟨"RodBeadsModel", "part", "(J)V"⟩, 44), (⟨"RodBeadsModel", "product", "(JJ)J"⟩, 44), (⟨"RodBeadsModel", "bounded", "(J)J"⟩, 44), (⟨"RodBeadsModel", "closesTerm", "()V"⟩, 44), (⟨"RodBeadsModel", "sets", "([IJ)I"⟩, 44), (⟨"RodBeadsModel", "isShown", "([IIJ)Z"⟩, 44), (⟨"RodBeadsModel", "lay", "([IIJ)V"⟩, 44), (⟨"RodBeadsModel", "layCell", "([IIII)V"⟩, 44), (⟨"RodBeadsModel", "onward", "(III)I"⟩, 44), (⟨"RodBeadsModel", "change", "([IIII)I"⟩, 44)]
theorem lw_r4 : ∀ q ∈ lw_privs_4, lw_okq q := List.forall_mem_cons.mpr ⟨lw_p48, List.forall_mem_cons.mpr ⟨lw_p49, List.forall_mem_cons.mpr ⟨lw_p50, List.forall_mem_cons.mpr ⟨lw_p51, List.forall_mem_cons.mpr ⟨lw_p52, List.forall_mem_cons.mpr ⟨lw_p53, List.forall_mem_cons.mpr ⟨lw_p54, List.forall_mem_cons.mpr ⟨lw_p55, List.forall_mem_cons.mpr ⟨lw_p56, List.forall_mem_cons.mpr ⟨lw_p57, List.forall_mem_cons.mpr ⟨lw_p58, List.forall_mem_cons.mpr ⟨lw_p59, List.forall_mem_cons.mpr ⟨lw_p60, List.forall_mem_cons.mpr ⟨lw_p61, List.forall_mem_cons.mpr ⟨lw_p62, List.forall_mem_cons.mpr ⟨lw_p63, fun _ h => absurd h List.not_mem_nil⟩⟩⟩⟩⟩⟩⟩⟩⟩⟩⟩⟩⟩⟩⟩⟩
theorem lw_p64 : lw_okq (⟨"RodBeadsModel", "layDue", "([II)V"⟩, 44) := ⟨⟨by decide +kernel, by decide +kernel⟩, List.mem_of_getElem? (i := 941) (by decide +kernel), List.mem_of_getElem? (i := 1264) (by decide +kernel), List.mem_of_getElem? (i := 1265) (by decide +kernel)⟩
theorem lw_p65 : lw_okq (⟨"RodBeadsModel", "clears", "([I)V"⟩, 44) := ⟨⟨by decide +kernel, by decide +kernel⟩, List.mem_of_getElem? (i := 941) (by decide +kernel), List.mem_of_getElem? (i := 1272) (by decide +kernel), List.mem_of_getElem? (i := 1273) (by decide +kernel)⟩
theorem lw_p66 : lw_okq (⟨"RodBeadsModel", "carries", "([II)I"⟩, 44) := ⟨⟨by decide +kernel, by decide +kernel⟩, List.mem_of_getElem? (i := 941) (by decide +kernel), List.mem_of_getElem? (i := 1276) (by decide +kernel), List.mem_of_getElem? (i := 1277) (by decide +kernel)⟩
theorem lw_p67 : lw_okq (⟨"RodBeadsModel", "alone", "([III)I"⟩, 44) := ⟨⟨by decide +kernel, by decide +kernel⟩, List.mem_of_getElem? (i := 941) (by decide +kernel), List.mem_of_getElem? (i := 1280) (by decide +kernel), List.mem_of_getElem? (i := 1281) (by decide +kernel)⟩
theorem lw_p68 : lw_okq (⟨"RodBeadsModel", "remember", "()V"⟩, 44) := ⟨⟨by decide +kernel, by decide +kernel⟩, List.mem_of_getElem? (i := 941) (by decide +kernel), List.mem_of_getElem? (i := 1292) (by decide +kernel), List.mem_of_getElem? (i := 1293) (by decide +kernel)⟩
theorem lw_p69 : lw_okq (⟨"RodBeadsModel", "isPart", "(II)Z"⟩, 44) := ⟨⟨by decide +kernel, by decide +kernel⟩, List.mem_of_getElem? (i := 941) (by decide +kernel), List.mem_of_getElem? (i := 1300) (by decide +kernel), List.mem_of_getElem? (i := 1301) (by decide +kernel)⟩
theorem lw_p70 : lw_okq (⟨"RodBeadsModel", "beads", "(II)I"⟩, 44) := ⟨⟨by decide +kernel, by decide +kernel⟩, List.mem_of_getElem? (i := 941) (by decide +kernel), List.mem_of_getElem? (i := 1304) (by decide +kernel), List.mem_of_getElem? (i := 1305) (by decide +kernel)⟩
theorem lw_p71 : lw_okq (⟨"RodBeadsModel", "copyNow", "()V"⟩, 44) := ⟨⟨by decide +kernel, by decide +kernel⟩, List.mem_of_getElem? (i := 941) (by decide +kernel), List.mem_of_getElem? (i := 1326) (by decide +kernel), List.mem_of_getElem? (i := 1327) (by decide +kernel)⟩
theorem lw_p72 : lw_okq (⟨"RodBeadsModel", "allPushed", "()I"⟩, 44) := ⟨⟨by decide +kernel, by decide +kernel⟩, List.mem_of_getElem? (i := 941) (by decide +kernel), List.mem_of_getElem? (i := 1338) (by decide +kernel), List.mem_of_getElem? (i := 1339) (by decide +kernel)⟩
theorem lw_p73 : lw_okq (⟨"RodBeadsModel", "edge", "(Z)J"⟩, 44) := ⟨⟨by decide +kernel, by decide +kernel⟩, List.mem_of_getElem? (i := 941) (by decide +kernel), List.mem_of_getElem? (i := 1364) (by decide +kernel), List.mem_of_getElem? (i := 1365) (by decide +kernel)⟩
theorem lw_p74 : lw_okq (⟨"RodBeadsModel", "least", "(III)I"⟩, 44) := ⟨⟨by decide +kernel, by decide +kernel⟩, List.mem_of_getElem? (i := 941) (by decide +kernel), List.mem_of_getElem? (i := 1402) (by decide +kernel), List.mem_of_getElem? (i := 1403) (by decide +kernel)⟩
def lw_privs_5 : List (MethodName × Nat) := [(⟨"RodBeadsModel", "layDue", "([II)V"⟩, 44), (⟨"RodBeadsModel", "clears", "([I)V"⟩, 44), (⟨"RodBeadsModel", "carries", "([II)I"⟩, 44), (⟨"RodBeadsModel", "alone", "([III)I"⟩, 44), (⟨"RodBeadsModel", "remember", "()V"⟩, 44), (⟨"RodBeadsModel", "isPart", "(II)Z"⟩, 44), (⟨"RodBeadsModel", "beads", "(II)I"⟩, 44), (⟨"RodBeadsModel", "copyNow", "()V"⟩, 44), (⟨"RodBeadsModel", "allPushed", "()I"⟩, 44), (⟨"RodBeadsModel", "edge", "(Z)J"⟩, 44), (⟨"RodBeadsModel", "least", "(III)I"⟩, 44)]
theorem lw_r5 : ∀ q ∈ lw_privs_5, lw_okq q := List.forall_mem_cons.mpr ⟨lw_p64, List.forall_mem_cons.mpr ⟨lw_p65, List.forall_mem_cons.mpr ⟨lw_p66, List.forall_mem_cons.mpr ⟨lw_p67, List.forall_mem_cons.mpr ⟨lw_p68, List.forall_mem_cons.mpr ⟨lw_p69, List.forall_mem_cons.mpr ⟨lw_p70, List.forall_mem_cons.mpr ⟨lw_p71, List.forall_mem_cons.mpr ⟨lw_p72, List.forall_mem_cons.mpr ⟨lw_p73, List.forall_mem_cons.mpr ⟨lw_p74, fun _ h => absurd h List.not_mem_nil⟩⟩⟩⟩⟩⟩⟩⟩⟩⟩⟩
def lw_privs : List (MethodName × Nat) := lw_privs_1 ++ (lw_privs_2 ++ (lw_privs_3 ++ (lw_privs_4 ++ (lw_privs_5))))
def lw_tbl : List Cond := k2_sels lw_privs ++ tables_1
theorem lw_privs_ok : ∀ q ∈ lw_privs, lw_okq q := by
  show ∀ q ∈ lw_privs_1 ++ (lw_privs_2 ++ (lw_privs_3 ++ (lw_privs_4 ++ (lw_privs_5)))), lw_okq q
  exact List.forall_mem_append.mpr ⟨lw_r1, List.forall_mem_append.mpr ⟨lw_r2, List.forall_mem_append.mpr ⟨lw_r3, List.forall_mem_append.mpr ⟨lw_r4, lw_r5⟩⟩⟩⟩
end
section
def RX0 : String := "RodBeads$Five"
def TX0 : u_T := fun k => match k with
  | 0 => ("RodBeads$Rod", "base", "I", true)
  | 1 => ("RodBeads$Rod", "lowBeads", "I", true)
  | _ => ("RodBeads$Rod", "highBeads", "I", true)
def tyX0 : Nat → FieldType := fun k => match k with
  | 0 => .int
  | 1 => .int
  | _ => .int
abbrev wsX00 : List Cond := u_ws RX0 TX0 3
theorem nmX0 : ∀ a, a < 3 → ∀ b, b < 3 → a ≠ b → (TX0 a).2.1 ≠ (TX0 b).2.1 := by decide +kernel
theorem tyX0_ok : ∀ k, k < 3 → parseFieldDescriptor (TX0 k).2.2.1 = some (tyX0 k) := by decide +kernel
abbrev cX0_init : ByteArray := prog_2_method_1_code
def yX0_init : MethodName := ⟨RX0, "<init>", "(III)V"⟩
abbrev cX0_kindNumber : ByteArray := prog_2_method_2_code
def yX0_kindNumber : MethodName := ⟨RX0, "kindNumber", "()I"⟩
abbrev cX0_highWorth : ByteArray := prog_2_method_3_code
def yX0_highWorth : MethodName := ⟨RX0, "highWorth", "()I"⟩
def RX1 : String := "RodBeads$Frame"
def TX1 : u_T := fun k => match k with
  | 0 => ("RodBeads$Frame", "rods", "[LRodBeads$Rod;", true)
  | 1 => ("RodBeads$Frame", "size", "I", false)
  | _ => ("RodBeads$Frame", "told", "I", false)
def tyX1 : Nat → FieldType := fun k => match k with
  | 0 => .array (.object "RodBeads$Rod")
  | 1 => .int
  | _ => .int
abbrev wsX10 : List Cond := u_ws RX1 TX1 3
theorem nmX1 : ∀ a, a < 3 → ∀ b, b < 3 → a ≠ b → (TX1 a).2.1 ≠ (TX1 b).2.1 := by decide +kernel
theorem tyX1_ok : ∀ k, k < 3 → parseFieldDescriptor (TX1 k).2.2.1 = some (tyX1 k) := by decide +kernel
abbrev cX1_init : ByteArray := prog_3_method_1_code
def yX1_init : MethodName := ⟨RX1, "<init>", "()V"⟩
abbrev cX1_rodAt : ByteArray := prog_3_method_2_code
def yX1_rodAt : MethodName := ⟨RX1, "rodAt", "(I)LRodBeads$Rod;"⟩
abbrev cX1_copy : ByteArray := prog_3_method_3_code
def yX1_copy : MethodName := ⟨RX1, "copy", "(LRodBeads$Frame;)V"⟩
abbrev cX1_read : ByteArray := prog_3_method_4_code
def yX1_read : MethodName := ⟨RX1, "read", "(LRodBeads$Text;)I"⟩
abbrev cX1_readClause : ByteArray := prog_3_method_5_code
def yX1_readClause : MethodName := ⟨RX1, "readClause", "(LRodBeads$Text;)V"⟩
abbrev cX1_kindTold : ByteArray := prog_3_method_6_code
def yX1_kindTold : MethodName := ⟨RX1, "kindTold", "(LRodBeads$Text;)I"⟩
abbrev cX1_readRod : ByteArray := prog_3_method_7_code
def yX1_readRod : MethodName := ⟨RX1, "readRod", "(LRodBeads$Text;I)V"⟩
abbrev cX1_makeRod : ByteArray := prog_3_method_8_code
def yX1_makeRod : MethodName := ⟨RX1, "makeRod", "(IIII)LRodBeads$Rod;"⟩
def RX2 : String := "RodBeads$Heir"
def TX2 : u_T := fun k => match k with
  | 0 => ("RodBeads$Rod", "base", "I", true)
  | 1 => ("RodBeads$Rod", "lowBeads", "I", true)
  | _ => ("RodBeads$Rod", "highBeads", "I", true)
def tyX2 : Nat → FieldType := fun k => match k with
  | 0 => .int
  | 1 => .int
  | _ => .int
abbrev wsX20 : List Cond := u_ws RX2 TX2 3
theorem nmX2 : ∀ a, a < 3 → ∀ b, b < 3 → a ≠ b → (TX2 a).2.1 ≠ (TX2 b).2.1 := by decide +kernel
theorem tyX2_ok : ∀ k, k < 3 → parseFieldDescriptor (TX2 k).2.2.1 = some (tyX2 k) := by decide +kernel
abbrev cX2_init : ByteArray := prog_4_method_1_code
def yX2_init : MethodName := ⟨RX2, "<init>", "(III)V"⟩
abbrev cX2_kindNumber : ByteArray := prog_4_method_2_code
def yX2_kindNumber : MethodName := ⟨RX2, "kindNumber", "()I"⟩
abbrev cX2_highWorth : ByteArray := prog_4_method_3_code
def yX2_highWorth : MethodName := ⟨RX2, "highWorth", "()I"⟩
abbrev cX2_highTime : ByteArray := prog_4_method_4_code
def yX2_highTime : MethodName := ⟨RX2, "highTime", "()I"⟩
def RX3 : String := "RodBeads$Plain"
def TX3 : u_T := fun k => match k with
  | 0 => ("RodBeads$Rod", "base", "I", true)
  | 1 => ("RodBeads$Rod", "lowBeads", "I", true)
  | _ => ("RodBeads$Rod", "highBeads", "I", true)
def tyX3 : Nat → FieldType := fun k => match k with
  | 0 => .int
  | 1 => .int
  | _ => .int
abbrev wsX30 : List Cond := u_ws RX3 TX3 3
theorem nmX3 : ∀ a, a < 3 → ∀ b, b < 3 → a ≠ b → (TX3 a).2.1 ≠ (TX3 b).2.1 := by decide +kernel
theorem tyX3_ok : ∀ k, k < 3 → parseFieldDescriptor (TX3 k).2.2.1 = some (tyX3 k) := by decide +kernel
abbrev cX3_init : ByteArray := prog_5_method_1_code
def yX3_init : MethodName := ⟨RX3, "<init>", "(II)V"⟩
abbrev cX3_kindNumber : ByteArray := prog_5_method_2_code
def yX3_kindNumber : MethodName := ⟨RX3, "kindNumber", "()I"⟩
abbrev cX3_highWorth : ByteArray := prog_5_method_3_code
def yX3_highWorth : MethodName := ⟨RX3, "highWorth", "()I"⟩
def RX4 : String := "RodBeads$Rod"
def TX4 : u_T := fun k => match k with
  | _ => ("", "", "", false)
def tyX4 : Nat → FieldType := fun k => match k with
  | _ => .int
abbrev wsX40 : List Cond := u_ws RX4 TX4 0
theorem nmX4 : ∀ a, a < 0 → ∀ b, b < 0 → a ≠ b → (TX4 a).2.1 ≠ (TX4 b).2.1 := by decide +kernel
theorem tyX4_ok : ∀ k, k < 0 → parseFieldDescriptor (TX4 k).2.2.1 = some (tyX4 k) := by decide +kernel
abbrev cX4_init : ByteArray := prog_6_method_1_code
def yX4_init : MethodName := ⟨RX4, "<init>", "(III)V"⟩
abbrev cX4_lowTime : ByteArray := prog_6_method_4_code
def yX4_lowTime : MethodName := ⟨RX4, "lowTime", "()I"⟩
abbrev cX4_highTime : ByteArray := prog_6_method_5_code
def yX4_highTime : MethodName := ⟨RX4, "highTime", "()I"⟩
abbrev cX4_beadsOf : ByteArray := prog_6_method_6_code
def yX4_beadsOf : MethodName := ⟨RX4, "beadsOf", "(I)I"⟩
abbrev cX4_timeOf : ByteArray := prog_6_method_7_code
def yX4_timeOf : MethodName := ⟨RX4, "timeOf", "(I)I"⟩
abbrev cX4_worthOf : ByteArray := prog_6_method_8_code
def yX4_worthOf : MethodName := ⟨RX4, "worthOf", "(II)I"⟩
abbrev cX4_leastTimeFor : ByteArray := prog_6_method_9_code
def yX4_leastTimeFor : MethodName := ⟨RX4, "leastTimeFor", "(I)I"⟩
def RX5 : String := "RodBeads$Rows"
def TX5 : u_T := fun k => match k with
  | _ => ("", "", "", false)
def tyX5 : Nat → FieldType := fun k => match k with
  | _ => .int
abbrev wsX50 : List Cond := u_ws RX5 TX5 0
theorem nmX5 : ∀ a, a < 0 → ∀ b, b < 0 → a ≠ b → (TX5 a).2.1 ≠ (TX5 b).2.1 := by decide +kernel
theorem tyX5_ok : ∀ k, k < 0 → parseFieldDescriptor (TX5 k).2.2.1 = some (tyX5 k) := by decide +kernel
abbrev cX5_at : ByteArray := prog_7_method_2_code
def yX5_at : MethodName := ⟨RX5, "at", "([II)I"⟩
abbrev cX5_put : ByteArray := prog_7_method_3_code
def yX5_put : MethodName := ⟨RX5, "put", "([III)V"⟩
def RX6 : String := "RodBeads$Slow"
def TX6 : u_T := fun k => match k with
  | 0 => ("RodBeads$Rod", "base", "I", true)
  | 1 => ("RodBeads$Rod", "lowBeads", "I", true)
  | _ => ("RodBeads$Rod", "highBeads", "I", true)
def tyX6 : Nat → FieldType := fun k => match k with
  | 0 => .int
  | 1 => .int
  | _ => .int
abbrev wsX60 : List Cond := u_ws RX6 TX6 3
theorem nmX6 : ∀ a, a < 3 → ∀ b, b < 3 → a ≠ b → (TX6 a).2.1 ≠ (TX6 b).2.1 := by decide +kernel
theorem tyX6_ok : ∀ k, k < 3 → parseFieldDescriptor (TX6 k).2.2.1 = some (tyX6 k) := by decide +kernel
abbrev cX6_init : ByteArray := prog_8_method_1_code
def yX6_init : MethodName := ⟨RX6, "<init>", "(III)V"⟩
abbrev cX6_kindNumber : ByteArray := prog_8_method_2_code
def yX6_kindNumber : MethodName := ⟨RX6, "kindNumber", "()I"⟩
abbrev cX6_lowTime : ByteArray := prog_8_method_3_code
def yX6_lowTime : MethodName := ⟨RX6, "lowTime", "()I"⟩
abbrev cX6_highTime : ByteArray := prog_8_method_4_code
def yX6_highTime : MethodName := ⟨RX6, "highTime", "()I"⟩
def RX7 : String := "RodBeads$Standing"
def TX7 : u_T := fun k => match k with
  | 0 => ("RodBeads$Standing", "low", "[I", true)
  | 1 => ("RodBeads$Standing", "high", "[I", true)
  | 2 => ("RodBeads$Standing", "stuck", "I", false)
  | _ => ("RodBeads$Standing", "spent", "I", false)
def tyX7 : Nat → FieldType := fun k => match k with
  | 0 => .array .int
  | 1 => .array .int
  | 2 => .int
  | _ => .int
abbrev wsX70 : List Cond := u_ws RX7 TX7 4
theorem nmX7 : ∀ a, a < 4 → ∀ b, b < 4 → a ≠ b → (TX7 a).2.1 ≠ (TX7 b).2.1 := by decide +kernel
theorem tyX7_ok : ∀ k, k < 4 → parseFieldDescriptor (TX7 k).2.2.1 = some (tyX7 k) := by decide +kernel
abbrev cX7_init : ByteArray := prog_9_method_1_code
def yX7_init : MethodName := ⟨RX7, "<init>", "()V"⟩
abbrev cX7_begin : ByteArray := prog_9_method_2_code
def yX7_begin : MethodName := ⟨RX7, "begin", "(I)V"⟩
abbrev cX7_copy : ByteArray := prog_9_method_3_code
def yX7_copy : MethodName := ⟨RX7, "copy", "(LRodBeads$Standing;)V"⟩
abbrev cX7_beads : ByteArray := prog_9_method_4_code
def yX7_beads : MethodName := ⟨RX7, "beads", "(II)I"⟩
abbrev cX7_place : ByteArray := prog_9_method_5_code
def yX7_place : MethodName := ⟨RX7, "place", "(III)V"⟩
abbrev cX7_partBit : ByteArray := prog_9_method_6_code
def yX7_partBit : MethodName := ⟨RX7, "partBit", "(II)I"⟩
abbrev cX7_isStuck : ByteArray := prog_9_method_7_code
def yX7_isStuck : MethodName := ⟨RX7, "isStuck", "(II)Z"⟩
abbrev cX7_shows : ByteArray := prog_9_method_8_code
def yX7_shows : MethodName := ⟨RX7, "shows", "(ILRodBeads$Rod;)I"⟩
abbrev cX7_beadsInAll : ByteArray := prog_9_method_9_code
def yX7_beadsInAll : MethodName := ⟨RX7, "beadsInAll", "()I"⟩
abbrev cX7_spend : ByteArray := prog_9_method_10_code
def yX7_spend : MethodName := ⟨RX7, "spend", "(I)V"⟩
def RX8 : String := "RodBeads$Sums"
def TX8 : u_T := fun k => match k with
  | 0 => ("RodBeads$Sums", "verb", "I", false)
  | 1 => ("RodBeads$Sums", "value", "J", false)
  | 2 => ("RodBeads$Sums", "possible", "Z", false)
  | _ => ("RodBeads$Sums", "theNumber", "J", false)
def tyX8 : Nat → FieldType := fun k => match k with
  | 0 => .int
  | 1 => .long
  | 2 => .boolean
  | _ => .long
abbrev wsX80 : List Cond := u_ws RX8 TX8 4
theorem nmX8 : ∀ a, a < 4 → ∀ b, b < 4 → a ≠ b → (TX8 a).2.1 ≠ (TX8 b).2.1 := by decide +kernel
theorem tyX8_ok : ∀ k, k < 4 → parseFieldDescriptor (TX8 k).2.2.1 = some (tyX8 k) := by decide +kernel
abbrev cX8_init : ByteArray := prog_10_method_1_code
def yX8_init : MethodName := ⟨RX8, "<init>", "()V"⟩
abbrev cX8_check : ByteArray := prog_10_method_2_code
def yX8_check : MethodName := ⟨RX8, "check", "(LRodBeads$Text;I)I"⟩
abbrev cX8_readStatement : ByteArray := prog_10_method_3_code
def yX8_readStatement : MethodName := ⟨RX8, "readStatement", "(LRodBeads$Text;IJ)V"⟩
abbrev cX8_verbTold : ByteArray := prog_10_method_4_code
def yX8_verbTold : MethodName := ⟨RX8, "verbTold", "(LRodBeads$Text;)I"⟩
abbrev cX8_expression : ByteArray := prog_10_method_5_code
def yX8_expression : MethodName := ⟨RX8, "expression", "(LRodBeads$Text;I)J"⟩
abbrev cX8_part : ByteArray := prog_10_method_6_code
def yX8_part : MethodName := ⟨RX8, "part", "(LRodBeads$Text;I)J"⟩
abbrev cX8_bounded : ByteArray := prog_10_method_7_code
def yX8_bounded : MethodName := ⟨RX8, "bounded", "(J)J"⟩
abbrev cX8_multiplied : ByteArray := prog_10_method_8_code
def yX8_multiplied : MethodName := ⟨RX8, "multiplied", "(JJ)J"⟩
abbrev cX8_divided : ByteArray := prog_10_method_9_code
def yX8_divided : MethodName := ⟨RX8, "divided", "(JJ)J"⟩
def RX9 : String := "RodBeads$Text"
def TX9 : u_T := fun k => match k with
  | 0 => ("RodBeads$Text", "letters", "[I", true)
  | 1 => ("RodBeads$Text", "size", "I", false)
  | 2 => ("RodBeads$Text", "fault", "I", false)
  | 3 => ("RodBeads$Text", "start", "I", false)
  | 4 => ("RodBeads$Text", "stop", "I", false)
  | _ => ("RodBeads$Text", "isNumber", "Z", false)
def tyX9 : Nat → FieldType := fun k => match k with
  | 0 => .array .int
  | 1 => .int
  | 2 => .int
  | 3 => .int
  | 4 => .int
  | _ => .boolean
abbrev wsX90 : List Cond := u_ws RX9 TX9 6
theorem nmX9 : ∀ a, a < 6 → ∀ b, b < 6 → a ≠ b → (TX9 a).2.1 ≠ (TX9 b).2.1 := by decide +kernel
theorem tyX9_ok : ∀ k, k < 6 → parseFieldDescriptor (TX9 k).2.2.1 = some (tyX9 k) := by decide +kernel
abbrev cX9_init : ByteArray := prog_11_method_1_code
def yX9_init : MethodName := ⟨RX9, "<init>", "()V"⟩
abbrev cX9_add : ByteArray := prog_11_method_2_code
def yX9_add : MethodName := ⟨RX9, "add", "(I)Z"⟩
abbrev cX9_begin : ByteArray := prog_11_method_3_code
def yX9_begin : MethodName := ⟨RX9, "begin", "()V"⟩
abbrev cX9_step : ByteArray := prog_11_method_4_code
def yX9_step : MethodName := ⟨RX9, "step", "()V"⟩
abbrev cX9_letterAt : ByteArray := prog_11_method_5_code
def yX9_letterAt : MethodName := ⟨RX9, "letterAt", "(I)I"⟩
abbrev cX9_isSmall : ByteArray := prog_11_method_6_code
def yX9_isSmall : MethodName := ⟨RX9, "isSmall", "(I)Z"⟩
abbrev cX9_isDigit : ByteArray := prog_11_method_7_code
def yX9_isDigit : MethodName := ⟨RX9, "isDigit", "(I)Z"⟩
abbrev cX9_isSound : ByteArray := prog_11_method_8_code
def yX9_isSound : MethodName := ⟨RX9, "isSound", "()Z"⟩
abbrev cX9_fail : ByteArray := prog_11_method_9_code
def yX9_fail : MethodName := ⟨RX9, "fail", "()V"⟩
abbrev cX9_isAtEnd : ByteArray := prog_11_method_10_code
def yX9_isAtEnd : MethodName := ⟨RX9, "isAtEnd", "()Z"⟩
abbrev cX9_isSign : ByteArray := prog_11_method_11_code
def yX9_isSign : MethodName := ⟨RX9, "isSign", "(C)Z"⟩
abbrev cX9_isWord : ByteArray := prog_11_method_12_code
def yX9_isWord : MethodName := ⟨RX9, "isWord", "(Ljava/lang/String;)Z"⟩
abbrev cX9_takeNumber : ByteArray := prog_11_method_13_code
def yX9_takeNumber : MethodName := ⟨RX9, "takeNumber", "(III)I"⟩
abbrev cX9_another : ByteArray := prog_11_method_14_code
def yX9_another : MethodName := ⟨RX9, "another", "(I)Z"⟩
def RX10 : String := "RodBeads$Ways"
def TX10 : u_T := fun k => match k with
  | 0 => ("RodBeads$Ways", "cost", "[I", true)
  | 1 => ("RodBeads$Ways", "highs", "[I", true)
  | 2 => ("RodBeads$Ways", "choices", "[I", true)
  | 3 => ("RodBeads$Ways", "bases", "[I", true)
  | 4 => ("RodBeads$Ways", "worths", "[I", true)
  | 5 => ("RodBeads$Ways", "most", "[I", true)
  | 6 => ("RodBeads$Ways", "fewest", "[I", true)
  | 7 => ("RodBeads$Ways", "known", "[I", true)
  | 8 => ("RodBeads$Ways", "top", "[I", true)
  | 9 => ("RodBeads$Ways", "sieveFrom", "[I", true)
  | 10 => ("RodBeads$Ways", "sieveUpTo", "[I", true)
  | 11 => ("RodBeads$Ways", "evenSieve", "[I", true)
  | 12 => ("RodBeads$Ways", "oddSieve", "[I", true)
  | _ => ("RodBeads$Ways", "size", "I", false)
def tyX10 : Nat → FieldType := fun k => match k with
  | 0 => .array .int
  | 1 => .array .int
  | 2 => .array .int
  | 3 => .array .int
  | 4 => .array .int
  | 5 => .array .int
  | 6 => .array .int
  | 7 => .array .int
  | 8 => .array .int
  | 9 => .array .int
  | 10 => .array .int
  | 11 => .array .int
  | 12 => .array .int
  | _ => .int
abbrev wsX100 : List Cond := u_ws RX10 TX10 14
theorem nmX10 : ∀ a, a < 14 → ∀ b, b < 14 → a ≠ b → (TX10 a).2.1 ≠ (TX10 b).2.1 := by decide +kernel
theorem tyX10_ok : ∀ k, k < 14 → parseFieldDescriptor (TX10 k).2.2.1 = some (tyX10 k) := by decide +kernel
abbrev cX10_init : ByteArray := prog_12_method_1_code
def yX10_init : MethodName := ⟨RX10, "<init>", "()V"⟩
abbrev cX10_load : ByteArray := prog_12_method_2_code
def yX10_load : MethodName := ⟨RX10, "load", "(LRodBeads$Frame;LRodBeads$Standing;Z)V"⟩
abbrev cX10_loadRod : ByteArray := prog_12_method_3_code
def yX10_loadRod : MethodName := ⟨RX10, "loadRod", "(ILRodBeads$Rod;LRodBeads$Standing;Z)V"⟩
abbrev cX10_price : ByteArray := prog_12_method_4_code
def yX10_price : MethodName := ⟨RX10, "price", "(ILRodBeads$Rod;IILRodBeads$Standing;Z)I"⟩
abbrev cX10_addChoice : ByteArray := prog_12_method_5_code
def yX10_addChoice : MethodName := ⟨RX10, "addChoice", "(III)V"⟩
abbrev cX10_loadBounds : ByteArray := prog_12_method_6_code
def yX10_loadBounds : MethodName := ⟨RX10, "loadBounds", "(II)V"⟩
abbrev cX10_slot : ByteArray := prog_12_method_7_code
def yX10_slot : MethodName := ⟨RX10, "slot", "(II)I"⟩
abbrev cX10_costOf : ByteArray := prog_12_method_8_code
def yX10_costOf : MethodName := ⟨RX10, "costOf", "(II)I"⟩
abbrev cX10_mostFrom : ByteArray := prog_12_method_9_code
def yX10_mostFrom : MethodName := ⟨RX10, "mostFrom", "(I)I"⟩
abbrev cX10_fewestFrom : ByteArray := prog_12_method_10_code
def yX10_fewestFrom : MethodName := ⟨RX10, "fewestFrom", "(I)I"⟩
abbrev cX10_baseOf : ByteArray := prog_12_method_11_code
def yX10_baseOf : MethodName := ⟨RX10, "baseOf", "(I)I"⟩
abbrev cX10_least : ByteArray := prog_12_method_12_code
def yX10_least : MethodName := ⟨RX10, "least", "(J)I"⟩
abbrev cX10_howMany : ByteArray := prog_12_method_13_code
def yX10_howMany : MethodName := ⟨RX10, "howMany", "(J)I"⟩
abbrev cX10_aim : ByteArray := prog_12_method_14_code
def yX10_aim : MethodName := ⟨RX10, "aim", "(I)V"⟩
abbrev cX10_isInReach : ByteArray := prog_12_method_15_code
def yX10_isInReach : MethodName := ⟨RX10, "isInReach", "(II)Z"⟩
abbrev cX10_leastFrom : ByteArray := prog_12_method_16_code
def yX10_leastFrom : MethodName := ⟨RX10, "leastFrom", "(II)I"⟩
abbrev cX10_howManyFrom : ByteArray := prog_12_method_17_code
def yX10_howManyFrom : MethodName := ⟨RX10, "howManyFrom", "(II)I"⟩
abbrev cX10_placeAll : ByteArray := prog_12_method_18_code
def yX10_placeAll : MethodName := ⟨RX10, "placeAll", "(LRodBeads$Standing;)V"⟩
abbrev cX10_shownByWay : ByteArray := prog_12_method_19_code
def yX10_shownByWay : MethodName := ⟨RX10, "shownByWay", "(II)I"⟩
abbrev cX10_placeRod : ByteArray := prog_12_method_20_code
def yX10_placeRod : MethodName := ⟨RX10, "placeRod", "(LRodBeads$Standing;II)V"⟩
abbrev cX10_sift : ByteArray := prog_12_method_21_code
def yX10_sift : MethodName := ⟨RX10, "sift", "(II)V"⟩
abbrev cX10_siftFrom : ByteArray := prog_12_method_22_code
def yX10_siftFrom : MethodName := ⟨RX10, "siftFrom", "(I)V"⟩
abbrev cX10_canShow : ByteArray := prog_12_method_23_code
def yX10_canShow : MethodName := ⟨RX10, "canShow", "(II)Z"⟩
abbrev cX10_sieveOf : ByteArray := prog_12_method_24_code
def yX10_sieveOf : MethodName := ⟨RX10, "sieveOf", "(I)[I"⟩
abbrev cX10_isSiftedFrom : ByteArray := prog_12_method_25_code
def yX10_isSiftedFrom : MethodName := ⟨RX10, "isSiftedFrom", "(II)Z"⟩
abbrev cX10_isSifted : ByteArray := prog_12_method_26_code
def yX10_isSifted : MethodName := ⟨RX10, "isSifted", "(I)Z"⟩
def RX11 : String := "RodBeads"
def TX11 : u_T := fun k => match k with
  | 0 => ("RodBeads", "text", "LRodBeads$Text;", true)
  | 1 => ("RodBeads", "sums", "LRodBeads$Sums;", true)
  | 2 => ("RodBeads", "ways", "LRodBeads$Ways;", true)
  | 3 => ("RodBeads", "frame", "LRodBeads$Frame;", true)
  | 4 => ("RodBeads", "draft", "LRodBeads$Frame;", true)
  | 5 => ("RodBeads", "now", "LRodBeads$Standing;", true)
  | 6 => ("RodBeads", "trial", "LRodBeads$Standing;", true)
  | 7 => ("RodBeads", "path", "[LRodBeads$Standing;", true)
  | 8 => ("RodBeads", "past", "[LRodBeads$Standing;", true)
  | 9 => ("RodBeads", "pastSize", "I", false)
  | 10 => ("RodBeads", "kept", "[LRodBeads$Standing;", true)
  | 11 => ("RodBeads", "keptBits", "I", false)
  | 12 => ("RodBeads", "seenRod", "[I", true)
  | 13 => ("RodBeads", "seenShown", "[I", true)
  | 14 => ("RodBeads", "seenTime", "[I", true)
  | _ => ("RodBeads", "seenSize", "I", false)
def tyX11 : Nat → FieldType := fun k => match k with
  | 0 => .object "RodBeads$Text"
  | 1 => .object "RodBeads$Sums"
  | 2 => .object "RodBeads$Ways"
  | 3 => .object "RodBeads$Frame"
  | 4 => .object "RodBeads$Frame"
  | 5 => .object "RodBeads$Standing"
  | 6 => .object "RodBeads$Standing"
  | 7 => .array (.object "RodBeads$Standing")
  | 8 => .array (.object "RodBeads$Standing")
  | 9 => .int
  | 10 => .array (.object "RodBeads$Standing")
  | 11 => .int
  | 12 => .array .int
  | 13 => .array .int
  | 14 => .array .int
  | _ => .int
abbrev wsX110 : List Cond := u_ws RX11 TX11 16
theorem nmX11 : ∀ a, a < 16 → ∀ b, b < 16 → a ≠ b → (TX11 a).2.1 ≠ (TX11 b).2.1 := by decide +kernel
theorem tyX11_ok : ∀ k, k < 16 → parseFieldDescriptor (TX11 k).2.2.1 = some (tyX11 k) := by decide +kernel
abbrev cX11_init : ByteArray := prog_1_method_1_code
def yX11_init : MethodName := ⟨RX11, "<init>", "()V"⟩
abbrev cX11_write : ByteArray := prog_1_method_2_code
def yX11_write : MethodName := ⟨RX11, "write", "(I)I"⟩
abbrev cX11_erase : ByteArray := prog_1_method_3_code
def yX11_erase : MethodName := ⟨RX11, "erase", "()I"⟩
abbrev cX11_fault : ByteArray := prog_1_method_4_code
def yX11_fault : MethodName := ⟨RX11, "fault", "(I)I"⟩
abbrev cX11_frame : ByteArray := prog_1_method_5_code
def yX11_frame : MethodName := ⟨RX11, "frame", "()I"⟩
abbrev cX11_run : ByteArray := prog_1_method_6_code
def yX11_run : MethodName := ⟨RX11, "run", "()I"⟩
abbrev cX11_rod : ByteArray := prog_1_method_7_code
def yX11_rod : MethodName := ⟨RX11, "rod", "(II)I"⟩
abbrev cX11_number : ByteArray := prog_1_method_8_code
def yX11_number : MethodName := ⟨RX11, "number", "()J"⟩
abbrev cX11_as : ByteArray := prog_1_method_9_code
def yX11_as : MethodName := ⟨RX11, "as", "(II)I"⟩
abbrev cX11_push : ByteArray := prog_1_method_10_code
def yX11_push : MethodName := ⟨RX11, "push", "(III)I"⟩
abbrev cX11_stick : ByteArray := prog_1_method_11_code
def yX11_stick : MethodName := ⟨RX11, "stick", "(II)I"⟩
abbrev cX11_set : ByteArray := prog_1_method_12_code
def yX11_set : MethodName := ⟨RX11, "set", "(I)I"⟩
abbrev cX11_carry : ByteArray := prog_1_method_13_code
def yX11_carry : MethodName := ⟨RX11, "carry", "(I)I"⟩
abbrev cX11_undo : ByteArray := prog_1_method_14_code
def yX11_undo : MethodName := ⟨RX11, "undo", "()I"⟩
abbrev cX11_keep : ByteArray := prog_1_method_15_code
def yX11_keep : MethodName := ⟨RX11, "keep", "(I)I"⟩
abbrev cX11_back : ByteArray := prog_1_method_16_code
def yX11_back : MethodName := ⟨RX11, "back", "(I)I"⟩
abbrev cX11_ways : ByteArray := prog_1_method_17_code
def yX11_ways : MethodName := ⟨RX11, "ways", "(I)I"⟩
abbrev cX11_time : ByteArray := prog_1_method_18_code
def yX11_time : MethodName := ⟨RX11, "time", "(I)I"⟩
abbrev cX11_pushed : ByteArray := prog_1_method_19_code
def yX11_pushed : MethodName := ⟨RX11, "pushed", "(III)I"⟩
abbrev cX11_span : ByteArray := prog_1_method_20_code
def yX11_span : MethodName := ⟨RX11, "span", "(I)J"⟩
abbrev cX11_nearest : ByteArray := prog_1_method_21_code
def yX11_nearest : MethodName := ⟨RX11, "nearest", "(I)I"⟩
abbrev cX11_loosen : ByteArray := prog_1_method_22_code
def yX11_loosen : MethodName := ⟨RX11, "loosen", "(I)I"⟩
abbrev cX11_tour : ByteArray := prog_1_method_23_code
def yX11_tour : MethodName := ⟨RX11, "tour", "(IIII)I"⟩
abbrev cX11_seen : ByteArray := prog_1_method_24_code
def yX11_seen : MethodName := ⟨RX11, "seen", "(III)I"⟩
abbrev cX11_forget : ByteArray := prog_1_method_25_code
def yX11_forget : MethodName := ⟨RX11, "forget", "()I"⟩
abbrev cX11_kinds : ByteArray := prog_1_method_26_code
def yX11_kinds : MethodName := ⟨RX11, "kinds", "(I)I"⟩
abbrev cX11_slips : ByteArray := prog_1_method_27_code
def yX11_slips : MethodName := ⟨RX11, "slips", "(IIII)J"⟩
abbrev cX11_count : ByteArray := prog_1_method_28_code
def yX11_count : MethodName := ⟨RX11, "count", "(I)I"⟩
abbrev cX11_isPart : ByteArray := prog_1_method_29_code
def yX11_isPart : MethodName := ⟨RX11, "isPart", "(I)Z"⟩
abbrev cX11_isNumber : ByteArray := prog_1_method_30_code
def yX11_isNumber : MethodName := ⟨RX11, "isNumber", "(I)Z"⟩
abbrev cX11_isOfTour : ByteArray := prog_1_method_31_code
def yX11_isOfTour : MethodName := ⟨RX11, "isOfTour", "(I)Z"⟩
abbrev cX11_newStandings : ByteArray := prog_1_method_32_code
def yX11_newStandings : MethodName := ⟨RX11, "newStandings", "(I)[LRodBeads$Standing;"⟩
abbrev cX11_standingAt : ByteArray := prog_1_method_33_code
def yX11_standingAt : MethodName := ⟨RX11, "standingAt", "([LRodBeads$Standing;I)LRodBeads$Standing;"⟩
abbrev cX11_isUnder : ByteArray := prog_1_method_34_code
def yX11_isUnder : MethodName := ⟨RX11, "isUnder", "(LRodBeads$Rod;I)Z"⟩
abbrev cX11_readDraft : ByteArray := prog_1_method_35_code
def yX11_readDraft : MethodName := ⟨RX11, "readDraft", "()I"⟩
abbrev cX11_theNumber : ByteArray := prog_1_method_36_code
def yX11_theNumber : MethodName := ⟨RX11, "theNumber", "()J"⟩
abbrev cX11_fullRods : ByteArray := prog_1_method_37_code
def yX11_fullRods : MethodName := ⟨RX11, "fullRods", "()I"⟩
abbrev cX11_remember : ByteArray := prog_1_method_38_code
def yX11_remember : MethodName := ⟨RX11, "remember", "()V"⟩
abbrev cX11_doneByTrial : ByteArray := prog_1_method_39_code
def yX11_doneByTrial : MethodName := ⟨RX11, "doneByTrial", "(I)I"⟩
abbrev cX11_settle : ByteArray := prog_1_method_40_code
def yX11_settle : MethodName := ⟨RX11, "settle", "(LRodBeads$Standing;J)I"⟩
abbrev cX11_carryOver : ByteArray := prog_1_method_41_code
def yX11_carryOver : MethodName := ⟨RX11, "carryOver", "(LRodBeads$Standing;I)I"⟩
abbrev cX11_pushAllBack : ByteArray := prog_1_method_42_code
def yX11_pushAllBack : MethodName := ⟨RX11, "pushAllBack", "()V"⟩
abbrev cX11_doStatement : ByteArray := prog_1_method_43_code
def yX11_doStatement : MethodName := ⟨RX11, "doStatement", "()Z"⟩
abbrev cX11_leastCost : ByteArray := prog_1_method_44_code
def yX11_leastCost : MethodName := ⟨RX11, "leastCost", "(IZ)I"⟩
abbrev cX11_gap : ByteArray := prog_1_method_45_code
def yX11_gap : MethodName := ⟨RX11, "gap", "(I)I"⟩
abbrev cX11_nearestShown : ByteArray := prog_1_method_46_code
def yX11_nearestShown : MethodName := ⟨RX11, "nearestShown", "(I)I"⟩
abbrev cX11_secondOf : ByteArray := prog_1_method_47_code
def yX11_secondOf : MethodName := ⟨RX11, "secondOf", "(I)I"⟩
abbrev cX11_pick : ByteArray := prog_1_method_48_code
def yX11_pick : MethodName := ⟨RX11, "pick", "(IIII)I"⟩
abbrev cX11_goOn : ByteArray := prog_1_method_49_code
def yX11_goOn : MethodName := ⟨RX11, "goOn", "(LRodBeads$Standing;II)Z"⟩
abbrev cX11_spentOnPath : ByteArray := prog_1_method_50_code
def yX11_spentOnPath : MethodName := ⟨RX11, "spentOnPath", "()I"⟩
abbrev cX11_fitsSeen : ByteArray := prog_1_method_51_code
def yX11_fitsSeen : MethodName := ⟨RX11, "fitsSeen", "(ILRodBeads$Rod;)Z"⟩
abbrev cX11_chancesToStay : ByteArray := prog_1_method_52_code
def yX11_chancesToStay : MethodName := ⟨RX11, "chancesToStay", "(III)J"⟩
abbrev cX11_power : ByteArray := prog_1_method_53_code
def yX11_power : MethodName := ⟨RX11, "power", "(JI)J"⟩
abbrev cX11_commonDivisor : ByteArray := prog_1_method_54_code
def yX11_commonDivisor : MethodName := ⟨RX11, "commonDivisor", "(JJ)J"⟩
def RX12 : String := "RodBeadsModel"
def TX12 : u_T := fun k => match k with
  | 0 => ("RodBeadsModel", "n", "I", false)
  | 1 => ("RodBeadsModel", "kindOf", "[I", true)
  | 2 => ("RodBeadsModel", "bases", "[I", true)
  | 3 => ("RodBeadsModel", "lows", "[I", true)
  | 4 => ("RodBeadsModel", "highs", "[I", true)
  | 5 => ("RodBeadsModel", "now", "[I", true)
  | 6 => ("RodBeadsModel", "tried", "[I", true)
  | 7 => ("RodBeadsModel", "told", "I", false)
  | 8 => ("RodBeadsModel", "dues", "[J", true)
  | 9 => ("RodBeadsModel", "wayMany", "[J", true)
  | 10 => ("RodBeadsModel", "times", "[I", true)
  | 11 => ("RodBeadsModel", "due", "[I", true)
  | 12 => ("RodBeadsModel", "letterMany", "I", false)
  | 13 => ("RodBeadsModel", "text", "[I", true)
  | 14 => ("RodBeadsModel", "readAt", "I", false)
  | 15 => ("RodBeadsModel", "tokenAt", "I", false)
  | 16 => ("RodBeadsModel", "token", "I", false)
  | 17 => ("RodBeadsModel", "digits", "I", false)
  | 18 => ("RodBeadsModel", "value", "J", false)
  | 19 => ("RodBeadsModel", "word", "I", false)
  | 20 => ("RodBeadsModel", "readMany", "I", false)
  | 21 => ("RodBeadsModel", "readStuck", "I", false)
  | 22 => ("RodBeadsModel", "clauses", "I", false)
  | 23 => ("RodBeadsModel", "readKind", "[I", true)
  | 24 => ("RodBeadsModel", "readBase", "[I", true)
  | 25 => ("RodBeadsModel", "readLow", "[I", true)
  | 26 => ("RodBeadsModel", "readHigh", "[I", true)
  | 27 => ("RodBeadsModel", "isDoing", "Z", false)
  | 28 => ("RodBeadsModel", "isTrouble", "Z", false)
  | 29 => ("RodBeadsModel", "depth", "I", false)
  | 30 => ("RodBeadsModel", "sums", "[J", true)
  | 31 => ("RodBeadsModel", "terms", "[J", true)
  | 32 => ("RodBeadsModel", "sumSigns", "[I", true)
  | 33 => ("RodBeadsModel", "termSigns", "[I", true)
  | 34 => ("RodBeadsModel", "answer", "J", false)
  | 35 => ("RodBeadsModel", "undoMany", "I", false)
  | 36 => ("RodBeadsModel", "undoAt", "I", false)
  | 37 => ("RodBeadsModel", "undos", "[I", true)
  | 38 => ("RodBeadsModel", "isKept", "[Z", true)
  | 39 => ("RodBeadsModel", "kept", "[I", true)
  | 40 => ("RodBeadsModel", "seenMany", "I", false)
  | 41 => ("RodBeadsModel", "seenRod", "[I", true)
  | 42 => ("RodBeadsModel", "seenShown", "[I", true)
  | _ => ("RodBeadsModel", "seenTime", "[I", true)
def tyX12 : Nat → FieldType := fun k => match k with
  | 0 => .int
  | 1 => .array .int
  | 2 => .array .int
  | 3 => .array .int
  | 4 => .array .int
  | 5 => .array .int
  | 6 => .array .int
  | 7 => .int
  | 8 => .array .long
  | 9 => .array .long
  | 10 => .array .int
  | 11 => .array .int
  | 12 => .int
  | 13 => .array .int
  | 14 => .int
  | 15 => .int
  | 16 => .int
  | 17 => .int
  | 18 => .long
  | 19 => .int
  | 20 => .int
  | 21 => .int
  | 22 => .int
  | 23 => .array .int
  | 24 => .array .int
  | 25 => .array .int
  | 26 => .array .int
  | 27 => .boolean
  | 28 => .boolean
  | 29 => .int
  | 30 => .array .long
  | 31 => .array .long
  | 32 => .array .int
  | 33 => .array .int
  | 34 => .long
  | 35 => .int
  | 36 => .int
  | 37 => .array .int
  | 38 => .array .boolean
  | 39 => .array .int
  | 40 => .int
  | 41 => .array .int
  | 42 => .array .int
  | _ => .array .int
abbrev wsX120 : List Cond := u_ws RX12 TX12 44
theorem nmX12 : ∀ a, a < 44 → ∀ b, b < 44 → a ≠ b → (TX12 a).2.1 ≠ (TX12 b).2.1 := by decide +kernel
theorem tyX12_ok : ∀ k, k < 44 → parseFieldDescriptor (TX12 k).2.2.1 = some (tyX12 k) := by decide +kernel
abbrev cX12_init : ByteArray := prog_14_method_1_code
def yX12_init : MethodName := ⟨RX12, "<init>", "()V"⟩
abbrev cX12_in : ByteArray := prog_14_method_2_code
def yX12_in : MethodName := ⟨RX12, "in", "(JJJ)Z"⟩
abbrev cX12_has : ByteArray := prog_14_method_3_code
def yX12_has : MethodName := ⟨RX12, "has", "(II)Z"⟩
abbrev cX12_bits : ByteArray := prog_14_method_4_code
def yX12_bits : MethodName := ⟨RX12, "bits", "(I)I"⟩
abbrev cX12_apart : ByteArray := prog_14_method_5_code
def yX12_apart : MethodName := ⟨RX12, "apart", "(II)I"⟩
abbrev cX12_isRod : ByteArray := prog_14_method_6_code
def yX12_isRod : MethodName := ⟨RX12, "isRod", "(I)Z"⟩
abbrev cX12_worthBy : ByteArray := prog_14_method_7_code
def yX12_worthBy : MethodName := ⟨RX12, "worthBy", "(II)I"⟩
abbrev cX12_worth : ByteArray := prog_14_method_8_code
def yX12_worth : MethodName := ⟨RX12, "worth", "(I)I"⟩
abbrev cX12_takes : ByteArray := prog_14_method_9_code
def yX12_takes : MethodName := ⟨RX12, "takes", "(II)I"⟩
abbrev cX12_pushedOf : ByteArray := prog_14_method_10_code
def yX12_pushedOf : MethodName := ⟨RX12, "pushedOf", "([III)I"⟩
abbrev cX12_shows : ByteArray := prog_14_method_11_code
def yX12_shows : MethodName := ⟨RX12, "shows", "([II)I"⟩
abbrev cX12_beads : ByteArray := prog_14_method_12_code
def yX12_beads : MethodName := ⟨RX12, "beads", "(II)I"⟩
abbrev cX12_isStuck : ByteArray := prog_14_method_13_code
def yX12_isStuck : MethodName := ⟨RX12, "isStuck", "(III)Z"⟩
abbrev cX12_may : ByteArray := prog_14_method_14_code
def yX12_may : MethodName := ⟨RX12, "may", "([IIIII)Z"⟩
abbrev cX12_change : ByteArray := prog_14_method_15_code
def yX12_change : MethodName := ⟨RX12, "change", "([IIII)I"⟩
abbrev cX12_numberOf : ByteArray := prog_14_method_16_code
def yX12_numberOf : MethodName := ⟨RX12, "numberOf", "([I)J"⟩
abbrev cX12_number : ByteArray := prog_14_method_17_code
def yX12_number : MethodName := ⟨RX12, "number", "()J"⟩
abbrev cX12_rod : ByteArray := prog_14_method_18_code
def yX12_rod : MethodName := ⟨RX12, "rod", "(II)I"⟩
abbrev cX12_as : ByteArray := prog_14_method_19_code
def yX12_as : MethodName := ⟨RX12, "as", "(II)I"⟩
abbrev cX12_cell : ByteArray := prog_14_method_20_code
def yX12_cell : MethodName := ⟨RX12, "cell", "(II)I"⟩
abbrev cX12_lay : ByteArray := prog_14_method_21_code
def yX12_lay : MethodName := ⟨RX12, "lay", "([IIJ)V"⟩
abbrev cX12_onward : ByteArray := prog_14_method_22_code
def yX12_onward : MethodName := ⟨RX12, "onward", "(III)I"⟩
abbrev cX12_layCell : ByteArray := prog_14_method_23_code
def yX12_layCell : MethodName := ⟨RX12, "layCell", "([IIII)V"⟩
abbrev cX12_isShown : ByteArray := prog_14_method_24_code
def yX12_isShown : MethodName := ⟨RX12, "isShown", "([IIJ)Z"⟩
abbrev cX12_layDue : ByteArray := prog_14_method_25_code
def yX12_layDue : MethodName := ⟨RX12, "layDue", "([II)V"⟩
abbrev cX12_counted : ByteArray := prog_14_method_26_code
def yX12_counted : MethodName := ⟨RX12, "counted", "(I)I"⟩
abbrev cX12_sets : ByteArray := prog_14_method_27_code
def yX12_sets : MethodName := ⟨RX12, "sets", "([IJ)I"⟩
abbrev cX12_alone : ByteArray := prog_14_method_28_code
def yX12_alone : MethodName := ⟨RX12, "alone", "([III)I"⟩
abbrev cX12_carries : ByteArray := prog_14_method_29_code
def yX12_carries : MethodName := ⟨RX12, "carries", "([II)I"⟩
abbrev cX12_clears : ByteArray := prog_14_method_30_code
def yX12_clears : MethodName := ⟨RX12, "clears", "([I)V"⟩
abbrev cX12_write : ByteArray := prog_14_method_31_code
def yX12_write : MethodName := ⟨RX12, "write", "(I)I"⟩
abbrev cX12_erase : ByteArray := prog_14_method_32_code
def yX12_erase : MethodName := ⟨RX12, "erase", "()I"⟩
abbrev cX12_letterAt : ByteArray := prog_14_method_33_code
def yX12_letterAt : MethodName := ⟨RX12, "letterAt", "(I)I"⟩
abbrev cX12_isSmall : ByteArray := prog_14_method_34_code
def yX12_isSmall : MethodName := ⟨RX12, "isSmall", "(I)Z"⟩
abbrev cX12_isFigure : ByteArray := prog_14_method_35_code
def yX12_isFigure : MethodName := ⟨RX12, "isFigure", "(I)Z"⟩
abbrev cX12_reads : ByteArray := prog_14_method_36_code
def yX12_reads : MethodName := ⟨RX12, "reads", "()V"⟩
abbrev cX12_readsNumber : ByteArray := prog_14_method_37_code
def yX12_readsNumber : MethodName := ⟨RX12, "readsNumber", "()V"⟩
abbrev cX12_code : ByteArray := prog_14_method_38_code
def yX12_code : MethodName := ⟨RX12, "code", "(IIIII)J"⟩
abbrev cX12_wordOf : ByteArray := prog_14_method_39_code
def yX12_wordOf : MethodName := ⟨RX12, "wordOf", "(II)I"⟩
abbrev cX12_numbered : ByteArray := prog_14_method_40_code
def yX12_numbered : MethodName := ⟨RX12, "numbered", "(II)Z"⟩
abbrev cX12_readsRod : ByteArray := prog_14_method_41_code
def yX12_readsRod : MethodName := ⟨RX12, "readsRod", "(I)Z"⟩
abbrev cX12_readsStuck : ByteArray := prog_14_method_42_code
def yX12_readsStuck : MethodName := ⟨RX12, "readsStuck", "()Z"⟩
abbrev cX12_readsClause : ByteArray := prog_14_method_43_code
def yX12_readsClause : MethodName := ⟨RX12, "readsClause", "()Z"⟩
abbrev cX12_readsFrame : ByteArray := prog_14_method_44_code
def yX12_readsFrame : MethodName := ⟨RX12, "readsFrame", "()Z"⟩
abbrev cX12_bounded : ByteArray := prog_14_method_45_code
def yX12_bounded : MethodName := ⟨RX12, "bounded", "(J)J"⟩
abbrev cX12_size : ByteArray := prog_14_method_46_code
def yX12_size : MethodName := ⟨RX12, "size", "(J)J"⟩
abbrev cX12_product : ByteArray := prog_14_method_47_code
def yX12_product : MethodName := ⟨RX12, "product", "(JJ)J"⟩
abbrev cX12_opens : ByteArray := prog_14_method_48_code
def yX12_opens : MethodName := ⟨RX12, "opens", "()V"⟩
abbrev cX12_part : ByteArray := prog_14_method_49_code
def yX12_part : MethodName := ⟨RX12, "part", "(J)V"⟩
abbrev cX12_closesTerm : ByteArray := prog_14_method_50_code
def yX12_closesTerm : MethodName := ⟨RX12, "closesTerm", "()V"⟩
abbrev cX12_readsExpr : ByteArray := prog_14_method_51_code
def yX12_readsExpr : MethodName := ⟨RX12, "readsExpr", "([I)Z"⟩
abbrev cX12_readsStatement : ByteArray := prog_14_method_52_code
def yX12_readsStatement : MethodName := ⟨RX12, "readsStatement", "([I)Z"⟩
abbrev cX12_readsSums : ByteArray := prog_14_method_53_code
def yX12_readsSums : MethodName := ⟨RX12, "readsSums", "([IZ)Z"⟩
abbrev cX12_fault : ByteArray := prog_14_method_54_code
def yX12_fault : MethodName := ⟨RX12, "fault", "(I)I"⟩
abbrev cX12_frame : ByteArray := prog_14_method_55_code
def yX12_frame : MethodName := ⟨RX12, "frame", "()I"⟩
abbrev cX12_run : ByteArray := prog_14_method_56_code
def yX12_run : MethodName := ⟨RX12, "run", "()I"⟩
abbrev cX12_remember : ByteArray := prog_14_method_57_code
def yX12_remember : MethodName := ⟨RX12, "remember", "()V"⟩
abbrev cX12_isPart : ByteArray := prog_14_method_58_code
def yX12_isPart : MethodName := ⟨RX12, "isPart", "(II)Z"⟩
abbrev cX12_push : ByteArray := prog_14_method_59_code
def yX12_push : MethodName := ⟨RX12, "push", "(III)I"⟩
abbrev cX12_stick : ByteArray := prog_14_method_60_code
def yX12_stick : MethodName := ⟨RX12, "stick", "(II)I"⟩
abbrev cX12_isNumber : ByteArray := prog_14_method_61_code
def yX12_isNumber : MethodName := ⟨RX12, "isNumber", "(I)Z"⟩
abbrev cX12_set : ByteArray := prog_14_method_62_code
def yX12_set : MethodName := ⟨RX12, "set", "(I)I"⟩
abbrev cX12_copyNow : ByteArray := prog_14_method_63_code
def yX12_copyNow : MethodName := ⟨RX12, "copyNow", "()V"⟩
abbrev cX12_carry : ByteArray := prog_14_method_64_code
def yX12_carry : MethodName := ⟨RX12, "carry", "(I)I"⟩
abbrev cX12_undo : ByteArray := prog_14_method_65_code
def yX12_undo : MethodName := ⟨RX12, "undo", "()I"⟩
abbrev cX12_allPushed : ByteArray := prog_14_method_66_code
def yX12_allPushed : MethodName := ⟨RX12, "allPushed", "()I"⟩
abbrev cX12_keep : ByteArray := prog_14_method_67_code
def yX12_keep : MethodName := ⟨RX12, "keep", "(I)I"⟩
abbrev cX12_back : ByteArray := prog_14_method_68_code
def yX12_back : MethodName := ⟨RX12, "back", "(I)I"⟩
abbrev cX12_ways : ByteArray := prog_14_method_69_code
def yX12_ways : MethodName := ⟨RX12, "ways", "(I)I"⟩
abbrev cX12_time : ByteArray := prog_14_method_70_code
def yX12_time : MethodName := ⟨RX12, "time", "(I)I"⟩
abbrev cX12_pushed : ByteArray := prog_14_method_71_code
def yX12_pushed : MethodName := ⟨RX12, "pushed", "(III)I"⟩
abbrev cX12_edge : ByteArray := prog_14_method_72_code
def yX12_edge : MethodName := ⟨RX12, "edge", "(Z)J"⟩
abbrev cX12_span : ByteArray := prog_14_method_73_code
def yX12_span : MethodName := ⟨RX12, "span", "(I)J"⟩
abbrev cX12_nearest : ByteArray := prog_14_method_74_code
def yX12_nearest : MethodName := ⟨RX12, "nearest", "(I)I"⟩
abbrev cX12_loosen : ByteArray := prog_14_method_75_code
def yX12_loosen : MethodName := ⟨RX12, "loosen", "(I)I"⟩
abbrev cX12_inOrder : ByteArray := prog_14_method_76_code
def yX12_inOrder : MethodName := ⟨RX12, "inOrder", "(II)I"⟩
abbrev cX12_tour : ByteArray := prog_14_method_77_code
def yX12_tour : MethodName := ⟨RX12, "tour", "(IIII)I"⟩
abbrev cX12_seen : ByteArray := prog_14_method_78_code
def yX12_seen : MethodName := ⟨RX12, "seen", "(III)I"⟩
abbrev cX12_forget : ByteArray := prog_14_method_79_code
def yX12_forget : MethodName := ⟨RX12, "forget", "()I"⟩
abbrev cX12_least : ByteArray := prog_14_method_80_code
def yX12_least : MethodName := ⟨RX12, "least", "(III)I"⟩
abbrev cX12_kinds : ByteArray := prog_14_method_81_code
def yX12_kinds : MethodName := ⟨RX12, "kinds", "(I)I"⟩
abbrev cX12_common : ByteArray := prog_14_method_82_code
def yX12_common : MethodName := ⟨RX12, "common", "(JJ)J"⟩
abbrev cX12_partsOf : ByteArray := prog_14_method_83_code
def yX12_partsOf : MethodName := ⟨RX12, "partsOf", "(III)J"⟩
abbrev cX12_slips : ByteArray := prog_14_method_84_code
def yX12_slips : MethodName := ⟨RX12, "slips", "(IIII)J"⟩
abbrev cX12_count : ByteArray := prog_14_method_85_code
def yX12_count : MethodName := ⟨RX12, "count", "(I)I"⟩
def RJx145de : String := "java/io/Serializable"
def TJx145de : u_T := fun k => match k with
  | _ => ("", "", "", false)
def tyJx145de : Nat → FieldType := fun k => match k with
  | _ => .int
abbrev wsJx145de0 : List Cond := u_ws RJx145de TJx145de 0
theorem nmJx145de : ∀ a, a < 0 → ∀ b, b < 0 → a ≠ b → (TJx145de a).2.1 ≠ (TJx145de b).2.1 := by decide +kernel
theorem tyJx145de_ok : ∀ k, k < 0 → parseFieldDescriptor (TJx145de k).2.2.1 = some (tyJx145de k) := by decide +kernel
def RJx9f9b0 : String := "java/lang/CharSequence"
def TJx9f9b0 : u_T := fun k => match k with
  | _ => ("", "", "", false)
def tyJx9f9b0 : Nat → FieldType := fun k => match k with
  | _ => .int
abbrev wsJx9f9b00 : List Cond := u_ws RJx9f9b0 TJx9f9b0 0
theorem nmJx9f9b0 : ∀ a, a < 0 → ∀ b, b < 0 → a ≠ b → (TJx9f9b0 a).2.1 ≠ (TJx9f9b0 b).2.1 := by decide +kernel
theorem tyJx9f9b0_ok : ∀ k, k < 0 → parseFieldDescriptor (TJx9f9b0 k).2.2.1 = some (tyJx9f9b0 k) := by decide +kernel
def RJxb160c : String := "java/lang/Comparable"
def TJxb160c : u_T := fun k => match k with
  | _ => ("", "", "", false)
def tyJxb160c : Nat → FieldType := fun k => match k with
  | _ => .int
abbrev wsJxb160c0 : List Cond := u_ws RJxb160c TJxb160c 0
theorem nmJxb160c : ∀ a, a < 0 → ∀ b, b < 0 → a ≠ b → (TJxb160c a).2.1 ≠ (TJxb160c b).2.1 := by decide +kernel
theorem tyJxb160c_ok : ∀ k, k < 0 → parseFieldDescriptor (TJxb160c k).2.2.1 = some (tyJxb160c k) := by decide +kernel
def RJ9 : String := "java/lang/Math"
def TJ9 : u_T := fun k => match k with
  | _ => ("", "", "", false)
def tyJ9 : Nat → FieldType := fun k => match k with
  | _ => .int
abbrev wsJ90 : List Cond := u_ws RJ9 TJ9 0
theorem nmJ9 : ∀ a, a < 0 → ∀ b, b < 0 → a ≠ b → (TJ9 a).2.1 ≠ (TJ9 b).2.1 := by decide +kernel
theorem tyJ9_ok : ∀ k, k < 0 → parseFieldDescriptor (TJ9 k).2.2.1 = some (tyJ9 k) := by decide +kernel
abbrev cJ9_abs_0f7a4 : ByteArray := prog_15_method_59_code
def yJ9_abs_0f7a4 : MethodName := ⟨RJ9, "abs", "(I)I"⟩
abbrev cJ9_abs_067f4 : ByteArray := prog_15_method_61_code
def yJ9_abs_067f4 : MethodName := ⟨RJ9, "abs", "(J)J"⟩
abbrev cJ9_max_7cf53 : ByteArray := prog_15_method_65_code
def yJ9_max_7cf53 : MethodName := ⟨RJ9, "max", "(II)I"⟩
abbrev cJ9_min_7cf53 : ByteArray := prog_15_method_69_code
def yJ9_min_7cf53 : MethodName := ⟨RJ9, "min", "(II)I"⟩
def RJ0 : String := "java/lang/String"
def TJ0 : u_T := fun k => match k with
  | _ => ("", "", "", false)
def tyJ0 : Nat → FieldType := fun k => match k with
  | _ => .int
abbrev wsJ00 : List Cond := u_ws RJ0 TJ0 0
theorem nmJ0 : ∀ a, a < 0 → ∀ b, b < 0 → a ≠ b → (TJ0 a).2.1 ≠ (TJ0 b).2.1 := by decide +kernel
theorem tyJ0_ok : ∀ k, k < 0 → parseFieldDescriptor (TJ0 k).2.2.1 = some (tyJ0 k) := by decide +kernel
abbrev cJ0_length_8abf5 : ByteArray := prog_16_method_54_code
def yJ0_length_8abf5 : MethodName := ⟨RJ0, "length", "()I"⟩
abbrev cJ0_charAt_5068e : ByteArray := prog_16_method_56_code
def yJ0_charAt_5068e : MethodName := ⟨RJ0, "charAt", "(I)C"⟩
abbrev cJ0_coder_7d493 : ByteArray := prog_16_method_152_code
def yJ0_coder_7d493 : MethodName := ⟨RJ0, "coder", "()B"⟩
abbrev cJ0_isLatin1_aae02 : ByteArray := prog_16_method_154_code
def yJ0_isLatin1_aae02 : MethodName := ⟨RJ0, "isLatin1", "()Z"⟩
abbrev cJ0_checkIndex_df160 : ByteArray := prog_16_method_155_code
def yJ0_checkIndex_df160 : MethodName := ⟨RJ0, "checkIndex", "(II)V"⟩
def RJ1 : String := "java/lang/StringLatin1"
def TJ1 : u_T := fun k => match k with
  | _ => ("", "", "", false)
def tyJ1 : Nat → FieldType := fun k => match k with
  | _ => .int
abbrev wsJ10 : List Cond := u_ws RJ1 TJ1 0
theorem nmJ1 : ∀ a, a < 0 → ∀ b, b < 0 → a ≠ b → (TJ1 a).2.1 ≠ (TJ1 b).2.1 := by decide +kernel
theorem tyJ1_ok : ∀ k, k < 0 → parseFieldDescriptor (TJ1 k).2.2.1 = some (tyJ1 k) := by decide +kernel
abbrev cJ1_charAt_3b067 : ByteArray := prog_17_method_2_code
def yJ1_charAt_3b067 : MethodName := ⟨RJ1, "charAt", "([BI)C"⟩
def RJ2 : String := "java/lang/StringUTF16"
def TJ2 : u_T := fun k => match k with
  | _ => ("", "", "", false)
def tyJ2 : Nat → FieldType := fun k => match k with
  | _ => .int
abbrev wsJ20 : List Cond := u_ws RJ2 TJ2 0
theorem nmJ2 : ∀ a, a < 0 → ∀ b, b < 0 → a ≠ b → (TJ2 a).2.1 ≠ (TJ2 b).2.1 := by decide +kernel
theorem tyJ2_ok : ∀ k, k < 0 → parseFieldDescriptor (TJ2 k).2.2.1 = some (tyJ2 k) := by decide +kernel
abbrev cJ2_getChar_3b067 : ByteArray := prog_18_method_5_code
def yJ2_getChar_3b067 : MethodName := ⟨RJ2, "getChar", "([BI)C"⟩
abbrev cJ2_length_9d52b : ByteArray := prog_18_method_6_code
def yJ2_length_9d52b : MethodName := ⟨RJ2, "length", "([B)I"⟩
abbrev cJ2_charAt_3b067 : ByteArray := prog_18_method_83_code
def yJ2_charAt_3b067 : MethodName := ⟨RJ2, "charAt", "([BI)C"⟩
abbrev cJ2_checkIndex_2214a : ByteArray := prog_18_method_91_code
def yJ2_checkIndex_2214a : MethodName := ⟨RJ2, "checkIndex", "(I[B)V"⟩
def RJxfd54e : String := "java/lang/constant/Constable"
def TJxfd54e : u_T := fun k => match k with
  | _ => ("", "", "", false)
def tyJxfd54e : Nat → FieldType := fun k => match k with
  | _ => .int
abbrev wsJxfd54e0 : List Cond := u_ws RJxfd54e TJxfd54e 0
theorem nmJxfd54e : ∀ a, a < 0 → ∀ b, b < 0 → a ≠ b → (TJxfd54e a).2.1 ≠ (TJxfd54e b).2.1 := by decide +kernel
theorem tyJxfd54e_ok : ∀ k, k < 0 → parseFieldDescriptor (TJxfd54e k).2.2.1 = some (tyJxfd54e k) := by decide +kernel
def RJx3cf43 : String := "java/lang/constant/ConstantDesc"
def TJx3cf43 : u_T := fun k => match k with
  | _ => ("", "", "", false)
def tyJx3cf43 : Nat → FieldType := fun k => match k with
  | _ => .int
abbrev wsJx3cf430 : List Cond := u_ws RJx3cf43 TJx3cf43 0
theorem nmJx3cf43 : ∀ a, a < 0 → ∀ b, b < 0 → a ≠ b → (TJx3cf43 a).2.1 ≠ (TJx3cf43 b).2.1 := by decide +kernel
theorem tyJx3cf43_ok : ∀ k, k < 0 → parseFieldDescriptor (TJx3cf43 k).2.2.1 = some (tyJx3cf43 k) := by decide +kernel
def RJ7 : String := "java/util/Arrays"
def TJ7 : u_T := fun k => match k with
  | _ => ("", "", "", false)
def tyJ7 : Nat → FieldType := fun k => match k with
  | _ => .int
abbrev wsJ70 : List Cond := u_ws RJ7 TJ7 0
theorem nmJ7 : ∀ a, a < 0 → ∀ b, b < 0 → a ≠ b → (TJ7 a).2.1 ≠ (TJ7 b).2.1 := by decide +kernel
theorem tyJ7_ok : ∀ k, k < 0 → parseFieldDescriptor (TJ7 k).2.2.1 = some (tyJ7 k) := by decide +kernel
abbrev cJ7_fill_53178 : ByteArray := prog_19_method_103_code
def yJ7_fill_53178 : MethodName := ⟨RJ7, "fill", "([II)V"⟩
def RJ3 : String := "jdk/internal/util/Preconditions"
def TJ3 : u_T := fun k => match k with
  | _ => ("", "", "", false)
def tyJ3 : Nat → FieldType := fun k => match k with
  | _ => .int
abbrev wsJ30 : List Cond := u_ws RJ3 TJ3 0
theorem nmJ3 : ∀ a, a < 0 → ∀ b, b < 0 → a ≠ b → (TJ3 a).2.1 ≠ (TJ3 b).2.1 := by decide +kernel
theorem tyJ3_ok : ∀ k, k < 0 → parseFieldDescriptor (TJ3 k).2.2.1 = some (tyJ3 k) := by decide +kernel
abbrev cJ3_checkIndex_8e157 : ByteArray := prog_20_method_11_code
def yJ3_checkIndex_8e157 : MethodName := ⟨RJ3, "checkIndex", "(IILjava/util/function/BiFunction;)I"⟩
def RL : String := "RodBeadsLaw"
abbrev cL_law : ByteArray := code
def yL_law : MethodName := ⟨RL, "law", "([I)Z"⟩
abbrev vwCl : List vw_C := [(RX0, TX0, 3), (RX1, TX1, 3), (RX2, TX2, 3), (RX3, TX3, 3), (RX6, TX6, 3), (RX7, TX7, 4), (RX8, TX8, 4), (RX9, TX9, 6), (RX10, TX10, 14), (RX11, TX11, 16), (RX12, TX12, 44)]
end
section
/-- the text constants' letters, in the order of the tables -/
def am_tx : List (List Int32) := [[102, 114, 97, 109, 101], [115, 116, 117, 99, 107], [112, 108, 97, 105, 110], [102, 105, 118, 101], [115, 108, 111, 119], [104, 101, 105, 114], [115, 101, 116], [97, 100, 100], [115, 117, 98], [99, 108, 101, 97, 114], [99, 97, 114, 114, 121]]
end
section
/-! THE SMALL MACHINE: what the claim's code does, as a function on lists. References are numbers of cells in the order of making; 'retAddr k' stands for what was there before (0: the script; 1 ..: the text constants; 21 ..: their bytes; 50: a static reference). -/
abbrev am_I : Type := Nat × Instr × Nat × List Nat × Value
abbrev am_L : Type := List (Nat × Value)
abbrev am_H : Type := List va_E
abbrev am_F : Type := Nat × am_L × List Value
abbrev am_O : Type := (am_F × am_H) ⊕ (Option Value) ⊕ (Nat × List Value × List Value)
def am_at (code : List am_I) (pc : Nat) : Option am_I := code.find? (fun q => q.1 == pc)
def am_lg (l : am_L) (i : Nat) : Option Value := (l.find? (fun q => q.1 == i)).map (fun q => q.2)
def am_s1 (l : am_L) (i : Nat) (v : Value) : am_L := (i, v) :: l.filter (fun q => !(q.1 == i) && !(q.1 + 1 == i && q.2.category == 2))
def am_s2 (l : am_L) (i : Nat) (v : Value) : am_L := (i, v) :: l.filter (fun q => !(q.1 == i) && (!(q.1 == i + 1) && !(q.1 + 1 == i && q.2.category == 2)))
def am_t (rs : List Nat) : Nat := rs.headD 0
def am_fit (ty : Nat) (v : Value) : Bool := match v with
  | .int x => ty == 0 || (ty == 2 && (x == 0 || x == 1))
  | .long _ => ty == 1
  | .null => ty == 3
  | .ref _ => ty == 3
  | _ => false
def am_pop (n : Nat) (st : List Value) : Option (List Value × List Value) := if n ≤ st.length then some ((st.take n).reverse, st.drop n) else none
def am_dis : List Nat → Nat → Option Nat
  | a :: b :: r, c => if a = c then some b else am_dis r c
  | _, _ => none
def am_zero (t : Nat) : (Nat → Int32) ⊕ (Nat → Int64) ⊕ (Nat → UInt32) ⊕ (Nat → UInt64) ⊕ (Nat → Option Nat) := match t with
  | 0 => .inl (fun _ => 0)
  | 1 => .inr (.inl (fun _ => 0))
  | 2 => .inl (fun _ => 0)
  | _ => .inr (.inr (.inr (.inr (fun _ => none))))
/-- may an object of class ci lie in an array of references of kind t? -/
def am_may (t ci : Nat) : Bool := (t == 4 && ci == 5) || (t == 3 && (ci == 0 || ci == 2 || ci == 3 || ci == 4))
def am_call (M : Nat) (as r : List Value) : Option am_O := if (r.map fun v => v.category).sum ≤ 8 then some (.inr (.inr (M, as, r))) else none
def am_ldI (pc i : Nat) (l : am_L) (st : List Value) (h : am_H) : Option am_O := match am_lg l i with
  | some (.int x) => some (.inl ((pc, l, .int x :: st), h))
  | _ => none
theorem am_ldI_inv {pc i : Nat} {l : am_L} {st : List Value} {h : am_H} {o : am_O} (hd : am_ldI pc i l st h = some o) : (∃ (x : Int32), am_lg l i = some (.int x) ∧ o = .inl ((pc, l, .int x :: st), h)) := by
  unfold am_ldI at hd
  split at hd
  · exact ⟨_, by assumption, (Option.some.inj hd).symm⟩
  · cases hd
def am_ldL (pc i : Nat) (l : am_L) (st : List Value) (h : am_H) : Option am_O := match am_lg l i with
  | some (.long x) => some (.inl ((pc, l, .long x :: st), h))
  | _ => none
theorem am_ldL_inv {pc i : Nat} {l : am_L} {st : List Value} {h : am_H} {o : am_O} (hd : am_ldL pc i l st h = some o) : (∃ (x : Int64), am_lg l i = some (.long x) ∧ o = .inl ((pc, l, .long x :: st), h)) := by
  unfold am_ldL at hd
  split at hd
  · exact ⟨_, by assumption, (Option.some.inj hd).symm⟩
  · cases hd
def am_ldA (pc i : Nat) (l : am_L) (st : List Value) (h : am_H) : Option am_O := match am_lg l i with
  | some (.ref x) => some (.inl ((pc, l, .ref x :: st), h))
  | some .null => some (.inl ((pc, l, .null :: st), h))
  | some (.retAddr x) => some (.inl ((pc, l, .retAddr x :: st), h))
  | _ => none
theorem am_ldA_inv {pc i : Nat} {l : am_L} {st : List Value} {h : am_H} {o : am_O} (hd : am_ldA pc i l st h = some o) : (∃ (x : Nat), am_lg l i = some (.ref x) ∧ o = .inl ((pc, l, .ref x :: st), h)) ∨ (am_lg l i = some .null ∧ o = .inl ((pc, l, .null :: st), h)) ∨ (∃ (x : Nat), am_lg l i = some (.retAddr x) ∧ o = .inl ((pc, l, .retAddr x :: st), h)) := by
  unfold am_ldA at hd
  split at hd
  · exact Or.inl (⟨_, by assumption, (Option.some.inj hd).symm⟩)
  · exact Or.inr (Or.inl (⟨by assumption, (Option.some.inj hd).symm⟩))
  · exact Or.inr (Or.inr (⟨_, by assumption, (Option.some.inj hd).symm⟩))
  · cases hd
def am_stI (pc i : Nat) (l : am_L) (st : List Value) (h : am_H) : Option am_O := match st with
  | .int x :: r => some (.inl ((pc, am_s1 l i (.int x), r), h))
  | _ => none
theorem am_stI_inv {pc i : Nat} {l : am_L} {st : List Value} {h : am_H} {o : am_O} (hd : am_stI pc i l st h = some o) : (∃ (x : Int32), ∃ (r : List Value), st = .int x :: r ∧ o = .inl ((pc, am_s1 l i (.int x), r), h)) := by
  unfold am_stI at hd
  split at hd
  · exact ⟨_, _, rfl, (Option.some.inj hd).symm⟩
  · cases hd
def am_stL (pc i : Nat) (l : am_L) (st : List Value) (h : am_H) : Option am_O := match st with
  | .long x :: r => some (.inl ((pc, am_s2 l i (.long x), r), h))
  | _ => none
theorem am_stL_inv {pc i : Nat} {l : am_L} {st : List Value} {h : am_H} {o : am_O} (hd : am_stL pc i l st h = some o) : (∃ (x : Int64), ∃ (r : List Value), st = .long x :: r ∧ o = .inl ((pc, am_s2 l i (.long x), r), h)) := by
  unfold am_stL at hd
  split at hd
  · exact ⟨_, _, rfl, (Option.some.inj hd).symm⟩
  · cases hd
def am_stA (pc i : Nat) (l : am_L) (st : List Value) (h : am_H) : Option am_O := match st with
  | .ref x :: r => some (.inl ((pc, am_s1 l i (.ref x), r), h))
  | .null :: r => some (.inl ((pc, am_s1 l i .null, r), h))
  | .retAddr x :: r => some (.inl ((pc, am_s1 l i (.retAddr x), r), h))
  | _ => none
theorem am_stA_inv {pc i : Nat} {l : am_L} {st : List Value} {h : am_H} {o : am_O} (hd : am_stA pc i l st h = some o) : (∃ (x : Nat), ∃ (r : List Value), st = .ref x :: r ∧ o = .inl ((pc, am_s1 l i (.ref x), r), h)) ∨ (∃ (r : List Value), st = .null :: r ∧ o = .inl ((pc, am_s1 l i .null, r), h)) ∨ (∃ (x : Nat), ∃ (r : List Value), st = .retAddr x :: r ∧ o = .inl ((pc, am_s1 l i (.retAddr x), r), h)) := by
  unfold am_stA at hd
  split at hd
  · exact Or.inl (⟨_, _, rfl, (Option.some.inj hd).symm⟩)
  · exact Or.inr (Or.inl (⟨_, rfl, (Option.some.inj hd).symm⟩))
  · exact Or.inr (Or.inr (⟨_, _, rfl, (Option.some.inj hd).symm⟩))
  · cases hd
def am_inc (pc i : Nat) (n : Int) (l : am_L) (st : List Value) (h : am_H) : Option am_O := match am_lg l i with
  | some (.int x) => some (.inl ((pc + 3, am_s1 l i (.int (x + Int32.ofInt n)), st), h))
  | _ => none
theorem am_inc_inv {pc i : Nat} {n : Int} {l : am_L} {st : List Value} {h : am_H} {o : am_O} (hd : am_inc pc i n l st h = some o) : (∃ (x : Int32), am_lg l i = some (.int x) ∧ o = .inl ((pc + 3, am_s1 l i (.int (x + Int32.ofInt n)), st), h)) := by
  unfold am_inc at hd
  split at hd
  · exact ⟨_, by assumption, (Option.some.inj hd).symm⟩
  · cases hd
def am_b (f : Int32 → Int32 → Int32) (pc : Nat) (l : am_L) (st : List Value) (h : am_H) : Option am_O := match st with
  | .int y :: .int x :: r => some (.inl ((pc + 1, l, .int (f x y) :: r), h))
  | _ => none
theorem am_b_inv {f : Int32 → Int32 → Int32} {pc : Nat} {l : am_L} {st : List Value} {h : am_H} {o : am_O} (hd : am_b f pc l st h = some o) : (∃ (y : Int32), ∃ (x : Int32), ∃ (r : List Value), st = .int y :: .int x :: r ∧ o = .inl ((pc + 1, l, .int (f x y) :: r), h)) := by
  unfold am_b at hd
  split at hd
  · exact ⟨_, _, _, rfl, (Option.some.inj hd).symm⟩
  · cases hd
def am_bL (f : Int64 → Int64 → Int64) (pc : Nat) (l : am_L) (st : List Value) (h : am_H) : Option am_O := match st with
  | .long y :: .long x :: r => some (.inl ((pc + 1, l, .long (f x y) :: r), h))
  | _ => none
theorem am_bL_inv {f : Int64 → Int64 → Int64} {pc : Nat} {l : am_L} {st : List Value} {h : am_H} {o : am_O} (hd : am_bL f pc l st h = some o) : (∃ (y : Int64), ∃ (x : Int64), ∃ (r : List Value), st = .long y :: .long x :: r ∧ o = .inl ((pc + 1, l, .long (f x y) :: r), h)) := by
  unfold am_bL at hd
  split at hd
  · exact ⟨_, _, _, rfl, (Option.some.inj hd).symm⟩
  · cases hd
def am_dv (f : Int32 → Int32 → Int32) (pc : Nat) (l : am_L) (st : List Value) (h : am_H) : Option am_O := match st with
  | .int y :: .int x :: r => if y = 0 then none else some (.inl ((pc + 1, l, .int (f x y) :: r), h))
  | _ => none
theorem am_dv_inv {f : Int32 → Int32 → Int32} {pc : Nat} {l : am_L} {st : List Value} {h : am_H} {o : am_O} (hd : am_dv f pc l st h = some o) : (∃ (y : Int32), ∃ (x : Int32), ∃ (r : List Value), st = .int y :: .int x :: r ∧ ¬ (y = 0) ∧ o = .inl ((pc + 1, l, .int (f x y) :: r), h)) := by
  unfold am_dv at hd
  split at hd
  · split at hd
    · cases hd
    · rename_i hc
      exact ⟨_, _, _, rfl, hc, (Option.some.inj hd).symm⟩
  · cases hd
def am_dvL (f : Int64 → Int64 → Int64) (pc : Nat) (l : am_L) (st : List Value) (h : am_H) : Option am_O := match st with
  | .long y :: .long x :: r => if y = 0 then none else some (.inl ((pc + 1, l, .long (f x y) :: r), h))
  | _ => none
theorem am_dvL_inv {f : Int64 → Int64 → Int64} {pc : Nat} {l : am_L} {st : List Value} {h : am_H} {o : am_O} (hd : am_dvL f pc l st h = some o) : (∃ (y : Int64), ∃ (x : Int64), ∃ (r : List Value), st = .long y :: .long x :: r ∧ ¬ (y = 0) ∧ o = .inl ((pc + 1, l, .long (f x y) :: r), h)) := by
  unfold am_dvL at hd
  split at hd
  · split at hd
    · cases hd
    · rename_i hc
      exact ⟨_, _, _, rfl, hc, (Option.some.inj hd).symm⟩
  · cases hd
def am_u (f : Int32 → Value) (pc : Nat) (l : am_L) (st : List Value) (h : am_H) : Option am_O := match st with
  | .int x :: r => some (.inl ((pc + 1, l, f x :: r), h))
  | _ => none
theorem am_u_inv {f : Int32 → Value} {pc : Nat} {l : am_L} {st : List Value} {h : am_H} {o : am_O} (hd : am_u f pc l st h = some o) : (∃ (x : Int32), ∃ (r : List Value), st = .int x :: r ∧ o = .inl ((pc + 1, l, f x :: r), h)) := by
  unfold am_u at hd
  split at hd
  · exact ⟨_, _, rfl, (Option.some.inj hd).symm⟩
  · cases hd
def am_uL (f : Int64 → Value) (pc : Nat) (l : am_L) (st : List Value) (h : am_H) : Option am_O := match st with
  | .long x :: r => some (.inl ((pc + 1, l, f x :: r), h))
  | _ => none
theorem am_uL_inv {f : Int64 → Value} {pc : Nat} {l : am_L} {st : List Value} {h : am_H} {o : am_O} (hd : am_uL f pc l st h = some o) : (∃ (x : Int64), ∃ (r : List Value), st = .long x :: r ∧ o = .inl ((pc + 1, l, f x :: r), h)) := by
  unfold am_uL at hd
  split at hd
  · exact ⟨_, _, rfl, (Option.some.inj hd).symm⟩
  · cases hd
def am_cmp (pc : Nat) (l : am_L) (st : List Value) (h : am_H) : Option am_O := match st with
  | .long y :: .long x :: r => some (.inl ((pc + 1, l, .int (lg_cmp x y) :: r), h))
  | _ => none
theorem am_cmp_inv {pc : Nat} {l : am_L} {st : List Value} {h : am_H} {o : am_O} (hd : am_cmp pc l st h = some o) : (∃ (y : Int64), ∃ (x : Int64), ∃ (r : List Value), st = .long y :: .long x :: r ∧ o = .inl ((pc + 1, l, .int (lg_cmp x y) :: r), h)) := by
  unfold am_cmp at hd
  split at hd
  · exact ⟨_, _, _, rfl, (Option.some.inj hd).symm⟩
  · cases hd
def am_dup (pc : Nat) (l : am_L) (st : List Value) (h : am_H) : Option am_O := match st with
  | v :: r => if ¬ v.category = 1 then none else some (.inl ((pc + 1, l, v :: v :: r), h))
  | _ => none
theorem am_dup_inv {pc : Nat} {l : am_L} {st : List Value} {h : am_H} {o : am_O} (hd : am_dup pc l st h = some o) : (∃ (v : Value), ∃ (r : List Value), st = v :: r ∧ ¬ (¬ v.category = 1) ∧ o = .inl ((pc + 1, l, v :: v :: r), h)) := by
  unfold am_dup at hd
  split at hd
  · split at hd
    · cases hd
    · rename_i hc
      exact ⟨_, _, rfl, hc, (Option.some.inj hd).symm⟩
  · cases hd
def am_dup2 (pc : Nat) (l : am_L) (st : List Value) (h : am_H) : Option am_O := match st with
  | v :: w :: r => if ¬ (v.category = 1 ∧ w.category = 1) then none else some (.inl ((pc + 1, l, v :: w :: v :: w :: r), h))
  | _ => none
theorem am_dup2_inv {pc : Nat} {l : am_L} {st : List Value} {h : am_H} {o : am_O} (hd : am_dup2 pc l st h = some o) : (∃ (v : Value), ∃ (w : Value), ∃ (r : List Value), st = v :: w :: r ∧ ¬ (¬ (v.category = 1 ∧ w.category = 1)) ∧ o = .inl ((pc + 1, l, v :: w :: v :: w :: r), h)) := by
  unfold am_dup2 at hd
  split at hd
  · split at hd
    · cases hd
    · rename_i hc
      exact ⟨_, _, _, rfl, hc, (Option.some.inj hd).symm⟩
  · cases hd
def am_drop (pc : Nat) (l : am_L) (st : List Value) (h : am_H) : Option am_O := match st with
  | v :: r => if ¬ v.category = 1 then none else some (.inl ((pc + 1, l, r), h))
  | _ => none
theorem am_drop_inv {pc : Nat} {l : am_L} {st : List Value} {h : am_H} {o : am_O} (hd : am_drop pc l st h = some o) : (∃ (v : Value), ∃ (r : List Value), st = v :: r ∧ ¬ (¬ v.category = 1) ∧ o = .inl ((pc + 1, l, r), h)) := by
  unfold am_drop at hd
  split at hd
  · split at hd
    · cases hd
    · rename_i hc
      exact ⟨_, _, rfl, hc, (Option.some.inj hd).symm⟩
  · cases hd
def am_null (a b : Nat) (l : am_L) (st : List Value) (h : am_H) : Option am_O := match st with
  | .null :: r => some (.inl ((a, l, r), h))
  | .ref x :: r => some (.inl ((b, l, r), h))
  | _ => none
theorem am_null_inv {a b : Nat} {l : am_L} {st : List Value} {h : am_H} {o : am_O} (hd : am_null a b l st h = some o) : (∃ (r : List Value), st = .null :: r ∧ o = .inl ((a, l, r), h)) ∨ (∃ (x : Nat), ∃ (r : List Value), st = .ref x :: r ∧ o = .inl ((b, l, r), h)) := by
  unfold am_null at hd
  split at hd
  · exact Or.inl (⟨_, rfl, (Option.some.inj hd).symm⟩)
  · exact Or.inr (⟨_, _, rfl, (Option.some.inj hd).symm⟩)
  · cases hd
/-- a jump on one number, on two -/
def am_if (P : Int32 → Bool) (pc t : Nat) (l : am_L) (st : List Value) (h : am_H) : Option am_O := match st with
  | .int x :: r => some (.inl ((bif P x then t else pc + 3, l, r), h))
  | _ => none
theorem am_if_inv {P : Int32 → Bool} {pc t : Nat} {l : am_L} {st : List Value} {h : am_H} {o : am_O} (hd : am_if P pc t l st h = some o) : ∃ (x : Int32) (r : List Value), st = .int x :: r ∧ o = .inl ((bif P x then t else pc + 3, l, r), h) := by
  unfold am_if at hd
  split at hd
  · exact ⟨_, _, rfl, (Option.some.inj hd).symm⟩
  · cases hd
def am_ic (P : Int32 → Int32 → Bool) (pc t : Nat) (l : am_L) (st : List Value) (h : am_H) : Option am_O := match st with
  | .int y :: .int x :: r => some (.inl ((bif P x y then t else pc + 3, l, r), h))
  | _ => none
theorem am_ic_inv {P : Int32 → Int32 → Bool} {pc t : Nat} {l : am_L} {st : List Value} {h : am_H} {o : am_O} (hd : am_ic P pc t l st h = some o) : ∃ (y x : Int32) (r : List Value), st = .int y :: .int x :: r ∧ o = .inl ((bif P x y then t else pc + 3, l, r), h) := by
  unfold am_ic at hd
  split at hd
  · exact ⟨_, _, _, rfl, (Option.some.inj hd).symm⟩
  · cases hd
def am_tsw (lo hi : Int) (rs : List Nat) (l : am_L) (st : List Value) (h : am_H) : Option am_O := match st with
  | .int x :: r => if x.toInt < lo ∨ hi < x.toInt then some (.inl ((am_t rs, l, r), h)) else (match rs[(x.toInt - lo).toNat + 1]? with
    | some t => some (.inl ((t, l, r), h))
    | none => none)
  | _ => none
theorem am_tsw_inv {lo hi : Int} {rs : List Nat} {l : am_L} {st : List Value} {h : am_H} {o : am_O} (hd : am_tsw lo hi rs l st h = some o) : ∃ (x : Int32) (r : List Value), st = .int x :: r ∧ (((x.toInt < lo ∨ hi < x.toInt) ∧ o = .inl ((am_t rs, l, r), h)) ∨ (¬ (x.toInt < lo ∨ hi < x.toInt) ∧ ∃ t, rs[(x.toInt - lo).toNat + 1]? = some t ∧ o = .inl ((t, l, r), h))) := by
  unfold am_tsw at hd
  split at hd
  · rename_i x r
    split at hd
    · rename_i hc
      exact ⟨_, _, rfl, Or.inl ⟨hc, (Option.some.inj hd).symm⟩⟩
    · rename_i hc
      split at hd
      · rename_i t ht
        exact ⟨_, _, rfl, Or.inr ⟨hc, t, ht, (Option.some.inj hd).symm⟩⟩
      · cases hd
  · cases hd
def am_gf (pc : Nat) (rs : List Nat) (l : am_L) (st : List Value) (h : am_H) : Option am_O := match st with
  | .ref a :: r => (match h[a]? with
    | some (.inr (ci, fs)) => if (rs.drop 1).contains ci = true then (match fs[am_t rs]? with
      | some v => some (.inl ((pc + 3, l, v :: r), h))
      | none => none) else none
    | _ => none)
  | .retAddr k :: r => if 1 ≤ k ∧ k ≤ am_tx.length then (if rs = [100] then some (.inl ((pc + 3, l, .retAddr (k + 20) :: r), h)) else if rs = [101] then some (.inl ((pc + 3, l, .int 0 :: r), h)) else none) else none
  | _ => none
theorem am_gf_inv {pc : Nat} {rs : List Nat} {l : am_L} {st : List Value} {h : am_H} {o : am_O} (hd : am_gf pc rs l st h = some o) : (∃ (a : Nat) (r : List Value) (ci : Nat) (fs : List Value) (v : Value), st = .ref a :: r ∧ h[a]? = some (.inr (ci, fs)) ∧ ci ∈ rs.drop 1 ∧ fs[am_t rs]? = some v ∧ o = .inl ((pc + 3, l, v :: r), h)) ∨ (∃ (k : Nat) (r : List Value), st = .retAddr k :: r ∧ (1 ≤ k ∧ k ≤ am_tx.length) ∧ ((rs = [100] ∧ o = .inl ((pc + 3, l, .retAddr (k + 20) :: r), h)) ∨ (rs = [101] ∧ o = .inl ((pc + 3, l, .int 0 :: r), h)))) := by
  unfold am_gf at hd
  split at hd
  · split at hd
    · rename_i hh
      split at hd
      · rename_i hc
        split at hd
        · rename_i hv
          exact Or.inl ⟨_, _, _, _, _, rfl, hh, List.contains_iff_mem.mp hc, hv, (Option.some.inj hd).symm⟩
        · cases hd
      · cases hd
    · cases hd
  · split at hd
    · rename_i hk
      split at hd
      · rename_i hr
        exact Or.inr ⟨_, _, rfl, hk, Or.inl ⟨hr, (Option.some.inj hd).symm⟩⟩
      · split at hd
        · rename_i hr
          exact Or.inr ⟨_, _, rfl, hk, Or.inr ⟨hr, (Option.some.inj hd).symm⟩⟩
        · cases hd
    · cases hd
  · cases hd
def am_pf (pc : Nat) (rs : List Nat) (l : am_L) (st : List Value) (h : am_H) : Option am_O := match st with
  | v :: .ref a :: r => (match h[a]? with
    | some (.inr (ci, fs)) => if ((rs.drop 2).contains ci && (am_fit (am_t (rs.drop 1)) v && decide (am_t rs < fs.length))) = true then some (.inl ((pc + 3, l, r), h.set a (.inr (ci, fs.set (am_t rs) v)))) else none
    | _ => none)
  | _ => none
theorem am_pf_inv {pc : Nat} {rs : List Nat} {l : am_L} {st : List Value} {h : am_H} {o : am_O} (hd : am_pf pc rs l st h = some o) : ∃ (v : Value) (a : Nat) (r : List Value) (ci : Nat) (fs : List Value), st = v :: .ref a :: r ∧ h[a]? = some (.inr (ci, fs)) ∧ ci ∈ rs.drop 2 ∧ am_fit (am_t (rs.drop 1)) v = true ∧ am_t rs < fs.length ∧ o = .inl ((pc + 3, l, r), h.set a (.inr (ci, fs.set (am_t rs) v))) := by
  unfold am_pf at hd
  split at hd
  · split at hd
    · rename_i hh
      split at hd
      · rename_i hc
        simp only [Bool.and_eq_true, decide_eq_true_eq] at hc
        exact ⟨_, _, _, _, _, rfl, hh, List.contains_iff_mem.mp hc.1, hc.2.1, hc.2.2, (Option.some.inj hd).symm⟩
      · cases hd
    · cases hd
  · cases hd
def am_lal (pc : Nat) (l : am_L) (st : List Value) (h : am_H) : Option am_O := match st with
  | .int i :: .ref a :: r => (match h[a]? with
    | some (.inl (1, n, .inr (.inl f))) => if i < 0 ∨ n ≤ i.toNatClampNeg then none else some (.inl ((pc + 1, l, .long (f i.toNatClampNeg) :: r), h))
    | _ => none)
  | _ => none
theorem am_lal_inv {pc : Nat} {l : am_L} {st : List Value} {h : am_H} {o : am_O} (hd : am_lal pc l st h = some o) : ∃ (i : Int32) (a : Nat) (r : List Value) (n : Nat) (f : Nat → Int64), st = .int i :: .ref a :: r ∧ h[a]? = some (.inl (1, n, .inr (.inl f))) ∧ vp_in i n ∧ o = .inl ((pc + 1, l, .long (f i.toNatClampNeg) :: r), h) := by
  unfold am_lal at hd
  split at hd
  · split at hd
    · rename_i hh
      split at hd
      · cases hd
      · rename_i hc
        exact ⟨_, _, _, _, _, rfl, hh, hc, (Option.some.inj hd).symm⟩
    · cases hd
  · cases hd
def am_ial (sc : Nat × (Nat → Int32)) (pc : Nat) (l : am_L) (st : List Value) (h : am_H) : Option am_O := match st with
  | .int i :: .ref a :: r => (match h[a]? with
    | some (.inl (0, n, .inl f)) => if i < 0 ∨ n ≤ i.toNatClampNeg then none else some (.inl ((pc + 1, l, .int (f i.toNatClampNeg) :: r), h))
    | _ => none)
  | .int i :: .retAddr k :: r => if k = 0 then (if i < 0 ∨ sc.1 ≤ i.toNatClampNeg then none else some (.inl ((pc + 1, l, .int (sc.2 i.toNatClampNeg) :: r), h))) else none
  | _ => none
theorem am_ial_inv {sc : Nat × (Nat → Int32)} {pc : Nat} {l : am_L} {st : List Value} {h : am_H} {o : am_O} (hd : am_ial sc pc l st h = some o) : (∃ (i : Int32) (a : Nat) (r : List Value) (n : Nat) (f : Nat → Int32), st = .int i :: .ref a :: r ∧ h[a]? = some (.inl (0, n, .inl f)) ∧ vp_in i n ∧ o = .inl ((pc + 1, l, .int (f i.toNatClampNeg) :: r), h)) ∨ (∃ (i : Int32) (r : List Value), st = .int i :: .retAddr 0 :: r ∧ vp_in i sc.1 ∧ o = .inl ((pc + 1, l, .int (sc.2 i.toNatClampNeg) :: r), h)) := by
  unfold am_ial at hd
  split at hd
  · split at hd
    · rename_i hh
      split at hd
      · cases hd
      · rename_i hc
        exact Or.inl ⟨_, _, _, _, _, rfl, hh, hc, (Option.some.inj hd).symm⟩
    · cases hd
  · split at hd
    · rename_i hk
      subst hk
      split at hd
      · cases hd
      · rename_i hc
        exact Or.inr ⟨_, _, rfl, hc, (Option.some.inj hd).symm⟩
    · cases hd
  · cases hd
def am_bal (pc : Nat) (l : am_L) (st : List Value) (h : am_H) : Option am_O := match st with
  | .int i :: .ref a :: r => (match h[a]? with
    | some (.inl (2, n, .inl f)) => if i < 0 ∨ n ≤ i.toNatClampNeg then none else some (.inl ((pc + 1, l, .int (f i.toNatClampNeg) :: r), h))
    | _ => none)
  | .int i :: .retAddr k :: r => if 21 ≤ k ∧ k ≤ am_tx.length + 20 then (if i < 0 ∨ (am_tx.getD (k - 21) []).length ≤ i.toNatClampNeg then none else some (.inl ((pc + 1, l, .int ((am_tx.getD (k - 21) []).getD i.toNatClampNeg 0) :: r), h))) else none
  | _ => none
theorem am_bal_inv {pc : Nat} {l : am_L} {st : List Value} {h : am_H} {o : am_O} (hd : am_bal pc l st h = some o) : (∃ (i : Int32) (a : Nat) (r : List Value) (n : Nat) (f : Nat → Int32), st = .int i :: .ref a :: r ∧ h[a]? = some (.inl (2, n, .inl f)) ∧ vp_in i n ∧ o = .inl ((pc + 1, l, .int (f i.toNatClampNeg) :: r), h)) ∨ (∃ (i : Int32) (k : Nat) (r : List Value), st = .int i :: .retAddr k :: r ∧ (21 ≤ k ∧ k ≤ am_tx.length + 20) ∧ vp_in i (am_tx.getD (k - 21) []).length ∧ o = .inl ((pc + 1, l, .int ((am_tx.getD (k - 21) []).getD i.toNatClampNeg 0) :: r), h)) := by
  unfold am_bal at hd
  split at hd
  · split at hd
    · rename_i hh
      split at hd
      · cases hd
      · rename_i hc
        exact Or.inl ⟨_, _, _, _, _, rfl, hh, hc, (Option.some.inj hd).symm⟩
    · cases hd
  · split at hd
    · rename_i hk
      split at hd
      · cases hd
      · rename_i hc
        exact Or.inr ⟨_, _, _, rfl, hk, hc, (Option.some.inj hd).symm⟩
    · cases hd
  · cases hd
def am_aal (pc : Nat) (l : am_L) (st : List Value) (h : am_H) : Option am_O := match st with
  | .int i :: .ref a :: r => (match h[a]? with
    | some (.inl (t, n, .inr (.inr (.inr (.inr f))))) => if (i < 0 ∨ n ≤ i.toNatClampNeg) ∨ ¬ (t = 3 ∨ t = 4) then none else some (.inl ((pc + 1, l, va_rf (f i.toNatClampNeg) :: r), h))
    | _ => none)
  | _ => none
theorem am_aal_inv {pc : Nat} {l : am_L} {st : List Value} {h : am_H} {o : am_O} (hd : am_aal pc l st h = some o) : ∃ (i : Int32) (a : Nat) (r : List Value) (t n : Nat) (f : Nat → Option Nat), st = .int i :: .ref a :: r ∧ h[a]? = some (.inl (t, n, .inr (.inr (.inr (.inr f))))) ∧ vp_in i n ∧ (t = 3 ∨ t = 4) ∧ o = .inl ((pc + 1, l, va_rf (f i.toNatClampNeg) :: r), h) := by
  unfold am_aal at hd
  split at hd
  · split at hd
    · rename_i hh
      split at hd
      · cases hd
      · rename_i hc
        exact ⟨_, _, _, _, _, _, rfl, hh, fun z => hc (Or.inl z), Classical.not_not.mp (fun z => hc (Or.inr z)), (Option.some.inj hd).symm⟩
    · cases hd
  · cases hd
def am_ias (pc : Nat) (l : am_L) (st : List Value) (h : am_H) : Option am_O := match st with
  | .int x :: .int i :: .ref a :: r => (match h[a]? with
    | some (.inl (0, n, .inl f)) => if i < 0 ∨ n ≤ i.toNatClampNeg then none else some (.inl ((pc + 1, l, r), h.set a (.inl (0, n, .inl (upd f i.toNatClampNeg x)))))
    | _ => none)
  | _ => none
theorem am_ias_inv {pc : Nat} {l : am_L} {st : List Value} {h : am_H} {o : am_O} (hd : am_ias pc l st h = some o) : ∃ (x i : Int32) (a : Nat) (r : List Value) (n : Nat) (f : Nat → Int32), st = .int x :: .int i :: .ref a :: r ∧ h[a]? = some (.inl (0, n, .inl f)) ∧ vp_in i n ∧ o = .inl ((pc + 1, l, r), h.set a (.inl (0, n, .inl (upd f i.toNatClampNeg x)))) := by
  unfold am_ias at hd
  split at hd
  · split at hd
    · rename_i hh
      split at hd
      · cases hd
      · rename_i hc
        exact ⟨_, _, _, _, _, _, rfl, hh, hc, (Option.some.inj hd).symm⟩
    · cases hd
  · cases hd
def am_las (pc : Nat) (l : am_L) (st : List Value) (h : am_H) : Option am_O := match st with
  | .long x :: .int i :: .ref a :: r => (match h[a]? with
    | some (.inl (1, n, .inr (.inl f))) => if i < 0 ∨ n ≤ i.toNatClampNeg then none else some (.inl ((pc + 1, l, r), h.set a (.inl (1, n, .inr (.inl (vp_updL f i.toNatClampNeg x))))))
    | _ => none)
  | _ => none
theorem am_las_inv {pc : Nat} {l : am_L} {st : List Value} {h : am_H} {o : am_O} (hd : am_las pc l st h = some o) : ∃ (x : Int64) (i : Int32) (a : Nat) (r : List Value) (n : Nat) (f : Nat → Int64), st = .long x :: .int i :: .ref a :: r ∧ h[a]? = some (.inl (1, n, .inr (.inl f))) ∧ vp_in i n ∧ o = .inl ((pc + 1, l, r), h.set a (.inl (1, n, .inr (.inl (vp_updL f i.toNatClampNeg x))))) := by
  unfold am_las at hd
  split at hd
  · split at hd
    · rename_i hh
      split at hd
      · cases hd
      · rename_i hc
        exact ⟨_, _, _, _, _, _, rfl, hh, hc, (Option.some.inj hd).symm⟩
    · cases hd
  · cases hd
def am_bas (pc : Nat) (l : am_L) (st : List Value) (h : am_H) : Option am_O := match st with
  | .int x :: .int i :: .ref a :: r => (match h[a]? with
    | some (.inl (2, n, .inl f)) => if (i < 0 ∨ n ≤ i.toNatClampNeg) ∨ ¬ (x = 0 ∨ x = 1) then none else some (.inl ((pc + 1, l, r), h.set a (.inl (2, n, .inl (upd f i.toNatClampNeg x)))))
    | _ => none)
  | _ => none
theorem am_bas_inv {pc : Nat} {l : am_L} {st : List Value} {h : am_H} {o : am_O} (hd : am_bas pc l st h = some o) : ∃ (x i : Int32) (a : Nat) (r : List Value) (n : Nat) (f : Nat → Int32), st = .int x :: .int i :: .ref a :: r ∧ h[a]? = some (.inl (2, n, .inl f)) ∧ vp_in i n ∧ (x = 0 ∨ x = 1) ∧ o = .inl ((pc + 1, l, r), h.set a (.inl (2, n, .inl (upd f i.toNatClampNeg x)))) := by
  unfold am_bas at hd
  split at hd
  · split at hd
    · rename_i hh
      split at hd
      · cases hd
      · rename_i hc
        exact ⟨_, _, _, _, _, _, rfl, hh, fun z => hc (Or.inl z), Classical.not_not.mp (fun z => hc (Or.inr z)), (Option.some.inj hd).symm⟩
    · cases hd
  · cases hd
def am_aas (pc : Nat) (l : am_L) (st : List Value) (h : am_H) : Option am_O := match st with
  | .null :: .int i :: .ref a :: r => (match h[a]? with
    | some (.inl (t, n, .inr (.inr (.inr (.inr f))))) => if (i < 0 ∨ n ≤ i.toNatClampNeg) ∨ ¬ (t = 3 ∨ t = 4) then none else some (.inl ((pc + 1, l, r), h.set a (.inl (t, n, .inr (.inr (.inr (.inr (va_up f i.toNatClampNeg none))))))))
    | _ => none)
  | .ref v :: .int i :: .ref a :: r => (match h[a]?, h[v]? with
    | some (.inl (t, n, .inr (.inr (.inr (.inr f))))), some (.inr (ci, fs)) => if (i < 0 ∨ n ≤ i.toNatClampNeg) ∨ ¬ (am_may t ci = true) then none else some (.inl ((pc + 1, l, r), h.set a (.inl (t, n, .inr (.inr (.inr (.inr (va_up f i.toNatClampNeg (some v)))))))))
    | _, _ => none)
  | _ => none
theorem am_aas_inv {pc : Nat} {l : am_L} {st : List Value} {h : am_H} {o : am_O} (hd : am_aas pc l st h = some o) : (∃ (i : Int32) (a : Nat) (r : List Value) (t n : Nat) (f : Nat → Option Nat), st = .null :: .int i :: .ref a :: r ∧ h[a]? = some (.inl (t, n, .inr (.inr (.inr (.inr f))))) ∧ vp_in i n ∧ (t = 3 ∨ t = 4) ∧ o = .inl ((pc + 1, l, r), h.set a (.inl (t, n, .inr (.inr (.inr (.inr (va_up f i.toNatClampNeg none)))))))) ∨ (∃ (v : Nat) (i : Int32) (a : Nat) (r : List Value) (t n : Nat) (f : Nat → Option Nat) (ci : Nat) (fs : List Value), st = .ref v :: .int i :: .ref a :: r ∧ h[a]? = some (.inl (t, n, .inr (.inr (.inr (.inr f))))) ∧ h[v]? = some (.inr (ci, fs)) ∧ vp_in i n ∧ am_may t ci = true ∧ o = .inl ((pc + 1, l, r), h.set a (.inl (t, n, .inr (.inr (.inr (.inr (va_up f i.toNatClampNeg (some v))))))))) := by
  unfold am_aas at hd
  split at hd
  · split at hd
    · rename_i hh
      split at hd
      · cases hd
      · rename_i hc
        exact Or.inl ⟨_, _, _, _, _, _, rfl, hh, fun z => hc (Or.inl z), Classical.not_not.mp (fun z => hc (Or.inr z)), (Option.some.inj hd).symm⟩
    · cases hd
  · split at hd
    · rename_i hh hv
      split at hd
      · cases hd
      · rename_i hc
        exact Or.inr ⟨_, _, _, _, _, _, _, _, _, rfl, hh, hv, fun z => hc (Or.inl z), Classical.not_not.mp (fun z => hc (Or.inr z)), (Option.some.inj hd).symm⟩
    · cases hd
  · cases hd
def am_len (sc : Nat × (Nat → Int32)) (pc : Nat) (l : am_L) (st : List Value) (h : am_H) : Option am_O := match st with
  | .ref a :: r => (match h[a]? with
    | some (.inl (t, x)) => if t < 5 then some (.inl ((pc + 1, l, .int (Int32.ofNat x.1) :: r), h)) else none
    | _ => none)
  | .retAddr k :: r => if k = 0 then some (.inl ((pc + 1, l, .int (Int32.ofNat sc.1) :: r), h)) else if 21 ≤ k ∧ k ≤ am_tx.length + 20 then some (.inl ((pc + 1, l, .int (Int32.ofNat (am_tx.getD (k - 21) []).length) :: r), h)) else none
  | _ => none
theorem am_len_inv {sc : Nat × (Nat → Int32)} {pc : Nat} {l : am_L} {st : List Value} {h : am_H} {o : am_O} (hd : am_len sc pc l st h = some o) : (∃ (a : Nat) (r : List Value) (t : Nat) (x : vp_A), st = .ref a :: r ∧ h[a]? = some (.inl (t, x)) ∧ t < 5 ∧ o = .inl ((pc + 1, l, .int (Int32.ofNat x.1) :: r), h)) ∨ (∃ (r : List Value), st = .retAddr 0 :: r ∧ o = .inl ((pc + 1, l, .int (Int32.ofNat sc.1) :: r), h)) ∨ (∃ (k : Nat) (r : List Value), st = .retAddr k :: r ∧ (21 ≤ k ∧ k ≤ am_tx.length + 20) ∧ o = .inl ((pc + 1, l, .int (Int32.ofNat (am_tx.getD (k - 21) []).length) :: r), h)) := by
  unfold am_len at hd
  split at hd
  · split at hd
    · rename_i hh
      split at hd
      · rename_i hc
        exact Or.inl ⟨_, _, _, _, rfl, hh, hc, (Option.some.inj hd).symm⟩
      · cases hd
    · cases hd
  · split at hd
    · rename_i hk
      subst hk
      exact Or.inr (Or.inl ⟨_, rfl, (Option.some.inj hd).symm⟩)
    · split at hd
      · rename_i hk
        exact Or.inr (Or.inr ⟨_, _, rfl, hk, (Option.some.inj hd).symm⟩)
      · cases hd
  · cases hd
def am_tag (t : ArrayType) : Nat := match t with
  | .int => 0
  | .long => 1
  | .boolean => 2
  | _ => 9
def am_nar (t : ArrayType) (pc : Nat) (l : am_L) (st : List Value) (h : am_H) : Option am_O := match st with
  | .int n :: r => if (n < 0 ∨ 100000 ≤ n.toNatClampNeg) ∨ am_tag t = 9 then none else some (.inl ((pc + 2, l, .ref h.length :: r), h ++ [.inl (am_tag t, n.toNatClampNeg, am_zero (am_tag t))]))
  | _ => none
theorem am_nar_inv {t : ArrayType} {pc : Nat} {l : am_L} {st : List Value} {h : am_H} {o : am_O} (hd : am_nar t pc l st h = some o) : ∃ (n : Int32) (r : List Value), st = .int n :: r ∧ ¬ n < 0 ∧ n.toNatClampNeg < 100000 ∧ am_tag t ≠ 9 ∧ o = .inl ((pc + 2, l, .ref h.length :: r), h ++ [.inl (am_tag t, n.toNatClampNeg, am_zero (am_tag t))]) := by
  unfold am_nar at hd
  split at hd
  · split at hd
    · cases hd
    · rename_i hc
      exact ⟨_, _, rfl, fun z => hc (Or.inl (Or.inl z)), Nat.not_le.mp (fun z => hc (Or.inl (Or.inr z))), fun z => hc (Or.inr z), (Option.some.inj hd).symm⟩
  · cases hd
def am_anw (t pc : Nat) (l : am_L) (st : List Value) (h : am_H) : Option am_O := match st with
  | .int n :: r => if (n < 0 ∨ 100000 ≤ n.toNatClampNeg) ∨ ¬ (t = 3 ∨ t = 4) then none else some (.inl ((pc + 3, l, .ref h.length :: r), h ++ [.inl (t, n.toNatClampNeg, am_zero 3)]))
  | _ => none
theorem am_anw_inv {t pc : Nat} {l : am_L} {st : List Value} {h : am_H} {o : am_O} (hd : am_anw t pc l st h = some o) : ∃ (n : Int32) (r : List Value), st = .int n :: r ∧ ¬ n < 0 ∧ n.toNatClampNeg < 100000 ∧ (t = 3 ∨ t = 4) ∧ o = .inl ((pc + 3, l, .ref h.length :: r), h ++ [.inl (t, n.toNatClampNeg, am_zero 3)]) := by
  unfold am_anw at hd
  split at hd
  · split at hd
    · cases hd
    · rename_i hc
      exact ⟨_, _, rfl, fun z => hc (Or.inl (Or.inl z)), Nat.not_le.mp (fun z => hc (Or.inl (Or.inr z))), Classical.not_not.mp (fun z => hc (Or.inr z)), (Option.some.inj hd).symm⟩
  · cases hd
/-- instanceof, of rods alone: rs are the classes that are it -/
def am_ins (pc : Nat) (rs : List Nat) (l : am_L) (st : List Value) (h : am_H) : Option am_O := match st with
  | .ref a :: r => (match h[a]? with
    | some (.inr (ci, _)) => if ci = 0 ∨ ci = 2 ∨ ci = 3 ∨ ci = 4 then some (.inl ((pc + 3, l, .int (bif rs.contains ci then 1 else 0) :: r), h)) else none
    | _ => none)
  | _ => none
theorem am_ins_inv {pc : Nat} {rs : List Nat} {l : am_L} {st : List Value} {h : am_H} {o : am_O} (hd : am_ins pc rs l st h = some o) : ∃ (a : Nat) (r : List Value) (ci : Nat) (fs : List Value), st = .ref a :: r ∧ h[a]? = some (.inr (ci, fs)) ∧ (ci = 0 ∨ ci = 2 ∨ ci = 3 ∨ ci = 4) ∧ o = .inl ((pc + 3, l, .int (bif rs.contains ci then 1 else 0) :: r), h) := by
  unfold am_ins at hd
  split at hd
  · split at hd
    · rename_i hh
      split at hd
      · rename_i hc
        exact ⟨_, _, _, _, rfl, hh, hc, (Option.some.inj hd).symm⟩
      · cases hd
    · cases hd
  · cases hd
/-- may x be what a method of this kind of answer gives? 0 int, 2 boolean, 3 byte, 4 char -/
def am_nw (t : Nat) (x : Int32) : Bool := match t with
  | 0 => true
  | 2 => x == 0 || x == 1
  | 3 => x == 0
  | 4 => x == (x.toUInt32 % 65536).toInt32
  | _ => false
def am_rec (h : am_H) (v : Value) : Option Nat := match v with
  | .ref a => (match h[a]? with
    | some (.inr (ci, _)) => some ci
    | _ => none)
  | .retAddr k => if 1 ≤ k ∧ k ≤ am_tx.length then some 60 else none
  | _ => none
def am_inv (rs : List Nat) (st : List Value) (h : am_H) : Option am_O := match rs with
  | n :: ds => (match am_pop n st with
    | some (as, v :: r) => (match am_rec h v with
      | some ci => (match am_dis ds ci with
        | some M => am_call M (v :: as) r
        | none => none)
      | none => none)
    | _ => none)
  | _ => none
def am_sta (rs : List Nat) (st : List Value) : Option am_O := match rs with
  | [n, M] => (match am_pop n st with
    | some (as, r) => am_call M as r
    | none => none)
  | _ => none
def am_spc (rs : List Nat) (pc : Nat) (l : am_L) (st : List Value) (h : am_H) : Option am_O := match rs with
  | [] => (match st with
    | .ref _ :: r => if (r.map fun v => v.category).sum ≤ 8 then some (.inl ((pc + 3, l, r), h)) else none
    | _ => none)
  | [n, M] => (match am_pop n st with
    | some (as, .ref a :: r) => am_call M (.ref a :: as) r
    | _ => none)
  | _ => none
def am_ret (t : Nat) (st : List Value) : Option am_O := match st with
  | [.int x] => if am_nw t x = true then some (.inr (.inl (some (.int x)))) else none
  | _ => none
def am_retA (st : List Value) : Option am_O := match st with
  | [.ref x] => some (.inr (.inl (some (.ref x))))
  | [.null] => some (.inr (.inl (some .null)))
  | _ => none
def am_retL (st : List Value) : Option am_O := match st with
  | [.long x] => some (.inr (.inl (some (.long x))))
  | _ => none
def am_retV (st : List Value) : Option am_O := match st with
  | [] => some (.inr (.inl none))
  | _ => none
def am_do (df : Nat → List Value) (sc : Nat × (Nat → Int32)) (q : am_I) (l : am_L) (st : List Value) (h : am_H) : Option am_O := match q with
  | (pc, ins, _, rs, cv) => match ins with
    | .iconst n => some (.inl ((pc + 1, l, .int (Int32.ofInt n) :: st), h))
    | .bipush n => some (.inl ((pc + 2, l, .int (Int8.ofInt n).toInt32 :: st), h))
    | .sipush n => some (.inl ((pc + 3, l, .int (Int16.ofInt n).toInt32 :: st), h))
    | .lconst n => some (.inl ((pc + 1, l, .long (Int64.ofNat (n : Nat)) :: st), h))
    | .aconst_null => some (.inl ((pc + 1, l, .null :: st), h))
    | .ldc _ => some (.inl ((pc + 2, l, cv :: st), h))
    | .ldc_w _ => some (.inl ((pc + 3, l, cv :: st), h))
    | .ldc2_w _ => some (.inl ((pc + 3, l, cv :: st), h))
    | .getstatic _ => some (.inl ((pc + 3, l, cv :: st), h))
    | .iload_n k => am_ldI (pc + 1) k l st h
    | .iload k => am_ldI (pc + 2) k l st h
    | .lload_n k => am_ldL (pc + 1) k l st h
    | .lload k => am_ldL (pc + 2) k l st h
    | .aload_n k => am_ldA (pc + 1) k l st h
    | .aload k => am_ldA (pc + 2) k l st h
    | .istore_n k => am_stI (pc + 1) k l st h
    | .istore k => am_stI (pc + 2) k l st h
    | .lstore_n k => am_stL (pc + 1) k l st h
    | .lstore k => am_stL (pc + 2) k l st h
    | .astore_n k => am_stA (pc + 1) k l st h
    | .astore k => am_stA (pc + 2) k l st h
    | .iinc i n => am_inc pc i n l st h
    | .iadd => am_b (fun x y => x + y) pc l st h
    | .isub => am_b (fun x y => x - y) pc l st h
    | .imul => am_b (fun x y => x * y) pc l st h
    | .iand => am_b (fun x y => x &&& y) pc l st h
    | .ior => am_b (fun x y => x ||| y) pc l st h
    | .ixor => am_b (fun x y => x ^^^ y) pc l st h
    | .ishl => am_b (fun x y => x <<< (y &&& 31)) pc l st h
    | .ishr => am_b (fun x y => x >>> (y &&& 31)) pc l st h
    | .idiv => am_dv (fun x y => x / y) pc l st h
    | .irem => am_dv (fun x y => x - x / y * y) pc l st h
    | .ineg => am_u (fun x => .int (-x)) pc l st h
    | .i2l => am_u (fun x => .long x.toInt64) pc l st h
    | .i2c => am_u (fun x => .int (x.toUInt32 % 65536).toInt32) pc l st h
    | .ladd => am_bL (fun x y => x + y) pc l st h
    | .lsub => am_bL (fun x y => x - y) pc l st h
    | .lmul => am_bL (fun x y => x * y) pc l st h
    | .ldiv => am_dvL (fun x y => x / y) pc l st h
    | .lrem => am_dvL (fun x y => x - x / y * y) pc l st h
    | .lneg => am_uL (fun x => .long (-x)) pc l st h
    | .l2i => am_uL (fun x => .int x.toInt32) pc l st h
    | .lcmp => am_cmp pc l st h
    | .dup => am_dup pc l st h
    | .dup2 => am_dup2 pc l st h
    | .pop => am_drop pc l st h
    | .ifCond c _ => (match c with
      | .eq => am_if (fun x => decide (x = 0)) pc (am_t rs) l st h
      | .ne => am_if (fun x => !decide (x = 0)) pc (am_t rs) l st h
      | .lt => am_if (fun x => decide (x < 0)) pc (am_t rs) l st h
      | .ge => am_if (fun x => decide (0 ≤ x)) pc (am_t rs) l st h
      | .gt => am_if (fun x => decide (0 < x)) pc (am_t rs) l st h
      | .le => am_if (fun x => decide (x ≤ 0)) pc (am_t rs) l st h)
    | .if_icmp c _ => (match c with
      | .eq => am_ic (fun x y => decide (x = y)) pc (am_t rs) l st h
      | .ne => am_ic (fun x y => !decide (x = y)) pc (am_t rs) l st h
      | .lt => am_ic (fun x y => decide (x < y)) pc (am_t rs) l st h
      | .ge => am_ic (fun x y => decide (y ≤ x)) pc (am_t rs) l st h
      | .gt => am_ic (fun x y => decide (y < x)) pc (am_t rs) l st h
      | .le => am_ic (fun x y => decide (x ≤ y)) pc (am_t rs) l st h)
    | .goto _ => some (.inl ((am_t rs, l, st), h))
    | .ifnull _ => am_null (am_t rs) (pc + 3) l st h
    | .ifnonnull _ => am_null (pc + 3) (am_t rs) l st h
    | .tableswitch _ lo hi _ => am_tsw lo hi rs l st h
    | .getfield _ => am_gf pc rs l st h
    | .putfield _ => am_pf pc rs l st h
    | .iaload => am_ial sc pc l st h
    | .laload => am_lal pc l st h
    | .baload => am_bal pc l st h
    | .aaload => am_aal pc l st h
    | .iastore => am_ias pc l st h
    | .lastore => am_las pc l st h
    | .bastore => am_bas pc l st h
    | .aastore => am_aas pc l st h
    | .arraylength => am_len sc pc l st h
    | .new _ => some (.inl ((pc + 3, l, .ref h.length :: st), h ++ [.inr (am_t rs, df (am_t rs))]))
    | .newarray t => am_nar t pc l st h
    | .anewarray _ => am_anw (am_t rs) pc l st h
    | .instanceof _ => am_ins pc rs l st h
    | .ireturn => am_ret (am_t rs) st
    | .lreturn => am_retL st
    | .areturn => am_retA st
    | .return_ => am_retV st
    | .invokestatic _ => am_sta rs st
    | .invokespecial _ => am_spc rs pc l st h
    | .invokevirtual _ => am_inv rs st h
    | _ => none
/-- one method's steps, over what its calls do -/
def am_steps (df : Nat → List Value) (sc : Nat × (Nat → Int32)) (call : Nat → List Value → am_H → Option (Option Value × am_H)) (code : List am_I) : Nat → am_F → am_H → Option (Option Value × am_H)
  | 0, _, _ => none
  | n + 1, f, h => match am_at code f.1 with
    | none => none
    | some q => match am_do df sc q f.2.1 f.2.2 h with
      | none => none
      | some (.inl (f', h')) => am_steps df sc call code n f' h'
      | some (.inr (.inl r)) => some (r, h)
      | some (.inr (.inr (M, as, r))) => match call M as h with
        | none => none
        | some (v, h') => am_steps df sc call code n (f.1 + 3, f.2.1, v.toList ++ r) h'
/-- calls d deep at most, n steps at most in each -/
def am_run (df : Nat → List Value) (sc : Nat × (Nat → Int32)) (P : Nat → List am_I) (n : Nat) : Nat → Nat → List Value → am_H → Option (Option Value × am_H)
  | 0, _, _, _ => none
  | d + 1, M, as, h => am_steps df sc (am_run df sc P n d) (P M) n (0, lv_args 0 as, []) h
end
section
/-! What the small machine's lists are on the machine: values, locals, cells. B: where the new cells begin; X: where what was there before lies; cA: the array classes. -/
def am_v (B : Nat) (X : Nat → Option Nat) (v : Value) : Value := match v with
  | .ref i => .ref (B + i)
  | .retAddr k => va_rf (X k)
  | w => w
theorem am_v_cat (B : Nat) (X : Nat → Option Nat) (v : Value) : (am_v B X v).category = v.category := by
  cases v with
  | retAddr k =>
    show (va_rf (X k)).category = 1
    cases X k <;> rfl
  | _ => rfl
def am_vs (B : Nat) (X : Nat → Option Nat) (st : List Value) : List Value := st.map (am_v B X)
def am_lm (B : Nat) (X : Nat → Option Nat) (l : am_L) : am_L := l.map (fun q => (q.1, am_v B X q.2))
theorem am_vs_sum (B : Nat) (X : Nat → Option Nat) (st : List Value) : ((am_vs B X st).map fun v => v.category).sum = (st.map fun v => v.category).sum := by
  unfold am_vs
  rw [List.map_map]
  congr 1
  exact List.map_congr_left (fun v _ => am_v_cat B X v)
theorem am_lm_filter (B : Nat) (X : Nat → Option Nat) (l : am_L) (f : Nat → Nat → Bool) : am_lm B X (l.filter (fun q => f q.1 q.2.category)) = (am_lm B X l).filter (fun q => f q.1 q.2.category) := by
  unfold am_lm
  rw [List.filter_map]
  congr 1
  refine List.filter_congr (fun q _ => ?_)
  show f q.1 q.2.category = f q.1 (am_v B X q.2).category
  rw [am_v_cat]
theorem am_lm_s1 (B : Nat) (X : Nat → Option Nat) (l : am_L) (i : Nat) (v : Value) : (i, am_v B X v) :: (am_lm B X l).filter (fun q => !(q.1 == i) && !(q.1 + 1 == i && q.2.category == 2)) = am_lm B X (am_s1 l i v) := by
  have h := am_lm_filter B X l (fun a c => !(a == i) && !(a + 1 == i && c == 2))
  show _ = (i, am_v B X v) :: am_lm B X _
  rw [h]
theorem am_lm_s2 (B : Nat) (X : Nat → Option Nat) (l : am_L) (i : Nat) (v : Value) : (i, am_v B X v) :: (am_lm B X l).filter (fun q => !(q.1 == i) && (!(q.1 == i + 1) && !(q.1 + 1 == i && q.2.category == 2))) = am_lm B X (am_s2 l i v) := by
  have h := am_lm_filter B X l (fun a c => !(a == i) && (!(a == i + 1) && !(a + 1 == i && c == 2)))
  show _ = (i, am_v B X v) :: am_lm B X _
  rw [h]
theorem am_lg_mem {B : Nat} {X : Nat → Option Nat} {l : am_L} {i : Nat} {v : Value} (h : am_lg l i = some v) : ∃ k : Nat, (am_lm B X l)[k]? = some (i, am_v B X v) := by
  unfold am_lg at h
  cases hf : l.find? (fun q => q.1 == i) with
  | none => rw [hf] at h; cases h
  | some q =>
    rw [hf] at h
    have h1 : q.1 = i := by simpa using List.find?_some hf
    have h2 : q.2 = v := Option.some.inj h
    have h3 : (q.1, am_v B X q.2) ∈ am_lm B X l := List.mem_map.mpr ⟨q, List.mem_of_find?_eq_some hf, rfl⟩
    rw [h1, h2] at h3
    exact List.getElem?_of_mem h3
theorem am_lg_at {B : Nat} {X : Nat → Option Nat} {ls : Array Slot} {nL : Nat} {l : am_L} {i : Nat} {v : Value} (hl : lv_has ls nL (am_lm B X l)) (h : am_lg l i = some v) : ls[i]? = some (.val (am_v B X v)) := by
  obtain ⟨k, hk⟩ := am_lg_mem (B := B) (X := X) h
  exact lv_at hl k hk
theorem am_lm_args (B : Nat) (X : Nat → Option Nat) : ∀ (i : Nat) (vs : List Value), lv_args i (am_vs B X vs) = am_lm B X (lv_args i vs)
  | _, [] => rfl
  | i, v :: vs => by
    show (i, am_v B X v) :: lv_args (if (am_v B X v).category = 2 then i + 2 else i + 1) (am_vs B X vs) = (i, am_v B X v) :: am_lm B X (lv_args (if v.category = 2 then i + 2 else i + 1) vs)
    rw [am_v_cat, am_lm_args B X _ vs]
def am_e (B : Nat) (X : Nat → Option Nat) (cA : Nat → Nat) (x : va_E) : va_E := match x with
  | .inl (t, n, .inl f) => .inl (cA t, n, .inl f)
  | .inl (t, n, .inr (.inl f)) => .inl (cA t, n, .inr (.inl f))
  | .inl (t, n, .inr (.inr (.inl f))) => .inl (cA t, n, .inr (.inr (.inl f)))
  | .inl (t, n, .inr (.inr (.inr (.inl f)))) => .inl (cA t, n, .inr (.inr (.inr (.inl f))))
  | .inl (t, n, .inr (.inr (.inr (.inr f)))) => .inl (cA t, n, .inr (.inr (.inr (.inr (fun j => (f j).map (fun i => B + i))))))
  | .inr (ci, fs) => .inr (ci, fs.map (am_v B X))
theorem am_e_arr (B : Nat) (X : Nat → Option Nat) (cA : Nat → Nat) (t : Nat) (x : vp_A) : ∃ y : vp_A, y.1 = x.1 ∧ am_e B X cA (.inl (t, x)) = .inl (cA t, y) := by
  obtain ⟨n, y⟩ := x
  rcases y with f | f | f | f | f
  · exact ⟨(n, .inl f), rfl, rfl⟩
  · exact ⟨(n, .inr (.inl f)), rfl, rfl⟩
  · exact ⟨(n, .inr (.inr (.inl f))), rfl, rfl⟩
  · exact ⟨(n, .inr (.inr (.inr (.inl f)))), rfl, rfl⟩
  · exact ⟨(n, .inr (.inr (.inr (.inr (fun j => (f j).map (fun i => B + i)))))), rfl, rfl⟩
def am_w (B : Nat) (X : Nat → Option Nat) (cA : Nat → Nat) (h : am_H) : va_W := h.mapIdx (fun i x => (B + i, am_e B X cA x))
theorem am_w_at {B : Nat} {X : Nat → Option Nat} {cA : Nat → Nat} {h : am_H} {a : Nat} {x : va_E} (hh : h[a]? = some x) : (am_w B X cA h)[a]? = some (B + a, am_e B X cA x) := by
  unfold am_w
  rw [List.getElem?_mapIdx, hh]
  rfl
theorem am_w_of {B : Nat} {X : Nat → Option Nat} {cA : Nat → Nat} {h : am_H} {a : Nat} {q : Nat × va_E} (hh : (am_w B X cA h)[a]? = some q) : ∃ x, h[a]? = some x ∧ q = (B + a, am_e B X cA x) := by
  unfold am_w at hh
  rw [List.getElem?_mapIdx] at hh
  cases hx : h[a]? with
  | none => rw [hx] at hh; cases hh
  | some x =>
    rw [hx] at hh
    exact ⟨x, rfl, (Option.some.inj hh).symm⟩
theorem am_w_set (B : Nat) (X : Nat → Option Nat) (cA : Nat → Nat) (h : am_H) (a : Nat) (x : va_E) : (am_w B X cA h).set a (B + a, am_e B X cA x) = am_w B X cA (h.set a x) := by
  refine List.ext_getElem? (fun i => ?_)
  unfold am_w
  rw [List.getElem?_mapIdx, List.getElem?_set, List.getElem?_set, List.length_mapIdx, List.getElem?_mapIdx]
  by_cases hi : a = i
  · subst hi
    rw [if_pos rfl, if_pos rfl]
    by_cases hl : a < h.length
    · rw [if_pos hl, if_pos hl]; rfl
    · rw [if_neg hl, if_neg hl]; rfl
  · rw [if_neg hi, if_neg hi]
theorem am_w_app (B : Nat) (X : Nat → Option Nat) (cA : Nat → Nat) (h : am_H) (x : va_E) : am_w B X cA (h ++ [x]) = am_w B X cA h ++ [(B + h.length, am_e B X cA x)] := by
  unfold am_w
  rw [List.mapIdx_append]
  simp
def am_A (B : Nat) : Nat → Prop := fun q => B ≤ q
theorem am_D (B : Nat) (X : Nat → Option Nat) (cA : Nat → Nat) (h : am_H) : va_D (am_A B) (am_w B X cA h) := by
  refine ⟨fun i j x y hi hj e => ?_, fun k q hk => ?_⟩
  · obtain ⟨_, -, rfl⟩ := am_w_of hi
    obtain ⟨_, -, rfl⟩ := am_w_of hj
    have e2 : B + i = B + j := e
    omega
  · obtain ⟨_, -, rfl⟩ := am_w_of hk
    exact Nat.le_add_right B k
/-- the heap holds the small machine's cells, and they are its last ones -/
def am_R (B : Nat) (X : Nat → Option Nat) (D : va_G) (cA : Nat → Nat) (h : am_H) (H : Heap) : Prop := H.size = B + h.length ∧ va_P D vwCl (am_w B X cA h) H
theorem am_R.put {B : Nat} {X : Nat → Option Nat} {D : va_G} {cA : Nat → Nat} {h : am_H} {H H1 : Heap} {a : Nat} {x0 x : va_E} (hR : am_R B X D cA h H) (h0 : h[a]? = some x0) (z : H1.size = H.size) (oq : ∀ q : Nat, q ≠ B + a → H1[q]? = H[q]?) (he : va_at D vwCl (B + a, am_e B X cA x) H1) : am_R B X D cA (h.set a x) H1 := by
  refine ⟨by rw [z, List.length_set]; exact hR.1, ?_⟩
  rw [← am_w_set]
  exact hR.2.set (am_D B X cA h) (am_w_at h0) he oq
theorem am_R.push {B : Nat} {X : Nat → Option Nat} {D : va_G} {cA : Nat → Nat} {h : am_H} {H H1 : Heap} {x : va_E} (hR : am_R B X D cA h H) (z : H1.size = H.size + 1) (oq : ∀ q : Nat, q < H.size → H1[q]? = H[q]?) (he : va_at D vwCl (B + h.length, am_e B X cA x) H1) : am_R B X D cA (h ++ [x]) H1 := by
  refine ⟨by rw [z, hR.1, List.length_append]; rfl, ?_⟩
  rw [am_w_app]
  refine va_P.app (hR.2.kept (fun k q hq => oq q.1 ((hR.2 k q hq).lt))) (fun k q hq => ?_)
  have hz : k < 1 := (List.getElem?_eq_some_iff.mp hq).1
  rw [show k = 0 by omega] at hq
  cases hq
  exact he
theorem am_S.push {B : Nat} {H0 H H1 : Heap} {locs : List Loc} (hS : va_S (am_A B) H0 H locs) (z : H1.size = H.size + 1) (oq : ∀ q : Nat, q < H.size → H1[q]? = H[q]?) : va_S (am_A B) H0 H1 locs :=
  ⟨Nat.le_trans hS.1 (by omega), fun x h1 h2 => (oq x (Nat.lt_of_lt_of_le h1 hS.1)).trans (hS.2.1 x h1 h2), hS.2.2⟩
/-- the words that every method may use -/
def am_tb : List Cond := lw_tbl.filter goodWord
theorem am_tb_good : GoodIn am_tb am_tb := fun w h => ⟨h, good_of_word (List.mem_filter.mp h).2⟩
def am_ty (cA : Nat → Nat) : List (ClassId × FieldType) := [(cA 0, .int), (cA 1, .long), (cA 2, .boolean), (cA 3, .object "RodBeads$Rod"), (cA 4, .object "RodBeads$Standing")]
end
section
/-! What the tables must say of an instruction, and the machine's state at a method's point. -/
/-- a class of the worlds: its row, and its fields' words -/
def am_cl (C : String) (T : u_T) (N : Nat) (ty : Nat → FieldType) (ci : Nat) : Prop := vwCl[ci]? = some (C, T, N) ∧ (∀ w ∈ u_ws C T N, w ∈ am_tb) ∧ (∀ k, k < N → parseFieldDescriptor (T k).2.2.1 = some (ty k)) ∧ (∀ a, a < N → ∀ b, b < N → a ≠ b → (T a).2.1 ≠ (T b).2.1)
/-- a field of it under a pool's number -/
def am_fl (own : String) (idx k ci : Nat) : Prop := ∃ (C : String) (T : u_T) (N : Nat) (ty : Nat → FieldType) (ref : String), am_cl C T N ty ci ∧ k < N ∧ Cond.fieldLink own idx ref (T k).2.1 (T k).2.2.1 ∈ am_tb ∧ ((T k).1 = ref ∨ Cond.sameField ref (T k).1 (T k).2.1 (T k).2.2.1 ∈ am_tb)
def am_tyc (c : Nat) (ty : FieldType) : Prop := (c = 0 ∧ ty = .int) ∨ (c = 1 ∧ ty = .long) ∨ (c = 2 ∧ ty = .boolean) ∨ (c = 3 ∧ ((∃ n, ty = .object n) ∨ ∃ t, ty = .array t))
def am_fp (own nm : String) (idx k c ci : Nat) : Prop := ∃ (C : String) (T : u_T) (N : Nat) (ty : Nat → FieldType) (ref : String), am_cl C T N ty ci ∧ k < N ∧ Cond.fieldLink own idx ref (T k).2.1 (T k).2.2.1 ∈ am_tb ∧ ((T k).1 = ref ∨ Cond.sameField ref (T k).1 (T k).2.1 (T k).2.2.1 ∈ am_tb) ∧ am_tyc c (ty k) ∧ ((T k).2.2.2 = false ∨ ((T k).2.2.2 = true ∧ nm = "<init>" ∧ (T k).1 = own))
def am_new (own : String) (df : Nat → List Value) (idx ci : Nat) : Prop := ∃ (C : String) (T : u_T) (N : Nat) (ty : Nat → FieldType), am_cl C T N ty ci ∧ Cond.classLink own idx C ∈ am_tb ∧ Cond.instantiable C N ∈ am_tb ∧ Cond.initialized C ∈ am_tb ∧ (∀ j, j < N → defaultValue (ty j) = vp_V (df ci) j) ∧ (df ci).length = N ∧ ∀ v ∈ df ci, (∀ i, v ≠ .ref i) ∧ ∀ i, v ≠ .retAddr i
/-- the constants of the pools -/
def am_con (own : String) (idx : Nat) (v : Value) : Prop := match v with
  | .int x => Cond.constant own idx x ∈ am_tb
  | .long x => Cond.constantLong own idx x ∈ am_tb
  | _ => False
def am_okP (df : Nat → List Value) (own nm : String) (nL : Nat) (ret : Option FieldType) (q : am_I) : Prop := match q with
  | (pc, ins, len, rs, cv) => match ins with
    | .iconst _ => len = 1
    | .bipush _ => len = 2
    | .sipush _ => len = 3
    | .lconst _ => len = 1
    | .aconst_null => len = 1
    | .ldc idx => len = 2 ∧ (∃ x, cv = .int x) ∧ am_con own idx cv
    | .ldc_w idx => len = 3 ∧ (∃ x, cv = .int x) ∧ am_con own idx cv
    | .ldc2_w idx => len = 3 ∧ (∃ x, cv = .long x) ∧ am_con own idx cv
    | .iload_n _ => len = 1
    | .iload _ => len = 2
    | .lload_n _ => len = 1
    | .lload _ => len = 2
    | .aload_n _ => len = 1
    | .aload _ => len = 2
    | .istore_n k => len = 1 ∧ (k : Nat) < nL
    | .istore k => len = 2 ∧ k < nL
    | .lstore_n k => len = 1 ∧ (k : Nat) + 1 < nL
    | .lstore k => len = 2 ∧ k + 1 < nL
    | .astore_n k => len = 1 ∧ (k : Nat) < nL
    | .astore k => len = 2 ∧ k < nL
    | .iinc i _ => len = 3 ∧ i < nL
    | .iadd | .isub | .imul | .iand | .ior | .ixor | .ishl | .ishr | .idiv | .irem | .ineg | .ladd | .lsub | .lmul | .ldiv | .lrem | .lneg | .lcmp | .i2l | .l2i | .dup | .dup2 | .pop => len = 1
    | .ifCond _ off => len = 3 ∧ (pc : Int) + off = (am_t rs : Int)
    | .if_icmp _ off => len = 3 ∧ (pc : Int) + off = (am_t rs : Int)
    | .goto off => len = 3 ∧ (pc : Int) + off = (am_t rs : Int)
    | .ifnull off => len = 3 ∧ (pc : Int) + off = (am_t rs : Int)
    | .ifnonnull off => len = 3 ∧ (pc : Int) + off = (am_t rs : Int)
    | .tableswitch d _ _ offs => (pc : Int) + d = (am_t rs : Int) ∧ ∀ (i t : Nat), rs[i + 1]? = some t → ∃ o, offs[i]? = some o ∧ (pc : Int) + o = (t : Int)
    | .getfield idx => len = 3 ∧ ∀ ci ∈ rs.drop 1, am_fl own idx (am_t rs) ci
    | .putfield idx => len = 3 ∧ ∀ ci ∈ rs.drop 2, am_fp own nm idx (am_t rs) (am_t (rs.drop 1)) ci
    | .iaload | .laload | .baload | .aaload | .iastore | .lastore | .bastore | .aastore | .arraylength => len = 1
    | .new idx => len = 3 ∧ am_new own df idx (am_t rs)
    | .newarray t => len = 2 ∧ Cond.arrayClass (newarray.typeOf t) ∈ am_tb
    | .ireturn => len = 1 ∧ ((ret = some .int) ∨ (ret = some .boolean ∧ am_t rs = 2))
    | .lreturn => len = 1 ∧ ret = some .long
    | .areturn => len = 1 ∧ ∃ rt, ret = some rt ∧ ((∃ n, rt = .object n) ∨ ∃ t, rt = .array t)
    | .return_ => len = 1 ∧ ret = none
    | _ => True
/-- a method's point: the machine, its tables, the world -/
def am_G (B : Nat) (X : Nat → Option Nat) (D : va_G) (cA : Nat → Nat) (sc : Nat × (Nat → Int32)) (s : State) : Prop := va_K D vwCl (am_ty cA) s ∧ (∃ b, X 0 = some b ∧ b < B ∧ va_X b sc.1 sc.2 s s.heap) ∧ B ≤ s.heap.size
def am_C (B : Nat) (X : Nat → Option Nat) (D : va_G) (cA : Nat → Nat) (sc : Nat × (Nat → Int32)) (own nm : String) (cc : ByteArray) (nL : Nat) (ret : Option FieldType) (p : Program) (s : State) (m : MethodId) (args : Array Value) (meth : Method) (c : Code) : Prop :=
  p.tables.exec = Jvm.exec ∧ c.code = cc ∧ c.maxLocals = nL ∧ s.vm.findClass own = some m.cls ∧ (∀ w ∈ am_tb, w.before args s = true) ∧ meth.sig.returnType = ret ∧ meth.locks = false ∧ meth.name = nm ∧ am_G B X D cA sc s
def am_sz (x : va_E) : Nat := match x with
  | .inl (_, n, _) => n
  | .inr (_, fs) => fs.length
def am_sl (h : am_H) : Nat := (h.map am_sz).sum
theorem am_sl_app (h : am_H) (x : va_E) : am_sl (h ++ [x]) = am_sl h + am_sz x := by
  unfold am_sl
  simp
theorem am_sl_set {h : am_H} {a : Nat} {x y : va_E} (hx : h[a]? = some x) (he : am_sz y = am_sz x) : am_sl (h.set a y) = am_sl h := by
  have hm : (h.set a y).map am_sz = h.map am_sz := by
    refine List.ext_getElem? (fun i => ?_)
    rw [List.getElem?_map, List.getElem?_map, List.getElem?_set]
    by_cases hi : a = i
    · subst hi
      rw [if_pos rfl, if_pos (List.getElem?_eq_some_iff.mp hx).1, hx]
      show some (am_sz y) = some (am_sz x)
      rw [he]
    · rw [if_neg hi]
  unfold am_sl
  rw [hm]
end
section
theorem zz_end : True := trivial
end
