section
-- ===== PART A: goes FIRST, ahead of the names: the tables' words, and 'selects' of the private methods out of them =====
/-- a private method of a class that the tables say can be made, by its rows of tables_1 -/
def lw_okq (q : MethodName × Nat) : Prop := (q.1.cls ≠ "java/lang/invoke/MethodHandle" ∧ q.1.cls ≠ "java/lang/invoke/VarHandle") ∧ Cond.instantiable q.1.cls q.2 ∈ tables_1 ∧ Cond.privateMethod q.1 ∈ tables_1 ∧ Cond.instanceMethod q.1 ∈ tables_1
theorem lw_p0 : lw_okq (⟨"ChairNames", "spareRoom", "()LChairNames$Room;"⟩, 8) := ⟨⟨by decide +kernel, by decide +kernel⟩, List.mem_of_getElem? (i := 15) (by decide +kernel), List.mem_of_getElem? (i := 186) (by decide +kernel), List.mem_of_getElem? (i := 187) (by decide +kernel)⟩
theorem lw_p1 : lw_okq (⟨"ChairNames", "settle", "(I)I"⟩, 8) := ⟨⟨by decide +kernel, by decide +kernel⟩, List.mem_of_getElem? (i := 15) (by decide +kernel), List.mem_of_getElem? (i := 217) (by decide +kernel), List.mem_of_getElem? (i := 218) (by decide +kernel)⟩
theorem lw_p2 : lw_okq (⟨"ChairNames$Room", "seat", "(IIIII)I"⟩, 12) := ⟨⟨by decide +kernel, by decide +kernel⟩, List.mem_of_getElem? (i := 23) (by decide +kernel), List.mem_of_getElem? (i := 233) (by decide +kernel), List.mem_of_getElem? (i := 234) (by decide +kernel)⟩
theorem lw_p3 : lw_okq (⟨"ChairNames$Room", "pinnedChairs", "()I"⟩, 12) := ⟨⟨by decide +kernel, by decide +kernel⟩, List.mem_of_getElem? (i := 23) (by decide +kernel), List.mem_of_getElem? (i := 237) (by decide +kernel), List.mem_of_getElem? (i := 238) (by decide +kernel)⟩
theorem lw_p4 : lw_okq (⟨"ChairNames$Room", "lowestFreeChair", "(I)I"⟩, 12) := ⟨⟨by decide +kernel, by decide +kernel⟩, List.mem_of_getElem? (i := 23) (by decide +kernel), List.mem_of_getElem? (i := 245) (by decide +kernel), List.mem_of_getElem? (i := 246) (by decide +kernel)⟩
theorem lw_p5 : lw_okq (⟨"ChairNames$Room", "longestUnused", "(I)I"⟩, 12) := ⟨⟨by decide +kernel, by decide +kernel⟩, List.mem_of_getElem? (i := 23) (by decide +kernel), List.mem_of_getElem? (i := 253) (by decide +kernel), List.mem_of_getElem? (i := 254) (by decide +kernel)⟩
theorem lw_p6 : lw_okq (⟨"ChairNames$Room", "sendOut", "(II)V"⟩, 12) := ⟨⟨by decide +kernel, by decide +kernel⟩, List.mem_of_getElem? (i := 23) (by decide +kernel), List.mem_of_getElem? (i := 261) (by decide +kernel), List.mem_of_getElem? (i := 262) (by decide +kernel)⟩
theorem lw_p7 : lw_okq (⟨"ChairNames$Room", "findSeat", "(III)Z"⟩, 12) := ⟨⟨by decide +kernel, by decide +kernel⟩, List.mem_of_getElem? (i := 23) (by decide +kernel), List.mem_of_getElem? (i := 277) (by decide +kernel), List.mem_of_getElem? (i := 278) (by decide +kernel)⟩
theorem lw_p8 : lw_okq (⟨"ChairNames$Room", "letTickGo", "()V"⟩, 12) := ⟨⟨by decide +kernel, by decide +kernel⟩, List.mem_of_getElem? (i := 23) (by decide +kernel), List.mem_of_getElem? (i := 313) (by decide +kernel), List.mem_of_getElem? (i := 314) (by decide +kernel)⟩
theorem lw_p9 : lw_okq (⟨"ChairNames$Room", "finishOrders", "()V"⟩, 12) := ⟨⟨by decide +kernel, by decide +kernel⟩, List.mem_of_getElem? (i := 23) (by decide +kernel), List.mem_of_getElem? (i := 317) (by decide +kernel), List.mem_of_getElem? (i := 318) (by decide +kernel)⟩
theorem lw_p10 : lw_okq (⟨"ChairNames$Room", "beginOrders", "()V"⟩, 12) := ⟨⟨by decide +kernel, by decide +kernel⟩, List.mem_of_getElem? (i := 23) (by decide +kernel), List.mem_of_getElem? (i := 330) (by decide +kernel), List.mem_of_getElem? (i := 331) (by decide +kernel)⟩
theorem lw_p11 : lw_okq (⟨"ChairNames$Room", "isMark", "(I)Z"⟩, 12) := ⟨⟨by decide +kernel, by decide +kernel⟩, List.mem_of_getElem? (i := 23) (by decide +kernel), List.mem_of_getElem? (i := 374) (by decide +kernel), List.mem_of_getElem? (i := 375) (by decide +kernel)⟩
theorem lw_p12 : lw_okq (⟨"ChairNames$Room", "hidesValue", "(I)Z"⟩, 12) := ⟨⟨by decide +kernel, by decide +kernel⟩, List.mem_of_getElem? (i := 23) (by decide +kernel), List.mem_of_getElem? (i := 401) (by decide +kernel), List.mem_of_getElem? (i := 402) (by decide +kernel)⟩
theorem lw_p13 : lw_okq (⟨"ChairNames$Room", "isKnown", "(I)Z"⟩, 12) := ⟨⟨by decide +kernel, by decide +kernel⟩, List.mem_of_getElem? (i := 23) (by decide +kernel), List.mem_of_getElem? (i := 405) (by decide +kernel), List.mem_of_getElem? (i := 406) (by decide +kernel)⟩
theorem lw_p14 : lw_okq (⟨"ChairNames$Room", "marksOn", "(I)I"⟩, 12) := ⟨⟨by decide +kernel, by decide +kernel⟩, List.mem_of_getElem? (i := 23) (by decide +kernel), List.mem_of_getElem? (i := 427) (by decide +kernel), List.mem_of_getElem? (i := 428) (by decide +kernel)⟩
theorem lw_p15 : lw_okq (⟨"ChairNames$Room", "hasBegun", "(I)Z"⟩, 12) := ⟨⟨by decide +kernel, by decide +kernel⟩, List.mem_of_getElem? (i := 23) (by decide +kernel), List.mem_of_getElem? (i := 451) (by decide +kernel), List.mem_of_getElem? (i := 452) (by decide +kernel)⟩
def lw_privs_1 : List (MethodName × Nat) := [(⟨"ChairNames", "spareRoom", "()LChairNames$Room;"⟩, 8), (⟨"ChairNames", "settle", "(I)I"⟩, 8), (⟨"ChairNames$Room", "seat", "(IIIII)I"⟩, 12), (⟨"ChairNames$Room", "pinnedChairs", "()I"⟩, 12), (⟨"ChairNames$Room", "lowestFreeChair", "(I)I"⟩, 12), (⟨"ChairNames$Room", "longestUnused", "(I)I"⟩, 12), (⟨"ChairNames$Room", "sendOut", "(II)V"⟩, 12), (⟨"ChairNames$Room", "findSeat", "(III)Z"⟩, 12), (⟨"ChairNames$Room", "letTickGo", "()V"⟩, 12), (⟨"ChairNames$Room", "finishOrders", "()V"⟩, 12), (⟨"ChairNames$Room", "beginOrders", "()V"⟩, 12), (⟨"ChairNames$Room", "isMark", "(I)Z"⟩, 12), (⟨"ChairNames$Room", "hidesValue", "(I)Z"⟩, 12), (⟨"ChairNames$Room", "isKnown", "(I)Z"⟩, 12), (⟨"ChairNames$Room", "marksOn", "(I)I"⟩, 12), (⟨"ChairNames$Room", "hasBegun", "(I)Z"⟩, 12)]
theorem lw_r1 : ∀ q ∈ lw_privs_1, lw_okq q := List.forall_mem_cons.mpr ⟨lw_p0, List.forall_mem_cons.mpr ⟨lw_p1, List.forall_mem_cons.mpr ⟨lw_p2, List.forall_mem_cons.mpr ⟨lw_p3, List.forall_mem_cons.mpr ⟨lw_p4, List.forall_mem_cons.mpr ⟨lw_p5, List.forall_mem_cons.mpr ⟨lw_p6, List.forall_mem_cons.mpr ⟨lw_p7, List.forall_mem_cons.mpr ⟨lw_p8, List.forall_mem_cons.mpr ⟨lw_p9, List.forall_mem_cons.mpr ⟨lw_p10, List.forall_mem_cons.mpr ⟨lw_p11, List.forall_mem_cons.mpr ⟨lw_p12, List.forall_mem_cons.mpr ⟨lw_p13, List.forall_mem_cons.mpr ⟨lw_p14, List.forall_mem_cons.mpr ⟨lw_p15, fun _ h => absurd h List.not_mem_nil⟩⟩⟩⟩⟩⟩⟩⟩⟩⟩⟩⟩⟩⟩⟩⟩
theorem lw_p16 : lw_okq (⟨"ChairNames$Room", "begunOrders", "()I"⟩, 12) := ⟨⟨by decide +kernel, by decide +kernel⟩, List.mem_of_getElem? (i := 23) (by decide +kernel), List.mem_of_getElem? (i := 463) (by decide +kernel), List.mem_of_getElem? (i := 464) (by decide +kernel)⟩
theorem lw_p17 : lw_okq (⟨"ChairNames", "tryText", "()I"⟩, 8) := ⟨⟨by decide +kernel, by decide +kernel⟩, List.mem_of_getElem? (i := 15) (by decide +kernel), List.mem_of_getElem? (i := 508) (by decide +kernel), List.mem_of_getElem? (i := 509) (by decide +kernel)⟩
theorem lw_p18 : lw_okq (⟨"ChairNames", "noteFault", "(III)V"⟩, 8) := ⟨⟨by decide +kernel, by decide +kernel⟩, List.mem_of_getElem? (i := 15) (by decide +kernel), List.mem_of_getElem? (i := 512) (by decide +kernel), List.mem_of_getElem? (i := 513) (by decide +kernel)⟩
theorem lw_p19 : lw_okq (⟨"ChairNames$Text", "matches", "(Ljava/lang/String;I)Z"⟩, 4) := ⟨⟨by decide +kernel, by decide +kernel⟩, List.mem_of_getElem? (i := 134) (by decide +kernel), List.mem_of_getElem? (i := 532) (by decide +kernel), List.mem_of_getElem? (i := 533) (by decide +kernel)⟩
theorem lw_p20 : lw_okq (⟨"ChairNames$Text", "readName", "()I"⟩, 4) := ⟨⟨by decide +kernel, by decide +kernel⟩, List.mem_of_getElem? (i := 134) (by decide +kernel), List.mem_of_getElem? (i := 584) (by decide +kernel), List.mem_of_getElem? (i := 585) (by decide +kernel)⟩
theorem lw_p21 : lw_okq (⟨"ChairNames$Text", "signAt", "(I)I"⟩, 4) := ⟨⟨by decide +kernel, by decide +kernel⟩, List.mem_of_getElem? (i := 134) (by decide +kernel), List.mem_of_getElem? (i := 588) (by decide +kernel), List.mem_of_getElem? (i := 589) (by decide +kernel)⟩
theorem lw_p22 : lw_okq (⟨"ChairNames$Text", "readNumber", "()I"⟩, 4) := ⟨⟨by decide +kernel, by decide +kernel⟩, List.mem_of_getElem? (i := 134) (by decide +kernel), List.mem_of_getElem? (i := 593) (by decide +kernel), List.mem_of_getElem? (i := 594) (by decide +kernel)⟩
theorem lw_p23 : lw_okq (⟨"ChairNamesModel", "clears", "(I)V"⟩, 13) := ⟨⟨by decide +kernel, by decide +kernel⟩, List.mem_of_getElem? (i := 613) (by decide +kernel), List.mem_of_getElem? (i := 619) (by decide +kernel), List.mem_of_getElem? (i := 620) (by decide +kernel)⟩
theorem lw_p24 : lw_okq (⟨"ChairNamesModel", "changes", "([I)V"⟩, 13) := ⟨⟨by decide +kernel, by decide +kernel⟩, List.mem_of_getElem? (i := 613) (by decide +kernel), List.mem_of_getElem? (i := 670) (by decide +kernel), List.mem_of_getElem? (i := 671) (by decide +kernel)⟩
theorem lw_p25 : lw_okq (⟨"ChairNamesModel", "givesUp", "(I)V"⟩, 13) := ⟨⟨by decide +kernel, by decide +kernel⟩, List.mem_of_getElem? (i := 613) (by decide +kernel), List.mem_of_getElem? (i := 684) (by decide +kernel), List.mem_of_getElem? (i := 685) (by decide +kernel)⟩
theorem lw_p26 : lw_okq (⟨"ChairNamesModel", "frees", "()V"⟩, 13) := ⟨⟨by decide +kernel, by decide +kernel⟩, List.mem_of_getElem? (i := 613) (by decide +kernel), List.mem_of_getElem? (i := 688) (by decide +kernel), List.mem_of_getElem? (i := 689) (by decide +kernel)⟩
theorem lw_p27 : lw_okq (⟨"ChairNamesModel", "isHad", "(I)Z"⟩, 13) := ⟨⟨by decide +kernel, by decide +kernel⟩, List.mem_of_getElem? (i := 613) (by decide +kernel), List.mem_of_getElem? (i := 692) (by decide +kernel), List.mem_of_getElem? (i := 693) (by decide +kernel)⟩
theorem lw_p28 : lw_okq (⟨"ChairNamesModel", "marksOf", "(I)I"⟩, 13) := ⟨⟨by decide +kernel, by decide +kernel⟩, List.mem_of_getElem? (i := 613) (by decide +kernel), List.mem_of_getElem? (i := 696) (by decide +kernel), List.mem_of_getElem? (i := 697) (by decide +kernel)⟩
theorem lw_p29 : lw_okq (⟨"ChairNamesModel", "readers", "(I)I"⟩, 13) := ⟨⟨by decide +kernel, by decide +kernel⟩, List.mem_of_getElem? (i := 613) (by decide +kernel), List.mem_of_getElem? (i := 700) (by decide +kernel), List.mem_of_getElem? (i := 701) (by decide +kernel)⟩
theorem lw_p30 : lw_okq (⟨"ChairNamesModel", "isOfOrder", "(I)Z"⟩, 13) := ⟨⟨by decide +kernel, by decide +kernel⟩, List.mem_of_getElem? (i := 613) (by decide +kernel), List.mem_of_getElem? (i := 707) (by decide +kernel), List.mem_of_getElem? (i := 708) (by decide +kernel)⟩
theorem lw_p31 : lw_okq (⟨"ChairNamesModel", "gets", "(III)I"⟩, 13) := ⟨⟨by decide +kernel, by decide +kernel⟩, List.mem_of_getElem? (i := 613) (by decide +kernel), List.mem_of_getElem? (i := 714) (by decide +kernel), List.mem_of_getElem? (i := 715) (by decide +kernel)⟩
def lw_privs_2 : List (MethodName × Nat) := [(⟨"ChairNames$Room", "begunOrders", "()I"⟩, 12), (⟨"ChairNames", "tryText", "()I"⟩, 8), (⟨"ChairNames", "noteFault", "(III)V"⟩, 8), (⟨"ChairNames$Text", "matches", "(Ljava/lang/String;I)Z"⟩, 4), (⟨"ChairNames$Text", "readName", "()I"⟩, 4), (⟨"ChairNames$Text", "signAt", "(I)I"⟩, 4), (⟨"ChairNames$Text", "readNumber", "()I"⟩, 4), (⟨"ChairNamesModel", "clears", "(I)V"⟩, 13), (⟨"ChairNamesModel", "changes", "([I)V"⟩, 13), (⟨"ChairNamesModel", "givesUp", "(I)V"⟩, 13), (⟨"ChairNamesModel", "frees", "()V"⟩, 13), (⟨"ChairNamesModel", "isHad", "(I)Z"⟩, 13), (⟨"ChairNamesModel", "marksOf", "(I)I"⟩, 13), (⟨"ChairNamesModel", "readers", "(I)I"⟩, 13), (⟨"ChairNamesModel", "isOfOrder", "(I)Z"⟩, 13), (⟨"ChairNamesModel", "gets", "(III)I"⟩, 13)]
theorem lw_r2 : ∀ q ∈ lw_privs_2, lw_okq q := List.forall_mem_cons.mpr ⟨lw_p16, List.forall_mem_cons.mpr ⟨lw_p17, List.forall_mem_cons.mpr ⟨lw_p18, List.forall_mem_cons.mpr ⟨lw_p19, List.forall_mem_cons.mpr ⟨lw_p20, List.forall_mem_cons.mpr ⟨lw_p21, List.forall_mem_cons.mpr ⟨lw_p22, List.forall_mem_cons.mpr ⟨lw_p23, List.forall_mem_cons.mpr ⟨lw_p24, List.forall_mem_cons.mpr ⟨lw_p25, List.forall_mem_cons.mpr ⟨lw_p26, List.forall_mem_cons.mpr ⟨lw_p27, List.forall_mem_cons.mpr ⟨lw_p28, List.forall_mem_cons.mpr ⟨lw_p29, List.forall_mem_cons.mpr ⟨lw_p30, List.forall_mem_cons.mpr ⟨lw_p31, fun _ h => absurd h List.not_mem_nil⟩⟩⟩⟩⟩⟩⟩⟩⟩⟩⟩⟩⟩⟩⟩⟩
theorem lw_p32 : lw_okq (⟨"ChairNamesModel", "chairFor", "(II)I"⟩, 13) := ⟨⟨by decide +kernel, by decide +kernel⟩, List.mem_of_getElem? (i := 613) (by decide +kernel), List.mem_of_getElem? (i := 718) (by decide +kernel), List.mem_of_getElem? (i := 719) (by decide +kernel)⟩
theorem lw_p33 : lw_okq (⟨"ChairNamesModel", "next", "(II)I"⟩, 13) := ⟨⟨by decide +kernel, by decide +kernel⟩, List.mem_of_getElem? (i := 613) (by decide +kernel), List.mem_of_getElem? (i := 722) (by decide +kernel), List.mem_of_getElem? (i := 723) (by decide +kernel)⟩
theorem lw_p34 : lw_okq (⟨"ChairNamesModel", "isKnown", "(II)V"⟩, 13) := ⟨⟨by decide +kernel, by decide +kernel⟩, List.mem_of_getElem? (i := 613) (by decide +kernel), List.mem_of_getElem? (i := 726) (by decide +kernel), List.mem_of_getElem? (i := 727) (by decide +kernel)⟩
theorem lw_p35 : lw_okq (⟨"ChairNamesModel", "sits", "(III)Z"⟩, 13) := ⟨⟨by decide +kernel, by decide +kernel⟩, List.mem_of_getElem? (i := 613) (by decide +kernel), List.mem_of_getElem? (i := 734) (by decide +kernel), List.mem_of_getElem? (i := 735) (by decide +kernel)⟩
theorem lw_p36 : lw_okq (⟨"ChairNamesModel", "gives", "(III)I"⟩, 13) := ⟨⟨by decide +kernel, by decide +kernel⟩, List.mem_of_getElem? (i := 613) (by decide +kernel), List.mem_of_getElem? (i := 742) (by decide +kernel), List.mem_of_getElem? (i := 743) (by decide +kernel)⟩
theorem lw_p37 : lw_okq (⟨"ChairNamesModel", "ticks", "()V"⟩, 13) := ⟨⟨by decide +kernel, by decide +kernel⟩, List.mem_of_getElem? (i := 613) (by decide +kernel), List.mem_of_getElem? (i := 751) (by decide +kernel), List.mem_of_getElem? (i := 752) (by decide +kernel)⟩
theorem lw_p38 : lw_okq (⟨"ChairNamesModel", "dones", "()V"⟩, 13) := ⟨⟨by decide +kernel, by decide +kernel⟩, List.mem_of_getElem? (i := 613) (by decide +kernel), List.mem_of_getElem? (i := 755) (by decide +kernel), List.mem_of_getElem? (i := 756) (by decide +kernel)⟩
theorem lw_p39 : lw_okq (⟨"ChairNamesModel", "drops", "(I)V"⟩, 13) := ⟨⟨by decide +kernel, by decide +kernel⟩, List.mem_of_getElem? (i := 613) (by decide +kernel), List.mem_of_getElem? (i := 763) (by decide +kernel), List.mem_of_getElem? (i := 764) (by decide +kernel)⟩
theorem lw_p40 : lw_okq (⟨"ChairNamesModel", "isMark", "(I)Z"⟩, 13) := ⟨⟨by decide +kernel, by decide +kernel⟩, List.mem_of_getElem? (i := 613) (by decide +kernel), List.mem_of_getElem? (i := 783) (by decide +kernel), List.mem_of_getElem? (i := 784) (by decide +kernel)⟩
theorem lw_p41 : lw_okq (⟨"ChairNamesModel", "names", "(I)I"⟩, 13) := ⟨⟨by decide +kernel, by decide +kernel⟩, List.mem_of_getElem? (i := 613) (by decide +kernel), List.mem_of_getElem? (i := 795) (by decide +kernel), List.mem_of_getElem? (i := 796) (by decide +kernel)⟩
theorem lw_p42 : lw_okq (⟨"ChairNamesModel", "toCome", "(I)I"⟩, 13) := ⟨⟨by decide +kernel, by decide +kernel⟩, List.mem_of_getElem? (i := 613) (by decide +kernel), List.mem_of_getElem? (i := 802) (by decide +kernel), List.mem_of_getElem? (i := 803) (by decide +kernel)⟩
theorem lw_p43 : lw_okq (⟨"ChairNamesModel", "many", "(I)I"⟩, 13) := ⟨⟨by decide +kernel, by decide +kernel⟩, List.mem_of_getElem? (i := 613) (by decide +kernel), List.mem_of_getElem? (i := 818) (by decide +kernel), List.mem_of_getElem? (i := 819) (by decide +kernel)⟩
theorem lw_p44 : lw_okq (⟨"ChairNamesModel", "plays", "()I"⟩, 13) := ⟨⟨by decide +kernel, by decide +kernel⟩, List.mem_of_getElem? (i := 613) (by decide +kernel), List.mem_of_getElem? (i := 850) (by decide +kernel), List.mem_of_getElem? (i := 851) (by decide +kernel)⟩
theorem lw_p45 : lw_okq (⟨"ChairNamesModel", "isAt", "(II)Z"⟩, 13) := ⟨⟨by decide +kernel, by decide +kernel⟩, List.mem_of_getElem? (i := 613) (by decide +kernel), List.mem_of_getElem? (i := 854) (by decide +kernel), List.mem_of_getElem? (i := 855) (by decide +kernel)⟩
theorem lw_p46 : lw_okq (⟨"ChairNamesModel", "wordAt", "(I)I"⟩, 13) := ⟨⟨by decide +kernel, by decide +kernel⟩, List.mem_of_getElem? (i := 613) (by decide +kernel), List.mem_of_getElem? (i := 858) (by decide +kernel), List.mem_of_getElem? (i := 859) (by decide +kernel)⟩
theorem lw_p47 : lw_okq (⟨"ChairNamesModel", "isWord", "(IIIII)Z"⟩, 13) := ⟨⟨by decide +kernel, by decide +kernel⟩, List.mem_of_getElem? (i := 613) (by decide +kernel), List.mem_of_getElem? (i := 862) (by decide +kernel), List.mem_of_getElem? (i := 863) (by decide +kernel)⟩
def lw_privs_3 : List (MethodName × Nat) := [(⟨"ChairNamesModel", "chairFor", "(II)I"⟩, 13), (⟨"ChairNamesModel", "next", "(II)I"⟩, 13), (⟨"ChairNamesModel", "isKnown", "(II)V"⟩, 13), (⟨"ChairNamesModel", "sits", "(III)Z"⟩, 13), (⟨"ChairNamesModel", "gives", "(III)I"⟩, 13), (⟨"ChairNamesModel", "ticks", "()V"⟩, 13), (⟨"ChairNamesModel", "dones", "()V"⟩, 13), (⟨"ChairNamesModel", "drops", "(I)V"⟩, 13), (⟨"ChairNamesModel", "isMark", "(I)Z"⟩, 13), (⟨"ChairNamesModel", "names", "(I)I"⟩, 13), (⟨"ChairNamesModel", "toCome", "(I)I"⟩, 13), (⟨"ChairNamesModel", "many", "(I)I"⟩, 13), (⟨"ChairNamesModel", "plays", "()I"⟩, 13), (⟨"ChairNamesModel", "isAt", "(II)Z"⟩, 13), (⟨"ChairNamesModel", "wordAt", "(I)I"⟩, 13), (⟨"ChairNamesModel", "isWord", "(IIIII)Z"⟩, 13)]
theorem lw_r3 : ∀ q ∈ lw_privs_3, lw_okq q := List.forall_mem_cons.mpr ⟨lw_p32, List.forall_mem_cons.mpr ⟨lw_p33, List.forall_mem_cons.mpr ⟨lw_p34, List.forall_mem_cons.mpr ⟨lw_p35, List.forall_mem_cons.mpr ⟨lw_p36, List.forall_mem_cons.mpr ⟨lw_p37, List.forall_mem_cons.mpr ⟨lw_p38, List.forall_mem_cons.mpr ⟨lw_p39, List.forall_mem_cons.mpr ⟨lw_p40, List.forall_mem_cons.mpr ⟨lw_p41, List.forall_mem_cons.mpr ⟨lw_p42, List.forall_mem_cons.mpr ⟨lw_p43, List.forall_mem_cons.mpr ⟨lw_p44, List.forall_mem_cons.mpr ⟨lw_p45, List.forall_mem_cons.mpr ⟨lw_p46, List.forall_mem_cons.mpr ⟨lw_p47, fun _ h => absurd h List.not_mem_nil⟩⟩⟩⟩⟩⟩⟩⟩⟩⟩⟩⟩⟩⟩⟩⟩
theorem lw_p48 : lw_okq (⟨"ChairNamesModel", "isForm", "(I)Z"⟩, 13) := ⟨⟨by decide +kernel, by decide +kernel⟩, List.mem_of_getElem? (i := 613) (by decide +kernel), List.mem_of_getElem? (i := 866) (by decide +kernel), List.mem_of_getElem? (i := 867) (by decide +kernel)⟩
theorem lw_p49 : lw_okq (⟨"ChairNamesModel", "readsName", "(I)Z"⟩, 13) := ⟨⟨by decide +kernel, by decide +kernel⟩, List.mem_of_getElem? (i := 613) (by decide +kernel), List.mem_of_getElem? (i := 870) (by decide +kernel), List.mem_of_getElem? (i := 871) (by decide +kernel)⟩
theorem lw_p50 : lw_okq (⟨"ChairNamesModel", "passes", "(I)Z"⟩, 13) := ⟨⟨by decide +kernel, by decide +kernel⟩, List.mem_of_getElem? (i := 613) (by decide +kernel), List.mem_of_getElem? (i := 874) (by decide +kernel), List.mem_of_getElem? (i := 875) (by decide +kernel)⟩
theorem lw_p51 : lw_okq (⟨"ChairNamesModel", "readsNumber", "(I)Z"⟩, 13) := ⟨⟨by decide +kernel, by decide +kernel⟩, List.mem_of_getElem? (i := 613) (by decide +kernel), List.mem_of_getElem? (i := 878) (by decide +kernel), List.mem_of_getElem? (i := 879) (by decide +kernel)⟩
theorem lw_p52 : lw_okq (⟨"ChairNamesModel", "does", "(I)I"⟩, 13) := ⟨⟨by decide +kernel, by decide +kernel⟩, List.mem_of_getElem? (i := 613) (by decide +kernel), List.mem_of_getElem? (i := 882) (by decide +kernel), List.mem_of_getElem? (i := 883) (by decide +kernel)⟩
def lw_privs_4 : List (MethodName × Nat) := [(⟨"ChairNamesModel", "isForm", "(I)Z"⟩, 13), (⟨"ChairNamesModel", "readsName", "(I)Z"⟩, 13), (⟨"ChairNamesModel", "passes", "(I)Z"⟩, 13), (⟨"ChairNamesModel", "readsNumber", "(I)Z"⟩, 13), (⟨"ChairNamesModel", "does", "(I)I"⟩, 13)]
theorem lw_r4 : ∀ q ∈ lw_privs_4, lw_okq q := List.forall_mem_cons.mpr ⟨lw_p48, List.forall_mem_cons.mpr ⟨lw_p49, List.forall_mem_cons.mpr ⟨lw_p50, List.forall_mem_cons.mpr ⟨lw_p51, List.forall_mem_cons.mpr ⟨lw_p52, fun _ h => absurd h List.not_mem_nil⟩⟩⟩⟩⟩
def lw_privs : List (MethodName × Nat) := lw_privs_1 ++ (lw_privs_2 ++ (lw_privs_3 ++ (lw_privs_4)))
def lw_tbl : List Cond := k2_sels lw_privs ++ tables_1
theorem lw_privs_ok : ∀ q ∈ lw_privs, lw_okq q := by
  show ∀ q ∈ lw_privs_1 ++ (lw_privs_2 ++ (lw_privs_3 ++ (lw_privs_4))), lw_okq q
  exact List.forall_mem_append.mpr ⟨lw_r1, List.forall_mem_append.mpr ⟨lw_r2, List.forall_mem_append.mpr ⟨lw_r3, lw_r4⟩⟩⟩
-- end of the tables
end
section
def RX0 : String := "ChairNames$Names"
def TX0 : u_T := fun k => match k with
  | 0 => ("ChairNames$Names", "chair", "[I", true)
  | _ => ("ChairNames$Names", "home", "[I", true)
def tyX0 : Nat → FieldType := fun k => match k with
  | 0 => .array .int
  | _ => .array .int
abbrev wsX00 : List Cond := u_ws RX0 TX0 2
theorem nmX0 : ∀ a, a < 2 → ∀ b, b < 2 → a ≠ b → (TX0 a).2.1 ≠ (TX0 b).2.1 := by decide +kernel
theorem tyX0_ok : ∀ k, k < 2 → parseFieldDescriptor (TX0 k).2.2.1 = some (tyX0 k) := by decide +kernel
abbrev cX0_init : ByteArray := prog_2_method_1_code
def yX0_init : MethodName := ⟨RX0, "<init>", "()V"⟩
abbrev cX0_standAtZero : ByteArray := prog_2_method_2_code
def yX0_standAtZero : MethodName := ⟨RX0, "standAtZero", "()V"⟩
abbrev cX0_become : ByteArray := prog_2_method_3_code
def yX0_become : MethodName := ⟨RX0, "become", "(LChairNames$Names;)V"⟩
abbrev cX0_namesOn : ByteArray := prog_2_method_4_code
def yX0_namesOn : MethodName := ⟨RX0, "namesOn", "(I)I"⟩
abbrev cX0_chairSet : ByteArray := prog_2_method_5_code
def yX0_chairSet : MethodName := ⟨RX0, "chairSet", "()I"⟩
abbrev cX0_chairSetOf : ByteArray := prog_2_method_6_code
def yX0_chairSetOf : MethodName := ⟨RX0, "chairSetOf", "(I)I"⟩
def RX1 : String := "ChairNames$Orders"
def TX1 : u_T := fun k => match k with
  | 0 => ("ChairNames$Orders", "size", "I", false)
  | 1 => ("ChairNames$Orders", "what", "[I", true)
  | 2 => ("ChairNames$Orders", "chair", "[I", true)
  | 3 => ("ChairNames$Orders", "first", "[I", true)
  | 4 => ("ChairNames$Orders", "second", "[I", true)
  | _ => ("ChairNames$Orders", "marks", "[I", true)
def tyX1 : Nat → FieldType := fun k => match k with
  | 0 => .int
  | 1 => .array .int
  | 2 => .array .int
  | 3 => .array .int
  | 4 => .array .int
  | _ => .array .int
abbrev wsX10 : List Cond := u_ws RX1 TX1 6
theorem nmX1 : ∀ a, a < 6 → ∀ b, b < 6 → a ≠ b → (TX1 a).2.1 ≠ (TX1 b).2.1 := by decide +kernel
theorem tyX1_ok : ∀ k, k < 6 → parseFieldDescriptor (TX1 k).2.2.1 = some (tyX1 k) := by decide +kernel
abbrev cX1_init : ByteArray := prog_3_method_1_code
def yX1_init : MethodName := ⟨RX1, "<init>", "()V"⟩
abbrev cX1_become : ByteArray := prog_3_method_2_code
def yX1_become : MethodName := ⟨RX1, "become", "(LChairNames$Orders;)V"⟩
abbrev cX1_isOne : ByteArray := prog_3_method_3_code
def yX1_isOne : MethodName := ⟨RX1, "isOne", "(I)Z"⟩
abbrev cX1_add : ByteArray := prog_3_method_4_code
def yX1_add : MethodName := ⟨RX1, "add", "(IIIII)V"⟩
abbrev cX1_move : ByteArray := prog_3_method_5_code
def yX1_move : MethodName := ⟨RX1, "move", "(II)V"⟩
abbrev cX1_dropGivenAfter : ByteArray := prog_3_method_6_code
def yX1_dropGivenAfter : MethodName := ⟨RX1, "dropGivenAfter", "(I)I"⟩
abbrev cX1_forgetFirstMark : ByteArray := prog_3_method_7_code
def yX1_forgetFirstMark : MethodName := ⟨RX1, "forgetFirstMark", "()V"⟩
abbrev cX1_readersOf : ByteArray := prog_3_method_8_code
def yX1_readersOf : MethodName := ⟨RX1, "readersOf", "(I)I"⟩
abbrev cX1_makeFor : ByteArray := prog_3_method_9_code
def yX1_makeFor : MethodName := ⟨RX1, "makeFor", "(I)Z"⟩
def RX2 : String := "ChairNames$Room"
def TX2 : u_T := fun k => match k with
  | 0 => ("ChairNames$Room", "chairs", "I", false)
  | 1 => ("ChairNames$Room", "time", "I", false)
  | 2 => ("ChairNames$Room", "ordersDone", "I", false)
  | 3 => ("ChairNames$Room", "sentOut", "I", false)
  | 4 => ("ChairNames$Room", "satDown", "I", false)
  | 5 => ("ChairNames$Room", "turn", "I", false)
  | 6 => ("ChairNames$Room", "markCount", "I", false)
  | 7 => ("ChairNames$Room", "settings", "[I", true)
  | 8 => ("ChairNames$Room", "names", "LChairNames$Names;", true)
  | 9 => ("ChairNames$Room", "versions", "LChairNames$Versions;", true)
  | 10 => ("ChairNames$Room", "orders", "LChairNames$Orders;", true)
  | _ => ("ChairNames$Room", "marks", "[LChairNames$Names;", true)
def tyX2 : Nat → FieldType := fun k => match k with
  | 0 => .int
  | 1 => .int
  | 2 => .int
  | 3 => .int
  | 4 => .int
  | 5 => .int
  | 6 => .int
  | 7 => .array .int
  | 8 => .object "ChairNames$Names"
  | 9 => .object "ChairNames$Versions"
  | 10 => .object "ChairNames$Orders"
  | _ => .array (.object "ChairNames$Names")
abbrev wsX20 : List Cond := u_ws RX2 TX2 12
theorem nmX2 : ∀ a, a < 12 → ∀ b, b < 12 → a ≠ b → (TX2 a).2.1 ≠ (TX2 b).2.1 := by decide +kernel
theorem tyX2_ok : ∀ k, k < 12 → parseFieldDescriptor (TX2 k).2.2.1 = some (tyX2 k) := by decide +kernel
abbrev cX2_init : ByteArray := prog_4_method_1_code
def yX2_init : MethodName := ⟨RX2, "<init>", "()V"⟩
abbrev cX2_become : ByteArray := prog_4_method_2_code
def yX2_become : MethodName := ⟨RX2, "become", "(LChairNames$Room;)V"⟩
abbrev cX2_perform : ByteArray := prog_4_method_3_code
def yX2_perform : MethodName := ⟨RX2, "perform", "(IIII)I"⟩
abbrev cX2_empty : ByteArray := prog_4_method_4_code
def yX2_empty : MethodName := ⟨RX2, "empty", "(I)I"⟩
abbrev cX2_putValue : ByteArray := prog_4_method_5_code
def yX2_putValue : MethodName := ⟨RX2, "putValue", "(II)I"⟩
abbrev cX2_copyName : ByteArray := prog_4_method_6_code
def yX2_copyName : MethodName := ⟨RX2, "copyName", "(II)I"⟩
abbrev cX2_giveOrder : ByteArray := prog_4_method_7_code
def yX2_giveOrder : MethodName := ⟨RX2, "giveOrder", "(IIII)I"⟩
abbrev cX2_letTicksGo : ByteArray := prog_4_method_8_code
def yX2_letTicksGo : MethodName := ⟨RX2, "letTicksGo", "(I)I"⟩
abbrev cX2_changeSetting : ByteArray := prog_4_method_9_code
def yX2_changeSetting : MethodName := ⟨RX2, "changeSetting", "(II)I"⟩
abbrev cX2_addMark : ByteArray := prog_4_method_10_code
def yX2_addMark : MethodName := ⟨RX2, "addMark", "()I"⟩
abbrev cX2_dropFirstMark : ByteArray := prog_4_method_11_code
def yX2_dropFirstMark : MethodName := ⟨RX2, "dropFirstMark", "()I"⟩
abbrev cX2_goBack : ByteArray := prog_4_method_12_code
def yX2_goBack : MethodName := ⟨RX2, "goBack", "(I)I"⟩
abbrev cX2_findSeat : ByteArray := prog_4_method_13_code
def yX2_findSeat : MethodName := ⟨RX2, "findSeat", "(III)Z"⟩
abbrev cX2_seat : ByteArray := prog_4_method_14_code
def yX2_seat : MethodName := ⟨RX2, "seat", "(IIIII)I"⟩
abbrev cX2_sendOut : ByteArray := prog_4_method_15_code
def yX2_sendOut : MethodName := ⟨RX2, "sendOut", "(II)V"⟩
abbrev cX2_result : ByteArray := prog_4_method_16_code
def yX2_result : MethodName := ⟨RX2, "result", "(III)I"⟩
abbrev cX2_letTickGo : ByteArray := prog_4_method_17_code
def yX2_letTickGo : MethodName := ⟨RX2, "letTickGo", "()V"⟩
abbrev cX2_finishOrders : ByteArray := prog_4_method_18_code
def yX2_finishOrders : MethodName := ⟨RX2, "finishOrders", "()V"⟩
abbrev cX2_beginOrders : ByteArray := prog_4_method_19_code
def yX2_beginOrders : MethodName := ⟨RX2, "beginOrders", "()V"⟩
abbrev cX2_ticksTillIdle : ByteArray := prog_4_method_20_code
def yX2_ticksTillIdle : MethodName := ⟨RX2, "ticksTillIdle", "()I"⟩
abbrev cX2_ticksTillKnown : ByteArray := prog_4_method_21_code
def yX2_ticksTillKnown : MethodName := ⟨RX2, "ticksTillKnown", "(I)I"⟩
abbrev cX2_tellMark : ByteArray := prog_4_method_22_code
def yX2_tellMark : MethodName := ⟨RX2, "tellMark", "(III)I"⟩
abbrev cX2_tellName : ByteArray := prog_4_method_23_code
def yX2_tellName : MethodName := ⟨RX2, "tellName", "(II)I"⟩
abbrev cX2_tellChair : ByteArray := prog_4_method_24_code
def yX2_tellChair : MethodName := ⟨RX2, "tellChair", "(II)I"⟩
abbrev cX2_tellOrder : ByteArray := prog_4_method_25_code
def yX2_tellOrder : MethodName := ⟨RX2, "tellOrder", "(II)I"⟩
abbrev cX2_tellNumber : ByteArray := prog_4_method_26_code
def yX2_tellNumber : MethodName := ⟨RX2, "tellNumber", "(I)I"⟩
abbrev cX2_found : ByteArray := prog_4_method_27_code
def yX2_found : MethodName := ⟨RX2, "found", "(I)I"⟩
abbrev cX2_isMark : ByteArray := prog_4_method_28_code
def yX2_isMark : MethodName := ⟨RX2, "isMark", "(I)Z"⟩
abbrev cX2_isKnown : ByteArray := prog_4_method_29_code
def yX2_isKnown : MethodName := ⟨RX2, "isKnown", "(I)Z"⟩
abbrev cX2_hidesValue : ByteArray := prog_4_method_30_code
def yX2_hidesValue : MethodName := ⟨RX2, "hidesValue", "(I)Z"⟩
abbrev cX2_hasBegun : ByteArray := prog_4_method_31_code
def yX2_hasBegun : MethodName := ⟨RX2, "hasBegun", "(I)Z"⟩
abbrev cX2_begunOrders : ByteArray := prog_4_method_32_code
def yX2_begunOrders : MethodName := ⟨RX2, "begunOrders", "()I"⟩
abbrev cX2_marksOn : ByteArray := prog_4_method_33_code
def yX2_marksOn : MethodName := ⟨RX2, "marksOn", "(I)I"⟩
abbrev cX2_pinnedChairs : ByteArray := prog_4_method_34_code
def yX2_pinnedChairs : MethodName := ⟨RX2, "pinnedChairs", "()I"⟩
abbrev cX2_lowestFreeChair : ByteArray := prog_4_method_35_code
def yX2_lowestFreeChair : MethodName := ⟨RX2, "lowestFreeChair", "(I)I"⟩
abbrev cX2_longestUnused : ByteArray := prog_4_method_36_code
def yX2_longestUnused : MethodName := ⟨RX2, "longestUnused", "(I)I"⟩
def RX3 : String := "ChairNames$Text"
def TX3 : u_T := fun k => match k with
  | 0 => ("ChairNames$Text", "signs", "[C", true)
  | 1 => ("ChairNames$Text", "length", "I", false)
  | 2 => ("ChairNames$Text", "words", "[I", true)
  | _ => ("ChairNames$Text", "next", "I", false)
def tyX3 : Nat → FieldType := fun k => match k with
  | 0 => .array .char
  | 1 => .int
  | 2 => .array .int
  | _ => .int
abbrev wsX30 : List Cond := u_ws RX3 TX3 4
theorem nmX3 : ∀ a, a < 4 → ∀ b, b < 4 → a ≠ b → (TX3 a).2.1 ≠ (TX3 b).2.1 := by decide +kernel
theorem tyX3_ok : ∀ k, k < 4 → parseFieldDescriptor (TX3 k).2.2.1 = some (tyX3 k) := by decide +kernel
abbrev cX3_init : ByteArray := prog_5_method_1_code
def yX3_init : MethodName := ⟨RX3, "<init>", "()V"⟩
abbrev cX3_append : ByteArray := prog_5_method_2_code
def yX3_append : MethodName := ⟨RX3, "append", "(C)I"⟩
abbrev cX3_readCommand : ByteArray := prog_5_method_3_code
def yX3_readCommand : MethodName := ⟨RX3, "readCommand", "(I)I"⟩
abbrev cX3_form : ByteArray := prog_5_method_4_code
def yX3_form : MethodName := ⟨RX3, "form", "(I)Ljava/lang/String;"⟩
abbrev cX3_matches : ByteArray := prog_5_method_5_code
def yX3_matches : MethodName := ⟨RX3, "matches", "(Ljava/lang/String;I)Z"⟩
abbrev cX3_readName : ByteArray := prog_5_method_6_code
def yX3_readName : MethodName := ⟨RX3, "readName", "()I"⟩
abbrev cX3_readNumber : ByteArray := prog_5_method_7_code
def yX3_readNumber : MethodName := ⟨RX3, "readNumber", "()I"⟩
abbrev cX3_signAt : ByteArray := prog_5_method_8_code
def yX3_signAt : MethodName := ⟨RX3, "signAt", "(I)I"⟩
def RX4 : String := "ChairNames$Versions"
def TX4 : u_T := fun k => match k with
  | 0 => ("ChairNames$Versions", "value", "[I", true)
  | 1 => ("ChairNames$Versions", "knownAt", "[I", true)
  | _ => ("ChairNames$Versions", "usedAt", "[I", true)
def tyX4 : Nat → FieldType := fun k => match k with
  | 0 => .array .int
  | 1 => .array .int
  | _ => .array .int
abbrev wsX40 : List Cond := u_ws RX4 TX4 3
theorem nmX4 : ∀ a, a < 3 → ∀ b, b < 3 → a ≠ b → (TX4 a).2.1 ≠ (TX4 b).2.1 := by decide +kernel
theorem tyX4_ok : ∀ k, k < 3 → parseFieldDescriptor (TX4 k).2.2.1 = some (tyX4 k) := by decide +kernel
abbrev cX4_init : ByteArray := prog_6_method_1_code
def yX4_init : MethodName := ⟨RX4, "<init>", "()V"⟩
abbrev cX4_become : ByteArray := prog_6_method_2_code
def yX4_become : MethodName := ⟨RX4, "become", "(LChairNames$Versions;)V"⟩
abbrev cX4_place : ByteArray := prog_6_method_3_code
def yX4_place : MethodName := ⟨RX4, "place", "(IIII)V"⟩
abbrev cX4_use : ByteArray := prog_6_method_4_code
def yX4_use : MethodName := ⟨RX4, "use", "(II)V"⟩
abbrev cX4_valueOn : ByteArray := prog_6_method_5_code
def yX4_valueOn : MethodName := ⟨RX4, "valueOn", "(I)I"⟩
abbrev cX4_knownTimeOf : ByteArray := prog_6_method_6_code
def yX4_knownTimeOf : MethodName := ⟨RX4, "knownTimeOf", "(I)I"⟩
abbrev cX4_setKnownTime : ByteArray := prog_6_method_7_code
def yX4_setKnownTime : MethodName := ⟨RX4, "setKnownTime", "(II)V"⟩
def RX5 : String := "ChairNames"
def TX5 : u_T := fun k => match k with
  | 0 => ("ChairNames", "room", "LChairNames$Room;", false)
  | 1 => ("ChairNames", "trial", "LChairNames$Room;", false)
  | 2 => ("ChairNames", "history", "[LChairNames$Room;", true)
  | 3 => ("ChairNames", "states", "I", false)
  | 4 => ("ChairNames", "text", "LChairNames$Text;", true)
  | 5 => ("ChairNames", "faultPosition", "I", false)
  | 6 => ("ChairNames", "faultReason", "I", false)
  | _ => ("ChairNames", "faultCause", "I", false)
def tyX5 : Nat → FieldType := fun k => match k with
  | 0 => .object "ChairNames$Room"
  | 1 => .object "ChairNames$Room"
  | 2 => .array (.object "ChairNames$Room")
  | 3 => .int
  | 4 => .object "ChairNames$Text"
  | 5 => .int
  | 6 => .int
  | _ => .int
abbrev wsX50 : List Cond := u_ws RX5 TX5 8
theorem nmX5 : ∀ a, a < 8 → ∀ b, b < 8 → a ≠ b → (TX5 a).2.1 ≠ (TX5 b).2.1 := by decide +kernel
theorem tyX5_ok : ∀ k, k < 8 → parseFieldDescriptor (TX5 k).2.2.1 = some (tyX5 k) := by decide +kernel
abbrev cX5_init : ByteArray := prog_1_method_1_code
def yX5_init : MethodName := ⟨RX5, "<init>", "()V"⟩
abbrev cX5_begin : ByteArray := prog_1_method_2_code
def yX5_begin : MethodName := ⟨RX5, "begin", "(I)I"⟩
abbrev cX5_put : ByteArray := prog_1_method_3_code
def yX5_put : MethodName := ⟨RX5, "put", "(II)I"⟩
abbrev cX5_copy : ByteArray := prog_1_method_4_code
def yX5_copy : MethodName := ⟨RX5, "copy", "(II)I"⟩
abbrev cX5_order : ByteArray := prog_1_method_5_code
def yX5_order : MethodName := ⟨RX5, "order", "(IIII)I"⟩
abbrev cX5_tick : ByteArray := prog_1_method_6_code
def yX5_tick : MethodName := ⟨RX5, "tick", "(I)I"⟩
abbrev cX5_set : ByteArray := prog_1_method_7_code
def yX5_set : MethodName := ⟨RX5, "set", "(II)I"⟩
abbrev cX5_mark : ByteArray := prog_1_method_8_code
def yX5_mark : MethodName := ⟨RX5, "mark", "()I"⟩
abbrev cX5_keep : ByteArray := prog_1_method_9_code
def yX5_keep : MethodName := ⟨RX5, "keep", "()I"⟩
abbrev cX5_back : ByteArray := prog_1_method_10_code
def yX5_back : MethodName := ⟨RX5, "back", "(I)I"⟩
abbrev cX5_markOf : ByteArray := prog_1_method_11_code
def yX5_markOf : MethodName := ⟨RX5, "markOf", "(III)I"⟩
abbrev cX5_nameOf : ByteArray := prog_1_method_12_code
def yX5_nameOf : MethodName := ⟨RX5, "nameOf", "(II)I"⟩
abbrev cX5_chairOf : ByteArray := prog_1_method_13_code
def yX5_chairOf : MethodName := ⟨RX5, "chairOf", "(II)I"⟩
abbrev cX5_orderOf : ByteArray := prog_1_method_14_code
def yX5_orderOf : MethodName := ⟨RX5, "orderOf", "(II)I"⟩
abbrev cX5_count : ByteArray := prog_1_method_15_code
def yX5_count : MethodName := ⟨RX5, "count", "(I)I"⟩
abbrev cX5_sends : ByteArray := prog_1_method_16_code
def yX5_sends : MethodName := ⟨RX5, "sends", "(III)I"⟩
abbrev cX5_idleIn : ByteArray := prog_1_method_17_code
def yX5_idleIn : MethodName := ⟨RX5, "idleIn", "()I"⟩
abbrev cX5_knownIn : ByteArray := prog_1_method_18_code
def yX5_knownIn : MethodName := ⟨RX5, "knownIn", "(I)I"⟩
abbrev cX5_undo : ByteArray := prog_1_method_19_code
def yX5_undo : MethodName := ⟨RX5, "undo", "()I"⟩
abbrev cX5_type : ByteArray := prog_1_method_20_code
def yX5_type : MethodName := ⟨RX5, "type", "(I)I"⟩
abbrev cX5_clearText : ByteArray := prog_1_method_21_code
def yX5_clearText : MethodName := ⟨RX5, "clearText", "()I"⟩
abbrev cX5_fault : ByteArray := prog_1_method_22_code
def yX5_fault : MethodName := ⟨RX5, "fault", "(I)I"⟩
abbrev cX5_play : ByteArray := prog_1_method_23_code
def yX5_play : MethodName := ⟨RX5, "play", "()I"⟩
abbrev cX5_spareRoom : ByteArray := prog_1_method_24_code
def yX5_spareRoom : MethodName := ⟨RX5, "spareRoom", "()LChairNames$Room;"⟩
abbrev cX5_settle : ByteArray := prog_1_method_25_code
def yX5_settle : MethodName := ⟨RX5, "settle", "(I)I"⟩
abbrev cX5_tryText : ByteArray := prog_1_method_26_code
def yX5_tryText : MethodName := ⟨RX5, "tryText", "()I"⟩
abbrev cX5_noteFault : ByteArray := prog_1_method_27_code
def yX5_noteFault : MethodName := ⟨RX5, "noteFault", "(III)V"⟩
abbrev cX5_within : ByteArray := prog_1_method_28_code
def yX5_within : MethodName := ⟨RX5, "within", "(III)Z"⟩
abbrev cX5_isName : ByteArray := prog_1_method_29_code
def yX5_isName : MethodName := ⟨RX5, "isName", "(I)Z"⟩
def RX6 : String := "ChairNamesModel"
def TX6 : u_T := fun k => match k with
  | 0 => ("ChairNamesModel", "s", "[I", true)
  | 1 => ("ChairNamesModel", "past", "[I", true)
  | 2 => ("ChairNamesModel", "held", "[I", true)
  | 3 => ("ChairNamesModel", "tried", "[I", true)
  | 4 => ("ChairNamesModel", "pasts", "I", false)
  | 5 => ("ChairNamesModel", "runs", "Z", false)
  | 6 => ("ChairNamesModel", "text", "[I", true)
  | 7 => ("ChairNamesModel", "typed", "I", false)
  | 8 => ("ChairNamesModel", "later", "[I", true)
  | 9 => ("ChairNamesModel", "spot", "I", false)
  | 10 => ("ChairNamesModel", "cause", "I", false)
  | 11 => ("ChairNamesModel", "commands", "I", false)
  | _ => ("ChairNamesModel", "told", "[I", true)
def tyX6 : Nat → FieldType := fun k => match k with
  | 0 => .array .int
  | 1 => .array .int
  | 2 => .array .int
  | 3 => .array .int
  | 4 => .int
  | 5 => .boolean
  | 6 => .array .int
  | 7 => .int
  | 8 => .array .int
  | 9 => .int
  | 10 => .int
  | 11 => .int
  | _ => .array .int
abbrev wsX60 : List Cond := u_ws RX6 TX6 13
theorem nmX6 : ∀ a, a < 13 → ∀ b, b < 13 → a ≠ b → (TX6 a).2.1 ≠ (TX6 b).2.1 := by decide +kernel
theorem tyX6_ok : ∀ k, k < 13 → parseFieldDescriptor (TX6 k).2.2.1 = some (tyX6 k) := by decide +kernel
abbrev cX6_init : ByteArray := prog_8_method_1_code
def yX6_init : MethodName := ⟨RX6, "<init>", "()V"⟩
abbrev cX6_in : ByteArray := prog_8_method_3_code
def yX6_in : MethodName := ⟨RX6, "in", "(III)Z"⟩
abbrev cX6_copies : ByteArray := prog_8_method_4_code
def yX6_copies : MethodName := ⟨RX6, "copies", "([I[I)V"⟩
abbrev cX6_changes : ByteArray := prog_8_method_5_code
def yX6_changes : MethodName := ⟨RX6, "changes", "([I)V"⟩
abbrev cX6_clears : ByteArray := prog_8_method_6_code
def yX6_clears : MethodName := ⟨RX6, "clears", "(I)V"⟩
abbrev cX6_isName : ByteArray := prog_8_method_7_code
def yX6_isName : MethodName := ⟨RX6, "isName", "(I)Z"⟩
abbrev cX6_at : ByteArray := prog_8_method_8_code
def yX6_at : MethodName := ⟨RX6, "at", "(II)I"⟩
abbrev cX6_ofOrder : ByteArray := prog_8_method_9_code
def yX6_ofOrder : MethodName := ⟨RX6, "ofOrder", "(II)I"⟩
abbrev cX6_isMark : ByteArray := prog_8_method_10_code
def yX6_isMark : MethodName := ⟨RX6, "isMark", "(I)Z"⟩
abbrev cX6_isHad : ByteArray := prog_8_method_11_code
def yX6_isHad : MethodName := ⟨RX6, "isHad", "(I)Z"⟩
abbrev cX6_marksOf : ByteArray := prog_8_method_12_code
def yX6_marksOf : MethodName := ⟨RX6, "marksOf", "(I)I"⟩
abbrev cX6_readers : ByteArray := prog_8_method_13_code
def yX6_readers : MethodName := ⟨RX6, "readers", "(I)I"⟩
abbrev cX6_isOfOrder : ByteArray := prog_8_method_14_code
def yX6_isOfOrder : MethodName := ⟨RX6, "isOfOrder", "(I)Z"⟩
abbrev cX6_frees : ByteArray := prog_8_method_15_code
def yX6_frees : MethodName := ⟨RX6, "frees", "()V"⟩
abbrev cX6_givesUp : ByteArray := prog_8_method_16_code
def yX6_givesUp : MethodName := ⟨RX6, "givesUp", "(I)V"⟩
abbrev cX6_next : ByteArray := prog_8_method_17_code
def yX6_next : MethodName := ⟨RX6, "next", "(II)I"⟩
abbrev cX6_chairFor : ByteArray := prog_8_method_18_code
def yX6_chairFor : MethodName := ⟨RX6, "chairFor", "(II)I"⟩
abbrev cX6_gets : ByteArray := prog_8_method_19_code
def yX6_gets : MethodName := ⟨RX6, "gets", "(III)I"⟩
abbrev cX6_isKnown : ByteArray := prog_8_method_20_code
def yX6_isKnown : MethodName := ⟨RX6, "isKnown", "(II)V"⟩
abbrev cX6_sits : ByteArray := prog_8_method_21_code
def yX6_sits : MethodName := ⟨RX6, "sits", "(III)Z"⟩
abbrev cX6_begin : ByteArray := prog_8_method_22_code
def yX6_begin : MethodName := ⟨RX6, "begin", "(I)I"⟩
abbrev cX6_put : ByteArray := prog_8_method_23_code
def yX6_put : MethodName := ⟨RX6, "put", "(II)I"⟩
abbrev cX6_copy : ByteArray := prog_8_method_24_code
def yX6_copy : MethodName := ⟨RX6, "copy", "(II)I"⟩
abbrev cX6_gives : ByteArray := prog_8_method_25_code
def yX6_gives : MethodName := ⟨RX6, "gives", "(III)I"⟩
abbrev cX6_order : ByteArray := prog_8_method_26_code
def yX6_order : MethodName := ⟨RX6, "order", "(IIII)I"⟩
abbrev cX6_drops : ByteArray := prog_8_method_27_code
def yX6_drops : MethodName := ⟨RX6, "drops", "(I)V"⟩
abbrev cX6_result : ByteArray := prog_8_method_28_code
def yX6_result : MethodName := ⟨RX6, "result", "(III)I"⟩
abbrev cX6_dones : ByteArray := prog_8_method_29_code
def yX6_dones : MethodName := ⟨RX6, "dones", "()V"⟩
abbrev cX6_ticks : ByteArray := prog_8_method_30_code
def yX6_ticks : MethodName := ⟨RX6, "ticks", "()V"⟩
abbrev cX6_tick : ByteArray := prog_8_method_31_code
def yX6_tick : MethodName := ⟨RX6, "tick", "(I)I"⟩
abbrev cX6_set : ByteArray := prog_8_method_32_code
def yX6_set : MethodName := ⟨RX6, "set", "(II)I"⟩
abbrev cX6_mark : ByteArray := prog_8_method_33_code
def yX6_mark : MethodName := ⟨RX6, "mark", "()I"⟩
abbrev cX6_keep : ByteArray := prog_8_method_34_code
def yX6_keep : MethodName := ⟨RX6, "keep", "()I"⟩
abbrev cX6_back : ByteArray := prog_8_method_35_code
def yX6_back : MethodName := ⟨RX6, "back", "(I)I"⟩
abbrev cX6_markOf : ByteArray := prog_8_method_36_code
def yX6_markOf : MethodName := ⟨RX6, "markOf", "(III)I"⟩
abbrev cX6_names : ByteArray := prog_8_method_37_code
def yX6_names : MethodName := ⟨RX6, "names", "(I)I"⟩
abbrev cX6_ones : ByteArray := prog_8_method_38_code
def yX6_ones : MethodName := ⟨RX6, "ones", "(I)I"⟩
abbrev cX6_toCome : ByteArray := prog_8_method_39_code
def yX6_toCome : MethodName := ⟨RX6, "toCome", "(I)I"⟩
abbrev cX6_nameOf : ByteArray := prog_8_method_40_code
def yX6_nameOf : MethodName := ⟨RX6, "nameOf", "(II)I"⟩
abbrev cX6_chairOf : ByteArray := prog_8_method_41_code
def yX6_chairOf : MethodName := ⟨RX6, "chairOf", "(II)I"⟩
abbrev cX6_orderOf : ByteArray := prog_8_method_42_code
def yX6_orderOf : MethodName := ⟨RX6, "orderOf", "(II)I"⟩
abbrev cX6_many : ByteArray := prog_8_method_43_code
def yX6_many : MethodName := ⟨RX6, "many", "(I)I"⟩
abbrev cX6_count : ByteArray := prog_8_method_44_code
def yX6_count : MethodName := ⟨RX6, "count", "(I)I"⟩
abbrev cX6_sends : ByteArray := prog_8_method_45_code
def yX6_sends : MethodName := ⟨RX6, "sends", "(III)I"⟩
abbrev cX6_idleIn : ByteArray := prog_8_method_46_code
def yX6_idleIn : MethodName := ⟨RX6, "idleIn", "()I"⟩
abbrev cX6_knownIn : ByteArray := prog_8_method_47_code
def yX6_knownIn : MethodName := ⟨RX6, "knownIn", "(I)I"⟩
abbrev cX6_undo : ByteArray := prog_8_method_48_code
def yX6_undo : MethodName := ⟨RX6, "undo", "()I"⟩
abbrev cX6_type : ByteArray := prog_8_method_49_code
def yX6_type : MethodName := ⟨RX6, "type", "(I)I"⟩
abbrev cX6_clearText : ByteArray := prog_8_method_50_code
def yX6_clearText : MethodName := ⟨RX6, "clearText", "()I"⟩
abbrev cX6_isAt : ByteArray := prog_8_method_51_code
def yX6_isAt : MethodName := ⟨RX6, "isAt", "(II)Z"⟩
abbrev cX6_isWord : ByteArray := prog_8_method_52_code
def yX6_isWord : MethodName := ⟨RX6, "isWord", "(IIIII)Z"⟩
abbrev cX6_wordAt : ByteArray := prog_8_method_53_code
def yX6_wordAt : MethodName := ⟨RX6, "wordAt", "(I)I"⟩
abbrev cX6_passes : ByteArray := prog_8_method_54_code
def yX6_passes : MethodName := ⟨RX6, "passes", "(I)Z"⟩
abbrev cX6_readsName : ByteArray := prog_8_method_55_code
def yX6_readsName : MethodName := ⟨RX6, "readsName", "(I)Z"⟩
abbrev cX6_readsNumber : ByteArray := prog_8_method_56_code
def yX6_readsNumber : MethodName := ⟨RX6, "readsNumber", "(I)Z"⟩
abbrev cX6_isForm : ByteArray := prog_8_method_57_code
def yX6_isForm : MethodName := ⟨RX6, "isForm", "(I)Z"⟩
abbrev cX6_does : ByteArray := prog_8_method_58_code
def yX6_does : MethodName := ⟨RX6, "does", "(I)I"⟩
abbrev cX6_plays : ByteArray := prog_8_method_59_code
def yX6_plays : MethodName := ⟨RX6, "plays", "()I"⟩
abbrev cX6_fault : ByteArray := prog_8_method_60_code
def yX6_fault : MethodName := ⟨RX6, "fault", "(I)I"⟩
abbrev cX6_play : ByteArray := prog_8_method_61_code
def yX6_play : MethodName := ⟨RX6, "play", "()I"⟩
def RJ6 : String := "java/lang/Integer"
def TJ6 : u_T := fun k => match k with
  | _ => ("", "", "", false)
def tyJ6 : Nat → FieldType := fun k => match k with
  | _ => .int
abbrev cJ6_bitCount_0f7a4 : ByteArray := prog_9_method_49_code
def yJ6_bitCount_0f7a4 : MethodName := ⟨RJ6, "bitCount", "(I)I"⟩
def RJ9 : String := "java/lang/Math"
def TJ9 : u_T := fun k => match k with
  | _ => ("", "", "", false)
def tyJ9 : Nat → FieldType := fun k => match k with
  | _ => .int
abbrev cJ9_floorMod_7cf53 : ByteArray := prog_10_method_50_code
def yJ9_floorMod_7cf53 : MethodName := ⟨RJ9, "floorMod", "(II)I"⟩
def RJ0 : String := "java/lang/String"
def TJ0 : u_T := fun k => match k with
  | _ => ("", "", "", false)
def tyJ0 : Nat → FieldType := fun k => match k with
  | _ => .int
abbrev cJ0_length_8abf5 : ByteArray := prog_11_method_54_code
def yJ0_length_8abf5 : MethodName := ⟨RJ0, "length", "()I"⟩
abbrev cJ0_charAt_5068e : ByteArray := prog_11_method_56_code
def yJ0_charAt_5068e : MethodName := ⟨RJ0, "charAt", "(I)C"⟩
abbrev cJ0_coder_7d493 : ByteArray := prog_11_method_152_code
def yJ0_coder_7d493 : MethodName := ⟨RJ0, "coder", "()B"⟩
abbrev cJ0_isLatin1_aae02 : ByteArray := prog_11_method_154_code
def yJ0_isLatin1_aae02 : MethodName := ⟨RJ0, "isLatin1", "()Z"⟩
abbrev cJ0_checkIndex_df160 : ByteArray := prog_11_method_155_code
def yJ0_checkIndex_df160 : MethodName := ⟨RJ0, "checkIndex", "(II)V"⟩
def RJ1 : String := "java/lang/StringLatin1"
def TJ1 : u_T := fun k => match k with
  | _ => ("", "", "", false)
def tyJ1 : Nat → FieldType := fun k => match k with
  | _ => .int
abbrev cJ1_charAt_3b067 : ByteArray := prog_12_method_2_code
def yJ1_charAt_3b067 : MethodName := ⟨RJ1, "charAt", "([BI)C"⟩
def RJ2 : String := "java/lang/StringUTF16"
def TJ2 : u_T := fun k => match k with
  | _ => ("", "", "", false)
def tyJ2 : Nat → FieldType := fun k => match k with
  | _ => .int
abbrev cJ2_getChar_3b067 : ByteArray := prog_13_method_5_code
def yJ2_getChar_3b067 : MethodName := ⟨RJ2, "getChar", "([BI)C"⟩
abbrev cJ2_length_9d52b : ByteArray := prog_13_method_6_code
def yJ2_length_9d52b : MethodName := ⟨RJ2, "length", "([B)I"⟩
abbrev cJ2_charAt_3b067 : ByteArray := prog_13_method_83_code
def yJ2_charAt_3b067 : MethodName := ⟨RJ2, "charAt", "([BI)C"⟩
abbrev cJ2_checkIndex_2214a : ByteArray := prog_13_method_91_code
def yJ2_checkIndex_2214a : MethodName := ⟨RJ2, "checkIndex", "(I[B)V"⟩
def RJ3 : String := "jdk/internal/util/Preconditions"
def TJ3 : u_T := fun k => match k with
  | _ => ("", "", "", false)
def tyJ3 : Nat → FieldType := fun k => match k with
  | _ => .int
abbrev cJ3_checkIndex_8e157 : ByteArray := prog_14_method_11_code
def yJ3_checkIndex_8e157 : MethodName := ⟨RJ3, "checkIndex", "(IILjava/util/function/BiFunction;)I"⟩
def RL : String := "ChairNamesLaw"
abbrev cL_law : ByteArray := code
def yL_law : MethodName := ⟨RL, "law", "([I)Z"⟩
abbrev vwCl : List vw_C := [(RX0, TX0, 2), (RX1, TX1, 6), (RX2, TX2, 12), (RX3, TX3, 4), (RX4, TX4, 3), (RX5, TX5, 8), (RX6, TX6, 13)]
end
section
theorem dL_law_0 : decode cL_law 0 = .ok (.new 7, 3) := by decide +kernel
theorem dL_law_3 : decode cL_law 3 = .ok (.dup, 1) := by decide +kernel
theorem dL_law_4 : decode cL_law 4 = .ok (.invokespecial 9, 3) := by decide +kernel
theorem dL_law_7 : decode cL_law 7 = .ok (.astore_n 1, 1) := by decide +kernel
theorem dL_law_8 : decode cL_law 8 = .ok (.new 10, 3) := by decide +kernel
theorem dL_law_11 : decode cL_law 11 = .ok (.dup, 1) := by decide +kernel
theorem dL_law_12 : decode cL_law 12 = .ok (.invokespecial 12, 3) := by decide +kernel
theorem dL_law_15 : decode cL_law 15 = .ok (.astore_n 2, 1) := by decide +kernel
theorem dL_law_16 : decode cL_law 16 = .ok (.iconst 0, 1) := by decide +kernel
theorem dL_law_17 : decode cL_law 17 = .ok (.istore_n 3, 1) := by decide +kernel
theorem dL_law_18 : decode cL_law 18 = .ok (.iload_n 3, 1) := by decide +kernel
theorem dL_law_19 : decode cL_law 19 = .ok (.aload_n 0, 1) := by decide +kernel
theorem dL_law_20 : decode cL_law 20 = .ok (.arraylength, 1) := by decide +kernel
theorem dL_law_21 : decode cL_law 21 = .ok (.iconst 5, 1) := by decide +kernel
theorem dL_law_22 : decode cL_law 22 = .ok (.isub, 1) := by decide +kernel
theorem dL_law_23 : decode cL_law 23 = .ok (.if_icmp .gt 695, 3) := by decide +kernel
theorem dL_law_26 : decode cL_law 26 = .ok (.aload_n 0, 1) := by decide +kernel
theorem dL_law_27 : decode cL_law 27 = .ok (.iload_n 3, 1) := by decide +kernel
theorem dL_law_28 : decode cL_law 28 = .ok (.iaload, 1) := by decide +kernel
theorem dL_law_29 : decode cL_law 29 = .ok (.bipush 31, 2) := by decide +kernel
theorem dL_law_31 : decode cL_law 31 = .ok (.iand, 1) := by decide +kernel
theorem dL_law_32 : decode cL_law 32 = .ok (.tableswitch 680 0 21 #[104, 127, 160, 193, 246, 269, 302, 315, 328, 351, 394, 427, 460, 493, 516, 559, 572, 595, 608, 631, 644, 667], 104) := by decide +kernel
theorem dL_law_136 : decode cL_law 136 = .ok (.aload_n 1, 1) := by decide +kernel
theorem dL_law_137 : decode cL_law 137 = .ok (.aload_n 0, 1) := by decide +kernel
theorem dL_law_138 : decode cL_law 138 = .ok (.iload_n 3, 1) := by decide +kernel
theorem dL_law_139 : decode cL_law 139 = .ok (.iconst 1, 1) := by decide +kernel
theorem dL_law_140 : decode cL_law 140 = .ok (.iadd, 1) := by decide +kernel
theorem dL_law_141 : decode cL_law 141 = .ok (.iaload, 1) := by decide +kernel
theorem dL_law_142 : decode cL_law 142 = .ok (.invokevirtual 13, 3) := by decide +kernel
theorem dL_law_145 : decode cL_law 145 = .ok (.aload_n 2, 1) := by decide +kernel
theorem dL_law_146 : decode cL_law 146 = .ok (.aload_n 0, 1) := by decide +kernel
theorem dL_law_147 : decode cL_law 147 = .ok (.iload_n 3, 1) := by decide +kernel
theorem dL_law_148 : decode cL_law 148 = .ok (.iconst 1, 1) := by decide +kernel
theorem dL_law_149 : decode cL_law 149 = .ok (.iadd, 1) := by decide +kernel
theorem dL_law_150 : decode cL_law 150 = .ok (.iaload, 1) := by decide +kernel
theorem dL_law_151 : decode cL_law 151 = .ok (.invokevirtual 17, 3) := by decide +kernel
theorem dL_law_154 : decode cL_law 154 = .ok (.if_icmp .eq 558, 3) := by decide +kernel
theorem dL_law_157 : decode cL_law 157 = .ok (.iconst 0, 1) := by decide +kernel
theorem dL_law_158 : decode cL_law 158 = .ok (.ireturn, 1) := by decide +kernel
theorem dL_law_159 : decode cL_law 159 = .ok (.aload_n 1, 1) := by decide +kernel
theorem dL_law_160 : decode cL_law 160 = .ok (.aload_n 0, 1) := by decide +kernel
theorem dL_law_161 : decode cL_law 161 = .ok (.iload_n 3, 1) := by decide +kernel
theorem dL_law_162 : decode cL_law 162 = .ok (.iconst 1, 1) := by decide +kernel
theorem dL_law_163 : decode cL_law 163 = .ok (.iadd, 1) := by decide +kernel
theorem dL_law_164 : decode cL_law 164 = .ok (.iaload, 1) := by decide +kernel
theorem dL_law_165 : decode cL_law 165 = .ok (.aload_n 0, 1) := by decide +kernel
theorem dL_law_166 : decode cL_law 166 = .ok (.iload_n 3, 1) := by decide +kernel
theorem dL_law_167 : decode cL_law 167 = .ok (.iconst 2, 1) := by decide +kernel
theorem dL_law_168 : decode cL_law 168 = .ok (.iadd, 1) := by decide +kernel
theorem dL_law_169 : decode cL_law 169 = .ok (.iaload, 1) := by decide +kernel
theorem dL_law_170 : decode cL_law 170 = .ok (.invokevirtual 18, 3) := by decide +kernel
theorem dL_law_173 : decode cL_law 173 = .ok (.aload_n 2, 1) := by decide +kernel
theorem dL_law_174 : decode cL_law 174 = .ok (.aload_n 0, 1) := by decide +kernel
theorem dL_law_175 : decode cL_law 175 = .ok (.iload_n 3, 1) := by decide +kernel
theorem dL_law_176 : decode cL_law 176 = .ok (.iconst 1, 1) := by decide +kernel
theorem dL_law_177 : decode cL_law 177 = .ok (.iadd, 1) := by decide +kernel
theorem dL_law_178 : decode cL_law 178 = .ok (.iaload, 1) := by decide +kernel
theorem dL_law_179 : decode cL_law 179 = .ok (.aload_n 0, 1) := by decide +kernel
theorem dL_law_180 : decode cL_law 180 = .ok (.iload_n 3, 1) := by decide +kernel
theorem dL_law_181 : decode cL_law 181 = .ok (.iconst 2, 1) := by decide +kernel
theorem dL_law_182 : decode cL_law 182 = .ok (.iadd, 1) := by decide +kernel
theorem dL_law_183 : decode cL_law 183 = .ok (.iaload, 1) := by decide +kernel
theorem dL_law_184 : decode cL_law 184 = .ok (.invokevirtual 22, 3) := by decide +kernel
theorem dL_law_187 : decode cL_law 187 = .ok (.if_icmp .eq 525, 3) := by decide +kernel
theorem dL_law_190 : decode cL_law 190 = .ok (.iconst 0, 1) := by decide +kernel
theorem dL_law_191 : decode cL_law 191 = .ok (.ireturn, 1) := by decide +kernel
theorem dL_law_192 : decode cL_law 192 = .ok (.aload_n 1, 1) := by decide +kernel
theorem dL_law_193 : decode cL_law 193 = .ok (.aload_n 0, 1) := by decide +kernel
theorem dL_law_194 : decode cL_law 194 = .ok (.iload_n 3, 1) := by decide +kernel
theorem dL_law_195 : decode cL_law 195 = .ok (.iconst 1, 1) := by decide +kernel
theorem dL_law_196 : decode cL_law 196 = .ok (.iadd, 1) := by decide +kernel
theorem dL_law_197 : decode cL_law 197 = .ok (.iaload, 1) := by decide +kernel
theorem dL_law_198 : decode cL_law 198 = .ok (.aload_n 0, 1) := by decide +kernel
theorem dL_law_199 : decode cL_law 199 = .ok (.iload_n 3, 1) := by decide +kernel
theorem dL_law_200 : decode cL_law 200 = .ok (.iconst 2, 1) := by decide +kernel
theorem dL_law_201 : decode cL_law 201 = .ok (.iadd, 1) := by decide +kernel
theorem dL_law_202 : decode cL_law 202 = .ok (.iaload, 1) := by decide +kernel
theorem dL_law_203 : decode cL_law 203 = .ok (.invokevirtual 23, 3) := by decide +kernel
theorem dL_law_206 : decode cL_law 206 = .ok (.aload_n 2, 1) := by decide +kernel
theorem dL_law_207 : decode cL_law 207 = .ok (.aload_n 0, 1) := by decide +kernel
theorem dL_law_208 : decode cL_law 208 = .ok (.iload_n 3, 1) := by decide +kernel
theorem dL_law_209 : decode cL_law 209 = .ok (.iconst 1, 1) := by decide +kernel
theorem dL_law_210 : decode cL_law 210 = .ok (.iadd, 1) := by decide +kernel
theorem dL_law_211 : decode cL_law 211 = .ok (.iaload, 1) := by decide +kernel
theorem dL_law_212 : decode cL_law 212 = .ok (.aload_n 0, 1) := by decide +kernel
theorem dL_law_213 : decode cL_law 213 = .ok (.iload_n 3, 1) := by decide +kernel
theorem dL_law_214 : decode cL_law 214 = .ok (.iconst 2, 1) := by decide +kernel
theorem dL_law_215 : decode cL_law 215 = .ok (.iadd, 1) := by decide +kernel
theorem dL_law_216 : decode cL_law 216 = .ok (.iaload, 1) := by decide +kernel
theorem dL_law_217 : decode cL_law 217 = .ok (.invokevirtual 26, 3) := by decide +kernel
theorem dL_law_220 : decode cL_law 220 = .ok (.if_icmp .eq 492, 3) := by decide +kernel
theorem dL_law_223 : decode cL_law 223 = .ok (.iconst 0, 1) := by decide +kernel
theorem dL_law_224 : decode cL_law 224 = .ok (.ireturn, 1) := by decide +kernel
theorem dL_law_225 : decode cL_law 225 = .ok (.aload_n 1, 1) := by decide +kernel
theorem dL_law_226 : decode cL_law 226 = .ok (.aload_n 0, 1) := by decide +kernel
theorem dL_law_227 : decode cL_law 227 = .ok (.iload_n 3, 1) := by decide +kernel
theorem dL_law_228 : decode cL_law 228 = .ok (.iconst 1, 1) := by decide +kernel
theorem dL_law_229 : decode cL_law 229 = .ok (.iadd, 1) := by decide +kernel
theorem dL_law_230 : decode cL_law 230 = .ok (.iaload, 1) := by decide +kernel
theorem dL_law_231 : decode cL_law 231 = .ok (.aload_n 0, 1) := by decide +kernel
theorem dL_law_232 : decode cL_law 232 = .ok (.iload_n 3, 1) := by decide +kernel
theorem dL_law_233 : decode cL_law 233 = .ok (.iconst 2, 1) := by decide +kernel
theorem dL_law_234 : decode cL_law 234 = .ok (.iadd, 1) := by decide +kernel
theorem dL_law_235 : decode cL_law 235 = .ok (.iaload, 1) := by decide +kernel
theorem dL_law_236 : decode cL_law 236 = .ok (.aload_n 0, 1) := by decide +kernel
theorem dL_law_237 : decode cL_law 237 = .ok (.iload_n 3, 1) := by decide +kernel
theorem dL_law_238 : decode cL_law 238 = .ok (.iconst 3, 1) := by decide +kernel
theorem dL_law_239 : decode cL_law 239 = .ok (.iadd, 1) := by decide +kernel
theorem dL_law_240 : decode cL_law 240 = .ok (.iaload, 1) := by decide +kernel
theorem dL_law_241 : decode cL_law 241 = .ok (.aload_n 0, 1) := by decide +kernel
theorem dL_law_242 : decode cL_law 242 = .ok (.iload_n 3, 1) := by decide +kernel
theorem dL_law_243 : decode cL_law 243 = .ok (.iconst 4, 1) := by decide +kernel
theorem dL_law_244 : decode cL_law 244 = .ok (.iadd, 1) := by decide +kernel
theorem dL_law_245 : decode cL_law 245 = .ok (.iaload, 1) := by decide +kernel
theorem dL_law_246 : decode cL_law 246 = .ok (.invokevirtual 27, 3) := by decide +kernel
theorem dL_law_249 : decode cL_law 249 = .ok (.aload_n 2, 1) := by decide +kernel
theorem dL_law_250 : decode cL_law 250 = .ok (.aload_n 0, 1) := by decide +kernel
theorem dL_law_251 : decode cL_law 251 = .ok (.iload_n 3, 1) := by decide +kernel
theorem dL_law_252 : decode cL_law 252 = .ok (.iconst 1, 1) := by decide +kernel
theorem dL_law_253 : decode cL_law 253 = .ok (.iadd, 1) := by decide +kernel
theorem dL_law_254 : decode cL_law 254 = .ok (.iaload, 1) := by decide +kernel
theorem dL_law_255 : decode cL_law 255 = .ok (.aload_n 0, 1) := by decide +kernel
theorem dL_law_256 : decode cL_law 256 = .ok (.iload_n 3, 1) := by decide +kernel
theorem dL_law_257 : decode cL_law 257 = .ok (.iconst 2, 1) := by decide +kernel
theorem dL_law_258 : decode cL_law 258 = .ok (.iadd, 1) := by decide +kernel
theorem dL_law_259 : decode cL_law 259 = .ok (.iaload, 1) := by decide +kernel
theorem dL_law_260 : decode cL_law 260 = .ok (.aload_n 0, 1) := by decide +kernel
theorem dL_law_261 : decode cL_law 261 = .ok (.iload_n 3, 1) := by decide +kernel
theorem dL_law_262 : decode cL_law 262 = .ok (.iconst 3, 1) := by decide +kernel
theorem dL_law_263 : decode cL_law 263 = .ok (.iadd, 1) := by decide +kernel
theorem dL_law_264 : decode cL_law 264 = .ok (.iaload, 1) := by decide +kernel
theorem dL_law_265 : decode cL_law 265 = .ok (.aload_n 0, 1) := by decide +kernel
theorem dL_law_266 : decode cL_law 266 = .ok (.iload_n 3, 1) := by decide +kernel
theorem dL_law_267 : decode cL_law 267 = .ok (.iconst 4, 1) := by decide +kernel
theorem dL_law_268 : decode cL_law 268 = .ok (.iadd, 1) := by decide +kernel
theorem dL_law_269 : decode cL_law 269 = .ok (.iaload, 1) := by decide +kernel
theorem dL_law_270 : decode cL_law 270 = .ok (.invokevirtual 31, 3) := by decide +kernel
theorem dL_law_273 : decode cL_law 273 = .ok (.if_icmp .eq 439, 3) := by decide +kernel
theorem dL_law_276 : decode cL_law 276 = .ok (.iconst 0, 1) := by decide +kernel
theorem dL_law_277 : decode cL_law 277 = .ok (.ireturn, 1) := by decide +kernel
theorem dL_law_278 : decode cL_law 278 = .ok (.aload_n 1, 1) := by decide +kernel
theorem dL_law_279 : decode cL_law 279 = .ok (.aload_n 0, 1) := by decide +kernel
theorem dL_law_280 : decode cL_law 280 = .ok (.iload_n 3, 1) := by decide +kernel
theorem dL_law_281 : decode cL_law 281 = .ok (.iconst 1, 1) := by decide +kernel
theorem dL_law_282 : decode cL_law 282 = .ok (.iadd, 1) := by decide +kernel
theorem dL_law_283 : decode cL_law 283 = .ok (.iaload, 1) := by decide +kernel
theorem dL_law_284 : decode cL_law 284 = .ok (.invokevirtual 32, 3) := by decide +kernel
theorem dL_law_287 : decode cL_law 287 = .ok (.aload_n 2, 1) := by decide +kernel
theorem dL_law_288 : decode cL_law 288 = .ok (.aload_n 0, 1) := by decide +kernel
theorem dL_law_289 : decode cL_law 289 = .ok (.iload_n 3, 1) := by decide +kernel
theorem dL_law_290 : decode cL_law 290 = .ok (.iconst 1, 1) := by decide +kernel
theorem dL_law_291 : decode cL_law 291 = .ok (.iadd, 1) := by decide +kernel
theorem dL_law_292 : decode cL_law 292 = .ok (.iaload, 1) := by decide +kernel
theorem dL_law_293 : decode cL_law 293 = .ok (.invokevirtual 35, 3) := by decide +kernel
theorem dL_law_296 : decode cL_law 296 = .ok (.if_icmp .eq 416, 3) := by decide +kernel
theorem dL_law_299 : decode cL_law 299 = .ok (.iconst 0, 1) := by decide +kernel
theorem dL_law_300 : decode cL_law 300 = .ok (.ireturn, 1) := by decide +kernel
theorem dL_law_301 : decode cL_law 301 = .ok (.aload_n 1, 1) := by decide +kernel
theorem dL_law_302 : decode cL_law 302 = .ok (.aload_n 0, 1) := by decide +kernel
theorem dL_law_303 : decode cL_law 303 = .ok (.iload_n 3, 1) := by decide +kernel
theorem dL_law_304 : decode cL_law 304 = .ok (.iconst 1, 1) := by decide +kernel
theorem dL_law_305 : decode cL_law 305 = .ok (.iadd, 1) := by decide +kernel
theorem dL_law_306 : decode cL_law 306 = .ok (.iaload, 1) := by decide +kernel
theorem dL_law_307 : decode cL_law 307 = .ok (.aload_n 0, 1) := by decide +kernel
theorem dL_law_308 : decode cL_law 308 = .ok (.iload_n 3, 1) := by decide +kernel
theorem dL_law_309 : decode cL_law 309 = .ok (.iconst 2, 1) := by decide +kernel
theorem dL_law_310 : decode cL_law 310 = .ok (.iadd, 1) := by decide +kernel
theorem dL_law_311 : decode cL_law 311 = .ok (.iaload, 1) := by decide +kernel
theorem dL_law_312 : decode cL_law 312 = .ok (.invokevirtual 36, 3) := by decide +kernel
theorem dL_law_315 : decode cL_law 315 = .ok (.aload_n 2, 1) := by decide +kernel
theorem dL_law_316 : decode cL_law 316 = .ok (.aload_n 0, 1) := by decide +kernel
theorem dL_law_317 : decode cL_law 317 = .ok (.iload_n 3, 1) := by decide +kernel
theorem dL_law_318 : decode cL_law 318 = .ok (.iconst 1, 1) := by decide +kernel
theorem dL_law_319 : decode cL_law 319 = .ok (.iadd, 1) := by decide +kernel
theorem dL_law_320 : decode cL_law 320 = .ok (.iaload, 1) := by decide +kernel
theorem dL_law_321 : decode cL_law 321 = .ok (.aload_n 0, 1) := by decide +kernel
theorem dL_law_322 : decode cL_law 322 = .ok (.iload_n 3, 1) := by decide +kernel
theorem dL_law_323 : decode cL_law 323 = .ok (.iconst 2, 1) := by decide +kernel
theorem dL_law_324 : decode cL_law 324 = .ok (.iadd, 1) := by decide +kernel
theorem dL_law_325 : decode cL_law 325 = .ok (.iaload, 1) := by decide +kernel
theorem dL_law_326 : decode cL_law 326 = .ok (.invokevirtual 39, 3) := by decide +kernel
theorem dL_law_329 : decode cL_law 329 = .ok (.if_icmp .eq 383, 3) := by decide +kernel
theorem dL_law_332 : decode cL_law 332 = .ok (.iconst 0, 1) := by decide +kernel
theorem dL_law_333 : decode cL_law 333 = .ok (.ireturn, 1) := by decide +kernel
theorem dL_law_334 : decode cL_law 334 = .ok (.aload_n 1, 1) := by decide +kernel
theorem dL_law_335 : decode cL_law 335 = .ok (.invokevirtual 40, 3) := by decide +kernel
theorem dL_law_338 : decode cL_law 338 = .ok (.aload_n 2, 1) := by decide +kernel
theorem dL_law_339 : decode cL_law 339 = .ok (.invokevirtual 44, 3) := by decide +kernel
theorem dL_law_342 : decode cL_law 342 = .ok (.if_icmp .eq 370, 3) := by decide +kernel
theorem dL_law_345 : decode cL_law 345 = .ok (.iconst 0, 1) := by decide +kernel
theorem dL_law_346 : decode cL_law 346 = .ok (.ireturn, 1) := by decide +kernel
theorem dL_law_347 : decode cL_law 347 = .ok (.aload_n 1, 1) := by decide +kernel
theorem dL_law_348 : decode cL_law 348 = .ok (.invokevirtual 45, 3) := by decide +kernel
theorem dL_law_351 : decode cL_law 351 = .ok (.aload_n 2, 1) := by decide +kernel
theorem dL_law_352 : decode cL_law 352 = .ok (.invokevirtual 48, 3) := by decide +kernel
theorem dL_law_355 : decode cL_law 355 = .ok (.if_icmp .eq 357, 3) := by decide +kernel
theorem dL_law_358 : decode cL_law 358 = .ok (.iconst 0, 1) := by decide +kernel
theorem dL_law_359 : decode cL_law 359 = .ok (.ireturn, 1) := by decide +kernel
theorem dL_law_360 : decode cL_law 360 = .ok (.aload_n 1, 1) := by decide +kernel
theorem dL_law_361 : decode cL_law 361 = .ok (.aload_n 0, 1) := by decide +kernel
theorem dL_law_362 : decode cL_law 362 = .ok (.iload_n 3, 1) := by decide +kernel
theorem dL_law_363 : decode cL_law 363 = .ok (.iconst 1, 1) := by decide +kernel
theorem dL_law_364 : decode cL_law 364 = .ok (.iadd, 1) := by decide +kernel
theorem dL_law_365 : decode cL_law 365 = .ok (.iaload, 1) := by decide +kernel
theorem dL_law_366 : decode cL_law 366 = .ok (.invokevirtual 49, 3) := by decide +kernel
theorem dL_law_369 : decode cL_law 369 = .ok (.aload_n 2, 1) := by decide +kernel
theorem dL_law_370 : decode cL_law 370 = .ok (.aload_n 0, 1) := by decide +kernel
theorem dL_law_371 : decode cL_law 371 = .ok (.iload_n 3, 1) := by decide +kernel
theorem dL_law_372 : decode cL_law 372 = .ok (.iconst 1, 1) := by decide +kernel
theorem dL_law_373 : decode cL_law 373 = .ok (.iadd, 1) := by decide +kernel
theorem dL_law_374 : decode cL_law 374 = .ok (.iaload, 1) := by decide +kernel
theorem dL_law_375 : decode cL_law 375 = .ok (.invokevirtual 52, 3) := by decide +kernel
theorem dL_law_378 : decode cL_law 378 = .ok (.if_icmp .eq 334, 3) := by decide +kernel
theorem dL_law_381 : decode cL_law 381 = .ok (.iconst 0, 1) := by decide +kernel
theorem dL_law_382 : decode cL_law 382 = .ok (.ireturn, 1) := by decide +kernel
theorem dL_law_383 : decode cL_law 383 = .ok (.aload_n 1, 1) := by decide +kernel
theorem dL_law_384 : decode cL_law 384 = .ok (.aload_n 0, 1) := by decide +kernel
theorem dL_law_385 : decode cL_law 385 = .ok (.iload_n 3, 1) := by decide +kernel
theorem dL_law_386 : decode cL_law 386 = .ok (.iconst 1, 1) := by decide +kernel
theorem dL_law_387 : decode cL_law 387 = .ok (.iadd, 1) := by decide +kernel
theorem dL_law_388 : decode cL_law 388 = .ok (.iaload, 1) := by decide +kernel
theorem dL_law_389 : decode cL_law 389 = .ok (.aload_n 0, 1) := by decide +kernel
theorem dL_law_390 : decode cL_law 390 = .ok (.iload_n 3, 1) := by decide +kernel
theorem dL_law_391 : decode cL_law 391 = .ok (.iconst 2, 1) := by decide +kernel
theorem dL_law_392 : decode cL_law 392 = .ok (.iadd, 1) := by decide +kernel
theorem dL_law_393 : decode cL_law 393 = .ok (.iaload, 1) := by decide +kernel
theorem dL_law_394 : decode cL_law 394 = .ok (.aload_n 0, 1) := by decide +kernel
theorem dL_law_395 : decode cL_law 395 = .ok (.iload_n 3, 1) := by decide +kernel
theorem dL_law_396 : decode cL_law 396 = .ok (.iconst 3, 1) := by decide +kernel
theorem dL_law_397 : decode cL_law 397 = .ok (.iadd, 1) := by decide +kernel
theorem dL_law_398 : decode cL_law 398 = .ok (.iaload, 1) := by decide +kernel
theorem dL_law_399 : decode cL_law 399 = .ok (.invokevirtual 53, 3) := by decide +kernel
theorem dL_law_402 : decode cL_law 402 = .ok (.aload_n 2, 1) := by decide +kernel
theorem dL_law_403 : decode cL_law 403 = .ok (.aload_n 0, 1) := by decide +kernel
theorem dL_law_404 : decode cL_law 404 = .ok (.iload_n 3, 1) := by decide +kernel
theorem dL_law_405 : decode cL_law 405 = .ok (.iconst 1, 1) := by decide +kernel
theorem dL_law_406 : decode cL_law 406 = .ok (.iadd, 1) := by decide +kernel
theorem dL_law_407 : decode cL_law 407 = .ok (.iaload, 1) := by decide +kernel
theorem dL_law_408 : decode cL_law 408 = .ok (.aload_n 0, 1) := by decide +kernel
theorem dL_law_409 : decode cL_law 409 = .ok (.iload_n 3, 1) := by decide +kernel
theorem dL_law_410 : decode cL_law 410 = .ok (.iconst 2, 1) := by decide +kernel
theorem dL_law_411 : decode cL_law 411 = .ok (.iadd, 1) := by decide +kernel
theorem dL_law_412 : decode cL_law 412 = .ok (.iaload, 1) := by decide +kernel
theorem dL_law_413 : decode cL_law 413 = .ok (.aload_n 0, 1) := by decide +kernel
theorem dL_law_414 : decode cL_law 414 = .ok (.iload_n 3, 1) := by decide +kernel
theorem dL_law_415 : decode cL_law 415 = .ok (.iconst 3, 1) := by decide +kernel
theorem dL_law_416 : decode cL_law 416 = .ok (.iadd, 1) := by decide +kernel
theorem dL_law_417 : decode cL_law 417 = .ok (.iaload, 1) := by decide +kernel
theorem dL_law_418 : decode cL_law 418 = .ok (.invokevirtual 57, 3) := by decide +kernel
theorem dL_law_421 : decode cL_law 421 = .ok (.if_icmp .eq 291, 3) := by decide +kernel
theorem dL_law_424 : decode cL_law 424 = .ok (.iconst 0, 1) := by decide +kernel
theorem dL_law_425 : decode cL_law 425 = .ok (.ireturn, 1) := by decide +kernel
theorem dL_law_426 : decode cL_law 426 = .ok (.aload_n 1, 1) := by decide +kernel
theorem dL_law_427 : decode cL_law 427 = .ok (.aload_n 0, 1) := by decide +kernel
theorem dL_law_428 : decode cL_law 428 = .ok (.iload_n 3, 1) := by decide +kernel
theorem dL_law_429 : decode cL_law 429 = .ok (.iconst 1, 1) := by decide +kernel
theorem dL_law_430 : decode cL_law 430 = .ok (.iadd, 1) := by decide +kernel
theorem dL_law_431 : decode cL_law 431 = .ok (.iaload, 1) := by decide +kernel
theorem dL_law_432 : decode cL_law 432 = .ok (.aload_n 0, 1) := by decide +kernel
theorem dL_law_433 : decode cL_law 433 = .ok (.iload_n 3, 1) := by decide +kernel
theorem dL_law_434 : decode cL_law 434 = .ok (.iconst 2, 1) := by decide +kernel
theorem dL_law_435 : decode cL_law 435 = .ok (.iadd, 1) := by decide +kernel
theorem dL_law_436 : decode cL_law 436 = .ok (.iaload, 1) := by decide +kernel
theorem dL_law_437 : decode cL_law 437 = .ok (.invokevirtual 58, 3) := by decide +kernel
theorem dL_law_440 : decode cL_law 440 = .ok (.aload_n 2, 1) := by decide +kernel
theorem dL_law_441 : decode cL_law 441 = .ok (.aload_n 0, 1) := by decide +kernel
theorem dL_law_442 : decode cL_law 442 = .ok (.iload_n 3, 1) := by decide +kernel
theorem dL_law_443 : decode cL_law 443 = .ok (.iconst 1, 1) := by decide +kernel
theorem dL_law_444 : decode cL_law 444 = .ok (.iadd, 1) := by decide +kernel
theorem dL_law_445 : decode cL_law 445 = .ok (.iaload, 1) := by decide +kernel
theorem dL_law_446 : decode cL_law 446 = .ok (.aload_n 0, 1) := by decide +kernel
theorem dL_law_447 : decode cL_law 447 = .ok (.iload_n 3, 1) := by decide +kernel
theorem dL_law_448 : decode cL_law 448 = .ok (.iconst 2, 1) := by decide +kernel
theorem dL_law_449 : decode cL_law 449 = .ok (.iadd, 1) := by decide +kernel
theorem dL_law_450 : decode cL_law 450 = .ok (.iaload, 1) := by decide +kernel
theorem dL_law_451 : decode cL_law 451 = .ok (.invokevirtual 61, 3) := by decide +kernel
theorem dL_law_454 : decode cL_law 454 = .ok (.if_icmp .eq 258, 3) := by decide +kernel
theorem dL_law_457 : decode cL_law 457 = .ok (.iconst 0, 1) := by decide +kernel
theorem dL_law_458 : decode cL_law 458 = .ok (.ireturn, 1) := by decide +kernel
theorem dL_law_459 : decode cL_law 459 = .ok (.aload_n 1, 1) := by decide +kernel
theorem dL_law_460 : decode cL_law 460 = .ok (.aload_n 0, 1) := by decide +kernel
theorem dL_law_461 : decode cL_law 461 = .ok (.iload_n 3, 1) := by decide +kernel
theorem dL_law_462 : decode cL_law 462 = .ok (.iconst 1, 1) := by decide +kernel
theorem dL_law_463 : decode cL_law 463 = .ok (.iadd, 1) := by decide +kernel
theorem dL_law_464 : decode cL_law 464 = .ok (.iaload, 1) := by decide +kernel
theorem dL_law_465 : decode cL_law 465 = .ok (.aload_n 0, 1) := by decide +kernel
theorem dL_law_466 : decode cL_law 466 = .ok (.iload_n 3, 1) := by decide +kernel
theorem dL_law_467 : decode cL_law 467 = .ok (.iconst 2, 1) := by decide +kernel
theorem dL_law_468 : decode cL_law 468 = .ok (.iadd, 1) := by decide +kernel
theorem dL_law_469 : decode cL_law 469 = .ok (.iaload, 1) := by decide +kernel
theorem dL_law_470 : decode cL_law 470 = .ok (.invokevirtual 62, 3) := by decide +kernel
theorem dL_law_473 : decode cL_law 473 = .ok (.aload_n 2, 1) := by decide +kernel
theorem dL_law_474 : decode cL_law 474 = .ok (.aload_n 0, 1) := by decide +kernel
theorem dL_law_475 : decode cL_law 475 = .ok (.iload_n 3, 1) := by decide +kernel
theorem dL_law_476 : decode cL_law 476 = .ok (.iconst 1, 1) := by decide +kernel
theorem dL_law_477 : decode cL_law 477 = .ok (.iadd, 1) := by decide +kernel
theorem dL_law_478 : decode cL_law 478 = .ok (.iaload, 1) := by decide +kernel
theorem dL_law_479 : decode cL_law 479 = .ok (.aload_n 0, 1) := by decide +kernel
theorem dL_law_480 : decode cL_law 480 = .ok (.iload_n 3, 1) := by decide +kernel
theorem dL_law_481 : decode cL_law 481 = .ok (.iconst 2, 1) := by decide +kernel
theorem dL_law_482 : decode cL_law 482 = .ok (.iadd, 1) := by decide +kernel
theorem dL_law_483 : decode cL_law 483 = .ok (.iaload, 1) := by decide +kernel
theorem dL_law_484 : decode cL_law 484 = .ok (.invokevirtual 65, 3) := by decide +kernel
theorem dL_law_487 : decode cL_law 487 = .ok (.if_icmp .eq 225, 3) := by decide +kernel
theorem dL_law_490 : decode cL_law 490 = .ok (.iconst 0, 1) := by decide +kernel
theorem dL_law_491 : decode cL_law 491 = .ok (.ireturn, 1) := by decide +kernel
theorem dL_law_492 : decode cL_law 492 = .ok (.aload_n 1, 1) := by decide +kernel
theorem dL_law_493 : decode cL_law 493 = .ok (.aload_n 0, 1) := by decide +kernel
theorem dL_law_494 : decode cL_law 494 = .ok (.iload_n 3, 1) := by decide +kernel
theorem dL_law_495 : decode cL_law 495 = .ok (.iconst 1, 1) := by decide +kernel
theorem dL_law_496 : decode cL_law 496 = .ok (.iadd, 1) := by decide +kernel
theorem dL_law_497 : decode cL_law 497 = .ok (.iaload, 1) := by decide +kernel
theorem dL_law_498 : decode cL_law 498 = .ok (.aload_n 0, 1) := by decide +kernel
theorem dL_law_499 : decode cL_law 499 = .ok (.iload_n 3, 1) := by decide +kernel
theorem dL_law_500 : decode cL_law 500 = .ok (.iconst 2, 1) := by decide +kernel
theorem dL_law_501 : decode cL_law 501 = .ok (.iadd, 1) := by decide +kernel
theorem dL_law_502 : decode cL_law 502 = .ok (.iaload, 1) := by decide +kernel
theorem dL_law_503 : decode cL_law 503 = .ok (.invokevirtual 66, 3) := by decide +kernel
theorem dL_law_506 : decode cL_law 506 = .ok (.aload_n 2, 1) := by decide +kernel
theorem dL_law_507 : decode cL_law 507 = .ok (.aload_n 0, 1) := by decide +kernel
theorem dL_law_508 : decode cL_law 508 = .ok (.iload_n 3, 1) := by decide +kernel
theorem dL_law_509 : decode cL_law 509 = .ok (.iconst 1, 1) := by decide +kernel
theorem dL_law_510 : decode cL_law 510 = .ok (.iadd, 1) := by decide +kernel
theorem dL_law_511 : decode cL_law 511 = .ok (.iaload, 1) := by decide +kernel
theorem dL_law_512 : decode cL_law 512 = .ok (.aload_n 0, 1) := by decide +kernel
theorem dL_law_513 : decode cL_law 513 = .ok (.iload_n 3, 1) := by decide +kernel
theorem dL_law_514 : decode cL_law 514 = .ok (.iconst 2, 1) := by decide +kernel
theorem dL_law_515 : decode cL_law 515 = .ok (.iadd, 1) := by decide +kernel
theorem dL_law_516 : decode cL_law 516 = .ok (.iaload, 1) := by decide +kernel
theorem dL_law_517 : decode cL_law 517 = .ok (.invokevirtual 69, 3) := by decide +kernel
theorem dL_law_520 : decode cL_law 520 = .ok (.if_icmp .eq 192, 3) := by decide +kernel
theorem dL_law_523 : decode cL_law 523 = .ok (.iconst 0, 1) := by decide +kernel
theorem dL_law_524 : decode cL_law 524 = .ok (.ireturn, 1) := by decide +kernel
theorem dL_law_525 : decode cL_law 525 = .ok (.aload_n 1, 1) := by decide +kernel
theorem dL_law_526 : decode cL_law 526 = .ok (.aload_n 0, 1) := by decide +kernel
theorem dL_law_527 : decode cL_law 527 = .ok (.iload_n 3, 1) := by decide +kernel
theorem dL_law_528 : decode cL_law 528 = .ok (.iconst 1, 1) := by decide +kernel
theorem dL_law_529 : decode cL_law 529 = .ok (.iadd, 1) := by decide +kernel
theorem dL_law_530 : decode cL_law 530 = .ok (.iaload, 1) := by decide +kernel
theorem dL_law_531 : decode cL_law 531 = .ok (.invokevirtual 70, 3) := by decide +kernel
theorem dL_law_534 : decode cL_law 534 = .ok (.aload_n 2, 1) := by decide +kernel
theorem dL_law_535 : decode cL_law 535 = .ok (.aload_n 0, 1) := by decide +kernel
theorem dL_law_536 : decode cL_law 536 = .ok (.iload_n 3, 1) := by decide +kernel
theorem dL_law_537 : decode cL_law 537 = .ok (.iconst 1, 1) := by decide +kernel
theorem dL_law_538 : decode cL_law 538 = .ok (.iadd, 1) := by decide +kernel
theorem dL_law_539 : decode cL_law 539 = .ok (.iaload, 1) := by decide +kernel
theorem dL_law_540 : decode cL_law 540 = .ok (.invokevirtual 73, 3) := by decide +kernel
theorem dL_law_543 : decode cL_law 543 = .ok (.if_icmp .eq 169, 3) := by decide +kernel
theorem dL_law_546 : decode cL_law 546 = .ok (.iconst 0, 1) := by decide +kernel
theorem dL_law_547 : decode cL_law 547 = .ok (.ireturn, 1) := by decide +kernel
theorem dL_law_548 : decode cL_law 548 = .ok (.aload_n 1, 1) := by decide +kernel
theorem dL_law_549 : decode cL_law 549 = .ok (.aload_n 0, 1) := by decide +kernel
theorem dL_law_550 : decode cL_law 550 = .ok (.iload_n 3, 1) := by decide +kernel
theorem dL_law_551 : decode cL_law 551 = .ok (.iconst 1, 1) := by decide +kernel
theorem dL_law_552 : decode cL_law 552 = .ok (.iadd, 1) := by decide +kernel
theorem dL_law_553 : decode cL_law 553 = .ok (.iaload, 1) := by decide +kernel
theorem dL_law_554 : decode cL_law 554 = .ok (.aload_n 0, 1) := by decide +kernel
theorem dL_law_555 : decode cL_law 555 = .ok (.iload_n 3, 1) := by decide +kernel
theorem dL_law_556 : decode cL_law 556 = .ok (.iconst 2, 1) := by decide +kernel
theorem dL_law_557 : decode cL_law 557 = .ok (.iadd, 1) := by decide +kernel
theorem dL_law_558 : decode cL_law 558 = .ok (.iaload, 1) := by decide +kernel
theorem dL_law_559 : decode cL_law 559 = .ok (.aload_n 0, 1) := by decide +kernel
theorem dL_law_560 : decode cL_law 560 = .ok (.iload_n 3, 1) := by decide +kernel
theorem dL_law_561 : decode cL_law 561 = .ok (.iconst 3, 1) := by decide +kernel
theorem dL_law_562 : decode cL_law 562 = .ok (.iadd, 1) := by decide +kernel
theorem dL_law_563 : decode cL_law 563 = .ok (.iaload, 1) := by decide +kernel
theorem dL_law_564 : decode cL_law 564 = .ok (.invokevirtual 74, 3) := by decide +kernel
theorem dL_law_567 : decode cL_law 567 = .ok (.aload_n 2, 1) := by decide +kernel
theorem dL_law_568 : decode cL_law 568 = .ok (.aload_n 0, 1) := by decide +kernel
theorem dL_law_569 : decode cL_law 569 = .ok (.iload_n 3, 1) := by decide +kernel
theorem dL_law_570 : decode cL_law 570 = .ok (.iconst 1, 1) := by decide +kernel
theorem dL_law_571 : decode cL_law 571 = .ok (.iadd, 1) := by decide +kernel
theorem dL_law_572 : decode cL_law 572 = .ok (.iaload, 1) := by decide +kernel
theorem dL_law_573 : decode cL_law 573 = .ok (.aload_n 0, 1) := by decide +kernel
theorem dL_law_574 : decode cL_law 574 = .ok (.iload_n 3, 1) := by decide +kernel
theorem dL_law_575 : decode cL_law 575 = .ok (.iconst 2, 1) := by decide +kernel
theorem dL_law_576 : decode cL_law 576 = .ok (.iadd, 1) := by decide +kernel
theorem dL_law_577 : decode cL_law 577 = .ok (.iaload, 1) := by decide +kernel
theorem dL_law_578 : decode cL_law 578 = .ok (.aload_n 0, 1) := by decide +kernel
theorem dL_law_579 : decode cL_law 579 = .ok (.iload_n 3, 1) := by decide +kernel
theorem dL_law_580 : decode cL_law 580 = .ok (.iconst 3, 1) := by decide +kernel
theorem dL_law_581 : decode cL_law 581 = .ok (.iadd, 1) := by decide +kernel
theorem dL_law_582 : decode cL_law 582 = .ok (.iaload, 1) := by decide +kernel
theorem dL_law_583 : decode cL_law 583 = .ok (.invokevirtual 77, 3) := by decide +kernel
theorem dL_law_586 : decode cL_law 586 = .ok (.if_icmp .eq 126, 3) := by decide +kernel
theorem dL_law_589 : decode cL_law 589 = .ok (.iconst 0, 1) := by decide +kernel
theorem dL_law_590 : decode cL_law 590 = .ok (.ireturn, 1) := by decide +kernel
theorem dL_law_591 : decode cL_law 591 = .ok (.aload_n 1, 1) := by decide +kernel
theorem dL_law_592 : decode cL_law 592 = .ok (.invokevirtual 78, 3) := by decide +kernel
theorem dL_law_595 : decode cL_law 595 = .ok (.aload_n 2, 1) := by decide +kernel
theorem dL_law_596 : decode cL_law 596 = .ok (.invokevirtual 81, 3) := by decide +kernel
theorem dL_law_599 : decode cL_law 599 = .ok (.if_icmp .eq 113, 3) := by decide +kernel
theorem dL_law_602 : decode cL_law 602 = .ok (.iconst 0, 1) := by decide +kernel
theorem dL_law_603 : decode cL_law 603 = .ok (.ireturn, 1) := by decide +kernel
theorem dL_law_604 : decode cL_law 604 = .ok (.aload_n 1, 1) := by decide +kernel
theorem dL_law_605 : decode cL_law 605 = .ok (.aload_n 0, 1) := by decide +kernel
theorem dL_law_606 : decode cL_law 606 = .ok (.iload_n 3, 1) := by decide +kernel
theorem dL_law_607 : decode cL_law 607 = .ok (.iconst 1, 1) := by decide +kernel
theorem dL_law_608 : decode cL_law 608 = .ok (.iadd, 1) := by decide +kernel
theorem dL_law_609 : decode cL_law 609 = .ok (.iaload, 1) := by decide +kernel
theorem dL_law_610 : decode cL_law 610 = .ok (.invokevirtual 82, 3) := by decide +kernel
theorem dL_law_613 : decode cL_law 613 = .ok (.aload_n 2, 1) := by decide +kernel
theorem dL_law_614 : decode cL_law 614 = .ok (.aload_n 0, 1) := by decide +kernel
theorem dL_law_615 : decode cL_law 615 = .ok (.iload_n 3, 1) := by decide +kernel
theorem dL_law_616 : decode cL_law 616 = .ok (.iconst 1, 1) := by decide +kernel
theorem dL_law_617 : decode cL_law 617 = .ok (.iadd, 1) := by decide +kernel
theorem dL_law_618 : decode cL_law 618 = .ok (.iaload, 1) := by decide +kernel
theorem dL_law_619 : decode cL_law 619 = .ok (.invokevirtual 85, 3) := by decide +kernel
theorem dL_law_622 : decode cL_law 622 = .ok (.if_icmp .eq 90, 3) := by decide +kernel
theorem dL_law_625 : decode cL_law 625 = .ok (.iconst 0, 1) := by decide +kernel
theorem dL_law_626 : decode cL_law 626 = .ok (.ireturn, 1) := by decide +kernel
theorem dL_law_627 : decode cL_law 627 = .ok (.aload_n 1, 1) := by decide +kernel
theorem dL_law_628 : decode cL_law 628 = .ok (.invokevirtual 86, 3) := by decide +kernel
theorem dL_law_631 : decode cL_law 631 = .ok (.aload_n 2, 1) := by decide +kernel
theorem dL_law_632 : decode cL_law 632 = .ok (.invokevirtual 89, 3) := by decide +kernel
theorem dL_law_635 : decode cL_law 635 = .ok (.if_icmp .eq 77, 3) := by decide +kernel
theorem dL_law_638 : decode cL_law 638 = .ok (.iconst 0, 1) := by decide +kernel
theorem dL_law_639 : decode cL_law 639 = .ok (.ireturn, 1) := by decide +kernel
theorem dL_law_640 : decode cL_law 640 = .ok (.aload_n 1, 1) := by decide +kernel
theorem dL_law_641 : decode cL_law 641 = .ok (.aload_n 0, 1) := by decide +kernel
theorem dL_law_642 : decode cL_law 642 = .ok (.iload_n 3, 1) := by decide +kernel
theorem dL_law_643 : decode cL_law 643 = .ok (.iconst 1, 1) := by decide +kernel
theorem dL_law_644 : decode cL_law 644 = .ok (.iadd, 1) := by decide +kernel
theorem dL_law_645 : decode cL_law 645 = .ok (.iaload, 1) := by decide +kernel
theorem dL_law_646 : decode cL_law 646 = .ok (.invokevirtual 90, 3) := by decide +kernel
theorem dL_law_649 : decode cL_law 649 = .ok (.aload_n 2, 1) := by decide +kernel
theorem dL_law_650 : decode cL_law 650 = .ok (.aload_n 0, 1) := by decide +kernel
theorem dL_law_651 : decode cL_law 651 = .ok (.iload_n 3, 1) := by decide +kernel
theorem dL_law_652 : decode cL_law 652 = .ok (.iconst 1, 1) := by decide +kernel
theorem dL_law_653 : decode cL_law 653 = .ok (.iadd, 1) := by decide +kernel
theorem dL_law_654 : decode cL_law 654 = .ok (.iaload, 1) := by decide +kernel
theorem dL_law_655 : decode cL_law 655 = .ok (.invokevirtual 93, 3) := by decide +kernel
theorem dL_law_658 : decode cL_law 658 = .ok (.if_icmp .eq 54, 3) := by decide +kernel
theorem dL_law_661 : decode cL_law 661 = .ok (.iconst 0, 1) := by decide +kernel
theorem dL_law_662 : decode cL_law 662 = .ok (.ireturn, 1) := by decide +kernel
theorem dL_law_663 : decode cL_law 663 = .ok (.aload_n 1, 1) := by decide +kernel
theorem dL_law_664 : decode cL_law 664 = .ok (.invokevirtual 94, 3) := by decide +kernel
theorem dL_law_667 : decode cL_law 667 = .ok (.aload_n 2, 1) := by decide +kernel
theorem dL_law_668 : decode cL_law 668 = .ok (.invokevirtual 97, 3) := by decide +kernel
theorem dL_law_671 : decode cL_law 671 = .ok (.if_icmp .eq 41, 3) := by decide +kernel
theorem dL_law_674 : decode cL_law 674 = .ok (.iconst 0, 1) := by decide +kernel
theorem dL_law_675 : decode cL_law 675 = .ok (.ireturn, 1) := by decide +kernel
theorem dL_law_676 : decode cL_law 676 = .ok (.aload_n 1, 1) := by decide +kernel
theorem dL_law_677 : decode cL_law 677 = .ok (.aload_n 0, 1) := by decide +kernel
theorem dL_law_678 : decode cL_law 678 = .ok (.iload_n 3, 1) := by decide +kernel
theorem dL_law_679 : decode cL_law 679 = .ok (.iconst 1, 1) := by decide +kernel
theorem dL_law_680 : decode cL_law 680 = .ok (.iadd, 1) := by decide +kernel
theorem dL_law_681 : decode cL_law 681 = .ok (.iaload, 1) := by decide +kernel
theorem dL_law_682 : decode cL_law 682 = .ok (.invokevirtual 98, 3) := by decide +kernel
theorem dL_law_685 : decode cL_law 685 = .ok (.aload_n 2, 1) := by decide +kernel
theorem dL_law_686 : decode cL_law 686 = .ok (.aload_n 0, 1) := by decide +kernel
theorem dL_law_687 : decode cL_law 687 = .ok (.iload_n 3, 1) := by decide +kernel
theorem dL_law_688 : decode cL_law 688 = .ok (.iconst 1, 1) := by decide +kernel
theorem dL_law_689 : decode cL_law 689 = .ok (.iadd, 1) := by decide +kernel
theorem dL_law_690 : decode cL_law 690 = .ok (.iaload, 1) := by decide +kernel
theorem dL_law_691 : decode cL_law 691 = .ok (.invokevirtual 101, 3) := by decide +kernel
theorem dL_law_694 : decode cL_law 694 = .ok (.if_icmp .eq 18, 3) := by decide +kernel
theorem dL_law_697 : decode cL_law 697 = .ok (.iconst 0, 1) := by decide +kernel
theorem dL_law_698 : decode cL_law 698 = .ok (.ireturn, 1) := by decide +kernel
theorem dL_law_699 : decode cL_law 699 = .ok (.aload_n 1, 1) := by decide +kernel
theorem dL_law_700 : decode cL_law 700 = .ok (.invokevirtual 102, 3) := by decide +kernel
theorem dL_law_703 : decode cL_law 703 = .ok (.aload_n 2, 1) := by decide +kernel
theorem dL_law_704 : decode cL_law 704 = .ok (.invokevirtual 105, 3) := by decide +kernel
theorem dL_law_707 : decode cL_law 707 = .ok (.if_icmp .eq 5, 3) := by decide +kernel
theorem dL_law_710 : decode cL_law 710 = .ok (.iconst 0, 1) := by decide +kernel
theorem dL_law_711 : decode cL_law 711 = .ok (.ireturn, 1) := by decide +kernel
theorem dL_law_712 : decode cL_law 712 = .ok (.iinc 3 5, 3) := by decide +kernel
theorem dL_law_715 : decode cL_law 715 = .ok (.goto (-697), 3) := by decide +kernel
theorem dL_law_718 : decode cL_law 718 = .ok (.iconst 1, 1) := by decide +kernel
theorem dL_law_719 : decode cL_law 719 = .ok (.ireturn, 1) := by decide +kernel
theorem dX0_init_0 : decode cX0_init 0 = .ok (.aload_n 0, 1) := by decide +kernel
theorem dX0_init_1 : decode cX0_init 1 = .ok (.invokespecial 3, 3) := by decide +kernel
theorem dX0_init_4 : decode cX0_init 4 = .ok (.aload_n 0, 1) := by decide +kernel
theorem dX0_init_5 : decode cX0_init 5 = .ok (.bipush 8, 2) := by decide +kernel
theorem dX0_init_7 : decode cX0_init 7 = .ok (.newarray .int, 2) := by decide +kernel
theorem dX0_init_9 : decode cX0_init 9 = .ok (.putfield 9, 3) := by decide +kernel
theorem dX0_init_12 : decode cX0_init 12 = .ok (.aload_n 0, 1) := by decide +kernel
theorem dX0_init_13 : decode cX0_init 13 = .ok (.bipush 8, 2) := by decide +kernel
theorem dX0_init_15 : decode cX0_init 15 = .ok (.newarray .int, 2) := by decide +kernel
theorem dX0_init_17 : decode cX0_init 17 = .ok (.putfield 15, 3) := by decide +kernel
theorem dX0_init_20 : decode cX0_init 20 = .ok (.iconst 0, 1) := by decide +kernel
theorem dX0_init_21 : decode cX0_init 21 = .ok (.istore_n 1, 1) := by decide +kernel
theorem dX0_init_22 : decode cX0_init 22 = .ok (.iload_n 1, 1) := by decide +kernel
theorem dX0_init_23 : decode cX0_init 23 = .ok (.bipush 8, 2) := by decide +kernel
theorem dX0_init_25 : decode cX0_init 25 = .ok (.if_icmp .ge 16, 3) := by decide +kernel
theorem dX0_init_28 : decode cX0_init 28 = .ok (.aload_n 0, 1) := by decide +kernel
theorem dX0_init_29 : decode cX0_init 29 = .ok (.getfield 9, 3) := by decide +kernel
theorem dX0_init_32 : decode cX0_init 32 = .ok (.iload_n 1, 1) := by decide +kernel
theorem dX0_init_33 : decode cX0_init 33 = .ok (.iconst (-1), 1) := by decide +kernel
theorem dX0_init_34 : decode cX0_init 34 = .ok (.iastore, 1) := by decide +kernel
theorem dX0_init_35 : decode cX0_init 35 = .ok (.iinc 1 1, 3) := by decide +kernel
theorem dX0_init_38 : decode cX0_init 38 = .ok (.goto (-16), 3) := by decide +kernel
theorem dX0_init_41 : decode cX0_init 41 = .ok (.return_, 1) := by decide +kernel
theorem dX0_standAtZero_0 : decode cX0_standAtZero 0 = .ok (.iconst 0, 1) := by decide +kernel
theorem dX0_standAtZero_1 : decode cX0_standAtZero 1 = .ok (.istore_n 1, 1) := by decide +kernel
theorem dX0_standAtZero_2 : decode cX0_standAtZero 2 = .ok (.iload_n 1, 1) := by decide +kernel
theorem dX0_standAtZero_3 : decode cX0_standAtZero 3 = .ok (.bipush 8, 2) := by decide +kernel
theorem dX0_standAtZero_5 : decode cX0_standAtZero 5 = .ok (.if_icmp .ge 23, 3) := by decide +kernel
theorem dX0_standAtZero_8 : decode cX0_standAtZero 8 = .ok (.aload_n 0, 1) := by decide +kernel
theorem dX0_standAtZero_9 : decode cX0_standAtZero 9 = .ok (.getfield 9, 3) := by decide +kernel
theorem dX0_standAtZero_12 : decode cX0_standAtZero 12 = .ok (.iload_n 1, 1) := by decide +kernel
theorem dX0_standAtZero_13 : decode cX0_standAtZero 13 = .ok (.iconst (-1), 1) := by decide +kernel
theorem dX0_standAtZero_14 : decode cX0_standAtZero 14 = .ok (.iastore, 1) := by decide +kernel
theorem dX0_standAtZero_15 : decode cX0_standAtZero 15 = .ok (.aload_n 0, 1) := by decide +kernel
theorem dX0_standAtZero_16 : decode cX0_standAtZero 16 = .ok (.getfield 15, 3) := by decide +kernel
theorem dX0_standAtZero_19 : decode cX0_standAtZero 19 = .ok (.iload_n 1, 1) := by decide +kernel
theorem dX0_standAtZero_20 : decode cX0_standAtZero 20 = .ok (.iconst 0, 1) := by decide +kernel
theorem dX0_standAtZero_21 : decode cX0_standAtZero 21 = .ok (.iastore, 1) := by decide +kernel
theorem dX0_standAtZero_22 : decode cX0_standAtZero 22 = .ok (.iinc 1 1, 3) := by decide +kernel
theorem dX0_standAtZero_25 : decode cX0_standAtZero 25 = .ok (.goto (-23), 3) := by decide +kernel
theorem dX0_standAtZero_28 : decode cX0_standAtZero 28 = .ok (.return_, 1) := by decide +kernel
theorem dX0_become_0 : decode cX0_become 0 = .ok (.iconst 0, 1) := by decide +kernel
theorem dX0_become_1 : decode cX0_become 1 = .ok (.istore_n 2, 1) := by decide +kernel
theorem dX0_become_2 : decode cX0_become 2 = .ok (.iload_n 2, 1) := by decide +kernel
theorem dX0_become_3 : decode cX0_become 3 = .ok (.bipush 8, 2) := by decide +kernel
theorem dX0_become_5 : decode cX0_become 5 = .ok (.if_icmp .ge 33, 3) := by decide +kernel
theorem dX0_become_8 : decode cX0_become 8 = .ok (.aload_n 0, 1) := by decide +kernel
theorem dX0_become_9 : decode cX0_become 9 = .ok (.getfield 9, 3) := by decide +kernel
theorem dX0_become_12 : decode cX0_become 12 = .ok (.iload_n 2, 1) := by decide +kernel
theorem dX0_become_13 : decode cX0_become 13 = .ok (.aload_n 1, 1) := by decide +kernel
theorem dX0_become_14 : decode cX0_become 14 = .ok (.getfield 9, 3) := by decide +kernel
theorem dX0_become_17 : decode cX0_become 17 = .ok (.iload_n 2, 1) := by decide +kernel
theorem dX0_become_18 : decode cX0_become 18 = .ok (.iaload, 1) := by decide +kernel
theorem dX0_become_19 : decode cX0_become 19 = .ok (.iastore, 1) := by decide +kernel
theorem dX0_become_20 : decode cX0_become 20 = .ok (.aload_n 0, 1) := by decide +kernel
theorem dX0_become_21 : decode cX0_become 21 = .ok (.getfield 15, 3) := by decide +kernel
theorem dX0_become_24 : decode cX0_become 24 = .ok (.iload_n 2, 1) := by decide +kernel
theorem dX0_become_25 : decode cX0_become 25 = .ok (.aload_n 1, 1) := by decide +kernel
theorem dX0_become_26 : decode cX0_become 26 = .ok (.getfield 15, 3) := by decide +kernel
theorem dX0_become_29 : decode cX0_become 29 = .ok (.iload_n 2, 1) := by decide +kernel
theorem dX0_become_30 : decode cX0_become 30 = .ok (.iaload, 1) := by decide +kernel
theorem dX0_become_31 : decode cX0_become 31 = .ok (.iastore, 1) := by decide +kernel
theorem dX0_become_32 : decode cX0_become 32 = .ok (.iinc 2 1, 3) := by decide +kernel
theorem dX0_become_35 : decode cX0_become 35 = .ok (.goto (-33), 3) := by decide +kernel
theorem dX0_become_38 : decode cX0_become 38 = .ok (.return_, 1) := by decide +kernel
theorem dX0_namesOn_0 : decode cX0_namesOn 0 = .ok (.iconst 0, 1) := by decide +kernel
theorem dX0_namesOn_1 : decode cX0_namesOn 1 = .ok (.istore_n 2, 1) := by decide +kernel
theorem dX0_namesOn_2 : decode cX0_namesOn 2 = .ok (.iconst 0, 1) := by decide +kernel
theorem dX0_namesOn_3 : decode cX0_namesOn 3 = .ok (.istore_n 3, 1) := by decide +kernel
theorem dX0_namesOn_4 : decode cX0_namesOn 4 = .ok (.iload_n 3, 1) := by decide +kernel
theorem dX0_namesOn_5 : decode cX0_namesOn 5 = .ok (.bipush 8, 2) := by decide +kernel
theorem dX0_namesOn_7 : decode cX0_namesOn 7 = .ok (.if_icmp .ge 25, 3) := by decide +kernel
theorem dX0_namesOn_10 : decode cX0_namesOn 10 = .ok (.aload_n 0, 1) := by decide +kernel
theorem dX0_namesOn_11 : decode cX0_namesOn 11 = .ok (.getfield 9, 3) := by decide +kernel
theorem dX0_namesOn_14 : decode cX0_namesOn 14 = .ok (.iload_n 3, 1) := by decide +kernel
theorem dX0_namesOn_15 : decode cX0_namesOn 15 = .ok (.iaload, 1) := by decide +kernel
theorem dX0_namesOn_16 : decode cX0_namesOn 16 = .ok (.iload_n 1, 1) := by decide +kernel
theorem dX0_namesOn_17 : decode cX0_namesOn 17 = .ok (.if_icmp .ne 9, 3) := by decide +kernel
theorem dX0_namesOn_20 : decode cX0_namesOn 20 = .ok (.iload_n 2, 1) := by decide +kernel
theorem dX0_namesOn_21 : decode cX0_namesOn 21 = .ok (.iconst 1, 1) := by decide +kernel
theorem dX0_namesOn_22 : decode cX0_namesOn 22 = .ok (.iload_n 3, 1) := by decide +kernel
theorem dX0_namesOn_23 : decode cX0_namesOn 23 = .ok (.ishl, 1) := by decide +kernel
theorem dX0_namesOn_24 : decode cX0_namesOn 24 = .ok (.ior, 1) := by decide +kernel
theorem dX0_namesOn_25 : decode cX0_namesOn 25 = .ok (.istore_n 2, 1) := by decide +kernel
theorem dX0_namesOn_26 : decode cX0_namesOn 26 = .ok (.iinc 3 1, 3) := by decide +kernel
theorem dX0_namesOn_29 : decode cX0_namesOn 29 = .ok (.goto (-25), 3) := by decide +kernel
theorem dX0_namesOn_32 : decode cX0_namesOn 32 = .ok (.iload_n 2, 1) := by decide +kernel
theorem dX0_namesOn_33 : decode cX0_namesOn 33 = .ok (.ireturn, 1) := by decide +kernel
theorem dX0_chairSet_0 : decode cX0_chairSet 0 = .ok (.iconst 0, 1) := by decide +kernel
theorem dX0_chairSet_1 : decode cX0_chairSet 1 = .ok (.istore_n 1, 1) := by decide +kernel
theorem dX0_chairSet_2 : decode cX0_chairSet 2 = .ok (.iconst 0, 1) := by decide +kernel
theorem dX0_chairSet_3 : decode cX0_chairSet 3 = .ok (.istore_n 2, 1) := by decide +kernel
theorem dX0_chairSet_4 : decode cX0_chairSet 4 = .ok (.iload_n 2, 1) := by decide +kernel
theorem dX0_chairSet_5 : decode cX0_chairSet 5 = .ok (.bipush 8, 2) := by decide +kernel
theorem dX0_chairSet_7 : decode cX0_chairSet 7 = .ok (.if_icmp .ge 30, 3) := by decide +kernel
theorem dX0_chairSet_10 : decode cX0_chairSet 10 = .ok (.aload_n 0, 1) := by decide +kernel
theorem dX0_chairSet_11 : decode cX0_chairSet 11 = .ok (.getfield 9, 3) := by decide +kernel
theorem dX0_chairSet_14 : decode cX0_chairSet 14 = .ok (.iload_n 2, 1) := by decide +kernel
theorem dX0_chairSet_15 : decode cX0_chairSet 15 = .ok (.iaload, 1) := by decide +kernel
theorem dX0_chairSet_16 : decode cX0_chairSet 16 = .ok (.iconst (-1), 1) := by decide +kernel
theorem dX0_chairSet_17 : decode cX0_chairSet 17 = .ok (.if_icmp .eq 14, 3) := by decide +kernel
theorem dX0_chairSet_20 : decode cX0_chairSet 20 = .ok (.iload_n 1, 1) := by decide +kernel
theorem dX0_chairSet_21 : decode cX0_chairSet 21 = .ok (.iconst 1, 1) := by decide +kernel
theorem dX0_chairSet_22 : decode cX0_chairSet 22 = .ok (.aload_n 0, 1) := by decide +kernel
theorem dX0_chairSet_23 : decode cX0_chairSet 23 = .ok (.getfield 9, 3) := by decide +kernel
theorem dX0_chairSet_26 : decode cX0_chairSet 26 = .ok (.iload_n 2, 1) := by decide +kernel
theorem dX0_chairSet_27 : decode cX0_chairSet 27 = .ok (.iaload, 1) := by decide +kernel
theorem dX0_chairSet_28 : decode cX0_chairSet 28 = .ok (.ishl, 1) := by decide +kernel
theorem dX0_chairSet_29 : decode cX0_chairSet 29 = .ok (.ior, 1) := by decide +kernel
theorem dX0_chairSet_30 : decode cX0_chairSet 30 = .ok (.istore_n 1, 1) := by decide +kernel
theorem dX0_chairSet_31 : decode cX0_chairSet 31 = .ok (.iinc 2 1, 3) := by decide +kernel
theorem dX0_chairSet_34 : decode cX0_chairSet 34 = .ok (.goto (-30), 3) := by decide +kernel
theorem dX0_chairSet_37 : decode cX0_chairSet 37 = .ok (.iload_n 1, 1) := by decide +kernel
theorem dX0_chairSet_38 : decode cX0_chairSet 38 = .ok (.ireturn, 1) := by decide +kernel
theorem dX0_chairSetOf_0 : decode cX0_chairSetOf 0 = .ok (.iload_n 1, 1) := by decide +kernel
theorem dX0_chairSetOf_1 : decode cX0_chairSetOf 1 = .ok (.ifCond .lt 19, 3) := by decide +kernel
theorem dX0_chairSetOf_4 : decode cX0_chairSetOf 4 = .ok (.iload_n 1, 1) := by decide +kernel
theorem dX0_chairSetOf_5 : decode cX0_chairSetOf 5 = .ok (.bipush 8, 2) := by decide +kernel
theorem dX0_chairSetOf_7 : decode cX0_chairSetOf 7 = .ok (.if_icmp .ge 13, 3) := by decide +kernel
theorem dX0_chairSetOf_10 : decode cX0_chairSetOf 10 = .ok (.aload_n 0, 1) := by decide +kernel
theorem dX0_chairSetOf_11 : decode cX0_chairSetOf 11 = .ok (.getfield 9, 3) := by decide +kernel
theorem dX0_chairSetOf_14 : decode cX0_chairSetOf 14 = .ok (.iload_n 1, 1) := by decide +kernel
theorem dX0_chairSetOf_15 : decode cX0_chairSetOf 15 = .ok (.iaload, 1) := by decide +kernel
theorem dX0_chairSetOf_16 : decode cX0_chairSetOf 16 = .ok (.iconst (-1), 1) := by decide +kernel
theorem dX0_chairSetOf_17 : decode cX0_chairSetOf 17 = .ok (.if_icmp .ne 5, 3) := by decide +kernel
theorem dX0_chairSetOf_20 : decode cX0_chairSetOf 20 = .ok (.iconst 0, 1) := by decide +kernel
theorem dX0_chairSetOf_21 : decode cX0_chairSetOf 21 = .ok (.ireturn, 1) := by decide +kernel
theorem dX0_chairSetOf_22 : decode cX0_chairSetOf 22 = .ok (.iconst 1, 1) := by decide +kernel
theorem dX0_chairSetOf_23 : decode cX0_chairSetOf 23 = .ok (.aload_n 0, 1) := by decide +kernel
theorem dX0_chairSetOf_24 : decode cX0_chairSetOf 24 = .ok (.getfield 9, 3) := by decide +kernel
theorem dX0_chairSetOf_27 : decode cX0_chairSetOf 27 = .ok (.iload_n 1, 1) := by decide +kernel
theorem dX0_chairSetOf_28 : decode cX0_chairSetOf 28 = .ok (.iaload, 1) := by decide +kernel
theorem dX0_chairSetOf_29 : decode cX0_chairSetOf 29 = .ok (.ishl, 1) := by decide +kernel
theorem dX0_chairSetOf_30 : decode cX0_chairSetOf 30 = .ok (.ireturn, 1) := by decide +kernel
theorem dX1_init_0 : decode cX1_init 0 = .ok (.aload_n 0, 1) := by decide +kernel
theorem dX1_init_1 : decode cX1_init 1 = .ok (.invokespecial 3, 3) := by decide +kernel
theorem dX1_init_4 : decode cX1_init 4 = .ok (.aload_n 0, 1) := by decide +kernel
theorem dX1_init_5 : decode cX1_init 5 = .ok (.iconst 0, 1) := by decide +kernel
theorem dX1_init_6 : decode cX1_init 6 = .ok (.putfield 9, 3) := by decide +kernel
theorem dX1_init_9 : decode cX1_init 9 = .ok (.aload_n 0, 1) := by decide +kernel
theorem dX1_init_10 : decode cX1_init 10 = .ok (.bipush 6, 2) := by decide +kernel
theorem dX1_init_12 : decode cX1_init 12 = .ok (.newarray .int, 2) := by decide +kernel
theorem dX1_init_14 : decode cX1_init 14 = .ok (.putfield 15, 3) := by decide +kernel
theorem dX1_init_17 : decode cX1_init 17 = .ok (.aload_n 0, 1) := by decide +kernel
theorem dX1_init_18 : decode cX1_init 18 = .ok (.bipush 6, 2) := by decide +kernel
theorem dX1_init_20 : decode cX1_init 20 = .ok (.newarray .int, 2) := by decide +kernel
theorem dX1_init_22 : decode cX1_init 22 = .ok (.putfield 19, 3) := by decide +kernel
theorem dX1_init_25 : decode cX1_init 25 = .ok (.aload_n 0, 1) := by decide +kernel
theorem dX1_init_26 : decode cX1_init 26 = .ok (.bipush 6, 2) := by decide +kernel
theorem dX1_init_28 : decode cX1_init 28 = .ok (.newarray .int, 2) := by decide +kernel
theorem dX1_init_30 : decode cX1_init 30 = .ok (.putfield 22, 3) := by decide +kernel
theorem dX1_init_33 : decode cX1_init 33 = .ok (.aload_n 0, 1) := by decide +kernel
theorem dX1_init_34 : decode cX1_init 34 = .ok (.bipush 6, 2) := by decide +kernel
theorem dX1_init_36 : decode cX1_init 36 = .ok (.newarray .int, 2) := by decide +kernel
theorem dX1_init_38 : decode cX1_init 38 = .ok (.putfield 25, 3) := by decide +kernel
theorem dX1_init_41 : decode cX1_init 41 = .ok (.aload_n 0, 1) := by decide +kernel
theorem dX1_init_42 : decode cX1_init 42 = .ok (.bipush 6, 2) := by decide +kernel
theorem dX1_init_44 : decode cX1_init 44 = .ok (.newarray .int, 2) := by decide +kernel
theorem dX1_init_46 : decode cX1_init 46 = .ok (.putfield 28, 3) := by decide +kernel
theorem dX1_init_49 : decode cX1_init 49 = .ok (.return_, 1) := by decide +kernel
theorem dX1_become_0 : decode cX1_become 0 = .ok (.aload_n 0, 1) := by decide +kernel
theorem dX1_become_1 : decode cX1_become 1 = .ok (.aload_n 1, 1) := by decide +kernel
theorem dX1_become_2 : decode cX1_become 2 = .ok (.getfield 9, 3) := by decide +kernel
theorem dX1_become_5 : decode cX1_become 5 = .ok (.putfield 9, 3) := by decide +kernel
theorem dX1_become_8 : decode cX1_become 8 = .ok (.iconst 0, 1) := by decide +kernel
theorem dX1_become_9 : decode cX1_become 9 = .ok (.istore_n 2, 1) := by decide +kernel
theorem dX1_become_10 : decode cX1_become 10 = .ok (.iload_n 2, 1) := by decide +kernel
theorem dX1_become_11 : decode cX1_become 11 = .ok (.bipush 6, 2) := by decide +kernel
theorem dX1_become_13 : decode cX1_become 13 = .ok (.if_icmp .ge 69, 3) := by decide +kernel
theorem dX1_become_16 : decode cX1_become 16 = .ok (.aload_n 0, 1) := by decide +kernel
theorem dX1_become_17 : decode cX1_become 17 = .ok (.getfield 15, 3) := by decide +kernel
theorem dX1_become_20 : decode cX1_become 20 = .ok (.iload_n 2, 1) := by decide +kernel
theorem dX1_become_21 : decode cX1_become 21 = .ok (.aload_n 1, 1) := by decide +kernel
theorem dX1_become_22 : decode cX1_become 22 = .ok (.getfield 15, 3) := by decide +kernel
theorem dX1_become_25 : decode cX1_become 25 = .ok (.iload_n 2, 1) := by decide +kernel
theorem dX1_become_26 : decode cX1_become 26 = .ok (.iaload, 1) := by decide +kernel
theorem dX1_become_27 : decode cX1_become 27 = .ok (.iastore, 1) := by decide +kernel
theorem dX1_become_28 : decode cX1_become 28 = .ok (.aload_n 0, 1) := by decide +kernel
theorem dX1_become_29 : decode cX1_become 29 = .ok (.getfield 19, 3) := by decide +kernel
theorem dX1_become_32 : decode cX1_become 32 = .ok (.iload_n 2, 1) := by decide +kernel
theorem dX1_become_33 : decode cX1_become 33 = .ok (.aload_n 1, 1) := by decide +kernel
theorem dX1_become_34 : decode cX1_become 34 = .ok (.getfield 19, 3) := by decide +kernel
theorem dX1_become_37 : decode cX1_become 37 = .ok (.iload_n 2, 1) := by decide +kernel
theorem dX1_become_38 : decode cX1_become 38 = .ok (.iaload, 1) := by decide +kernel
theorem dX1_become_39 : decode cX1_become 39 = .ok (.iastore, 1) := by decide +kernel
theorem dX1_become_40 : decode cX1_become 40 = .ok (.aload_n 0, 1) := by decide +kernel
theorem dX1_become_41 : decode cX1_become 41 = .ok (.getfield 22, 3) := by decide +kernel
theorem dX1_become_44 : decode cX1_become 44 = .ok (.iload_n 2, 1) := by decide +kernel
theorem dX1_become_45 : decode cX1_become 45 = .ok (.aload_n 1, 1) := by decide +kernel
theorem dX1_become_46 : decode cX1_become 46 = .ok (.getfield 22, 3) := by decide +kernel
theorem dX1_become_49 : decode cX1_become 49 = .ok (.iload_n 2, 1) := by decide +kernel
theorem dX1_become_50 : decode cX1_become 50 = .ok (.iaload, 1) := by decide +kernel
theorem dX1_become_51 : decode cX1_become 51 = .ok (.iastore, 1) := by decide +kernel
theorem dX1_become_52 : decode cX1_become 52 = .ok (.aload_n 0, 1) := by decide +kernel
theorem dX1_become_53 : decode cX1_become 53 = .ok (.getfield 25, 3) := by decide +kernel
theorem dX1_become_56 : decode cX1_become 56 = .ok (.iload_n 2, 1) := by decide +kernel
theorem dX1_become_57 : decode cX1_become 57 = .ok (.aload_n 1, 1) := by decide +kernel
theorem dX1_become_58 : decode cX1_become 58 = .ok (.getfield 25, 3) := by decide +kernel
theorem dX1_become_61 : decode cX1_become 61 = .ok (.iload_n 2, 1) := by decide +kernel
theorem dX1_become_62 : decode cX1_become 62 = .ok (.iaload, 1) := by decide +kernel
theorem dX1_become_63 : decode cX1_become 63 = .ok (.iastore, 1) := by decide +kernel
theorem dX1_become_64 : decode cX1_become 64 = .ok (.aload_n 0, 1) := by decide +kernel
theorem dX1_become_65 : decode cX1_become 65 = .ok (.getfield 28, 3) := by decide +kernel
theorem dX1_become_68 : decode cX1_become 68 = .ok (.iload_n 2, 1) := by decide +kernel
theorem dX1_become_69 : decode cX1_become 69 = .ok (.aload_n 1, 1) := by decide +kernel
theorem dX1_become_70 : decode cX1_become 70 = .ok (.getfield 28, 3) := by decide +kernel
theorem dX1_become_73 : decode cX1_become 73 = .ok (.iload_n 2, 1) := by decide +kernel
theorem dX1_become_74 : decode cX1_become 74 = .ok (.iaload, 1) := by decide +kernel
theorem dX1_become_75 : decode cX1_become 75 = .ok (.iastore, 1) := by decide +kernel
theorem dX1_become_76 : decode cX1_become 76 = .ok (.iinc 2 1, 3) := by decide +kernel
theorem dX1_become_79 : decode cX1_become 79 = .ok (.goto (-69), 3) := by decide +kernel
theorem dX1_become_82 : decode cX1_become 82 = .ok (.return_, 1) := by decide +kernel
theorem dX1_isOne_0 : decode cX1_isOne 0 = .ok (.iload_n 1, 1) := by decide +kernel
theorem dX1_isOne_1 : decode cX1_isOne 1 = .ok (.ifCond .lt 21, 3) := by decide +kernel
theorem dX1_isOne_4 : decode cX1_isOne 4 = .ok (.iload_n 1, 1) := by decide +kernel
theorem dX1_isOne_5 : decode cX1_isOne 5 = .ok (.aload_n 0, 1) := by decide +kernel
theorem dX1_isOne_6 : decode cX1_isOne 6 = .ok (.getfield 9, 3) := by decide +kernel
theorem dX1_isOne_9 : decode cX1_isOne 9 = .ok (.if_icmp .ge 13, 3) := by decide +kernel
theorem dX1_isOne_12 : decode cX1_isOne 12 = .ok (.iload_n 1, 1) := by decide +kernel
theorem dX1_isOne_13 : decode cX1_isOne 13 = .ok (.bipush 6, 2) := by decide +kernel
theorem dX1_isOne_15 : decode cX1_isOne 15 = .ok (.if_icmp .ge 7, 3) := by decide +kernel
theorem dX1_isOne_18 : decode cX1_isOne 18 = .ok (.iconst 1, 1) := by decide +kernel
theorem dX1_isOne_19 : decode cX1_isOne 19 = .ok (.goto 4, 3) := by decide +kernel
theorem dX1_isOne_22 : decode cX1_isOne 22 = .ok (.iconst 0, 1) := by decide +kernel
theorem dX1_isOne_23 : decode cX1_isOne 23 = .ok (.ireturn, 1) := by decide +kernel
theorem dX1_add_0 : decode cX1_add 0 = .ok (.aload_n 0, 1) := by decide +kernel
theorem dX1_add_1 : decode cX1_add 1 = .ok (.getfield 9, 3) := by decide +kernel
theorem dX1_add_4 : decode cX1_add 4 = .ok (.ifCond .lt 74, 3) := by decide +kernel
theorem dX1_add_7 : decode cX1_add 7 = .ok (.aload_n 0, 1) := by decide +kernel
theorem dX1_add_8 : decode cX1_add 8 = .ok (.getfield 9, 3) := by decide +kernel
theorem dX1_add_11 : decode cX1_add 11 = .ok (.bipush 6, 2) := by decide +kernel
theorem dX1_add_13 : decode cX1_add 13 = .ok (.if_icmp .ge 65, 3) := by decide +kernel
theorem dX1_add_16 : decode cX1_add 16 = .ok (.aload_n 0, 1) := by decide +kernel
theorem dX1_add_17 : decode cX1_add 17 = .ok (.getfield 15, 3) := by decide +kernel
theorem dX1_add_20 : decode cX1_add 20 = .ok (.aload_n 0, 1) := by decide +kernel
theorem dX1_add_21 : decode cX1_add 21 = .ok (.getfield 9, 3) := by decide +kernel
theorem dX1_add_24 : decode cX1_add 24 = .ok (.iload_n 1, 1) := by decide +kernel
theorem dX1_add_25 : decode cX1_add 25 = .ok (.iastore, 1) := by decide +kernel
theorem dX1_add_26 : decode cX1_add 26 = .ok (.aload_n 0, 1) := by decide +kernel
theorem dX1_add_27 : decode cX1_add 27 = .ok (.getfield 19, 3) := by decide +kernel
theorem dX1_add_30 : decode cX1_add 30 = .ok (.aload_n 0, 1) := by decide +kernel
theorem dX1_add_31 : decode cX1_add 31 = .ok (.getfield 9, 3) := by decide +kernel
theorem dX1_add_34 : decode cX1_add 34 = .ok (.iload_n 2, 1) := by decide +kernel
theorem dX1_add_35 : decode cX1_add 35 = .ok (.iastore, 1) := by decide +kernel
theorem dX1_add_36 : decode cX1_add 36 = .ok (.aload_n 0, 1) := by decide +kernel
theorem dX1_add_37 : decode cX1_add 37 = .ok (.getfield 22, 3) := by decide +kernel
theorem dX1_add_40 : decode cX1_add 40 = .ok (.aload_n 0, 1) := by decide +kernel
theorem dX1_add_41 : decode cX1_add 41 = .ok (.getfield 9, 3) := by decide +kernel
theorem dX1_add_44 : decode cX1_add 44 = .ok (.iload_n 3, 1) := by decide +kernel
theorem dX1_add_45 : decode cX1_add 45 = .ok (.iastore, 1) := by decide +kernel
theorem dX1_add_46 : decode cX1_add 46 = .ok (.aload_n 0, 1) := by decide +kernel
theorem dX1_add_47 : decode cX1_add 47 = .ok (.getfield 25, 3) := by decide +kernel
theorem dX1_add_50 : decode cX1_add 50 = .ok (.aload_n 0, 1) := by decide +kernel
theorem dX1_add_51 : decode cX1_add 51 = .ok (.getfield 9, 3) := by decide +kernel
theorem dX1_add_54 : decode cX1_add 54 = .ok (.iload 4, 2) := by decide +kernel
theorem dX1_add_56 : decode cX1_add 56 = .ok (.iastore, 1) := by decide +kernel
theorem dX1_add_57 : decode cX1_add 57 = .ok (.aload_n 0, 1) := by decide +kernel
theorem dX1_add_58 : decode cX1_add 58 = .ok (.getfield 28, 3) := by decide +kernel
theorem dX1_add_61 : decode cX1_add 61 = .ok (.aload_n 0, 1) := by decide +kernel
theorem dX1_add_62 : decode cX1_add 62 = .ok (.getfield 9, 3) := by decide +kernel
theorem dX1_add_65 : decode cX1_add 65 = .ok (.iload 5, 2) := by decide +kernel
theorem dX1_add_67 : decode cX1_add 67 = .ok (.iastore, 1) := by decide +kernel
theorem dX1_add_68 : decode cX1_add 68 = .ok (.aload_n 0, 1) := by decide +kernel
theorem dX1_add_69 : decode cX1_add 69 = .ok (.dup, 1) := by decide +kernel
theorem dX1_add_70 : decode cX1_add 70 = .ok (.getfield 9, 3) := by decide +kernel
theorem dX1_add_73 : decode cX1_add 73 = .ok (.iconst 1, 1) := by decide +kernel
theorem dX1_add_74 : decode cX1_add 74 = .ok (.iadd, 1) := by decide +kernel
theorem dX1_add_75 : decode cX1_add 75 = .ok (.putfield 9, 3) := by decide +kernel
theorem dX1_add_78 : decode cX1_add 78 = .ok (.return_, 1) := by decide +kernel
theorem dX1_move_0 : decode cX1_move 0 = .ok (.iload_n 1, 1) := by decide +kernel
theorem dX1_move_1 : decode cX1_move 1 = .ok (.ifCond .lt 78, 3) := by decide +kernel
theorem dX1_move_4 : decode cX1_move 4 = .ok (.iload_n 1, 1) := by decide +kernel
theorem dX1_move_5 : decode cX1_move 5 = .ok (.bipush 6, 2) := by decide +kernel
theorem dX1_move_7 : decode cX1_move 7 = .ok (.if_icmp .ge 72, 3) := by decide +kernel
theorem dX1_move_10 : decode cX1_move 10 = .ok (.iload_n 2, 1) := by decide +kernel
theorem dX1_move_11 : decode cX1_move 11 = .ok (.ifCond .lt 68, 3) := by decide +kernel
theorem dX1_move_14 : decode cX1_move 14 = .ok (.iload_n 2, 1) := by decide +kernel
theorem dX1_move_15 : decode cX1_move 15 = .ok (.iload_n 1, 1) := by decide +kernel
theorem dX1_move_16 : decode cX1_move 16 = .ok (.if_icmp .ge 63, 3) := by decide +kernel
theorem dX1_move_19 : decode cX1_move 19 = .ok (.aload_n 0, 1) := by decide +kernel
theorem dX1_move_20 : decode cX1_move 20 = .ok (.getfield 15, 3) := by decide +kernel
theorem dX1_move_23 : decode cX1_move 23 = .ok (.iload_n 2, 1) := by decide +kernel
theorem dX1_move_24 : decode cX1_move 24 = .ok (.aload_n 0, 1) := by decide +kernel
theorem dX1_move_25 : decode cX1_move 25 = .ok (.getfield 15, 3) := by decide +kernel
theorem dX1_move_28 : decode cX1_move 28 = .ok (.iload_n 1, 1) := by decide +kernel
theorem dX1_move_29 : decode cX1_move 29 = .ok (.iaload, 1) := by decide +kernel
theorem dX1_move_30 : decode cX1_move 30 = .ok (.iastore, 1) := by decide +kernel
theorem dX1_move_31 : decode cX1_move 31 = .ok (.aload_n 0, 1) := by decide +kernel
theorem dX1_move_32 : decode cX1_move 32 = .ok (.getfield 19, 3) := by decide +kernel
theorem dX1_move_35 : decode cX1_move 35 = .ok (.iload_n 2, 1) := by decide +kernel
theorem dX1_move_36 : decode cX1_move 36 = .ok (.aload_n 0, 1) := by decide +kernel
theorem dX1_move_37 : decode cX1_move 37 = .ok (.getfield 19, 3) := by decide +kernel
theorem dX1_move_40 : decode cX1_move 40 = .ok (.iload_n 1, 1) := by decide +kernel
theorem dX1_move_41 : decode cX1_move 41 = .ok (.iaload, 1) := by decide +kernel
theorem dX1_move_42 : decode cX1_move 42 = .ok (.iastore, 1) := by decide +kernel
theorem dX1_move_43 : decode cX1_move 43 = .ok (.aload_n 0, 1) := by decide +kernel
theorem dX1_move_44 : decode cX1_move 44 = .ok (.getfield 22, 3) := by decide +kernel
theorem dX1_move_47 : decode cX1_move 47 = .ok (.iload_n 2, 1) := by decide +kernel
theorem dX1_move_48 : decode cX1_move 48 = .ok (.aload_n 0, 1) := by decide +kernel
theorem dX1_move_49 : decode cX1_move 49 = .ok (.getfield 22, 3) := by decide +kernel
theorem dX1_move_52 : decode cX1_move 52 = .ok (.iload_n 1, 1) := by decide +kernel
theorem dX1_move_53 : decode cX1_move 53 = .ok (.iaload, 1) := by decide +kernel
theorem dX1_move_54 : decode cX1_move 54 = .ok (.iastore, 1) := by decide +kernel
theorem dX1_move_55 : decode cX1_move 55 = .ok (.aload_n 0, 1) := by decide +kernel
theorem dX1_move_56 : decode cX1_move 56 = .ok (.getfield 25, 3) := by decide +kernel
theorem dX1_move_59 : decode cX1_move 59 = .ok (.iload_n 2, 1) := by decide +kernel
theorem dX1_move_60 : decode cX1_move 60 = .ok (.aload_n 0, 1) := by decide +kernel
theorem dX1_move_61 : decode cX1_move 61 = .ok (.getfield 25, 3) := by decide +kernel
theorem dX1_move_64 : decode cX1_move 64 = .ok (.iload_n 1, 1) := by decide +kernel
theorem dX1_move_65 : decode cX1_move 65 = .ok (.iaload, 1) := by decide +kernel
theorem dX1_move_66 : decode cX1_move 66 = .ok (.iastore, 1) := by decide +kernel
theorem dX1_move_67 : decode cX1_move 67 = .ok (.aload_n 0, 1) := by decide +kernel
theorem dX1_move_68 : decode cX1_move 68 = .ok (.getfield 28, 3) := by decide +kernel
theorem dX1_move_71 : decode cX1_move 71 = .ok (.iload_n 2, 1) := by decide +kernel
theorem dX1_move_72 : decode cX1_move 72 = .ok (.aload_n 0, 1) := by decide +kernel
theorem dX1_move_73 : decode cX1_move 73 = .ok (.getfield 28, 3) := by decide +kernel
theorem dX1_move_76 : decode cX1_move 76 = .ok (.iload_n 1, 1) := by decide +kernel
theorem dX1_move_77 : decode cX1_move 77 = .ok (.iaload, 1) := by decide +kernel
theorem dX1_move_78 : decode cX1_move 78 = .ok (.iastore, 1) := by decide +kernel
theorem dX1_move_79 : decode cX1_move 79 = .ok (.return_, 1) := by decide +kernel
theorem dX1_dropGivenAfter_0 : decode cX1_dropGivenAfter 0 = .ok (.aload_n 0, 1) := by decide +kernel
theorem dX1_dropGivenAfter_1 : decode cX1_dropGivenAfter 1 = .ok (.getfield 9, 3) := by decide +kernel
theorem dX1_dropGivenAfter_4 : decode cX1_dropGivenAfter 4 = .ok (.istore_n 2, 1) := by decide +kernel
theorem dX1_dropGivenAfter_5 : decode cX1_dropGivenAfter 5 = .ok (.aload_n 0, 1) := by decide +kernel
theorem dX1_dropGivenAfter_6 : decode cX1_dropGivenAfter 6 = .ok (.getfield 9, 3) := by decide +kernel
theorem dX1_dropGivenAfter_9 : decode cX1_dropGivenAfter 9 = .ok (.ifCond .le 40, 3) := by decide +kernel
theorem dX1_dropGivenAfter_12 : decode cX1_dropGivenAfter 12 = .ok (.aload_n 0, 1) := by decide +kernel
theorem dX1_dropGivenAfter_13 : decode cX1_dropGivenAfter 13 = .ok (.getfield 9, 3) := by decide +kernel
theorem dX1_dropGivenAfter_16 : decode cX1_dropGivenAfter 16 = .ok (.bipush 6, 2) := by decide +kernel
theorem dX1_dropGivenAfter_18 : decode cX1_dropGivenAfter 18 = .ok (.if_icmp .gt 31, 3) := by decide +kernel
theorem dX1_dropGivenAfter_21 : decode cX1_dropGivenAfter 21 = .ok (.aload_n 0, 1) := by decide +kernel
theorem dX1_dropGivenAfter_22 : decode cX1_dropGivenAfter 22 = .ok (.getfield 28, 3) := by decide +kernel
theorem dX1_dropGivenAfter_25 : decode cX1_dropGivenAfter 25 = .ok (.aload_n 0, 1) := by decide +kernel
theorem dX1_dropGivenAfter_26 : decode cX1_dropGivenAfter 26 = .ok (.getfield 9, 3) := by decide +kernel
theorem dX1_dropGivenAfter_29 : decode cX1_dropGivenAfter 29 = .ok (.iconst 1, 1) := by decide +kernel
theorem dX1_dropGivenAfter_30 : decode cX1_dropGivenAfter 30 = .ok (.isub, 1) := by decide +kernel
theorem dX1_dropGivenAfter_31 : decode cX1_dropGivenAfter 31 = .ok (.iaload, 1) := by decide +kernel
theorem dX1_dropGivenAfter_32 : decode cX1_dropGivenAfter 32 = .ok (.iload_n 1, 1) := by decide +kernel
theorem dX1_dropGivenAfter_33 : decode cX1_dropGivenAfter 33 = .ok (.if_icmp .le 16, 3) := by decide +kernel
theorem dX1_dropGivenAfter_36 : decode cX1_dropGivenAfter 36 = .ok (.aload_n 0, 1) := by decide +kernel
theorem dX1_dropGivenAfter_37 : decode cX1_dropGivenAfter 37 = .ok (.dup, 1) := by decide +kernel
theorem dX1_dropGivenAfter_38 : decode cX1_dropGivenAfter 38 = .ok (.getfield 9, 3) := by decide +kernel
theorem dX1_dropGivenAfter_41 : decode cX1_dropGivenAfter 41 = .ok (.iconst 1, 1) := by decide +kernel
theorem dX1_dropGivenAfter_42 : decode cX1_dropGivenAfter 42 = .ok (.isub, 1) := by decide +kernel
theorem dX1_dropGivenAfter_43 : decode cX1_dropGivenAfter 43 = .ok (.putfield 9, 3) := by decide +kernel
theorem dX1_dropGivenAfter_46 : decode cX1_dropGivenAfter 46 = .ok (.goto (-41), 3) := by decide +kernel
theorem dX1_dropGivenAfter_49 : decode cX1_dropGivenAfter 49 = .ok (.iload_n 2, 1) := by decide +kernel
theorem dX1_dropGivenAfter_50 : decode cX1_dropGivenAfter 50 = .ok (.aload_n 0, 1) := by decide +kernel
theorem dX1_dropGivenAfter_51 : decode cX1_dropGivenAfter 51 = .ok (.getfield 9, 3) := by decide +kernel
theorem dX1_dropGivenAfter_54 : decode cX1_dropGivenAfter 54 = .ok (.isub, 1) := by decide +kernel
theorem dX1_dropGivenAfter_55 : decode cX1_dropGivenAfter 55 = .ok (.ireturn, 1) := by decide +kernel
theorem dX1_forgetFirstMark_0 : decode cX1_forgetFirstMark 0 = .ok (.iconst 0, 1) := by decide +kernel
theorem dX1_forgetFirstMark_1 : decode cX1_forgetFirstMark 1 = .ok (.istore_n 1, 1) := by decide +kernel
theorem dX1_forgetFirstMark_2 : decode cX1_forgetFirstMark 2 = .ok (.iload_n 1, 1) := by decide +kernel
theorem dX1_forgetFirstMark_3 : decode cX1_forgetFirstMark 3 = .ok (.aload_n 0, 1) := by decide +kernel
theorem dX1_forgetFirstMark_4 : decode cX1_forgetFirstMark 4 = .ok (.getfield 9, 3) := by decide +kernel
theorem dX1_forgetFirstMark_7 : decode cX1_forgetFirstMark 7 = .ok (.if_icmp .ge 34, 3) := by decide +kernel
theorem dX1_forgetFirstMark_10 : decode cX1_forgetFirstMark 10 = .ok (.iload_n 1, 1) := by decide +kernel
theorem dX1_forgetFirstMark_11 : decode cX1_forgetFirstMark 11 = .ok (.bipush 6, 2) := by decide +kernel
theorem dX1_forgetFirstMark_13 : decode cX1_forgetFirstMark 13 = .ok (.if_icmp .ge 28, 3) := by decide +kernel
theorem dX1_forgetFirstMark_16 : decode cX1_forgetFirstMark 16 = .ok (.aload_n 0, 1) := by decide +kernel
theorem dX1_forgetFirstMark_17 : decode cX1_forgetFirstMark 17 = .ok (.getfield 28, 3) := by decide +kernel
theorem dX1_forgetFirstMark_20 : decode cX1_forgetFirstMark 20 = .ok (.iload_n 1, 1) := by decide +kernel
theorem dX1_forgetFirstMark_21 : decode cX1_forgetFirstMark 21 = .ok (.iaload, 1) := by decide +kernel
theorem dX1_forgetFirstMark_22 : decode cX1_forgetFirstMark 22 = .ok (.ifCond .le 13, 3) := by decide +kernel
theorem dX1_forgetFirstMark_25 : decode cX1_forgetFirstMark 25 = .ok (.aload_n 0, 1) := by decide +kernel
theorem dX1_forgetFirstMark_26 : decode cX1_forgetFirstMark 26 = .ok (.getfield 28, 3) := by decide +kernel
theorem dX1_forgetFirstMark_29 : decode cX1_forgetFirstMark 29 = .ok (.iload_n 1, 1) := by decide +kernel
theorem dX1_forgetFirstMark_30 : decode cX1_forgetFirstMark 30 = .ok (.dup2, 1) := by decide +kernel
theorem dX1_forgetFirstMark_31 : decode cX1_forgetFirstMark 31 = .ok (.iaload, 1) := by decide +kernel
theorem dX1_forgetFirstMark_32 : decode cX1_forgetFirstMark 32 = .ok (.iconst 1, 1) := by decide +kernel
theorem dX1_forgetFirstMark_33 : decode cX1_forgetFirstMark 33 = .ok (.isub, 1) := by decide +kernel
theorem dX1_forgetFirstMark_34 : decode cX1_forgetFirstMark 34 = .ok (.iastore, 1) := by decide +kernel
theorem dX1_forgetFirstMark_35 : decode cX1_forgetFirstMark 35 = .ok (.iinc 1 1, 3) := by decide +kernel
theorem dX1_forgetFirstMark_38 : decode cX1_forgetFirstMark 38 = .ok (.goto (-36), 3) := by decide +kernel
theorem dX1_forgetFirstMark_41 : decode cX1_forgetFirstMark 41 = .ok (.return_, 1) := by decide +kernel
theorem dX1_readersOf_0 : decode cX1_readersOf 0 = .ok (.iconst 0, 1) := by decide +kernel
theorem dX1_readersOf_1 : decode cX1_readersOf 1 = .ok (.istore_n 2, 1) := by decide +kernel
theorem dX1_readersOf_2 : decode cX1_readersOf 2 = .ok (.iconst 0, 1) := by decide +kernel
theorem dX1_readersOf_3 : decode cX1_readersOf 3 = .ok (.istore_n 3, 1) := by decide +kernel
theorem dX1_readersOf_4 : decode cX1_readersOf 4 = .ok (.iload_n 3, 1) := by decide +kernel
theorem dX1_readersOf_5 : decode cX1_readersOf 5 = .ok (.aload_n 0, 1) := by decide +kernel
theorem dX1_readersOf_6 : decode cX1_readersOf 6 = .ok (.getfield 9, 3) := by decide +kernel
theorem dX1_readersOf_9 : decode cX1_readersOf 9 = .ok (.if_icmp .ge 38, 3) := by decide +kernel
theorem dX1_readersOf_12 : decode cX1_readersOf 12 = .ok (.iload_n 3, 1) := by decide +kernel
theorem dX1_readersOf_13 : decode cX1_readersOf 13 = .ok (.bipush 6, 2) := by decide +kernel
theorem dX1_readersOf_15 : decode cX1_readersOf 15 = .ok (.if_icmp .ge 32, 3) := by decide +kernel
theorem dX1_readersOf_18 : decode cX1_readersOf 18 = .ok (.aload_n 0, 1) := by decide +kernel
theorem dX1_readersOf_19 : decode cX1_readersOf 19 = .ok (.getfield 22, 3) := by decide +kernel
theorem dX1_readersOf_22 : decode cX1_readersOf 22 = .ok (.iload_n 3, 1) := by decide +kernel
theorem dX1_readersOf_23 : decode cX1_readersOf 23 = .ok (.iaload, 1) := by decide +kernel
theorem dX1_readersOf_24 : decode cX1_readersOf 24 = .ok (.iload_n 1, 1) := by decide +kernel
theorem dX1_readersOf_25 : decode cX1_readersOf 25 = .ok (.if_icmp .eq 13, 3) := by decide +kernel
theorem dX1_readersOf_28 : decode cX1_readersOf 28 = .ok (.aload_n 0, 1) := by decide +kernel
theorem dX1_readersOf_29 : decode cX1_readersOf 29 = .ok (.getfield 25, 3) := by decide +kernel
theorem dX1_readersOf_32 : decode cX1_readersOf 32 = .ok (.iload_n 3, 1) := by decide +kernel
theorem dX1_readersOf_33 : decode cX1_readersOf 33 = .ok (.iaload, 1) := by decide +kernel
theorem dX1_readersOf_34 : decode cX1_readersOf 34 = .ok (.iload_n 1, 1) := by decide +kernel
theorem dX1_readersOf_35 : decode cX1_readersOf 35 = .ok (.if_icmp .ne 6, 3) := by decide +kernel
theorem dX1_readersOf_38 : decode cX1_readersOf 38 = .ok (.iinc 2 1, 3) := by decide +kernel
theorem dX1_readersOf_41 : decode cX1_readersOf 41 = .ok (.iinc 3 1, 3) := by decide +kernel
theorem dX1_readersOf_44 : decode cX1_readersOf 44 = .ok (.goto (-40), 3) := by decide +kernel
theorem dX1_readersOf_47 : decode cX1_readersOf 47 = .ok (.iload_n 2, 1) := by decide +kernel
theorem dX1_readersOf_48 : decode cX1_readersOf 48 = .ok (.ireturn, 1) := by decide +kernel
theorem dX1_makeFor_0 : decode cX1_makeFor 0 = .ok (.iconst 0, 1) := by decide +kernel
theorem dX1_makeFor_1 : decode cX1_makeFor 1 = .ok (.istore_n 2, 1) := by decide +kernel
theorem dX1_makeFor_2 : decode cX1_makeFor 2 = .ok (.iload_n 2, 1) := by decide +kernel
theorem dX1_makeFor_3 : decode cX1_makeFor 3 = .ok (.aload_n 0, 1) := by decide +kernel
theorem dX1_makeFor_4 : decode cX1_makeFor 4 = .ok (.getfield 9, 3) := by decide +kernel
theorem dX1_makeFor_7 : decode cX1_makeFor 7 = .ok (.if_icmp .ge 27, 3) := by decide +kernel
theorem dX1_makeFor_10 : decode cX1_makeFor 10 = .ok (.iload_n 2, 1) := by decide +kernel
theorem dX1_makeFor_11 : decode cX1_makeFor 11 = .ok (.bipush 6, 2) := by decide +kernel
theorem dX1_makeFor_13 : decode cX1_makeFor 13 = .ok (.if_icmp .ge 21, 3) := by decide +kernel
theorem dX1_makeFor_16 : decode cX1_makeFor 16 = .ok (.aload_n 0, 1) := by decide +kernel
theorem dX1_makeFor_17 : decode cX1_makeFor 17 = .ok (.getfield 19, 3) := by decide +kernel
theorem dX1_makeFor_20 : decode cX1_makeFor 20 = .ok (.iload_n 2, 1) := by decide +kernel
theorem dX1_makeFor_21 : decode cX1_makeFor 21 = .ok (.iaload, 1) := by decide +kernel
theorem dX1_makeFor_22 : decode cX1_makeFor 22 = .ok (.iload_n 1, 1) := by decide +kernel
theorem dX1_makeFor_23 : decode cX1_makeFor 23 = .ok (.if_icmp .ne 5, 3) := by decide +kernel
theorem dX1_makeFor_26 : decode cX1_makeFor 26 = .ok (.iconst 1, 1) := by decide +kernel
theorem dX1_makeFor_27 : decode cX1_makeFor 27 = .ok (.ireturn, 1) := by decide +kernel
theorem dX1_makeFor_28 : decode cX1_makeFor 28 = .ok (.iinc 2 1, 3) := by decide +kernel
theorem dX1_makeFor_31 : decode cX1_makeFor 31 = .ok (.goto (-29), 3) := by decide +kernel
theorem dX1_makeFor_34 : decode cX1_makeFor 34 = .ok (.iconst 0, 1) := by decide +kernel
theorem dX1_makeFor_35 : decode cX1_makeFor 35 = .ok (.ireturn, 1) := by decide +kernel
theorem dX3_init_0 : decode cX3_init 0 = .ok (.aload_n 0, 1) := by decide +kernel
theorem dX3_init_1 : decode cX3_init 1 = .ok (.invokespecial 3, 3) := by decide +kernel
theorem dX3_init_4 : decode cX3_init 4 = .ok (.aload_n 0, 1) := by decide +kernel
theorem dX3_init_5 : decode cX3_init 5 = .ok (.bipush 80, 2) := by decide +kernel
theorem dX3_init_7 : decode cX3_init 7 = .ok (.newarray .char, 2) := by decide +kernel
theorem dX3_init_9 : decode cX3_init 9 = .ok (.putfield 9, 3) := by decide +kernel
theorem dX3_init_12 : decode cX3_init 12 = .ok (.aload_n 0, 1) := by decide +kernel
theorem dX3_init_13 : decode cX3_init 13 = .ok (.iconst 0, 1) := by decide +kernel
theorem dX3_init_14 : decode cX3_init 14 = .ok (.putfield 15, 3) := by decide +kernel
theorem dX3_init_17 : decode cX3_init 17 = .ok (.aload_n 0, 1) := by decide +kernel
theorem dX3_init_18 : decode cX3_init 18 = .ok (.iconst 3, 1) := by decide +kernel
theorem dX3_init_19 : decode cX3_init 19 = .ok (.newarray .int, 2) := by decide +kernel
theorem dX3_init_21 : decode cX3_init 21 = .ok (.putfield 19, 3) := by decide +kernel
theorem dX3_init_24 : decode cX3_init 24 = .ok (.aload_n 0, 1) := by decide +kernel
theorem dX3_init_25 : decode cX3_init 25 = .ok (.iconst 0, 1) := by decide +kernel
theorem dX3_init_26 : decode cX3_init 26 = .ok (.putfield 23, 3) := by decide +kernel
theorem dX3_init_29 : decode cX3_init 29 = .ok (.return_, 1) := by decide +kernel
theorem dX3_append_0 : decode cX3_append 0 = .ok (.aload_n 0, 1) := by decide +kernel
theorem dX3_append_1 : decode cX3_append 1 = .ok (.getfield 15, 3) := by decide +kernel
theorem dX3_append_4 : decode cX3_append 4 = .ok (.ifCond .lt 12, 3) := by decide +kernel
theorem dX3_append_7 : decode cX3_append 7 = .ok (.aload_n 0, 1) := by decide +kernel
theorem dX3_append_8 : decode cX3_append 8 = .ok (.getfield 15, 3) := by decide +kernel
theorem dX3_append_11 : decode cX3_append 11 = .ok (.bipush 80, 2) := by decide +kernel
theorem dX3_append_13 : decode cX3_append 13 = .ok (.if_icmp .lt 6, 3) := by decide +kernel
theorem dX3_append_16 : decode cX3_append 16 = .ok (.bipush (-3), 2) := by decide +kernel
theorem dX3_append_18 : decode cX3_append 18 = .ok (.ireturn, 1) := by decide +kernel
theorem dX3_append_19 : decode cX3_append 19 = .ok (.aload_n 0, 1) := by decide +kernel
theorem dX3_append_20 : decode cX3_append 20 = .ok (.getfield 9, 3) := by decide +kernel
theorem dX3_append_23 : decode cX3_append 23 = .ok (.aload_n 0, 1) := by decide +kernel
theorem dX3_append_24 : decode cX3_append 24 = .ok (.getfield 15, 3) := by decide +kernel
theorem dX3_append_27 : decode cX3_append 27 = .ok (.iload_n 1, 1) := by decide +kernel
theorem dX3_append_28 : decode cX3_append 28 = .ok (.castore, 1) := by decide +kernel
theorem dX3_append_29 : decode cX3_append 29 = .ok (.aload_n 0, 1) := by decide +kernel
theorem dX3_append_30 : decode cX3_append 30 = .ok (.dup, 1) := by decide +kernel
theorem dX3_append_31 : decode cX3_append 31 = .ok (.getfield 15, 3) := by decide +kernel
theorem dX3_append_34 : decode cX3_append 34 = .ok (.iconst 1, 1) := by decide +kernel
theorem dX3_append_35 : decode cX3_append 35 = .ok (.iadd, 1) := by decide +kernel
theorem dX3_append_36 : decode cX3_append 36 = .ok (.putfield 15, 3) := by decide +kernel
theorem dX3_append_39 : decode cX3_append 39 = .ok (.aload_n 0, 1) := by decide +kernel
theorem dX3_append_40 : decode cX3_append 40 = .ok (.getfield 15, 3) := by decide +kernel
theorem dX3_append_43 : decode cX3_append 43 = .ok (.ireturn, 1) := by decide +kernel
theorem dX3_readCommand_0 : decode cX3_readCommand 0 = .ok (.iconst 0, 1) := by decide +kernel
theorem dX3_readCommand_1 : decode cX3_readCommand 1 = .ok (.istore_n 2, 1) := by decide +kernel
theorem dX3_readCommand_2 : decode cX3_readCommand 2 = .ok (.iload_n 2, 1) := by decide +kernel
theorem dX3_readCommand_3 : decode cX3_readCommand 3 = .ok (.bipush 9, 2) := by decide +kernel
theorem dX3_readCommand_5 : decode cX3_readCommand 5 = .ok (.if_icmp .ge 23, 3) := by decide +kernel
theorem dX3_readCommand_8 : decode cX3_readCommand 8 = .ok (.aload_n 0, 1) := by decide +kernel
theorem dX3_readCommand_9 : decode cX3_readCommand 9 = .ok (.iload_n 2, 1) := by decide +kernel
theorem dX3_readCommand_10 : decode cX3_readCommand 10 = .ok (.invokestatic 26, 3) := by decide +kernel
theorem dX3_readCommand_13 : decode cX3_readCommand 13 = .ok (.iload_n 1, 1) := by decide +kernel
theorem dX3_readCommand_14 : decode cX3_readCommand 14 = .ok (.invokevirtual 30, 3) := by decide +kernel
theorem dX3_readCommand_17 : decode cX3_readCommand 17 = .ok (.ifCond .eq 5, 3) := by decide +kernel
theorem dX3_readCommand_20 : decode cX3_readCommand 20 = .ok (.iload_n 2, 1) := by decide +kernel
theorem dX3_readCommand_21 : decode cX3_readCommand 21 = .ok (.ireturn, 1) := by decide +kernel
theorem dX3_readCommand_22 : decode cX3_readCommand 22 = .ok (.iinc 2 1, 3) := by decide +kernel
theorem dX3_readCommand_25 : decode cX3_readCommand 25 = .ok (.goto (-23), 3) := by decide +kernel
theorem dX3_readCommand_28 : decode cX3_readCommand 28 = .ok (.iconst (-1), 1) := by decide +kernel
theorem dX3_readCommand_29 : decode cX3_readCommand 29 = .ok (.ireturn, 1) := by decide +kernel
theorem dX3_form_0 : decode cX3_form 0 = .ok (.iload_n 0, 1) := by decide +kernel
theorem dX3_form_1 : decode cX3_form 1 = .ok (.tableswitch 71 0 7 #[47, 50, 53, 56, 59, 62, 65, 68], 47) := by decide +kernel
theorem dX3_form_48 : decode cX3_form 48 = .ok (.ldc 34, 2) := by decide +kernel
theorem dX3_form_50 : decode cX3_form 50 = .ok (.areturn, 1) := by decide +kernel
theorem dX3_form_51 : decode cX3_form 51 = .ok (.ldc 36, 2) := by decide +kernel
theorem dX3_form_53 : decode cX3_form 53 = .ok (.areturn, 1) := by decide +kernel
theorem dX3_form_54 : decode cX3_form 54 = .ok (.ldc 38, 2) := by decide +kernel
theorem dX3_form_56 : decode cX3_form 56 = .ok (.areturn, 1) := by decide +kernel
theorem dX3_form_57 : decode cX3_form 57 = .ok (.ldc 40, 2) := by decide +kernel
theorem dX3_form_59 : decode cX3_form 59 = .ok (.areturn, 1) := by decide +kernel
theorem dX3_form_60 : decode cX3_form 60 = .ok (.ldc 42, 2) := by decide +kernel
theorem dX3_form_62 : decode cX3_form 62 = .ok (.areturn, 1) := by decide +kernel
theorem dX3_form_63 : decode cX3_form 63 = .ok (.ldc 44, 2) := by decide +kernel
theorem dX3_form_65 : decode cX3_form 65 = .ok (.areturn, 1) := by decide +kernel
theorem dX3_form_66 : decode cX3_form 66 = .ok (.ldc 46, 2) := by decide +kernel
theorem dX3_form_68 : decode cX3_form 68 = .ok (.areturn, 1) := by decide +kernel
theorem dX3_form_69 : decode cX3_form 69 = .ok (.ldc 48, 2) := by decide +kernel
theorem dX3_form_71 : decode cX3_form 71 = .ok (.areturn, 1) := by decide +kernel
theorem dX3_form_72 : decode cX3_form 72 = .ok (.ldc 50, 2) := by decide +kernel
theorem dX3_form_74 : decode cX3_form 74 = .ok (.areturn, 1) := by decide +kernel
theorem dX3_matches_0 : decode cX3_matches 0 = .ok (.iconst 0, 1) := by decide +kernel
theorem dX3_matches_1 : decode cX3_matches 1 = .ok (.istore_n 3, 1) := by decide +kernel
theorem dX3_matches_2 : decode cX3_matches 2 = .ok (.aload_n 0, 1) := by decide +kernel
theorem dX3_matches_3 : decode cX3_matches 3 = .ok (.iload_n 2, 1) := by decide +kernel
theorem dX3_matches_4 : decode cX3_matches 4 = .ok (.putfield 23, 3) := by decide +kernel
theorem dX3_matches_7 : decode cX3_matches 7 = .ok (.iconst 0, 1) := by decide +kernel
theorem dX3_matches_8 : decode cX3_matches 8 = .ok (.istore 4, 2) := by decide +kernel
theorem dX3_matches_10 : decode cX3_matches 10 = .ok (.iload 4, 2) := by decide +kernel
theorem dX3_matches_12 : decode cX3_matches 12 = .ok (.aload_n 1, 1) := by decide +kernel
theorem dX3_matches_13 : decode cX3_matches 13 = .ok (.invokevirtual 52, 3) := by decide +kernel
theorem dX3_matches_16 : decode cX3_matches 16 = .ok (.if_icmp .ge 106, 3) := by decide +kernel
theorem dX3_matches_19 : decode cX3_matches 19 = .ok (.aload_n 1, 1) := by decide +kernel
theorem dX3_matches_20 : decode cX3_matches 20 = .ok (.iload 4, 2) := by decide +kernel
theorem dX3_matches_22 : decode cX3_matches 22 = .ok (.invokevirtual 57, 3) := by decide +kernel
theorem dX3_matches_25 : decode cX3_matches 25 = .ok (.istore 5, 2) := by decide +kernel
theorem dX3_matches_27 : decode cX3_matches 27 = .ok (.iload 5, 2) := by decide +kernel
theorem dX3_matches_29 : decode cX3_matches 29 = .ok (.bipush 64, 2) := by decide +kernel
theorem dX3_matches_31 : decode cX3_matches 31 = .ok (.if_icmp .eq 10, 3) := by decide +kernel
theorem dX3_matches_34 : decode cX3_matches 34 = .ok (.iload 5, 2) := by decide +kernel
theorem dX3_matches_36 : decode cX3_matches 36 = .ok (.bipush 35, 2) := by decide +kernel
theorem dX3_matches_38 : decode cX3_matches 38 = .ok (.if_icmp .ne 50, 3) := by decide +kernel
theorem dX3_matches_41 : decode cX3_matches 41 = .ok (.iload 5, 2) := by decide +kernel
theorem dX3_matches_43 : decode cX3_matches 43 = .ok (.bipush 64, 2) := by decide +kernel
theorem dX3_matches_45 : decode cX3_matches 45 = .ok (.if_icmp .ne 10, 3) := by decide +kernel
theorem dX3_matches_48 : decode cX3_matches 48 = .ok (.aload_n 0, 1) := by decide +kernel
theorem dX3_matches_49 : decode cX3_matches 49 = .ok (.invokevirtual 61, 3) := by decide +kernel
theorem dX3_matches_52 : decode cX3_matches 52 = .ok (.goto 7, 3) := by decide +kernel
theorem dX3_matches_55 : decode cX3_matches 55 = .ok (.aload_n 0, 1) := by decide +kernel
theorem dX3_matches_56 : decode cX3_matches 56 = .ok (.invokevirtual 64, 3) := by decide +kernel
theorem dX3_matches_59 : decode cX3_matches 59 = .ok (.istore 6, 2) := by decide +kernel
theorem dX3_matches_61 : decode cX3_matches 61 = .ok (.iload 6, 2) := by decide +kernel
theorem dX3_matches_63 : decode cX3_matches 63 = .ok (.iconst (-1), 1) := by decide +kernel
theorem dX3_matches_64 : decode cX3_matches 64 = .ok (.if_icmp .eq 8, 3) := by decide +kernel
theorem dX3_matches_67 : decode cX3_matches 67 = .ok (.iload_n 3, 1) := by decide +kernel
theorem dX3_matches_68 : decode cX3_matches 68 = .ok (.iconst 3, 1) := by decide +kernel
theorem dX3_matches_69 : decode cX3_matches 69 = .ok (.if_icmp .lt 5, 3) := by decide +kernel
theorem dX3_matches_72 : decode cX3_matches 72 = .ok (.iconst 0, 1) := by decide +kernel
theorem dX3_matches_73 : decode cX3_matches 73 = .ok (.ireturn, 1) := by decide +kernel
theorem dX3_matches_74 : decode cX3_matches 74 = .ok (.aload_n 0, 1) := by decide +kernel
theorem dX3_matches_75 : decode cX3_matches 75 = .ok (.getfield 19, 3) := by decide +kernel
theorem dX3_matches_78 : decode cX3_matches 78 = .ok (.iload_n 3, 1) := by decide +kernel
theorem dX3_matches_79 : decode cX3_matches 79 = .ok (.iload 6, 2) := by decide +kernel
theorem dX3_matches_81 : decode cX3_matches 81 = .ok (.iastore, 1) := by decide +kernel
theorem dX3_matches_82 : decode cX3_matches 82 = .ok (.iinc 3 1, 3) := by decide +kernel
theorem dX3_matches_85 : decode cX3_matches 85 = .ok (.goto 31, 3) := by decide +kernel
theorem dX3_matches_88 : decode cX3_matches 88 = .ok (.aload_n 0, 1) := by decide +kernel
theorem dX3_matches_89 : decode cX3_matches 89 = .ok (.aload_n 0, 1) := by decide +kernel
theorem dX3_matches_90 : decode cX3_matches 90 = .ok (.getfield 23, 3) := by decide +kernel
theorem dX3_matches_93 : decode cX3_matches 93 = .ok (.invokevirtual 67, 3) := by decide +kernel
theorem dX3_matches_96 : decode cX3_matches 96 = .ok (.iload 5, 2) := by decide +kernel
theorem dX3_matches_98 : decode cX3_matches 98 = .ok (.if_icmp .ne 16, 3) := by decide +kernel
theorem dX3_matches_101 : decode cX3_matches 101 = .ok (.aload_n 0, 1) := by decide +kernel
theorem dX3_matches_102 : decode cX3_matches 102 = .ok (.dup, 1) := by decide +kernel
theorem dX3_matches_103 : decode cX3_matches 103 = .ok (.getfield 23, 3) := by decide +kernel
theorem dX3_matches_106 : decode cX3_matches 106 = .ok (.iconst 1, 1) := by decide +kernel
theorem dX3_matches_107 : decode cX3_matches 107 = .ok (.iadd, 1) := by decide +kernel
theorem dX3_matches_108 : decode cX3_matches 108 = .ok (.putfield 23, 3) := by decide +kernel
theorem dX3_matches_111 : decode cX3_matches 111 = .ok (.goto 5, 3) := by decide +kernel
theorem dX3_matches_114 : decode cX3_matches 114 = .ok (.iconst 0, 1) := by decide +kernel
theorem dX3_matches_115 : decode cX3_matches 115 = .ok (.ireturn, 1) := by decide +kernel
theorem dX3_matches_116 : decode cX3_matches 116 = .ok (.iinc 4 1, 3) := by decide +kernel
theorem dX3_matches_119 : decode cX3_matches 119 = .ok (.goto (-109), 3) := by decide +kernel
theorem dX3_matches_122 : decode cX3_matches 122 = .ok (.iconst 1, 1) := by decide +kernel
theorem dX3_matches_123 : decode cX3_matches 123 = .ok (.ireturn, 1) := by decide +kernel
theorem dX3_readName_0 : decode cX3_readName 0 = .ok (.aload_n 0, 1) := by decide +kernel
theorem dX3_readName_1 : decode cX3_readName 1 = .ok (.aload_n 0, 1) := by decide +kernel
theorem dX3_readName_2 : decode cX3_readName 2 = .ok (.getfield 23, 3) := by decide +kernel
theorem dX3_readName_5 : decode cX3_readName 5 = .ok (.invokevirtual 67, 3) := by decide +kernel
theorem dX3_readName_8 : decode cX3_readName 8 = .ok (.istore_n 1, 1) := by decide +kernel
theorem dX3_readName_9 : decode cX3_readName 9 = .ok (.iload_n 1, 1) := by decide +kernel
theorem dX3_readName_10 : decode cX3_readName 10 = .ok (.bipush 97, 2) := by decide +kernel
theorem dX3_readName_12 : decode cX3_readName 12 = .ok (.bipush 104, 2) := by decide +kernel
theorem dX3_readName_14 : decode cX3_readName 14 = .ok (.invokestatic 71, 3) := by decide +kernel
theorem dX3_readName_17 : decode cX3_readName 17 = .ok (.ifCond .ne 5, 3) := by decide +kernel
theorem dX3_readName_20 : decode cX3_readName 20 = .ok (.iconst (-1), 1) := by decide +kernel
theorem dX3_readName_21 : decode cX3_readName 21 = .ok (.ireturn, 1) := by decide +kernel
theorem dX3_readName_22 : decode cX3_readName 22 = .ok (.aload_n 0, 1) := by decide +kernel
theorem dX3_readName_23 : decode cX3_readName 23 = .ok (.dup, 1) := by decide +kernel
theorem dX3_readName_24 : decode cX3_readName 24 = .ok (.getfield 23, 3) := by decide +kernel
theorem dX3_readName_27 : decode cX3_readName 27 = .ok (.iconst 1, 1) := by decide +kernel
theorem dX3_readName_28 : decode cX3_readName 28 = .ok (.iadd, 1) := by decide +kernel
theorem dX3_readName_29 : decode cX3_readName 29 = .ok (.putfield 23, 3) := by decide +kernel
theorem dX3_readName_32 : decode cX3_readName 32 = .ok (.iload_n 1, 1) := by decide +kernel
theorem dX3_readName_33 : decode cX3_readName 33 = .ok (.bipush 97, 2) := by decide +kernel
theorem dX3_readName_35 : decode cX3_readName 35 = .ok (.isub, 1) := by decide +kernel
theorem dX3_readName_36 : decode cX3_readName 36 = .ok (.ireturn, 1) := by decide +kernel
theorem dX3_readNumber_0 : decode cX3_readNumber 0 = .ok (.iconst 0, 1) := by decide +kernel
theorem dX3_readNumber_1 : decode cX3_readNumber 1 = .ok (.istore_n 1, 1) := by decide +kernel
theorem dX3_readNumber_2 : decode cX3_readNumber 2 = .ok (.iconst 0, 1) := by decide +kernel
theorem dX3_readNumber_3 : decode cX3_readNumber 3 = .ok (.istore_n 2, 1) := by decide +kernel
theorem dX3_readNumber_4 : decode cX3_readNumber 4 = .ok (.iload_n 2, 1) := by decide +kernel
theorem dX3_readNumber_5 : decode cX3_readNumber 5 = .ok (.iconst 4, 1) := by decide +kernel
theorem dX3_readNumber_6 : decode cX3_readNumber 6 = .ok (.if_icmp .ge 54, 3) := by decide +kernel
theorem dX3_readNumber_9 : decode cX3_readNumber 9 = .ok (.aload_n 0, 1) := by decide +kernel
theorem dX3_readNumber_10 : decode cX3_readNumber 10 = .ok (.aload_n 0, 1) := by decide +kernel
theorem dX3_readNumber_11 : decode cX3_readNumber 11 = .ok (.getfield 23, 3) := by decide +kernel
theorem dX3_readNumber_14 : decode cX3_readNumber 14 = .ok (.invokevirtual 67, 3) := by decide +kernel
theorem dX3_readNumber_17 : decode cX3_readNumber 17 = .ok (.bipush 48, 2) := by decide +kernel
theorem dX3_readNumber_19 : decode cX3_readNumber 19 = .ok (.bipush 57, 2) := by decide +kernel
theorem dX3_readNumber_21 : decode cX3_readNumber 21 = .ok (.invokestatic 71, 3) := by decide +kernel
theorem dX3_readNumber_24 : decode cX3_readNumber 24 = .ok (.ifCond .eq 36, 3) := by decide +kernel
theorem dX3_readNumber_27 : decode cX3_readNumber 27 = .ok (.iload_n 1, 1) := by decide +kernel
theorem dX3_readNumber_28 : decode cX3_readNumber 28 = .ok (.bipush 10, 2) := by decide +kernel
theorem dX3_readNumber_30 : decode cX3_readNumber 30 = .ok (.imul, 1) := by decide +kernel
theorem dX3_readNumber_31 : decode cX3_readNumber 31 = .ok (.aload_n 0, 1) := by decide +kernel
theorem dX3_readNumber_32 : decode cX3_readNumber 32 = .ok (.aload_n 0, 1) := by decide +kernel
theorem dX3_readNumber_33 : decode cX3_readNumber 33 = .ok (.getfield 23, 3) := by decide +kernel
theorem dX3_readNumber_36 : decode cX3_readNumber 36 = .ok (.invokevirtual 67, 3) := by decide +kernel
theorem dX3_readNumber_39 : decode cX3_readNumber 39 = .ok (.iadd, 1) := by decide +kernel
theorem dX3_readNumber_40 : decode cX3_readNumber 40 = .ok (.bipush 48, 2) := by decide +kernel
theorem dX3_readNumber_42 : decode cX3_readNumber 42 = .ok (.isub, 1) := by decide +kernel
theorem dX3_readNumber_43 : decode cX3_readNumber 43 = .ok (.istore_n 1, 1) := by decide +kernel
theorem dX3_readNumber_44 : decode cX3_readNumber 44 = .ok (.iinc 2 1, 3) := by decide +kernel
theorem dX3_readNumber_47 : decode cX3_readNumber 47 = .ok (.aload_n 0, 1) := by decide +kernel
theorem dX3_readNumber_48 : decode cX3_readNumber 48 = .ok (.dup, 1) := by decide +kernel
theorem dX3_readNumber_49 : decode cX3_readNumber 49 = .ok (.getfield 23, 3) := by decide +kernel
theorem dX3_readNumber_52 : decode cX3_readNumber 52 = .ok (.iconst 1, 1) := by decide +kernel
theorem dX3_readNumber_53 : decode cX3_readNumber 53 = .ok (.iadd, 1) := by decide +kernel
theorem dX3_readNumber_54 : decode cX3_readNumber 54 = .ok (.putfield 23, 3) := by decide +kernel
theorem dX3_readNumber_57 : decode cX3_readNumber 57 = .ok (.goto (-53), 3) := by decide +kernel
theorem dX3_readNumber_60 : decode cX3_readNumber 60 = .ok (.iload_n 2, 1) := by decide +kernel
theorem dX3_readNumber_61 : decode cX3_readNumber 61 = .ok (.ifCond .ne 7, 3) := by decide +kernel
theorem dX3_readNumber_64 : decode cX3_readNumber 64 = .ok (.iconst (-1), 1) := by decide +kernel
theorem dX3_readNumber_65 : decode cX3_readNumber 65 = .ok (.goto 4, 3) := by decide +kernel
theorem dX3_readNumber_68 : decode cX3_readNumber 68 = .ok (.iload_n 1, 1) := by decide +kernel
theorem dX3_readNumber_69 : decode cX3_readNumber 69 = .ok (.ireturn, 1) := by decide +kernel
theorem dX3_signAt_0 : decode cX3_signAt 0 = .ok (.iload_n 1, 1) := by decide +kernel
theorem dX3_signAt_1 : decode cX3_signAt 1 = .ok (.ifCond .lt 26, 3) := by decide +kernel
theorem dX3_signAt_4 : decode cX3_signAt 4 = .ok (.iload_n 1, 1) := by decide +kernel
theorem dX3_signAt_5 : decode cX3_signAt 5 = .ok (.aload_n 0, 1) := by decide +kernel
theorem dX3_signAt_6 : decode cX3_signAt 6 = .ok (.getfield 15, 3) := by decide +kernel
theorem dX3_signAt_9 : decode cX3_signAt 9 = .ok (.if_icmp .ge 18, 3) := by decide +kernel
theorem dX3_signAt_12 : decode cX3_signAt 12 = .ok (.iload_n 1, 1) := by decide +kernel
theorem dX3_signAt_13 : decode cX3_signAt 13 = .ok (.bipush 80, 2) := by decide +kernel
theorem dX3_signAt_15 : decode cX3_signAt 15 = .ok (.if_icmp .ge 12, 3) := by decide +kernel
theorem dX3_signAt_18 : decode cX3_signAt 18 = .ok (.aload_n 0, 1) := by decide +kernel
theorem dX3_signAt_19 : decode cX3_signAt 19 = .ok (.getfield 9, 3) := by decide +kernel
theorem dX3_signAt_22 : decode cX3_signAt 22 = .ok (.iload_n 1, 1) := by decide +kernel
theorem dX3_signAt_23 : decode cX3_signAt 23 = .ok (.caload, 1) := by decide +kernel
theorem dX3_signAt_24 : decode cX3_signAt 24 = .ok (.goto 4, 3) := by decide +kernel
theorem dX3_signAt_27 : decode cX3_signAt 27 = .ok (.iconst (-1), 1) := by decide +kernel
theorem dX3_signAt_28 : decode cX3_signAt 28 = .ok (.ireturn, 1) := by decide +kernel
theorem dX4_init_0 : decode cX4_init 0 = .ok (.aload_n 0, 1) := by decide +kernel
theorem dX4_init_1 : decode cX4_init 1 = .ok (.invokespecial 3, 3) := by decide +kernel
theorem dX4_init_4 : decode cX4_init 4 = .ok (.aload_n 0, 1) := by decide +kernel
theorem dX4_init_5 : decode cX4_init 5 = .ok (.bipush 7, 2) := by decide +kernel
theorem dX4_init_7 : decode cX4_init 7 = .ok (.newarray .int, 2) := by decide +kernel
theorem dX4_init_9 : decode cX4_init 9 = .ok (.putfield 9, 3) := by decide +kernel
theorem dX4_init_12 : decode cX4_init 12 = .ok (.aload_n 0, 1) := by decide +kernel
theorem dX4_init_13 : decode cX4_init 13 = .ok (.bipush 7, 2) := by decide +kernel
theorem dX4_init_15 : decode cX4_init 15 = .ok (.newarray .int, 2) := by decide +kernel
theorem dX4_init_17 : decode cX4_init 17 = .ok (.putfield 15, 3) := by decide +kernel
theorem dX4_init_20 : decode cX4_init 20 = .ok (.aload_n 0, 1) := by decide +kernel
theorem dX4_init_21 : decode cX4_init 21 = .ok (.bipush 7, 2) := by decide +kernel
theorem dX4_init_23 : decode cX4_init 23 = .ok (.newarray .int, 2) := by decide +kernel
theorem dX4_init_25 : decode cX4_init 25 = .ok (.putfield 18, 3) := by decide +kernel
theorem dX4_init_28 : decode cX4_init 28 = .ok (.return_, 1) := by decide +kernel
theorem dX4_become_0 : decode cX4_become 0 = .ok (.iconst 0, 1) := by decide +kernel
theorem dX4_become_1 : decode cX4_become 1 = .ok (.istore_n 2, 1) := by decide +kernel
theorem dX4_become_2 : decode cX4_become 2 = .ok (.iload_n 2, 1) := by decide +kernel
theorem dX4_become_3 : decode cX4_become 3 = .ok (.bipush 7, 2) := by decide +kernel
theorem dX4_become_5 : decode cX4_become 5 = .ok (.if_icmp .ge 45, 3) := by decide +kernel
theorem dX4_become_8 : decode cX4_become 8 = .ok (.aload_n 0, 1) := by decide +kernel
theorem dX4_become_9 : decode cX4_become 9 = .ok (.getfield 9, 3) := by decide +kernel
theorem dX4_become_12 : decode cX4_become 12 = .ok (.iload_n 2, 1) := by decide +kernel
theorem dX4_become_13 : decode cX4_become 13 = .ok (.aload_n 1, 1) := by decide +kernel
theorem dX4_become_14 : decode cX4_become 14 = .ok (.getfield 9, 3) := by decide +kernel
theorem dX4_become_17 : decode cX4_become 17 = .ok (.iload_n 2, 1) := by decide +kernel
theorem dX4_become_18 : decode cX4_become 18 = .ok (.iaload, 1) := by decide +kernel
theorem dX4_become_19 : decode cX4_become 19 = .ok (.iastore, 1) := by decide +kernel
theorem dX4_become_20 : decode cX4_become 20 = .ok (.aload_n 0, 1) := by decide +kernel
theorem dX4_become_21 : decode cX4_become 21 = .ok (.getfield 15, 3) := by decide +kernel
theorem dX4_become_24 : decode cX4_become 24 = .ok (.iload_n 2, 1) := by decide +kernel
theorem dX4_become_25 : decode cX4_become 25 = .ok (.aload_n 1, 1) := by decide +kernel
theorem dX4_become_26 : decode cX4_become 26 = .ok (.getfield 15, 3) := by decide +kernel
theorem dX4_become_29 : decode cX4_become 29 = .ok (.iload_n 2, 1) := by decide +kernel
theorem dX4_become_30 : decode cX4_become 30 = .ok (.iaload, 1) := by decide +kernel
theorem dX4_become_31 : decode cX4_become 31 = .ok (.iastore, 1) := by decide +kernel
theorem dX4_become_32 : decode cX4_become 32 = .ok (.aload_n 0, 1) := by decide +kernel
theorem dX4_become_33 : decode cX4_become 33 = .ok (.getfield 18, 3) := by decide +kernel
theorem dX4_become_36 : decode cX4_become 36 = .ok (.iload_n 2, 1) := by decide +kernel
theorem dX4_become_37 : decode cX4_become 37 = .ok (.aload_n 1, 1) := by decide +kernel
theorem dX4_become_38 : decode cX4_become 38 = .ok (.getfield 18, 3) := by decide +kernel
theorem dX4_become_41 : decode cX4_become 41 = .ok (.iload_n 2, 1) := by decide +kernel
theorem dX4_become_42 : decode cX4_become 42 = .ok (.iaload, 1) := by decide +kernel
theorem dX4_become_43 : decode cX4_become 43 = .ok (.iastore, 1) := by decide +kernel
theorem dX4_become_44 : decode cX4_become 44 = .ok (.iinc 2 1, 3) := by decide +kernel
theorem dX4_become_47 : decode cX4_become 47 = .ok (.goto (-45), 3) := by decide +kernel
theorem dX4_become_50 : decode cX4_become 50 = .ok (.return_, 1) := by decide +kernel
theorem dX4_place_0 : decode cX4_place 0 = .ok (.iload_n 1, 1) := by decide +kernel
theorem dX4_place_1 : decode cX4_place 1 = .ok (.ifCond .lt 31, 3) := by decide +kernel
theorem dX4_place_4 : decode cX4_place 4 = .ok (.iload_n 1, 1) := by decide +kernel
theorem dX4_place_5 : decode cX4_place 5 = .ok (.bipush 7, 2) := by decide +kernel
theorem dX4_place_7 : decode cX4_place 7 = .ok (.if_icmp .ge 25, 3) := by decide +kernel
theorem dX4_place_10 : decode cX4_place 10 = .ok (.aload_n 0, 1) := by decide +kernel
theorem dX4_place_11 : decode cX4_place 11 = .ok (.getfield 9, 3) := by decide +kernel
theorem dX4_place_14 : decode cX4_place 14 = .ok (.iload_n 1, 1) := by decide +kernel
theorem dX4_place_15 : decode cX4_place 15 = .ok (.iload_n 2, 1) := by decide +kernel
theorem dX4_place_16 : decode cX4_place 16 = .ok (.iastore, 1) := by decide +kernel
theorem dX4_place_17 : decode cX4_place 17 = .ok (.aload_n 0, 1) := by decide +kernel
theorem dX4_place_18 : decode cX4_place 18 = .ok (.getfield 15, 3) := by decide +kernel
theorem dX4_place_21 : decode cX4_place 21 = .ok (.iload_n 1, 1) := by decide +kernel
theorem dX4_place_22 : decode cX4_place 22 = .ok (.iload_n 3, 1) := by decide +kernel
theorem dX4_place_23 : decode cX4_place 23 = .ok (.iastore, 1) := by decide +kernel
theorem dX4_place_24 : decode cX4_place 24 = .ok (.aload_n 0, 1) := by decide +kernel
theorem dX4_place_25 : decode cX4_place 25 = .ok (.getfield 18, 3) := by decide +kernel
theorem dX4_place_28 : decode cX4_place 28 = .ok (.iload_n 1, 1) := by decide +kernel
theorem dX4_place_29 : decode cX4_place 29 = .ok (.iload 4, 2) := by decide +kernel
theorem dX4_place_31 : decode cX4_place 31 = .ok (.iastore, 1) := by decide +kernel
theorem dX4_place_32 : decode cX4_place 32 = .ok (.return_, 1) := by decide +kernel
theorem dX4_use_0 : decode cX4_use 0 = .ok (.iload_n 1, 1) := by decide +kernel
theorem dX4_use_1 : decode cX4_use 1 = .ok (.ifCond .lt 16, 3) := by decide +kernel
theorem dX4_use_4 : decode cX4_use 4 = .ok (.iload_n 1, 1) := by decide +kernel
theorem dX4_use_5 : decode cX4_use 5 = .ok (.bipush 7, 2) := by decide +kernel
theorem dX4_use_7 : decode cX4_use 7 = .ok (.if_icmp .ge 10, 3) := by decide +kernel
theorem dX4_use_10 : decode cX4_use 10 = .ok (.aload_n 0, 1) := by decide +kernel
theorem dX4_use_11 : decode cX4_use 11 = .ok (.getfield 18, 3) := by decide +kernel
theorem dX4_use_14 : decode cX4_use 14 = .ok (.iload_n 1, 1) := by decide +kernel
theorem dX4_use_15 : decode cX4_use 15 = .ok (.iload_n 2, 1) := by decide +kernel
theorem dX4_use_16 : decode cX4_use 16 = .ok (.iastore, 1) := by decide +kernel
theorem dX4_use_17 : decode cX4_use 17 = .ok (.return_, 1) := by decide +kernel
theorem dX4_valueOn_0 : decode cX4_valueOn 0 = .ok (.iload_n 1, 1) := by decide +kernel
theorem dX4_valueOn_1 : decode cX4_valueOn 1 = .ok (.ifCond .lt 18, 3) := by decide +kernel
theorem dX4_valueOn_4 : decode cX4_valueOn 4 = .ok (.iload_n 1, 1) := by decide +kernel
theorem dX4_valueOn_5 : decode cX4_valueOn 5 = .ok (.bipush 7, 2) := by decide +kernel
theorem dX4_valueOn_7 : decode cX4_valueOn 7 = .ok (.if_icmp .ge 12, 3) := by decide +kernel
theorem dX4_valueOn_10 : decode cX4_valueOn 10 = .ok (.aload_n 0, 1) := by decide +kernel
theorem dX4_valueOn_11 : decode cX4_valueOn 11 = .ok (.getfield 9, 3) := by decide +kernel
theorem dX4_valueOn_14 : decode cX4_valueOn 14 = .ok (.iload_n 1, 1) := by decide +kernel
theorem dX4_valueOn_15 : decode cX4_valueOn 15 = .ok (.iaload, 1) := by decide +kernel
theorem dX4_valueOn_16 : decode cX4_valueOn 16 = .ok (.goto 4, 3) := by decide +kernel
theorem dX4_valueOn_19 : decode cX4_valueOn 19 = .ok (.iconst 0, 1) := by decide +kernel
theorem dX4_valueOn_20 : decode cX4_valueOn 20 = .ok (.ireturn, 1) := by decide +kernel
theorem dX4_knownTimeOf_0 : decode cX4_knownTimeOf 0 = .ok (.iload_n 1, 1) := by decide +kernel
theorem dX4_knownTimeOf_1 : decode cX4_knownTimeOf 1 = .ok (.ifCond .lt 18, 3) := by decide +kernel
theorem dX4_knownTimeOf_4 : decode cX4_knownTimeOf 4 = .ok (.iload_n 1, 1) := by decide +kernel
theorem dX4_knownTimeOf_5 : decode cX4_knownTimeOf 5 = .ok (.bipush 7, 2) := by decide +kernel
theorem dX4_knownTimeOf_7 : decode cX4_knownTimeOf 7 = .ok (.if_icmp .ge 12, 3) := by decide +kernel
theorem dX4_knownTimeOf_10 : decode cX4_knownTimeOf 10 = .ok (.aload_n 0, 1) := by decide +kernel
theorem dX4_knownTimeOf_11 : decode cX4_knownTimeOf 11 = .ok (.getfield 15, 3) := by decide +kernel
theorem dX4_knownTimeOf_14 : decode cX4_knownTimeOf 14 = .ok (.iload_n 1, 1) := by decide +kernel
theorem dX4_knownTimeOf_15 : decode cX4_knownTimeOf 15 = .ok (.iaload, 1) := by decide +kernel
theorem dX4_knownTimeOf_16 : decode cX4_knownTimeOf 16 = .ok (.goto 5, 3) := by decide +kernel
theorem dX4_knownTimeOf_19 : decode cX4_knownTimeOf 19 = .ok (.ldc 21, 2) := by decide +kernel
theorem dX4_knownTimeOf_21 : decode cX4_knownTimeOf 21 = .ok (.ireturn, 1) := by decide +kernel
theorem dX4_setKnownTime_0 : decode cX4_setKnownTime 0 = .ok (.iload_n 1, 1) := by decide +kernel
theorem dX4_setKnownTime_1 : decode cX4_setKnownTime 1 = .ok (.ifCond .lt 16, 3) := by decide +kernel
theorem dX4_setKnownTime_4 : decode cX4_setKnownTime 4 = .ok (.iload_n 1, 1) := by decide +kernel
theorem dX4_setKnownTime_5 : decode cX4_setKnownTime 5 = .ok (.bipush 7, 2) := by decide +kernel
theorem dX4_setKnownTime_7 : decode cX4_setKnownTime 7 = .ok (.if_icmp .ge 10, 3) := by decide +kernel
theorem dX4_setKnownTime_10 : decode cX4_setKnownTime 10 = .ok (.aload_n 0, 1) := by decide +kernel
theorem dX4_setKnownTime_11 : decode cX4_setKnownTime 11 = .ok (.getfield 15, 3) := by decide +kernel
theorem dX4_setKnownTime_14 : decode cX4_setKnownTime 14 = .ok (.iload_n 1, 1) := by decide +kernel
theorem dX4_setKnownTime_15 : decode cX4_setKnownTime 15 = .ok (.iload_n 2, 1) := by decide +kernel
theorem dX4_setKnownTime_16 : decode cX4_setKnownTime 16 = .ok (.iastore, 1) := by decide +kernel
theorem dX4_setKnownTime_17 : decode cX4_setKnownTime 17 = .ok (.return_, 1) := by decide +kernel
theorem dX5_init_0 : decode cX5_init 0 = .ok (.aload_n 0, 1) := by decide +kernel
theorem dX5_init_1 : decode cX5_init 1 = .ok (.invokespecial 1, 3) := by decide +kernel
theorem dX5_init_4 : decode cX5_init 4 = .ok (.aload_n 0, 1) := by decide +kernel
theorem dX5_init_5 : decode cX5_init 5 = .ok (.new 7, 3) := by decide +kernel
theorem dX5_init_8 : decode cX5_init 8 = .ok (.dup, 1) := by decide +kernel
theorem dX5_init_9 : decode cX5_init 9 = .ok (.invokespecial 9, 3) := by decide +kernel
theorem dX5_init_12 : decode cX5_init 12 = .ok (.putfield 10, 3) := by decide +kernel
theorem dX5_init_15 : decode cX5_init 15 = .ok (.aload_n 0, 1) := by decide +kernel
theorem dX5_init_16 : decode cX5_init 16 = .ok (.new 7, 3) := by decide +kernel
theorem dX5_init_19 : decode cX5_init 19 = .ok (.dup, 1) := by decide +kernel
theorem dX5_init_20 : decode cX5_init 20 = .ok (.invokespecial 9, 3) := by decide +kernel
theorem dX5_init_23 : decode cX5_init 23 = .ok (.putfield 16, 3) := by decide +kernel
theorem dX5_init_26 : decode cX5_init 26 = .ok (.aload_n 0, 1) := by decide +kernel
theorem dX5_init_27 : decode cX5_init 27 = .ok (.iconst 4, 1) := by decide +kernel
theorem dX5_init_28 : decode cX5_init 28 = .ok (.anewarray 7, 3) := by decide +kernel
theorem dX5_init_31 : decode cX5_init 31 = .ok (.putfield 19, 3) := by decide +kernel
theorem dX5_init_34 : decode cX5_init 34 = .ok (.aload_n 0, 1) := by decide +kernel
theorem dX5_init_35 : decode cX5_init 35 = .ok (.iconst 0, 1) := by decide +kernel
theorem dX5_init_36 : decode cX5_init 36 = .ok (.putfield 23, 3) := by decide +kernel
theorem dX5_init_39 : decode cX5_init 39 = .ok (.aload_n 0, 1) := by decide +kernel
theorem dX5_init_40 : decode cX5_init 40 = .ok (.new 27, 3) := by decide +kernel
theorem dX5_init_43 : decode cX5_init 43 = .ok (.dup, 1) := by decide +kernel
theorem dX5_init_44 : decode cX5_init 44 = .ok (.invokespecial 29, 3) := by decide +kernel
theorem dX5_init_47 : decode cX5_init 47 = .ok (.putfield 30, 3) := by decide +kernel
theorem dX5_init_50 : decode cX5_init 50 = .ok (.aload_n 0, 1) := by decide +kernel
theorem dX5_init_51 : decode cX5_init 51 = .ok (.iconst (-1), 1) := by decide +kernel
theorem dX5_init_52 : decode cX5_init 52 = .ok (.putfield 34, 3) := by decide +kernel
theorem dX5_init_55 : decode cX5_init 55 = .ok (.aload_n 0, 1) := by decide +kernel
theorem dX5_init_56 : decode cX5_init 56 = .ok (.iconst 0, 1) := by decide +kernel
theorem dX5_init_57 : decode cX5_init 57 = .ok (.putfield 37, 3) := by decide +kernel
theorem dX5_init_60 : decode cX5_init 60 = .ok (.aload_n 0, 1) := by decide +kernel
theorem dX5_init_61 : decode cX5_init 61 = .ok (.iconst 0, 1) := by decide +kernel
theorem dX5_init_62 : decode cX5_init 62 = .ok (.putfield 40, 3) := by decide +kernel
theorem dX5_init_65 : decode cX5_init 65 = .ok (.iconst 0, 1) := by decide +kernel
theorem dX5_init_66 : decode cX5_init 66 = .ok (.istore_n 1, 1) := by decide +kernel
theorem dX5_init_67 : decode cX5_init 67 = .ok (.iload_n 1, 1) := by decide +kernel
theorem dX5_init_68 : decode cX5_init 68 = .ok (.iconst 4, 1) := by decide +kernel
theorem dX5_init_69 : decode cX5_init 69 = .ok (.if_icmp .ge 22, 3) := by decide +kernel
theorem dX5_init_72 : decode cX5_init 72 = .ok (.aload_n 0, 1) := by decide +kernel
theorem dX5_init_73 : decode cX5_init 73 = .ok (.getfield 19, 3) := by decide +kernel
theorem dX5_init_76 : decode cX5_init 76 = .ok (.iload_n 1, 1) := by decide +kernel
theorem dX5_init_77 : decode cX5_init 77 = .ok (.new 7, 3) := by decide +kernel
theorem dX5_init_80 : decode cX5_init 80 = .ok (.dup, 1) := by decide +kernel
theorem dX5_init_81 : decode cX5_init 81 = .ok (.invokespecial 9, 3) := by decide +kernel
theorem dX5_init_84 : decode cX5_init 84 = .ok (.aastore, 1) := by decide +kernel
theorem dX5_init_85 : decode cX5_init 85 = .ok (.iinc 1 1, 3) := by decide +kernel
theorem dX5_init_88 : decode cX5_init 88 = .ok (.goto (-21), 3) := by decide +kernel
theorem dX5_init_91 : decode cX5_init 91 = .ok (.return_, 1) := by decide +kernel
theorem dX5_begin_0 : decode cX5_begin 0 = .ok (.aload_n 0, 1) := by decide +kernel
theorem dX5_begin_1 : decode cX5_begin 1 = .ok (.aload_n 0, 1) := by decide +kernel
theorem dX5_begin_2 : decode cX5_begin 2 = .ok (.invokevirtual 43, 3) := by decide +kernel
theorem dX5_begin_5 : decode cX5_begin 5 = .ok (.iload_n 1, 1) := by decide +kernel
theorem dX5_begin_6 : decode cX5_begin 6 = .ok (.invokevirtual 47, 3) := by decide +kernel
theorem dX5_begin_9 : decode cX5_begin 9 = .ok (.invokevirtual 51, 3) := by decide +kernel
theorem dX5_begin_12 : decode cX5_begin 12 = .ok (.ireturn, 1) := by decide +kernel
theorem dX5_put_0 : decode cX5_put 0 = .ok (.aload_n 0, 1) := by decide +kernel
theorem dX5_put_1 : decode cX5_put 1 = .ok (.aload_n 0, 1) := by decide +kernel
theorem dX5_put_2 : decode cX5_put 2 = .ok (.invokevirtual 43, 3) := by decide +kernel
theorem dX5_put_5 : decode cX5_put 5 = .ok (.iload_n 1, 1) := by decide +kernel
theorem dX5_put_6 : decode cX5_put 6 = .ok (.iload_n 2, 1) := by decide +kernel
theorem dX5_put_7 : decode cX5_put 7 = .ok (.invokevirtual 54, 3) := by decide +kernel
theorem dX5_put_10 : decode cX5_put 10 = .ok (.invokevirtual 51, 3) := by decide +kernel
theorem dX5_put_13 : decode cX5_put 13 = .ok (.ireturn, 1) := by decide +kernel
theorem dX5_copy_0 : decode cX5_copy 0 = .ok (.aload_n 0, 1) := by decide +kernel
theorem dX5_copy_1 : decode cX5_copy 1 = .ok (.aload_n 0, 1) := by decide +kernel
theorem dX5_copy_2 : decode cX5_copy 2 = .ok (.invokevirtual 43, 3) := by decide +kernel
theorem dX5_copy_5 : decode cX5_copy 5 = .ok (.iload_n 1, 1) := by decide +kernel
theorem dX5_copy_6 : decode cX5_copy 6 = .ok (.iload_n 2, 1) := by decide +kernel
theorem dX5_copy_7 : decode cX5_copy 7 = .ok (.invokevirtual 58, 3) := by decide +kernel
theorem dX5_copy_10 : decode cX5_copy 10 = .ok (.invokevirtual 51, 3) := by decide +kernel
theorem dX5_copy_13 : decode cX5_copy 13 = .ok (.ireturn, 1) := by decide +kernel
theorem dX5_order_0 : decode cX5_order 0 = .ok (.aload_n 0, 1) := by decide +kernel
theorem dX5_order_1 : decode cX5_order 1 = .ok (.aload_n 0, 1) := by decide +kernel
theorem dX5_order_2 : decode cX5_order 2 = .ok (.invokevirtual 43, 3) := by decide +kernel
theorem dX5_order_5 : decode cX5_order 5 = .ok (.iload_n 1, 1) := by decide +kernel
theorem dX5_order_6 : decode cX5_order 6 = .ok (.iload_n 2, 1) := by decide +kernel
theorem dX5_order_7 : decode cX5_order 7 = .ok (.iload_n 3, 1) := by decide +kernel
theorem dX5_order_8 : decode cX5_order 8 = .ok (.iload 4, 2) := by decide +kernel
theorem dX5_order_10 : decode cX5_order 10 = .ok (.invokevirtual 61, 3) := by decide +kernel
theorem dX5_order_13 : decode cX5_order 13 = .ok (.invokevirtual 51, 3) := by decide +kernel
theorem dX5_order_16 : decode cX5_order 16 = .ok (.ireturn, 1) := by decide +kernel
theorem dX5_tick_0 : decode cX5_tick 0 = .ok (.aload_n 0, 1) := by decide +kernel
theorem dX5_tick_1 : decode cX5_tick 1 = .ok (.aload_n 0, 1) := by decide +kernel
theorem dX5_tick_2 : decode cX5_tick 2 = .ok (.invokevirtual 43, 3) := by decide +kernel
theorem dX5_tick_5 : decode cX5_tick 5 = .ok (.iload_n 1, 1) := by decide +kernel
theorem dX5_tick_6 : decode cX5_tick 6 = .ok (.invokevirtual 65, 3) := by decide +kernel
theorem dX5_tick_9 : decode cX5_tick 9 = .ok (.invokevirtual 51, 3) := by decide +kernel
theorem dX5_tick_12 : decode cX5_tick 12 = .ok (.ireturn, 1) := by decide +kernel
theorem dX5_set_0 : decode cX5_set 0 = .ok (.aload_n 0, 1) := by decide +kernel
theorem dX5_set_1 : decode cX5_set 1 = .ok (.aload_n 0, 1) := by decide +kernel
theorem dX5_set_2 : decode cX5_set 2 = .ok (.invokevirtual 43, 3) := by decide +kernel
theorem dX5_set_5 : decode cX5_set 5 = .ok (.iload_n 1, 1) := by decide +kernel
theorem dX5_set_6 : decode cX5_set 6 = .ok (.iload_n 2, 1) := by decide +kernel
theorem dX5_set_7 : decode cX5_set 7 = .ok (.invokevirtual 68, 3) := by decide +kernel
theorem dX5_set_10 : decode cX5_set 10 = .ok (.invokevirtual 51, 3) := by decide +kernel
theorem dX5_set_13 : decode cX5_set 13 = .ok (.ireturn, 1) := by decide +kernel
theorem dX5_mark_0 : decode cX5_mark 0 = .ok (.aload_n 0, 1) := by decide +kernel
theorem dX5_mark_1 : decode cX5_mark 1 = .ok (.aload_n 0, 1) := by decide +kernel
theorem dX5_mark_2 : decode cX5_mark 2 = .ok (.invokevirtual 43, 3) := by decide +kernel
theorem dX5_mark_5 : decode cX5_mark 5 = .ok (.invokevirtual 71, 3) := by decide +kernel
theorem dX5_mark_8 : decode cX5_mark 8 = .ok (.invokevirtual 51, 3) := by decide +kernel
theorem dX5_mark_11 : decode cX5_mark 11 = .ok (.ireturn, 1) := by decide +kernel
theorem dX5_keep_0 : decode cX5_keep 0 = .ok (.aload_n 0, 1) := by decide +kernel
theorem dX5_keep_1 : decode cX5_keep 1 = .ok (.aload_n 0, 1) := by decide +kernel
theorem dX5_keep_2 : decode cX5_keep 2 = .ok (.invokevirtual 43, 3) := by decide +kernel
theorem dX5_keep_5 : decode cX5_keep 5 = .ok (.invokevirtual 75, 3) := by decide +kernel
theorem dX5_keep_8 : decode cX5_keep 8 = .ok (.invokevirtual 51, 3) := by decide +kernel
theorem dX5_keep_11 : decode cX5_keep 11 = .ok (.ireturn, 1) := by decide +kernel
theorem dX5_back_0 : decode cX5_back 0 = .ok (.aload_n 0, 1) := by decide +kernel
theorem dX5_back_1 : decode cX5_back 1 = .ok (.aload_n 0, 1) := by decide +kernel
theorem dX5_back_2 : decode cX5_back 2 = .ok (.invokevirtual 43, 3) := by decide +kernel
theorem dX5_back_5 : decode cX5_back 5 = .ok (.iload_n 1, 1) := by decide +kernel
theorem dX5_back_6 : decode cX5_back 6 = .ok (.invokevirtual 78, 3) := by decide +kernel
theorem dX5_back_9 : decode cX5_back 9 = .ok (.invokevirtual 51, 3) := by decide +kernel
theorem dX5_back_12 : decode cX5_back 12 = .ok (.ireturn, 1) := by decide +kernel
theorem dX5_markOf_0 : decode cX5_markOf 0 = .ok (.aload_n 0, 1) := by decide +kernel
theorem dX5_markOf_1 : decode cX5_markOf 1 = .ok (.getfield 10, 3) := by decide +kernel
theorem dX5_markOf_4 : decode cX5_markOf 4 = .ok (.iload_n 1, 1) := by decide +kernel
theorem dX5_markOf_5 : decode cX5_markOf 5 = .ok (.iload_n 2, 1) := by decide +kernel
theorem dX5_markOf_6 : decode cX5_markOf 6 = .ok (.iload_n 3, 1) := by decide +kernel
theorem dX5_markOf_7 : decode cX5_markOf 7 = .ok (.invokevirtual 81, 3) := by decide +kernel
theorem dX5_markOf_10 : decode cX5_markOf 10 = .ok (.ireturn, 1) := by decide +kernel
theorem dX5_nameOf_0 : decode cX5_nameOf 0 = .ok (.aload_n 0, 1) := by decide +kernel
theorem dX5_nameOf_1 : decode cX5_nameOf 1 = .ok (.getfield 10, 3) := by decide +kernel
theorem dX5_nameOf_4 : decode cX5_nameOf 4 = .ok (.iload_n 1, 1) := by decide +kernel
theorem dX5_nameOf_5 : decode cX5_nameOf 5 = .ok (.iload_n 2, 1) := by decide +kernel
theorem dX5_nameOf_6 : decode cX5_nameOf 6 = .ok (.invokevirtual 85, 3) := by decide +kernel
theorem dX5_nameOf_9 : decode cX5_nameOf 9 = .ok (.ireturn, 1) := by decide +kernel
theorem dX5_chairOf_0 : decode cX5_chairOf 0 = .ok (.aload_n 0, 1) := by decide +kernel
theorem dX5_chairOf_1 : decode cX5_chairOf 1 = .ok (.getfield 10, 3) := by decide +kernel
theorem dX5_chairOf_4 : decode cX5_chairOf 4 = .ok (.iload_n 1, 1) := by decide +kernel
theorem dX5_chairOf_5 : decode cX5_chairOf 5 = .ok (.iload_n 2, 1) := by decide +kernel
theorem dX5_chairOf_6 : decode cX5_chairOf 6 = .ok (.invokevirtual 88, 3) := by decide +kernel
theorem dX5_chairOf_9 : decode cX5_chairOf 9 = .ok (.ireturn, 1) := by decide +kernel
theorem dX5_orderOf_0 : decode cX5_orderOf 0 = .ok (.aload_n 0, 1) := by decide +kernel
theorem dX5_orderOf_1 : decode cX5_orderOf 1 = .ok (.getfield 10, 3) := by decide +kernel
theorem dX5_orderOf_4 : decode cX5_orderOf 4 = .ok (.iload_n 1, 1) := by decide +kernel
theorem dX5_orderOf_5 : decode cX5_orderOf 5 = .ok (.iload_n 2, 1) := by decide +kernel
theorem dX5_orderOf_6 : decode cX5_orderOf 6 = .ok (.invokevirtual 91, 3) := by decide +kernel
theorem dX5_orderOf_9 : decode cX5_orderOf 9 = .ok (.ireturn, 1) := by decide +kernel
theorem dX5_count_0 : decode cX5_count 0 = .ok (.iload_n 1, 1) := by decide +kernel
theorem dX5_count_1 : decode cX5_count 1 = .ok (.bipush 10, 2) := by decide +kernel
theorem dX5_count_3 : decode cX5_count 3 = .ok (.if_icmp .ne 8, 3) := by decide +kernel
theorem dX5_count_6 : decode cX5_count 6 = .ok (.aload_n 0, 1) := by decide +kernel
theorem dX5_count_7 : decode cX5_count 7 = .ok (.getfield 23, 3) := by decide +kernel
theorem dX5_count_10 : decode cX5_count 10 = .ok (.ireturn, 1) := by decide +kernel
theorem dX5_count_11 : decode cX5_count 11 = .ok (.iload_n 1, 1) := by decide +kernel
theorem dX5_count_12 : decode cX5_count 12 = .ok (.bipush 11, 2) := by decide +kernel
theorem dX5_count_14 : decode cX5_count 14 = .ok (.if_icmp .ne 11, 3) := by decide +kernel
theorem dX5_count_17 : decode cX5_count 17 = .ok (.aload_n 0, 1) := by decide +kernel
theorem dX5_count_18 : decode cX5_count 18 = .ok (.getfield 30, 3) := by decide +kernel
theorem dX5_count_21 : decode cX5_count 21 = .ok (.getfield 94, 3) := by decide +kernel
theorem dX5_count_24 : decode cX5_count 24 = .ok (.ireturn, 1) := by decide +kernel
theorem dX5_count_25 : decode cX5_count 25 = .ok (.aload_n 0, 1) := by decide +kernel
theorem dX5_count_26 : decode cX5_count 26 = .ok (.getfield 10, 3) := by decide +kernel
theorem dX5_count_29 : decode cX5_count 29 = .ok (.iload_n 1, 1) := by decide +kernel
theorem dX5_count_30 : decode cX5_count 30 = .ok (.invokevirtual 97, 3) := by decide +kernel
theorem dX5_count_33 : decode cX5_count 33 = .ok (.ireturn, 1) := by decide +kernel
theorem dX5_sends_0 : decode cX5_sends 0 = .ok (.aload_n 0, 1) := by decide +kernel
theorem dX5_sends_1 : decode cX5_sends 1 = .ok (.invokevirtual 43, 3) := by decide +kernel
theorem dX5_sends_4 : decode cX5_sends 4 = .ok (.astore 4, 2) := by decide +kernel
theorem dX5_sends_6 : decode cX5_sends 6 = .ok (.aload 4, 2) := by decide +kernel
theorem dX5_sends_8 : decode cX5_sends 8 = .ok (.iconst 0, 1) := by decide +kernel
theorem dX5_sends_9 : decode cX5_sends 9 = .ok (.iload_n 1, 1) := by decide +kernel
theorem dX5_sends_10 : decode cX5_sends 10 = .ok (.iload_n 2, 1) := by decide +kernel
theorem dX5_sends_11 : decode cX5_sends 11 = .ok (.iload_n 3, 1) := by decide +kernel
theorem dX5_sends_12 : decode cX5_sends 12 = .ok (.invokevirtual 61, 3) := by decide +kernel
theorem dX5_sends_15 : decode cX5_sends 15 = .ok (.istore 5, 2) := by decide +kernel
theorem dX5_sends_17 : decode cX5_sends 17 = .ok (.iload 5, 2) := by decide +kernel
theorem dX5_sends_19 : decode cX5_sends 19 = .ok (.ifCond .ge 13, 3) := by decide +kernel
theorem dX5_sends_22 : decode cX5_sends 22 = .ok (.iload 5, 2) := by decide +kernel
theorem dX5_sends_24 : decode cX5_sends 24 = .ok (.bipush (-3), 2) := by decide +kernel
theorem dX5_sends_26 : decode cX5_sends 26 = .ok (.if_icmp .eq 6, 3) := by decide +kernel
theorem dX5_sends_29 : decode cX5_sends 29 = .ok (.iload 5, 2) := by decide +kernel
theorem dX5_sends_31 : decode cX5_sends 31 = .ok (.ireturn, 1) := by decide +kernel
theorem dX5_sends_32 : decode cX5_sends 32 = .ok (.aload 4, 2) := by decide +kernel
theorem dX5_sends_34 : decode cX5_sends 34 = .ok (.getfield 100, 3) := by decide +kernel
theorem dX5_sends_37 : decode cX5_sends 37 = .ok (.aload_n 0, 1) := by decide +kernel
theorem dX5_sends_38 : decode cX5_sends 38 = .ok (.getfield 10, 3) := by decide +kernel
theorem dX5_sends_41 : decode cX5_sends 41 = .ok (.getfield 100, 3) := by decide +kernel
theorem dX5_sends_44 : decode cX5_sends 44 = .ok (.isub, 1) := by decide +kernel
theorem dX5_sends_45 : decode cX5_sends 45 = .ok (.ireturn, 1) := by decide +kernel
theorem dX5_idleIn_0 : decode cX5_idleIn 0 = .ok (.aload_n 0, 1) := by decide +kernel
theorem dX5_idleIn_1 : decode cX5_idleIn 1 = .ok (.invokevirtual 43, 3) := by decide +kernel
theorem dX5_idleIn_4 : decode cX5_idleIn 4 = .ok (.invokevirtual 103, 3) := by decide +kernel
theorem dX5_idleIn_7 : decode cX5_idleIn 7 = .ok (.ireturn, 1) := by decide +kernel
theorem dX5_knownIn_0 : decode cX5_knownIn 0 = .ok (.iload_n 1, 1) := by decide +kernel
theorem dX5_knownIn_1 : decode cX5_knownIn 1 = .ok (.invokestatic 106, 3) := by decide +kernel
theorem dX5_knownIn_4 : decode cX5_knownIn 4 = .ok (.ifCond .ne 5, 3) := by decide +kernel
theorem dX5_knownIn_7 : decode cX5_knownIn 7 = .ok (.iconst (-1), 1) := by decide +kernel
theorem dX5_knownIn_8 : decode cX5_knownIn 8 = .ok (.ireturn, 1) := by decide +kernel
theorem dX5_knownIn_9 : decode cX5_knownIn 9 = .ok (.aload_n 0, 1) := by decide +kernel
theorem dX5_knownIn_10 : decode cX5_knownIn 10 = .ok (.invokevirtual 43, 3) := by decide +kernel
theorem dX5_knownIn_13 : decode cX5_knownIn 13 = .ok (.iload_n 1, 1) := by decide +kernel
theorem dX5_knownIn_14 : decode cX5_knownIn 14 = .ok (.invokevirtual 110, 3) := by decide +kernel
theorem dX5_knownIn_17 : decode cX5_knownIn 17 = .ok (.ireturn, 1) := by decide +kernel
theorem dX5_undo_0 : decode cX5_undo 0 = .ok (.aload_n 0, 1) := by decide +kernel
theorem dX5_undo_1 : decode cX5_undo 1 = .ok (.getfield 23, 3) := by decide +kernel
theorem dX5_undo_4 : decode cX5_undo 4 = .ok (.ifCond .le 11, 3) := by decide +kernel
theorem dX5_undo_7 : decode cX5_undo 7 = .ok (.aload_n 0, 1) := by decide +kernel
theorem dX5_undo_8 : decode cX5_undo 8 = .ok (.getfield 23, 3) := by decide +kernel
theorem dX5_undo_11 : decode cX5_undo 11 = .ok (.iconst 4, 1) := by decide +kernel
theorem dX5_undo_12 : decode cX5_undo 12 = .ok (.if_icmp .le 6, 3) := by decide +kernel
theorem dX5_undo_15 : decode cX5_undo 15 = .ok (.bipush (-2), 2) := by decide +kernel
theorem dX5_undo_17 : decode cX5_undo 17 = .ok (.ireturn, 1) := by decide +kernel
theorem dX5_undo_18 : decode cX5_undo 18 = .ok (.aload_n 0, 1) := by decide +kernel
theorem dX5_undo_19 : decode cX5_undo 19 = .ok (.dup, 1) := by decide +kernel
theorem dX5_undo_20 : decode cX5_undo 20 = .ok (.getfield 23, 3) := by decide +kernel
theorem dX5_undo_23 : decode cX5_undo 23 = .ok (.iconst 1, 1) := by decide +kernel
theorem dX5_undo_24 : decode cX5_undo 24 = .ok (.isub, 1) := by decide +kernel
theorem dX5_undo_25 : decode cX5_undo 25 = .ok (.putfield 23, 3) := by decide +kernel
theorem dX5_undo_28 : decode cX5_undo 28 = .ok (.aload_n 0, 1) := by decide +kernel
theorem dX5_undo_29 : decode cX5_undo 29 = .ok (.getfield 10, 3) := by decide +kernel
theorem dX5_undo_32 : decode cX5_undo 32 = .ok (.astore_n 1, 1) := by decide +kernel
theorem dX5_undo_33 : decode cX5_undo 33 = .ok (.aload_n 0, 1) := by decide +kernel
theorem dX5_undo_34 : decode cX5_undo 34 = .ok (.aload_n 0, 1) := by decide +kernel
theorem dX5_undo_35 : decode cX5_undo 35 = .ok (.getfield 19, 3) := by decide +kernel
theorem dX5_undo_38 : decode cX5_undo 38 = .ok (.aload_n 0, 1) := by decide +kernel
theorem dX5_undo_39 : decode cX5_undo 39 = .ok (.getfield 23, 3) := by decide +kernel
theorem dX5_undo_42 : decode cX5_undo 42 = .ok (.aaload, 1) := by decide +kernel
theorem dX5_undo_43 : decode cX5_undo 43 = .ok (.putfield 10, 3) := by decide +kernel
theorem dX5_undo_46 : decode cX5_undo 46 = .ok (.aload_n 0, 1) := by decide +kernel
theorem dX5_undo_47 : decode cX5_undo 47 = .ok (.getfield 19, 3) := by decide +kernel
theorem dX5_undo_50 : decode cX5_undo 50 = .ok (.aload_n 0, 1) := by decide +kernel
theorem dX5_undo_51 : decode cX5_undo 51 = .ok (.getfield 23, 3) := by decide +kernel
theorem dX5_undo_54 : decode cX5_undo 54 = .ok (.aload_n 1, 1) := by decide +kernel
theorem dX5_undo_55 : decode cX5_undo 55 = .ok (.aastore, 1) := by decide +kernel
theorem dX5_undo_56 : decode cX5_undo 56 = .ok (.aload_n 0, 1) := by decide +kernel
theorem dX5_undo_57 : decode cX5_undo 57 = .ok (.getfield 23, 3) := by decide +kernel
theorem dX5_undo_60 : decode cX5_undo 60 = .ok (.ireturn, 1) := by decide +kernel
theorem dX5_type_0 : decode cX5_type 0 = .ok (.iload_n 1, 1) := by decide +kernel
theorem dX5_type_1 : decode cX5_type 1 = .ok (.bipush 32, 2) := by decide +kernel
theorem dX5_type_3 : decode cX5_type 3 = .ok (.bipush 126, 2) := by decide +kernel
theorem dX5_type_5 : decode cX5_type 5 = .ok (.invokestatic 113, 3) := by decide +kernel
theorem dX5_type_8 : decode cX5_type 8 = .ok (.ifCond .ne 5, 3) := by decide +kernel
theorem dX5_type_11 : decode cX5_type 11 = .ok (.iconst (-1), 1) := by decide +kernel
theorem dX5_type_12 : decode cX5_type 12 = .ok (.ireturn, 1) := by decide +kernel
theorem dX5_type_13 : decode cX5_type 13 = .ok (.aload_n 0, 1) := by decide +kernel
theorem dX5_type_14 : decode cX5_type 14 = .ok (.getfield 30, 3) := by decide +kernel
theorem dX5_type_17 : decode cX5_type 17 = .ok (.iload_n 1, 1) := by decide +kernel
theorem dX5_type_18 : decode cX5_type 18 = .ok (.i2c, 1) := by decide +kernel
theorem dX5_type_19 : decode cX5_type 19 = .ok (.invokevirtual 117, 3) := by decide +kernel
theorem dX5_type_22 : decode cX5_type 22 = .ok (.ireturn, 1) := by decide +kernel
theorem dX5_clearText_0 : decode cX5_clearText 0 = .ok (.aload_n 0, 1) := by decide +kernel
theorem dX5_clearText_1 : decode cX5_clearText 1 = .ok (.getfield 30, 3) := by decide +kernel
theorem dX5_clearText_4 : decode cX5_clearText 4 = .ok (.getfield 94, 3) := by decide +kernel
theorem dX5_clearText_7 : decode cX5_clearText 7 = .ok (.istore_n 1, 1) := by decide +kernel
theorem dX5_clearText_8 : decode cX5_clearText 8 = .ok (.aload_n 0, 1) := by decide +kernel
theorem dX5_clearText_9 : decode cX5_clearText 9 = .ok (.getfield 30, 3) := by decide +kernel
theorem dX5_clearText_12 : decode cX5_clearText 12 = .ok (.iconst 0, 1) := by decide +kernel
theorem dX5_clearText_13 : decode cX5_clearText 13 = .ok (.putfield 94, 3) := by decide +kernel
theorem dX5_clearText_16 : decode cX5_clearText 16 = .ok (.iload_n 1, 1) := by decide +kernel
theorem dX5_clearText_17 : decode cX5_clearText 17 = .ok (.ireturn, 1) := by decide +kernel
theorem dX5_fault_0 : decode cX5_fault 0 = .ok (.iload_n 1, 1) := by decide +kernel
theorem dX5_fault_1 : decode cX5_fault 1 = .ok (.iconst 0, 1) := by decide +kernel
theorem dX5_fault_2 : decode cX5_fault 2 = .ok (.iconst 2, 1) := by decide +kernel
theorem dX5_fault_3 : decode cX5_fault 3 = .ok (.invokestatic 113, 3) := by decide +kernel
theorem dX5_fault_6 : decode cX5_fault 6 = .ok (.ifCond .ne 5, 3) := by decide +kernel
theorem dX5_fault_9 : decode cX5_fault 9 = .ok (.iconst (-1), 1) := by decide +kernel
theorem dX5_fault_10 : decode cX5_fault 10 = .ok (.ireturn, 1) := by decide +kernel
theorem dX5_fault_11 : decode cX5_fault 11 = .ok (.aload_n 0, 1) := by decide +kernel
theorem dX5_fault_12 : decode cX5_fault 12 = .ok (.invokevirtual 121, 3) := by decide +kernel
theorem dX5_fault_15 : decode cX5_fault 15 = .ok (.pop, 1) := by decide +kernel
theorem dX5_fault_16 : decode cX5_fault 16 = .ok (.aload_n 0, 1) := by decide +kernel
theorem dX5_fault_17 : decode cX5_fault 17 = .ok (.getfield 37, 3) := by decide +kernel
theorem dX5_fault_20 : decode cX5_fault 20 = .ok (.ifCond .ne 6, 3) := by decide +kernel
theorem dX5_fault_23 : decode cX5_fault 23 = .ok (.bipush (-4), 2) := by decide +kernel
theorem dX5_fault_25 : decode cX5_fault 25 = .ok (.ireturn, 1) := by decide +kernel
theorem dX5_fault_26 : decode cX5_fault 26 = .ok (.iload_n 1, 1) := by decide +kernel
theorem dX5_fault_27 : decode cX5_fault 27 = .ok (.ifCond .ne 8, 3) := by decide +kernel
theorem dX5_fault_30 : decode cX5_fault 30 = .ok (.aload_n 0, 1) := by decide +kernel
end
section
theorem dX5_fault_31 : decode cX5_fault 31 = .ok (.getfield 34, 3) := by decide +kernel
theorem dX5_fault_34 : decode cX5_fault 34 = .ok (.ireturn, 1) := by decide +kernel
theorem dX5_fault_35 : decode cX5_fault 35 = .ok (.iload_n 1, 1) := by decide +kernel
theorem dX5_fault_36 : decode cX5_fault 36 = .ok (.iconst 1, 1) := by decide +kernel
theorem dX5_fault_37 : decode cX5_fault 37 = .ok (.if_icmp .ne 8, 3) := by decide +kernel
theorem dX5_fault_40 : decode cX5_fault 40 = .ok (.aload_n 0, 1) := by decide +kernel
theorem dX5_fault_41 : decode cX5_fault 41 = .ok (.getfield 37, 3) := by decide +kernel
theorem dX5_fault_44 : decode cX5_fault 44 = .ok (.ireturn, 1) := by decide +kernel
theorem dX5_fault_45 : decode cX5_fault 45 = .ok (.aload_n 0, 1) := by decide +kernel
theorem dX5_fault_46 : decode cX5_fault 46 = .ok (.getfield 37, 3) := by decide +kernel
theorem dX5_fault_49 : decode cX5_fault 49 = .ok (.iconst 1, 1) := by decide +kernel
theorem dX5_fault_50 : decode cX5_fault 50 = .ok (.if_icmp .ne 8, 3) := by decide +kernel
theorem dX5_fault_53 : decode cX5_fault 53 = .ok (.bipush (-4), 2) := by decide +kernel
theorem dX5_fault_55 : decode cX5_fault 55 = .ok (.goto 7, 3) := by decide +kernel
theorem dX5_fault_58 : decode cX5_fault 58 = .ok (.aload_n 0, 1) := by decide +kernel
theorem dX5_fault_59 : decode cX5_fault 59 = .ok (.getfield 40, 3) := by decide +kernel
theorem dX5_fault_62 : decode cX5_fault 62 = .ok (.ireturn, 1) := by decide +kernel
theorem dX5_play_0 : decode cX5_play 0 = .ok (.aload_n 0, 1) := by decide +kernel
theorem dX5_play_1 : decode cX5_play 1 = .ok (.invokevirtual 121, 3) := by decide +kernel
theorem dX5_play_4 : decode cX5_play 4 = .ok (.istore_n 1, 1) := by decide +kernel
theorem dX5_play_5 : decode cX5_play 5 = .ok (.aload_n 0, 1) := by decide +kernel
theorem dX5_play_6 : decode cX5_play 6 = .ok (.aload_n 0, 1) := by decide +kernel
theorem dX5_play_7 : decode cX5_play 7 = .ok (.getfield 37, 3) := by decide +kernel
theorem dX5_play_10 : decode cX5_play 10 = .ok (.ifCond .ne 7, 3) := by decide +kernel
theorem dX5_play_13 : decode cX5_play 13 = .ok (.iload_n 1, 1) := by decide +kernel
theorem dX5_play_14 : decode cX5_play 14 = .ok (.goto 5, 3) := by decide +kernel
theorem dX5_play_17 : decode cX5_play 17 = .ok (.bipush (-2), 2) := by decide +kernel
theorem dX5_play_19 : decode cX5_play 19 = .ok (.invokevirtual 51, 3) := by decide +kernel
theorem dX5_play_22 : decode cX5_play 22 = .ok (.ireturn, 1) := by decide +kernel
theorem dX5_spareRoom_0 : decode cX5_spareRoom 0 = .ok (.aload_n 0, 1) := by decide +kernel
theorem dX5_spareRoom_1 : decode cX5_spareRoom 1 = .ok (.getfield 16, 3) := by decide +kernel
theorem dX5_spareRoom_4 : decode cX5_spareRoom 4 = .ok (.aload_n 0, 1) := by decide +kernel
theorem dX5_spareRoom_5 : decode cX5_spareRoom 5 = .ok (.getfield 10, 3) := by decide +kernel
theorem dX5_spareRoom_8 : decode cX5_spareRoom 8 = .ok (.invokevirtual 124, 3) := by decide +kernel
theorem dX5_spareRoom_11 : decode cX5_spareRoom 11 = .ok (.aload_n 0, 1) := by decide +kernel
theorem dX5_spareRoom_12 : decode cX5_spareRoom 12 = .ok (.getfield 16, 3) := by decide +kernel
theorem dX5_spareRoom_15 : decode cX5_spareRoom 15 = .ok (.areturn, 1) := by decide +kernel
theorem dX5_settle_0 : decode cX5_settle 0 = .ok (.iload_n 1, 1) := by decide +kernel
theorem dX5_settle_1 : decode cX5_settle 1 = .ok (.ifCond .ge 5, 3) := by decide +kernel
theorem dX5_settle_4 : decode cX5_settle 4 = .ok (.iload_n 1, 1) := by decide +kernel
theorem dX5_settle_5 : decode cX5_settle 5 = .ok (.ireturn, 1) := by decide +kernel
theorem dX5_settle_6 : decode cX5_settle 6 = .ok (.aload_n 0, 1) := by decide +kernel
theorem dX5_settle_7 : decode cX5_settle 7 = .ok (.getfield 23, 3) := by decide +kernel
theorem dX5_settle_10 : decode cX5_settle 10 = .ok (.ifCond .lt 47, 3) := by decide +kernel
theorem dX5_settle_13 : decode cX5_settle 13 = .ok (.aload_n 0, 1) := by decide +kernel
theorem dX5_settle_14 : decode cX5_settle 14 = .ok (.getfield 23, 3) := by decide +kernel
theorem dX5_settle_17 : decode cX5_settle 17 = .ok (.iconst 4, 1) := by decide +kernel
theorem dX5_settle_18 : decode cX5_settle 18 = .ok (.if_icmp .ge 39, 3) := by decide +kernel
theorem dX5_settle_21 : decode cX5_settle 21 = .ok (.aload_n 0, 1) := by decide +kernel
theorem dX5_settle_22 : decode cX5_settle 22 = .ok (.getfield 19, 3) := by decide +kernel
theorem dX5_settle_25 : decode cX5_settle 25 = .ok (.aload_n 0, 1) := by decide +kernel
theorem dX5_settle_26 : decode cX5_settle 26 = .ok (.getfield 23, 3) := by decide +kernel
theorem dX5_settle_29 : decode cX5_settle 29 = .ok (.aaload, 1) := by decide +kernel
theorem dX5_settle_30 : decode cX5_settle 30 = .ok (.astore_n 2, 1) := by decide +kernel
theorem dX5_settle_31 : decode cX5_settle 31 = .ok (.aload_n 0, 1) := by decide +kernel
theorem dX5_settle_32 : decode cX5_settle 32 = .ok (.getfield 19, 3) := by decide +kernel
theorem dX5_settle_35 : decode cX5_settle 35 = .ok (.aload_n 0, 1) := by decide +kernel
theorem dX5_settle_36 : decode cX5_settle 36 = .ok (.getfield 23, 3) := by decide +kernel
theorem dX5_settle_39 : decode cX5_settle 39 = .ok (.aload_n 0, 1) := by decide +kernel
theorem dX5_settle_40 : decode cX5_settle 40 = .ok (.getfield 10, 3) := by decide +kernel
theorem dX5_settle_43 : decode cX5_settle 43 = .ok (.aastore, 1) := by decide +kernel
theorem dX5_settle_44 : decode cX5_settle 44 = .ok (.aload_n 0, 1) := by decide +kernel
theorem dX5_settle_45 : decode cX5_settle 45 = .ok (.dup, 1) := by decide +kernel
theorem dX5_settle_46 : decode cX5_settle 46 = .ok (.getfield 23, 3) := by decide +kernel
theorem dX5_settle_49 : decode cX5_settle 49 = .ok (.iconst 1, 1) := by decide +kernel
theorem dX5_settle_50 : decode cX5_settle 50 = .ok (.iadd, 1) := by decide +kernel
theorem dX5_settle_51 : decode cX5_settle 51 = .ok (.putfield 23, 3) := by decide +kernel
theorem dX5_settle_54 : decode cX5_settle 54 = .ok (.goto 47, 3) := by decide +kernel
theorem dX5_settle_57 : decode cX5_settle 57 = .ok (.aload_n 0, 1) := by decide +kernel
theorem dX5_settle_58 : decode cX5_settle 58 = .ok (.getfield 19, 3) := by decide +kernel
theorem dX5_settle_61 : decode cX5_settle 61 = .ok (.iconst 0, 1) := by decide +kernel
theorem dX5_settle_62 : decode cX5_settle 62 = .ok (.aaload, 1) := by decide +kernel
theorem dX5_settle_63 : decode cX5_settle 63 = .ok (.astore_n 2, 1) := by decide +kernel
theorem dX5_settle_64 : decode cX5_settle 64 = .ok (.iconst 1, 1) := by decide +kernel
theorem dX5_settle_65 : decode cX5_settle 65 = .ok (.istore_n 3, 1) := by decide +kernel
theorem dX5_settle_66 : decode cX5_settle 66 = .ok (.iload_n 3, 1) := by decide +kernel
theorem dX5_settle_67 : decode cX5_settle 67 = .ok (.iconst 4, 1) := by decide +kernel
theorem dX5_settle_68 : decode cX5_settle 68 = .ok (.if_icmp .ge 23, 3) := by decide +kernel
theorem dX5_settle_71 : decode cX5_settle 71 = .ok (.aload_n 0, 1) := by decide +kernel
theorem dX5_settle_72 : decode cX5_settle 72 = .ok (.getfield 19, 3) := by decide +kernel
theorem dX5_settle_75 : decode cX5_settle 75 = .ok (.iload_n 3, 1) := by decide +kernel
theorem dX5_settle_76 : decode cX5_settle 76 = .ok (.iconst 1, 1) := by decide +kernel
theorem dX5_settle_77 : decode cX5_settle 77 = .ok (.isub, 1) := by decide +kernel
theorem dX5_settle_78 : decode cX5_settle 78 = .ok (.aload_n 0, 1) := by decide +kernel
theorem dX5_settle_79 : decode cX5_settle 79 = .ok (.getfield 19, 3) := by decide +kernel
theorem dX5_settle_82 : decode cX5_settle 82 = .ok (.iload_n 3, 1) := by decide +kernel
theorem dX5_settle_83 : decode cX5_settle 83 = .ok (.aaload, 1) := by decide +kernel
theorem dX5_settle_84 : decode cX5_settle 84 = .ok (.aastore, 1) := by decide +kernel
theorem dX5_settle_85 : decode cX5_settle 85 = .ok (.iinc 3 1, 3) := by decide +kernel
theorem dX5_settle_88 : decode cX5_settle 88 = .ok (.goto (-22), 3) := by decide +kernel
theorem dX5_settle_91 : decode cX5_settle 91 = .ok (.aload_n 0, 1) := by decide +kernel
theorem dX5_settle_92 : decode cX5_settle 92 = .ok (.getfield 19, 3) := by decide +kernel
theorem dX5_settle_95 : decode cX5_settle 95 = .ok (.iconst 3, 1) := by decide +kernel
theorem dX5_settle_96 : decode cX5_settle 96 = .ok (.aload_n 0, 1) := by decide +kernel
theorem dX5_settle_97 : decode cX5_settle 97 = .ok (.getfield 10, 3) := by decide +kernel
theorem dX5_settle_100 : decode cX5_settle 100 = .ok (.aastore, 1) := by decide +kernel
theorem dX5_settle_101 : decode cX5_settle 101 = .ok (.aload_n 0, 1) := by decide +kernel
theorem dX5_settle_102 : decode cX5_settle 102 = .ok (.aload_n 0, 1) := by decide +kernel
theorem dX5_settle_103 : decode cX5_settle 103 = .ok (.getfield 16, 3) := by decide +kernel
theorem dX5_settle_106 : decode cX5_settle 106 = .ok (.putfield 10, 3) := by decide +kernel
theorem dX5_settle_109 : decode cX5_settle 109 = .ok (.aload_n 0, 1) := by decide +kernel
theorem dX5_settle_110 : decode cX5_settle 110 = .ok (.aload_n 2, 1) := by decide +kernel
theorem dX5_settle_111 : decode cX5_settle 111 = .ok (.putfield 16, 3) := by decide +kernel
theorem dX5_settle_114 : decode cX5_settle 114 = .ok (.iload_n 1, 1) := by decide +kernel
theorem dX5_settle_115 : decode cX5_settle 115 = .ok (.ireturn, 1) := by decide +kernel
theorem dX5_tryText_0 : decode cX5_tryText 0 = .ok (.aload_n 0, 1) := by decide +kernel
theorem dX5_tryText_1 : decode cX5_tryText 1 = .ok (.invokevirtual 43, 3) := by decide +kernel
theorem dX5_tryText_4 : decode cX5_tryText 4 = .ok (.astore_n 1, 1) := by decide +kernel
theorem dX5_tryText_5 : decode cX5_tryText 5 = .ok (.iconst 0, 1) := by decide +kernel
theorem dX5_tryText_6 : decode cX5_tryText 6 = .ok (.istore_n 2, 1) := by decide +kernel
theorem dX5_tryText_7 : decode cX5_tryText 7 = .ok (.iconst 0, 1) := by decide +kernel
theorem dX5_tryText_8 : decode cX5_tryText 8 = .ok (.istore_n 3, 1) := by decide +kernel
theorem dX5_tryText_9 : decode cX5_tryText 9 = .ok (.aload_n 0, 1) := by decide +kernel
theorem dX5_tryText_10 : decode cX5_tryText 10 = .ok (.iconst (-1), 1) := by decide +kernel
theorem dX5_tryText_11 : decode cX5_tryText 11 = .ok (.iconst 0, 1) := by decide +kernel
theorem dX5_tryText_12 : decode cX5_tryText 12 = .ok (.iconst 0, 1) := by decide +kernel
theorem dX5_tryText_13 : decode cX5_tryText 13 = .ok (.invokevirtual 128, 3) := by decide +kernel
theorem dX5_tryText_16 : decode cX5_tryText 16 = .ok (.iload_n 2, 1) := by decide +kernel
theorem dX5_tryText_17 : decode cX5_tryText 17 = .ok (.bipush 80, 2) := by decide +kernel
theorem dX5_tryText_19 : decode cX5_tryText 19 = .ok (.if_icmp .ge 103, 3) := by decide +kernel
theorem dX5_tryText_22 : decode cX5_tryText 22 = .ok (.iload_n 3, 1) := by decide +kernel
theorem dX5_tryText_23 : decode cX5_tryText 23 = .ok (.aload_n 0, 1) := by decide +kernel
theorem dX5_tryText_24 : decode cX5_tryText 24 = .ok (.getfield 30, 3) := by decide +kernel
theorem dX5_tryText_27 : decode cX5_tryText 27 = .ok (.getfield 94, 3) := by decide +kernel
theorem dX5_tryText_30 : decode cX5_tryText 30 = .ok (.if_icmp .ge 92, 3) := by decide +kernel
theorem dX5_tryText_33 : decode cX5_tryText 33 = .ok (.aload_n 0, 1) := by decide +kernel
theorem dX5_tryText_34 : decode cX5_tryText 34 = .ok (.getfield 30, 3) := by decide +kernel
theorem dX5_tryText_37 : decode cX5_tryText 37 = .ok (.iload_n 3, 1) := by decide +kernel
theorem dX5_tryText_38 : decode cX5_tryText 38 = .ok (.invokevirtual 132, 3) := by decide +kernel
theorem dX5_tryText_41 : decode cX5_tryText 41 = .ok (.istore 4, 2) := by decide +kernel
theorem dX5_tryText_43 : decode cX5_tryText 43 = .ok (.iload 4, 2) := by decide +kernel
theorem dX5_tryText_45 : decode cX5_tryText 45 = .ok (.iconst (-1), 1) := by decide +kernel
theorem dX5_tryText_46 : decode cX5_tryText 46 = .ok (.if_icmp .ne 12, 3) := by decide +kernel
theorem dX5_tryText_49 : decode cX5_tryText 49 = .ok (.aload_n 0, 1) := by decide +kernel
theorem dX5_tryText_50 : decode cX5_tryText 50 = .ok (.iload_n 3, 1) := by decide +kernel
theorem dX5_tryText_51 : decode cX5_tryText 51 = .ok (.iconst 1, 1) := by decide +kernel
theorem dX5_tryText_52 : decode cX5_tryText 52 = .ok (.iconst 0, 1) := by decide +kernel
theorem dX5_tryText_53 : decode cX5_tryText 53 = .ok (.invokevirtual 128, 3) := by decide +kernel
theorem dX5_tryText_56 : decode cX5_tryText 56 = .ok (.iload_n 2, 1) := by decide +kernel
theorem dX5_tryText_57 : decode cX5_tryText 57 = .ok (.ireturn, 1) := by decide +kernel
theorem dX5_tryText_58 : decode cX5_tryText 58 = .ok (.aload_n 1, 1) := by decide +kernel
theorem dX5_tryText_59 : decode cX5_tryText 59 = .ok (.iload 4, 2) := by decide +kernel
theorem dX5_tryText_61 : decode cX5_tryText 61 = .ok (.aload_n 0, 1) := by decide +kernel
theorem dX5_tryText_62 : decode cX5_tryText 62 = .ok (.getfield 30, 3) := by decide +kernel
theorem dX5_tryText_65 : decode cX5_tryText 65 = .ok (.getfield 135, 3) := by decide +kernel
theorem dX5_tryText_68 : decode cX5_tryText 68 = .ok (.iconst 0, 1) := by decide +kernel
theorem dX5_tryText_69 : decode cX5_tryText 69 = .ok (.iaload, 1) := by decide +kernel
theorem dX5_tryText_70 : decode cX5_tryText 70 = .ok (.aload_n 0, 1) := by decide +kernel
theorem dX5_tryText_71 : decode cX5_tryText 71 = .ok (.getfield 30, 3) := by decide +kernel
theorem dX5_tryText_74 : decode cX5_tryText 74 = .ok (.getfield 135, 3) := by decide +kernel
theorem dX5_tryText_77 : decode cX5_tryText 77 = .ok (.iconst 1, 1) := by decide +kernel
theorem dX5_tryText_78 : decode cX5_tryText 78 = .ok (.iaload, 1) := by decide +kernel
theorem dX5_tryText_79 : decode cX5_tryText 79 = .ok (.aload_n 0, 1) := by decide +kernel
theorem dX5_tryText_80 : decode cX5_tryText 80 = .ok (.getfield 30, 3) := by decide +kernel
theorem dX5_tryText_83 : decode cX5_tryText 83 = .ok (.getfield 135, 3) := by decide +kernel
theorem dX5_tryText_86 : decode cX5_tryText 86 = .ok (.iconst 2, 1) := by decide +kernel
theorem dX5_tryText_87 : decode cX5_tryText 87 = .ok (.iaload, 1) := by decide +kernel
theorem dX5_tryText_88 : decode cX5_tryText 88 = .ok (.invokevirtual 139, 3) := by decide +kernel
theorem dX5_tryText_91 : decode cX5_tryText 91 = .ok (.istore 5, 2) := by decide +kernel
theorem dX5_tryText_93 : decode cX5_tryText 93 = .ok (.iload 5, 2) := by decide +kernel
theorem dX5_tryText_95 : decode cX5_tryText 95 = .ok (.ifCond .ge 13, 3) := by decide +kernel
theorem dX5_tryText_98 : decode cX5_tryText 98 = .ok (.aload_n 0, 1) := by decide +kernel
theorem dX5_tryText_99 : decode cX5_tryText 99 = .ok (.iload_n 3, 1) := by decide +kernel
theorem dX5_tryText_100 : decode cX5_tryText 100 = .ok (.iconst 2, 1) := by decide +kernel
theorem dX5_tryText_101 : decode cX5_tryText 101 = .ok (.iload 5, 2) := by decide +kernel
theorem dX5_tryText_103 : decode cX5_tryText 103 = .ok (.invokevirtual 128, 3) := by decide +kernel
theorem dX5_tryText_106 : decode cX5_tryText 106 = .ok (.iload_n 2, 1) := by decide +kernel
theorem dX5_tryText_107 : decode cX5_tryText 107 = .ok (.ireturn, 1) := by decide +kernel
theorem dX5_tryText_108 : decode cX5_tryText 108 = .ok (.iinc 2 1, 3) := by decide +kernel
theorem dX5_tryText_111 : decode cX5_tryText 111 = .ok (.aload_n 0, 1) := by decide +kernel
theorem dX5_tryText_112 : decode cX5_tryText 112 = .ok (.getfield 30, 3) := by decide +kernel
theorem dX5_tryText_115 : decode cX5_tryText 115 = .ok (.getfield 142, 3) := by decide +kernel
theorem dX5_tryText_118 : decode cX5_tryText 118 = .ok (.istore_n 3, 1) := by decide +kernel
theorem dX5_tryText_119 : decode cX5_tryText 119 = .ok (.goto (-103), 3) := by decide +kernel
theorem dX5_tryText_122 : decode cX5_tryText 122 = .ok (.iload_n 2, 1) := by decide +kernel
theorem dX5_tryText_123 : decode cX5_tryText 123 = .ok (.ireturn, 1) := by decide +kernel
theorem dX5_noteFault_0 : decode cX5_noteFault 0 = .ok (.aload_n 0, 1) := by decide +kernel
theorem dX5_noteFault_1 : decode cX5_noteFault 1 = .ok (.iload_n 1, 1) := by decide +kernel
theorem dX5_noteFault_2 : decode cX5_noteFault 2 = .ok (.putfield 34, 3) := by decide +kernel
theorem dX5_noteFault_5 : decode cX5_noteFault 5 = .ok (.aload_n 0, 1) := by decide +kernel
theorem dX5_noteFault_6 : decode cX5_noteFault 6 = .ok (.iload_n 2, 1) := by decide +kernel
theorem dX5_noteFault_7 : decode cX5_noteFault 7 = .ok (.putfield 37, 3) := by decide +kernel
theorem dX5_noteFault_10 : decode cX5_noteFault 10 = .ok (.aload_n 0, 1) := by decide +kernel
theorem dX5_noteFault_11 : decode cX5_noteFault 11 = .ok (.iload_n 3, 1) := by decide +kernel
theorem dX5_noteFault_12 : decode cX5_noteFault 12 = .ok (.putfield 40, 3) := by decide +kernel
theorem dX5_noteFault_15 : decode cX5_noteFault 15 = .ok (.return_, 1) := by decide +kernel
theorem dX5_within_0 : decode cX5_within 0 = .ok (.iload_n 0, 1) := by decide +kernel
theorem dX5_within_1 : decode cX5_within 1 = .ok (.iload_n 1, 1) := by decide +kernel
theorem dX5_within_2 : decode cX5_within 2 = .ok (.if_icmp .lt 12, 3) := by decide +kernel
theorem dX5_within_5 : decode cX5_within 5 = .ok (.iload_n 0, 1) := by decide +kernel
theorem dX5_within_6 : decode cX5_within 6 = .ok (.iload_n 2, 1) := by decide +kernel
theorem dX5_within_7 : decode cX5_within 7 = .ok (.if_icmp .gt 7, 3) := by decide +kernel
theorem dX5_within_10 : decode cX5_within 10 = .ok (.iconst 1, 1) := by decide +kernel
theorem dX5_within_11 : decode cX5_within 11 = .ok (.goto 4, 3) := by decide +kernel
theorem dX5_within_14 : decode cX5_within 14 = .ok (.iconst 0, 1) := by decide +kernel
theorem dX5_within_15 : decode cX5_within 15 = .ok (.ireturn, 1) := by decide +kernel
theorem dX5_isName_0 : decode cX5_isName 0 = .ok (.iload_n 0, 1) := by decide +kernel
theorem dX5_isName_1 : decode cX5_isName 1 = .ok (.iconst 0, 1) := by decide +kernel
theorem dX5_isName_2 : decode cX5_isName 2 = .ok (.bipush 7, 2) := by decide +kernel
theorem dX5_isName_4 : decode cX5_isName 4 = .ok (.invokestatic 113, 3) := by decide +kernel
theorem dX5_isName_7 : decode cX5_isName 7 = .ok (.ireturn, 1) := by decide +kernel
theorem dJ6_bitCount_0f7a4_0 : decode cJ6_bitCount_0f7a4 0 = .ok (.iload_n 0, 1) := by decide +kernel
theorem dJ6_bitCount_0f7a4_1 : decode cJ6_bitCount_0f7a4 1 = .ok (.iload_n 0, 1) := by decide +kernel
theorem dJ6_bitCount_0f7a4_2 : decode cJ6_bitCount_0f7a4 2 = .ok (.iconst 1, 1) := by decide +kernel
theorem dJ6_bitCount_0f7a4_3 : decode cJ6_bitCount_0f7a4 3 = .ok (.iushr, 1) := by decide +kernel
theorem dJ6_bitCount_0f7a4_4 : decode cJ6_bitCount_0f7a4 4 = .ok (.ldc_w 265, 3) := by decide +kernel
theorem dJ6_bitCount_0f7a4_7 : decode cJ6_bitCount_0f7a4 7 = .ok (.iand, 1) := by decide +kernel
theorem dJ6_bitCount_0f7a4_8 : decode cJ6_bitCount_0f7a4 8 = .ok (.isub, 1) := by decide +kernel
theorem dJ6_bitCount_0f7a4_9 : decode cJ6_bitCount_0f7a4 9 = .ok (.istore_n 0, 1) := by decide +kernel
theorem dJ6_bitCount_0f7a4_10 : decode cJ6_bitCount_0f7a4 10 = .ok (.iload_n 0, 1) := by decide +kernel
theorem dJ6_bitCount_0f7a4_11 : decode cJ6_bitCount_0f7a4 11 = .ok (.ldc_w 266, 3) := by decide +kernel
theorem dJ6_bitCount_0f7a4_14 : decode cJ6_bitCount_0f7a4 14 = .ok (.iand, 1) := by decide +kernel
theorem dJ6_bitCount_0f7a4_15 : decode cJ6_bitCount_0f7a4 15 = .ok (.iload_n 0, 1) := by decide +kernel
theorem dJ6_bitCount_0f7a4_16 : decode cJ6_bitCount_0f7a4 16 = .ok (.iconst 2, 1) := by decide +kernel
theorem dJ6_bitCount_0f7a4_17 : decode cJ6_bitCount_0f7a4 17 = .ok (.iushr, 1) := by decide +kernel
theorem dJ6_bitCount_0f7a4_18 : decode cJ6_bitCount_0f7a4 18 = .ok (.ldc_w 266, 3) := by decide +kernel
theorem dJ6_bitCount_0f7a4_21 : decode cJ6_bitCount_0f7a4 21 = .ok (.iand, 1) := by decide +kernel
theorem dJ6_bitCount_0f7a4_22 : decode cJ6_bitCount_0f7a4 22 = .ok (.iadd, 1) := by decide +kernel
theorem dJ6_bitCount_0f7a4_23 : decode cJ6_bitCount_0f7a4 23 = .ok (.istore_n 0, 1) := by decide +kernel
theorem dJ6_bitCount_0f7a4_24 : decode cJ6_bitCount_0f7a4 24 = .ok (.iload_n 0, 1) := by decide +kernel
theorem dJ6_bitCount_0f7a4_25 : decode cJ6_bitCount_0f7a4 25 = .ok (.iload_n 0, 1) := by decide +kernel
theorem dJ6_bitCount_0f7a4_26 : decode cJ6_bitCount_0f7a4 26 = .ok (.iconst 4, 1) := by decide +kernel
theorem dJ6_bitCount_0f7a4_27 : decode cJ6_bitCount_0f7a4 27 = .ok (.iushr, 1) := by decide +kernel
theorem dJ6_bitCount_0f7a4_28 : decode cJ6_bitCount_0f7a4 28 = .ok (.iadd, 1) := by decide +kernel
theorem dJ6_bitCount_0f7a4_29 : decode cJ6_bitCount_0f7a4 29 = .ok (.ldc_w 267, 3) := by decide +kernel
theorem dJ6_bitCount_0f7a4_32 : decode cJ6_bitCount_0f7a4 32 = .ok (.iand, 1) := by decide +kernel
theorem dJ6_bitCount_0f7a4_33 : decode cJ6_bitCount_0f7a4 33 = .ok (.istore_n 0, 1) := by decide +kernel
theorem dJ6_bitCount_0f7a4_34 : decode cJ6_bitCount_0f7a4 34 = .ok (.iload_n 0, 1) := by decide +kernel
theorem dJ6_bitCount_0f7a4_35 : decode cJ6_bitCount_0f7a4 35 = .ok (.iload_n 0, 1) := by decide +kernel
theorem dJ6_bitCount_0f7a4_36 : decode cJ6_bitCount_0f7a4 36 = .ok (.bipush 8, 2) := by decide +kernel
theorem dJ6_bitCount_0f7a4_38 : decode cJ6_bitCount_0f7a4 38 = .ok (.iushr, 1) := by decide +kernel
theorem dJ6_bitCount_0f7a4_39 : decode cJ6_bitCount_0f7a4 39 = .ok (.iadd, 1) := by decide +kernel
theorem dJ6_bitCount_0f7a4_40 : decode cJ6_bitCount_0f7a4 40 = .ok (.istore_n 0, 1) := by decide +kernel
theorem dJ6_bitCount_0f7a4_41 : decode cJ6_bitCount_0f7a4 41 = .ok (.iload_n 0, 1) := by decide +kernel
theorem dJ6_bitCount_0f7a4_42 : decode cJ6_bitCount_0f7a4 42 = .ok (.iload_n 0, 1) := by decide +kernel
theorem dJ6_bitCount_0f7a4_43 : decode cJ6_bitCount_0f7a4 43 = .ok (.bipush 16, 2) := by decide +kernel
theorem dJ6_bitCount_0f7a4_45 : decode cJ6_bitCount_0f7a4 45 = .ok (.iushr, 1) := by decide +kernel
theorem dJ6_bitCount_0f7a4_46 : decode cJ6_bitCount_0f7a4 46 = .ok (.iadd, 1) := by decide +kernel
theorem dJ6_bitCount_0f7a4_47 : decode cJ6_bitCount_0f7a4 47 = .ok (.istore_n 0, 1) := by decide +kernel
theorem dJ6_bitCount_0f7a4_48 : decode cJ6_bitCount_0f7a4 48 = .ok (.iload_n 0, 1) := by decide +kernel
theorem dJ6_bitCount_0f7a4_49 : decode cJ6_bitCount_0f7a4 49 = .ok (.bipush 63, 2) := by decide +kernel
theorem dJ6_bitCount_0f7a4_51 : decode cJ6_bitCount_0f7a4 51 = .ok (.iand, 1) := by decide +kernel
theorem dJ6_bitCount_0f7a4_52 : decode cJ6_bitCount_0f7a4 52 = .ok (.ireturn, 1) := by decide +kernel
theorem dJ9_floorMod_7cf53_0 : decode cJ9_floorMod_7cf53 0 = .ok (.iload_n 0, 1) := by decide +kernel
theorem dJ9_floorMod_7cf53_1 : decode cJ9_floorMod_7cf53 1 = .ok (.iload_n 1, 1) := by decide +kernel
theorem dJ9_floorMod_7cf53_2 : decode cJ9_floorMod_7cf53 2 = .ok (.irem, 1) := by decide +kernel
theorem dJ9_floorMod_7cf53_3 : decode cJ9_floorMod_7cf53 3 = .ok (.istore_n 2, 1) := by decide +kernel
theorem dJ9_floorMod_7cf53_4 : decode cJ9_floorMod_7cf53 4 = .ok (.iload_n 0, 1) := by decide +kernel
theorem dJ9_floorMod_7cf53_5 : decode cJ9_floorMod_7cf53 5 = .ok (.iload_n 1, 1) := by decide +kernel
theorem dJ9_floorMod_7cf53_6 : decode cJ9_floorMod_7cf53 6 = .ok (.ixor, 1) := by decide +kernel
theorem dJ9_floorMod_7cf53_7 : decode cJ9_floorMod_7cf53 7 = .ok (.ifCond .ge 11, 3) := by decide +kernel
theorem dJ9_floorMod_7cf53_10 : decode cJ9_floorMod_7cf53 10 = .ok (.iload_n 2, 1) := by decide +kernel
theorem dJ9_floorMod_7cf53_11 : decode cJ9_floorMod_7cf53 11 = .ok (.ifCond .eq 7, 3) := by decide +kernel
theorem dJ9_floorMod_7cf53_14 : decode cJ9_floorMod_7cf53 14 = .ok (.iload_n 2, 1) := by decide +kernel
theorem dJ9_floorMod_7cf53_15 : decode cJ9_floorMod_7cf53 15 = .ok (.iload_n 1, 1) := by decide +kernel
theorem dJ9_floorMod_7cf53_16 : decode cJ9_floorMod_7cf53 16 = .ok (.iadd, 1) := by decide +kernel
theorem dJ9_floorMod_7cf53_17 : decode cJ9_floorMod_7cf53 17 = .ok (.ireturn, 1) := by decide +kernel
theorem dJ9_floorMod_7cf53_18 : decode cJ9_floorMod_7cf53 18 = .ok (.iload_n 2, 1) := by decide +kernel
theorem dJ9_floorMod_7cf53_19 : decode cJ9_floorMod_7cf53 19 = .ok (.ireturn, 1) := by decide +kernel
theorem dJ0_length_8abf5_0 : decode cJ0_length_8abf5 0 = .ok (.aload_n 0, 1) := by decide +kernel
theorem dJ0_length_8abf5_1 : decode cJ0_length_8abf5 1 = .ok (.getfield 9, 3) := by decide +kernel
theorem dJ0_length_8abf5_4 : decode cJ0_length_8abf5 4 = .ok (.arraylength, 1) := by decide +kernel
theorem dJ0_length_8abf5_5 : decode cJ0_length_8abf5 5 = .ok (.aload_n 0, 1) := by decide +kernel
theorem dJ0_length_8abf5_6 : decode cJ0_length_8abf5 6 = .ok (.invokevirtual 335, 3) := by decide +kernel
theorem dJ0_length_8abf5_9 : decode cJ0_length_8abf5 9 = .ok (.ishr, 1) := by decide +kernel
theorem dJ0_length_8abf5_10 : decode cJ0_length_8abf5 10 = .ok (.ireturn, 1) := by decide +kernel
theorem dJ0_charAt_5068e_0 : decode cJ0_charAt_5068e 0 = .ok (.aload_n 0, 1) := by decide +kernel
theorem dJ0_charAt_5068e_1 : decode cJ0_charAt_5068e 1 = .ok (.invokevirtual 492, 3) := by decide +kernel
theorem dJ0_charAt_5068e_4 : decode cJ0_charAt_5068e 4 = .ok (.ifCond .eq 12, 3) := by decide +kernel
theorem dJ0_charAt_5068e_7 : decode cJ0_charAt_5068e 7 = .ok (.aload_n 0, 1) := by decide +kernel
theorem dJ0_charAt_5068e_8 : decode cJ0_charAt_5068e 8 = .ok (.getfield 9, 3) := by decide +kernel
theorem dJ0_charAt_5068e_11 : decode cJ0_charAt_5068e 11 = .ok (.iload_n 1, 1) := by decide +kernel
theorem dJ0_charAt_5068e_12 : decode cJ0_charAt_5068e 12 = .ok (.invokestatic 495, 3) := by decide +kernel
theorem dJ0_charAt_5068e_15 : decode cJ0_charAt_5068e 15 = .ok (.ireturn, 1) := by decide +kernel
theorem dJ0_charAt_5068e_16 : decode cJ0_charAt_5068e 16 = .ok (.aload_n 0, 1) := by decide +kernel
theorem dJ0_charAt_5068e_17 : decode cJ0_charAt_5068e 17 = .ok (.getfield 9, 3) := by decide +kernel
theorem dJ0_charAt_5068e_20 : decode cJ0_charAt_5068e 20 = .ok (.iload_n 1, 1) := by decide +kernel
theorem dJ0_charAt_5068e_21 : decode cJ0_charAt_5068e 21 = .ok (.invokestatic 498, 3) := by decide +kernel
theorem dJ0_charAt_5068e_24 : decode cJ0_charAt_5068e 24 = .ok (.ireturn, 1) := by decide +kernel
theorem dJ0_coder_7d493_0 : decode cJ0_coder_7d493 0 = .ok (.getstatic 38, 3) := by decide +kernel
theorem dJ0_coder_7d493_3 : decode cJ0_coder_7d493 3 = .ok (.ifCond .eq 10, 3) := by decide +kernel
theorem dJ0_coder_7d493_6 : decode cJ0_coder_7d493 6 = .ok (.aload_n 0, 1) := by decide +kernel
theorem dJ0_coder_7d493_7 : decode cJ0_coder_7d493 7 = .ok (.getfield 15, 3) := by decide +kernel
theorem dJ0_coder_7d493_10 : decode cJ0_coder_7d493 10 = .ok (.goto 4, 3) := by decide +kernel
theorem dJ0_coder_7d493_13 : decode cJ0_coder_7d493 13 = .ok (.iconst 1, 1) := by decide +kernel
theorem dJ0_coder_7d493_14 : decode cJ0_coder_7d493 14 = .ok (.ireturn, 1) := by decide +kernel
theorem dJ0_isLatin1_aae02_0 : decode cJ0_isLatin1_aae02 0 = .ok (.getstatic 38, 3) := by decide +kernel
theorem dJ0_isLatin1_aae02_3 : decode cJ0_isLatin1_aae02 3 = .ok (.ifCond .eq 14, 3) := by decide +kernel
theorem dJ0_isLatin1_aae02_6 : decode cJ0_isLatin1_aae02 6 = .ok (.aload_n 0, 1) := by decide +kernel
theorem dJ0_isLatin1_aae02_7 : decode cJ0_isLatin1_aae02 7 = .ok (.getfield 15, 3) := by decide +kernel
theorem dJ0_isLatin1_aae02_10 : decode cJ0_isLatin1_aae02 10 = .ok (.ifCond .ne 7, 3) := by decide +kernel
theorem dJ0_isLatin1_aae02_13 : decode cJ0_isLatin1_aae02 13 = .ok (.iconst 1, 1) := by decide +kernel
theorem dJ0_isLatin1_aae02_14 : decode cJ0_isLatin1_aae02 14 = .ok (.goto 4, 3) := by decide +kernel
theorem dJ0_isLatin1_aae02_17 : decode cJ0_isLatin1_aae02 17 = .ok (.iconst 0, 1) := by decide +kernel
theorem dJ0_isLatin1_aae02_18 : decode cJ0_isLatin1_aae02 18 = .ok (.ireturn, 1) := by decide +kernel
theorem dJ0_checkIndex_df160_0 : decode cJ0_checkIndex_df160 0 = .ok (.iload_n 0, 1) := by decide +kernel
theorem dJ0_checkIndex_df160_1 : decode cJ0_checkIndex_df160 1 = .ok (.iload_n 1, 1) := by decide +kernel
theorem dJ0_checkIndex_df160_2 : decode cJ0_checkIndex_df160 2 = .ok (.getstatic 1053, 3) := by decide +kernel
theorem dJ0_checkIndex_df160_5 : decode cJ0_checkIndex_df160 5 = .ok (.invokestatic 1059, 3) := by decide +kernel
theorem dJ0_checkIndex_df160_8 : decode cJ0_checkIndex_df160 8 = .ok (.pop, 1) := by decide +kernel
theorem dJ0_checkIndex_df160_9 : decode cJ0_checkIndex_df160 9 = .ok (.return_, 1) := by decide +kernel
theorem dJ1_charAt_3b067_0 : decode cJ1_charAt_3b067 0 = .ok (.iload_n 1, 1) := by decide +kernel
theorem dJ1_charAt_3b067_1 : decode cJ1_charAt_3b067 1 = .ok (.aload_n 0, 1) := by decide +kernel
theorem dJ1_charAt_3b067_2 : decode cJ1_charAt_3b067 2 = .ok (.arraylength, 1) := by decide +kernel
theorem dJ1_charAt_3b067_3 : decode cJ1_charAt_3b067 3 = .ok (.invokestatic 9, 3) := by decide +kernel
theorem dJ1_charAt_3b067_6 : decode cJ1_charAt_3b067 6 = .ok (.aload_n 0, 1) := by decide +kernel
theorem dJ1_charAt_3b067_7 : decode cJ1_charAt_3b067 7 = .ok (.iload_n 1, 1) := by decide +kernel
theorem dJ1_charAt_3b067_8 : decode cJ1_charAt_3b067 8 = .ok (.baload, 1) := by decide +kernel
theorem dJ1_charAt_3b067_9 : decode cJ1_charAt_3b067 9 = .ok (.sipush 255, 3) := by decide +kernel
theorem dJ1_charAt_3b067_12 : decode cJ1_charAt_3b067 12 = .ok (.iand, 1) := by decide +kernel
theorem dJ1_charAt_3b067_13 : decode cJ1_charAt_3b067 13 = .ok (.i2c, 1) := by decide +kernel
theorem dJ1_charAt_3b067_14 : decode cJ1_charAt_3b067 14 = .ok (.ireturn, 1) := by decide +kernel
theorem dJ2_getChar_3b067_0 : decode cJ2_getChar_3b067 0 = .ok (.getstatic 44, 3) := by decide +kernel
theorem dJ2_getChar_3b067_3 : decode cJ2_getChar_3b067 3 = .ok (.ifCond .ne 25, 3) := by decide +kernel
theorem dJ2_getChar_3b067_6 : decode cJ2_getChar_3b067 6 = .ok (.iload_n 1, 1) := by decide +kernel
theorem dJ2_getChar_3b067_7 : decode cJ2_getChar_3b067 7 = .ok (.ifCond .lt 11, 3) := by decide +kernel
theorem dJ2_getChar_3b067_10 : decode cJ2_getChar_3b067 10 = .ok (.iload_n 1, 1) := by decide +kernel
theorem dJ2_getChar_3b067_11 : decode cJ2_getChar_3b067 11 = .ok (.aload_n 0, 1) := by decide +kernel
theorem dJ2_getChar_3b067_12 : decode cJ2_getChar_3b067 12 = .ok (.invokestatic 48, 3) := by decide +kernel
theorem dJ2_getChar_3b067_15 : decode cJ2_getChar_3b067 15 = .ok (.if_icmp .lt 13, 3) := by decide +kernel
theorem dJ2_getChar_3b067_18 : decode cJ2_getChar_3b067 18 = .ok (.new 52, 3) := by decide +kernel
theorem dJ2_getChar_3b067_21 : decode cJ2_getChar_3b067 21 = .ok (.dup, 1) := by decide +kernel
theorem dJ2_getChar_3b067_22 : decode cJ2_getChar_3b067 22 = .ok (.ldc 54, 2) := by decide +kernel
theorem dJ2_getChar_3b067_24 : decode cJ2_getChar_3b067 24 = .ok (.invokespecial 56, 3) := by decide +kernel
theorem dJ2_getChar_3b067_27 : decode cJ2_getChar_3b067 27 = .ok (.athrow, 1) := by decide +kernel
theorem dJ2_getChar_3b067_28 : decode cJ2_getChar_3b067 28 = .ok (.iload_n 1, 1) := by decide +kernel
theorem dJ2_getChar_3b067_29 : decode cJ2_getChar_3b067 29 = .ok (.iconst 1, 1) := by decide +kernel
theorem dJ2_getChar_3b067_30 : decode cJ2_getChar_3b067 30 = .ok (.ishl, 1) := by decide +kernel
theorem dJ2_getChar_3b067_31 : decode cJ2_getChar_3b067 31 = .ok (.istore_n 1, 1) := by decide +kernel
theorem dJ2_getChar_3b067_32 : decode cJ2_getChar_3b067 32 = .ok (.aload_n 0, 1) := by decide +kernel
theorem dJ2_getChar_3b067_33 : decode cJ2_getChar_3b067 33 = .ok (.iload_n 1, 1) := by decide +kernel
theorem dJ2_getChar_3b067_34 : decode cJ2_getChar_3b067 34 = .ok (.iinc 1 1, 3) := by decide +kernel
theorem dJ2_getChar_3b067_37 : decode cJ2_getChar_3b067 37 = .ok (.baload, 1) := by decide +kernel
theorem dJ2_getChar_3b067_38 : decode cJ2_getChar_3b067 38 = .ok (.sipush 255, 3) := by decide +kernel
theorem dJ2_getChar_3b067_41 : decode cJ2_getChar_3b067 41 = .ok (.iand, 1) := by decide +kernel
theorem dJ2_getChar_3b067_42 : decode cJ2_getChar_3b067 42 = .ok (.getstatic 59, 3) := by decide +kernel
theorem dJ2_getChar_3b067_45 : decode cJ2_getChar_3b067 45 = .ok (.ishl, 1) := by decide +kernel
theorem dJ2_getChar_3b067_46 : decode cJ2_getChar_3b067 46 = .ok (.aload_n 0, 1) := by decide +kernel
theorem dJ2_getChar_3b067_47 : decode cJ2_getChar_3b067 47 = .ok (.iload_n 1, 1) := by decide +kernel
theorem dJ2_getChar_3b067_48 : decode cJ2_getChar_3b067 48 = .ok (.baload, 1) := by decide +kernel
theorem dJ2_getChar_3b067_49 : decode cJ2_getChar_3b067 49 = .ok (.sipush 255, 3) := by decide +kernel
theorem dJ2_getChar_3b067_52 : decode cJ2_getChar_3b067 52 = .ok (.iand, 1) := by decide +kernel
theorem dJ2_getChar_3b067_53 : decode cJ2_getChar_3b067 53 = .ok (.getstatic 63, 3) := by decide +kernel
theorem dJ2_getChar_3b067_56 : decode cJ2_getChar_3b067 56 = .ok (.ishl, 1) := by decide +kernel
theorem dJ2_getChar_3b067_57 : decode cJ2_getChar_3b067 57 = .ok (.ior, 1) := by decide +kernel
theorem dJ2_getChar_3b067_58 : decode cJ2_getChar_3b067 58 = .ok (.i2c, 1) := by decide +kernel
theorem dJ2_getChar_3b067_59 : decode cJ2_getChar_3b067 59 = .ok (.ireturn, 1) := by decide +kernel
theorem dJ2_length_9d52b_0 : decode cJ2_length_9d52b 0 = .ok (.aload_n 0, 1) := by decide +kernel
theorem dJ2_length_9d52b_1 : decode cJ2_length_9d52b 1 = .ok (.arraylength, 1) := by decide +kernel
theorem dJ2_length_9d52b_2 : decode cJ2_length_9d52b 2 = .ok (.iconst 1, 1) := by decide +kernel
theorem dJ2_length_9d52b_3 : decode cJ2_length_9d52b 3 = .ok (.ishr, 1) := by decide +kernel
theorem dJ2_length_9d52b_4 : decode cJ2_length_9d52b 4 = .ok (.ireturn, 1) := by decide +kernel
theorem dJ2_charAt_3b067_0 : decode cJ2_charAt_3b067 0 = .ok (.iload_n 1, 1) := by decide +kernel
theorem dJ2_charAt_3b067_1 : decode cJ2_charAt_3b067 1 = .ok (.aload_n 0, 1) := by decide +kernel
theorem dJ2_charAt_3b067_2 : decode cJ2_charAt_3b067 2 = .ok (.invokestatic 67, 3) := by decide +kernel
theorem dJ2_charAt_3b067_5 : decode cJ2_charAt_3b067 5 = .ok (.aload_n 0, 1) := by decide +kernel
theorem dJ2_charAt_3b067_6 : decode cJ2_charAt_3b067 6 = .ok (.iload_n 1, 1) := by decide +kernel
theorem dJ2_charAt_3b067_7 : decode cJ2_charAt_3b067 7 = .ok (.invokestatic 71, 3) := by decide +kernel
theorem dJ2_charAt_3b067_10 : decode cJ2_charAt_3b067 10 = .ok (.ireturn, 1) := by decide +kernel
theorem dJ2_checkIndex_2214a_0 : decode cJ2_checkIndex_2214a 0 = .ok (.iload_n 0, 1) := by decide +kernel
theorem dJ2_checkIndex_2214a_1 : decode cJ2_checkIndex_2214a 1 = .ok (.aload_n 1, 1) := by decide +kernel
theorem dJ2_checkIndex_2214a_2 : decode cJ2_checkIndex_2214a 2 = .ok (.invokestatic 48, 3) := by decide +kernel
theorem dJ2_checkIndex_2214a_5 : decode cJ2_checkIndex_2214a 5 = .ok (.invokestatic 414, 3) := by decide +kernel
theorem dJ2_checkIndex_2214a_8 : decode cJ2_checkIndex_2214a 8 = .ok (.return_, 1) := by decide +kernel
theorem dJ3_checkIndex_8e157_0 : decode cJ3_checkIndex_8e157 0 = .ok (.iload_n 0, 1) := by decide +kernel
theorem dJ3_checkIndex_8e157_1 : decode cJ3_checkIndex_8e157 1 = .ok (.ifCond .lt 8, 3) := by decide +kernel
theorem dJ3_checkIndex_8e157_4 : decode cJ3_checkIndex_8e157 4 = .ok (.iload_n 0, 1) := by decide +kernel
theorem dJ3_checkIndex_8e157_5 : decode cJ3_checkIndex_8e157 5 = .ok (.iload_n 1, 1) := by decide +kernel
theorem dJ3_checkIndex_8e157_6 : decode cJ3_checkIndex_8e157 6 = .ok (.if_icmp .lt 10, 3) := by decide +kernel
theorem dJ3_checkIndex_8e157_9 : decode cJ3_checkIndex_8e157 9 = .ok (.aload_n 2, 1) := by decide +kernel
theorem dJ3_checkIndex_8e157_10 : decode cJ3_checkIndex_8e157 10 = .ok (.iload_n 0, 1) := by decide +kernel
theorem dJ3_checkIndex_8e157_11 : decode cJ3_checkIndex_8e157 11 = .ok (.iload_n 1, 1) := by decide +kernel
theorem dJ3_checkIndex_8e157_12 : decode cJ3_checkIndex_8e157 12 = .ok (.invokestatic 95, 3) := by decide +kernel
theorem dJ3_checkIndex_8e157_15 : decode cJ3_checkIndex_8e157 15 = .ok (.athrow, 1) := by decide +kernel
theorem dJ3_checkIndex_8e157_16 : decode cJ3_checkIndex_8e157 16 = .ok (.iload_n 0, 1) := by decide +kernel
theorem dJ3_checkIndex_8e157_17 : decode cJ3_checkIndex_8e157 17 = .ok (.ireturn, 1) := by decide +kernel
end
section
theorem dX2_init_0 : decode cX2_init 0 = .ok (.aload_n 0, 1) := by decide +kernel
theorem dX2_init_1 : decode cX2_init 1 = .ok (.invokespecial 3, 3) := by decide +kernel
theorem dX2_init_4 : decode cX2_init 4 = .ok (.aload_n 0, 1) := by decide +kernel
theorem dX2_init_5 : decode cX2_init 5 = .ok (.iconst 5, 1) := by decide +kernel
theorem dX2_init_6 : decode cX2_init 6 = .ok (.putfield 9, 3) := by decide +kernel
theorem dX2_init_9 : decode cX2_init 9 = .ok (.aload_n 0, 1) := by decide +kernel
theorem dX2_init_10 : decode cX2_init 10 = .ok (.iconst 0, 1) := by decide +kernel
theorem dX2_init_11 : decode cX2_init 11 = .ok (.putfield 15, 3) := by decide +kernel
theorem dX2_init_14 : decode cX2_init 14 = .ok (.aload_n 0, 1) := by decide +kernel
theorem dX2_init_15 : decode cX2_init 15 = .ok (.iconst 0, 1) := by decide +kernel
theorem dX2_init_16 : decode cX2_init 16 = .ok (.putfield 18, 3) := by decide +kernel
theorem dX2_init_19 : decode cX2_init 19 = .ok (.aload_n 0, 1) := by decide +kernel
theorem dX2_init_20 : decode cX2_init 20 = .ok (.iconst 0, 1) := by decide +kernel
theorem dX2_init_21 : decode cX2_init 21 = .ok (.putfield 21, 3) := by decide +kernel
theorem dX2_init_24 : decode cX2_init 24 = .ok (.aload_n 0, 1) := by decide +kernel
theorem dX2_init_25 : decode cX2_init 25 = .ok (.iconst 0, 1) := by decide +kernel
theorem dX2_init_26 : decode cX2_init 26 = .ok (.putfield 24, 3) := by decide +kernel
theorem dX2_init_29 : decode cX2_init 29 = .ok (.aload_n 0, 1) := by decide +kernel
theorem dX2_init_30 : decode cX2_init 30 = .ok (.iconst 0, 1) := by decide +kernel
theorem dX2_init_31 : decode cX2_init 31 = .ok (.putfield 27, 3) := by decide +kernel
theorem dX2_init_34 : decode cX2_init 34 = .ok (.aload_n 0, 1) := by decide +kernel
theorem dX2_init_35 : decode cX2_init 35 = .ok (.iconst 0, 1) := by decide +kernel
theorem dX2_init_36 : decode cX2_init 36 = .ok (.putfield 30, 3) := by decide +kernel
theorem dX2_init_39 : decode cX2_init 39 = .ok (.aload_n 0, 1) := by decide +kernel
theorem dX2_init_40 : decode cX2_init 40 = .ok (.iconst 4, 1) := by decide +kernel
theorem dX2_init_41 : decode cX2_init 41 = .ok (.newarray .int, 2) := by decide +kernel
theorem dX2_init_43 : decode cX2_init 43 = .ok (.dup, 1) := by decide +kernel
theorem dX2_init_44 : decode cX2_init 44 = .ok (.iconst 0, 1) := by decide +kernel
theorem dX2_init_45 : decode cX2_init 45 = .ok (.iconst 1, 1) := by decide +kernel
theorem dX2_init_46 : decode cX2_init 46 = .ok (.iastore, 1) := by decide +kernel
theorem dX2_init_47 : decode cX2_init 47 = .ok (.dup, 1) := by decide +kernel
theorem dX2_init_48 : decode cX2_init 48 = .ok (.iconst 1, 1) := by decide +kernel
theorem dX2_init_49 : decode cX2_init 49 = .ok (.iconst 3, 1) := by decide +kernel
theorem dX2_init_50 : decode cX2_init 50 = .ok (.iastore, 1) := by decide +kernel
theorem dX2_init_51 : decode cX2_init 51 = .ok (.dup, 1) := by decide +kernel
theorem dX2_init_52 : decode cX2_init 52 = .ok (.iconst 2, 1) := by decide +kernel
theorem dX2_init_53 : decode cX2_init 53 = .ok (.iconst 2, 1) := by decide +kernel
theorem dX2_init_54 : decode cX2_init 54 = .ok (.iastore, 1) := by decide +kernel
theorem dX2_init_55 : decode cX2_init 55 = .ok (.dup, 1) := by decide +kernel
theorem dX2_init_56 : decode cX2_init 56 = .ok (.iconst 3, 1) := by decide +kernel
theorem dX2_init_57 : decode cX2_init 57 = .ok (.iconst 2, 1) := by decide +kernel
theorem dX2_init_58 : decode cX2_init 58 = .ok (.iastore, 1) := by decide +kernel
theorem dX2_init_59 : decode cX2_init 59 = .ok (.putfield 33, 3) := by decide +kernel
theorem dX2_init_62 : decode cX2_init 62 = .ok (.aload_n 0, 1) := by decide +kernel
theorem dX2_init_63 : decode cX2_init 63 = .ok (.new 37, 3) := by decide +kernel
theorem dX2_init_66 : decode cX2_init 66 = .ok (.dup, 1) := by decide +kernel
theorem dX2_init_67 : decode cX2_init 67 = .ok (.invokespecial 39, 3) := by decide +kernel
theorem dX2_init_70 : decode cX2_init 70 = .ok (.putfield 40, 3) := by decide +kernel
theorem dX2_init_73 : decode cX2_init 73 = .ok (.aload_n 0, 1) := by decide +kernel
theorem dX2_init_74 : decode cX2_init 74 = .ok (.new 44, 3) := by decide +kernel
theorem dX2_init_77 : decode cX2_init 77 = .ok (.dup, 1) := by decide +kernel
theorem dX2_init_78 : decode cX2_init 78 = .ok (.invokespecial 46, 3) := by decide +kernel
theorem dX2_init_81 : decode cX2_init 81 = .ok (.putfield 47, 3) := by decide +kernel
theorem dX2_init_84 : decode cX2_init 84 = .ok (.aload_n 0, 1) := by decide +kernel
theorem dX2_init_85 : decode cX2_init 85 = .ok (.new 51, 3) := by decide +kernel
theorem dX2_init_88 : decode cX2_init 88 = .ok (.dup, 1) := by decide +kernel
theorem dX2_init_89 : decode cX2_init 89 = .ok (.invokespecial 53, 3) := by decide +kernel
theorem dX2_init_92 : decode cX2_init 92 = .ok (.putfield 54, 3) := by decide +kernel
theorem dX2_init_95 : decode cX2_init 95 = .ok (.aload_n 0, 1) := by decide +kernel
theorem dX2_init_96 : decode cX2_init 96 = .ok (.iconst 3, 1) := by decide +kernel
theorem dX2_init_97 : decode cX2_init 97 = .ok (.anewarray 37, 3) := by decide +kernel
theorem dX2_init_100 : decode cX2_init 100 = .ok (.putfield 58, 3) := by decide +kernel
theorem dX2_init_103 : decode cX2_init 103 = .ok (.iconst 0, 1) := by decide +kernel
theorem dX2_init_104 : decode cX2_init 104 = .ok (.istore_n 1, 1) := by decide +kernel
theorem dX2_init_105 : decode cX2_init 105 = .ok (.iload_n 1, 1) := by decide +kernel
theorem dX2_init_106 : decode cX2_init 106 = .ok (.iconst 3, 1) := by decide +kernel
theorem dX2_init_107 : decode cX2_init 107 = .ok (.if_icmp .ge 22, 3) := by decide +kernel
theorem dX2_init_110 : decode cX2_init 110 = .ok (.aload_n 0, 1) := by decide +kernel
theorem dX2_init_111 : decode cX2_init 111 = .ok (.getfield 58, 3) := by decide +kernel
theorem dX2_init_114 : decode cX2_init 114 = .ok (.iload_n 1, 1) := by decide +kernel
theorem dX2_init_115 : decode cX2_init 115 = .ok (.new 37, 3) := by decide +kernel
theorem dX2_init_118 : decode cX2_init 118 = .ok (.dup, 1) := by decide +kernel
theorem dX2_init_119 : decode cX2_init 119 = .ok (.invokespecial 39, 3) := by decide +kernel
theorem dX2_init_122 : decode cX2_init 122 = .ok (.aastore, 1) := by decide +kernel
theorem dX2_init_123 : decode cX2_init 123 = .ok (.iinc 1 1, 3) := by decide +kernel
theorem dX2_init_126 : decode cX2_init 126 = .ok (.goto (-21), 3) := by decide +kernel
theorem dX2_init_129 : decode cX2_init 129 = .ok (.return_, 1) := by decide +kernel
theorem dX2_become_0 : decode cX2_become 0 = .ok (.aload_n 0, 1) := by decide +kernel
theorem dX2_become_1 : decode cX2_become 1 = .ok (.aload_n 1, 1) := by decide +kernel
theorem dX2_become_2 : decode cX2_become 2 = .ok (.getfield 9, 3) := by decide +kernel
theorem dX2_become_5 : decode cX2_become 5 = .ok (.putfield 9, 3) := by decide +kernel
theorem dX2_become_8 : decode cX2_become 8 = .ok (.aload_n 0, 1) := by decide +kernel
theorem dX2_become_9 : decode cX2_become 9 = .ok (.aload_n 1, 1) := by decide +kernel
theorem dX2_become_10 : decode cX2_become 10 = .ok (.getfield 15, 3) := by decide +kernel
theorem dX2_become_13 : decode cX2_become 13 = .ok (.putfield 15, 3) := by decide +kernel
theorem dX2_become_16 : decode cX2_become 16 = .ok (.aload_n 0, 1) := by decide +kernel
theorem dX2_become_17 : decode cX2_become 17 = .ok (.aload_n 1, 1) := by decide +kernel
theorem dX2_become_18 : decode cX2_become 18 = .ok (.getfield 18, 3) := by decide +kernel
theorem dX2_become_21 : decode cX2_become 21 = .ok (.putfield 18, 3) := by decide +kernel
theorem dX2_become_24 : decode cX2_become 24 = .ok (.aload_n 0, 1) := by decide +kernel
theorem dX2_become_25 : decode cX2_become 25 = .ok (.aload_n 1, 1) := by decide +kernel
theorem dX2_become_26 : decode cX2_become 26 = .ok (.getfield 21, 3) := by decide +kernel
theorem dX2_become_29 : decode cX2_become 29 = .ok (.putfield 21, 3) := by decide +kernel
theorem dX2_become_32 : decode cX2_become 32 = .ok (.aload_n 0, 1) := by decide +kernel
theorem dX2_become_33 : decode cX2_become 33 = .ok (.aload_n 1, 1) := by decide +kernel
theorem dX2_become_34 : decode cX2_become 34 = .ok (.getfield 24, 3) := by decide +kernel
theorem dX2_become_37 : decode cX2_become 37 = .ok (.putfield 24, 3) := by decide +kernel
theorem dX2_become_40 : decode cX2_become 40 = .ok (.aload_n 0, 1) := by decide +kernel
theorem dX2_become_41 : decode cX2_become 41 = .ok (.aload_n 1, 1) := by decide +kernel
theorem dX2_become_42 : decode cX2_become 42 = .ok (.getfield 27, 3) := by decide +kernel
theorem dX2_become_45 : decode cX2_become 45 = .ok (.putfield 27, 3) := by decide +kernel
theorem dX2_become_48 : decode cX2_become 48 = .ok (.aload_n 0, 1) := by decide +kernel
theorem dX2_become_49 : decode cX2_become 49 = .ok (.aload_n 1, 1) := by decide +kernel
theorem dX2_become_50 : decode cX2_become 50 = .ok (.getfield 30, 3) := by decide +kernel
theorem dX2_become_53 : decode cX2_become 53 = .ok (.putfield 30, 3) := by decide +kernel
theorem dX2_become_56 : decode cX2_become 56 = .ok (.iconst 0, 1) := by decide +kernel
theorem dX2_become_57 : decode cX2_become 57 = .ok (.istore_n 2, 1) := by decide +kernel
theorem dX2_become_58 : decode cX2_become 58 = .ok (.iload_n 2, 1) := by decide +kernel
theorem dX2_become_59 : decode cX2_become 59 = .ok (.iconst 4, 1) := by decide +kernel
theorem dX2_become_60 : decode cX2_become 60 = .ok (.if_icmp .ge 21, 3) := by decide +kernel
theorem dX2_become_63 : decode cX2_become 63 = .ok (.aload_n 0, 1) := by decide +kernel
theorem dX2_become_64 : decode cX2_become 64 = .ok (.getfield 33, 3) := by decide +kernel
theorem dX2_become_67 : decode cX2_become 67 = .ok (.iload_n 2, 1) := by decide +kernel
theorem dX2_become_68 : decode cX2_become 68 = .ok (.aload_n 1, 1) := by decide +kernel
theorem dX2_become_69 : decode cX2_become 69 = .ok (.getfield 33, 3) := by decide +kernel
theorem dX2_become_72 : decode cX2_become 72 = .ok (.iload_n 2, 1) := by decide +kernel
theorem dX2_become_73 : decode cX2_become 73 = .ok (.iaload, 1) := by decide +kernel
theorem dX2_become_74 : decode cX2_become 74 = .ok (.iastore, 1) := by decide +kernel
theorem dX2_become_75 : decode cX2_become 75 = .ok (.iinc 2 1, 3) := by decide +kernel
theorem dX2_become_78 : decode cX2_become 78 = .ok (.goto (-20), 3) := by decide +kernel
theorem dX2_become_81 : decode cX2_become 81 = .ok (.aload_n 0, 1) := by decide +kernel
theorem dX2_become_82 : decode cX2_become 82 = .ok (.getfield 40, 3) := by decide +kernel
theorem dX2_become_85 : decode cX2_become 85 = .ok (.aload_n 1, 1) := by decide +kernel
theorem dX2_become_86 : decode cX2_become 86 = .ok (.getfield 40, 3) := by decide +kernel
theorem dX2_become_89 : decode cX2_become 89 = .ok (.invokevirtual 62, 3) := by decide +kernel
theorem dX2_become_92 : decode cX2_become 92 = .ok (.aload_n 0, 1) := by decide +kernel
theorem dX2_become_93 : decode cX2_become 93 = .ok (.getfield 47, 3) := by decide +kernel
theorem dX2_become_96 : decode cX2_become 96 = .ok (.aload_n 1, 1) := by decide +kernel
theorem dX2_become_97 : decode cX2_become 97 = .ok (.getfield 47, 3) := by decide +kernel
theorem dX2_become_100 : decode cX2_become 100 = .ok (.invokevirtual 66, 3) := by decide +kernel
theorem dX2_become_103 : decode cX2_become 103 = .ok (.aload_n 0, 1) := by decide +kernel
theorem dX2_become_104 : decode cX2_become 104 = .ok (.getfield 54, 3) := by decide +kernel
theorem dX2_become_107 : decode cX2_become 107 = .ok (.aload_n 1, 1) := by decide +kernel
theorem dX2_become_108 : decode cX2_become 108 = .ok (.getfield 54, 3) := by decide +kernel
theorem dX2_become_111 : decode cX2_become 111 = .ok (.invokevirtual 69, 3) := by decide +kernel
theorem dX2_become_114 : decode cX2_become 114 = .ok (.iconst 0, 1) := by decide +kernel
theorem dX2_become_115 : decode cX2_become 115 = .ok (.istore_n 2, 1) := by decide +kernel
theorem dX2_become_116 : decode cX2_become 116 = .ok (.iload_n 2, 1) := by decide +kernel
theorem dX2_become_117 : decode cX2_become 117 = .ok (.iconst 3, 1) := by decide +kernel
theorem dX2_become_118 : decode cX2_become 118 = .ok (.if_icmp .ge 24, 3) := by decide +kernel
theorem dX2_become_121 : decode cX2_become 121 = .ok (.aload_n 0, 1) := by decide +kernel
theorem dX2_become_122 : decode cX2_become 122 = .ok (.getfield 58, 3) := by decide +kernel
theorem dX2_become_125 : decode cX2_become 125 = .ok (.iload_n 2, 1) := by decide +kernel
theorem dX2_become_126 : decode cX2_become 126 = .ok (.aaload, 1) := by decide +kernel
theorem dX2_become_127 : decode cX2_become 127 = .ok (.aload_n 1, 1) := by decide +kernel
theorem dX2_become_128 : decode cX2_become 128 = .ok (.getfield 58, 3) := by decide +kernel
theorem dX2_become_131 : decode cX2_become 131 = .ok (.iload_n 2, 1) := by decide +kernel
theorem dX2_become_132 : decode cX2_become 132 = .ok (.aaload, 1) := by decide +kernel
theorem dX2_become_133 : decode cX2_become 133 = .ok (.invokevirtual 62, 3) := by decide +kernel
theorem dX2_become_136 : decode cX2_become 136 = .ok (.iinc 2 1, 3) := by decide +kernel
theorem dX2_become_139 : decode cX2_become 139 = .ok (.goto (-23), 3) := by decide +kernel
theorem dX2_become_142 : decode cX2_become 142 = .ok (.return_, 1) := by decide +kernel
theorem dX2_perform_0 : decode cX2_perform 0 = .ok (.iload_n 1, 1) := by decide +kernel
theorem dX2_perform_1 : decode cX2_perform 1 = .ok (.tableswitch 97 0 8 #[51, 51, 51, 61, 68, 75, 81, 86, 91], 51) := by decide +kernel
theorem dX2_perform_52 : decode cX2_perform 52 = .ok (.aload_n 0, 1) := by decide +kernel
theorem dX2_perform_53 : decode cX2_perform 53 = .ok (.iload_n 1, 1) := by decide +kernel
theorem dX2_perform_54 : decode cX2_perform 54 = .ok (.iload_n 2, 1) := by decide +kernel
theorem dX2_perform_55 : decode cX2_perform 55 = .ok (.iload_n 3, 1) := by decide +kernel
theorem dX2_perform_56 : decode cX2_perform 56 = .ok (.iload 4, 2) := by decide +kernel
theorem dX2_perform_58 : decode cX2_perform 58 = .ok (.invokevirtual 72, 3) := by decide +kernel
theorem dX2_perform_61 : decode cX2_perform 61 = .ok (.ireturn, 1) := by decide +kernel
theorem dX2_perform_62 : decode cX2_perform 62 = .ok (.aload_n 0, 1) := by decide +kernel
theorem dX2_perform_63 : decode cX2_perform 63 = .ok (.iload_n 2, 1) := by decide +kernel
theorem dX2_perform_64 : decode cX2_perform 64 = .ok (.iload_n 3, 1) := by decide +kernel
theorem dX2_perform_65 : decode cX2_perform 65 = .ok (.invokevirtual 76, 3) := by decide +kernel
theorem dX2_perform_68 : decode cX2_perform 68 = .ok (.ireturn, 1) := by decide +kernel
theorem dX2_perform_69 : decode cX2_perform 69 = .ok (.aload_n 0, 1) := by decide +kernel
theorem dX2_perform_70 : decode cX2_perform 70 = .ok (.iload_n 2, 1) := by decide +kernel
theorem dX2_perform_71 : decode cX2_perform 71 = .ok (.iload_n 3, 1) := by decide +kernel
theorem dX2_perform_72 : decode cX2_perform 72 = .ok (.invokevirtual 80, 3) := by decide +kernel
theorem dX2_perform_75 : decode cX2_perform 75 = .ok (.ireturn, 1) := by decide +kernel
theorem dX2_perform_76 : decode cX2_perform 76 = .ok (.aload_n 0, 1) := by decide +kernel
theorem dX2_perform_77 : decode cX2_perform 77 = .ok (.iload_n 2, 1) := by decide +kernel
theorem dX2_perform_78 : decode cX2_perform 78 = .ok (.invokevirtual 83, 3) := by decide +kernel
theorem dX2_perform_81 : decode cX2_perform 81 = .ok (.ireturn, 1) := by decide +kernel
theorem dX2_perform_82 : decode cX2_perform 82 = .ok (.aload_n 0, 1) := by decide +kernel
theorem dX2_perform_83 : decode cX2_perform 83 = .ok (.invokevirtual 87, 3) := by decide +kernel
theorem dX2_perform_86 : decode cX2_perform 86 = .ok (.ireturn, 1) := by decide +kernel
theorem dX2_perform_87 : decode cX2_perform 87 = .ok (.aload_n 0, 1) := by decide +kernel
theorem dX2_perform_88 : decode cX2_perform 88 = .ok (.invokevirtual 91, 3) := by decide +kernel
theorem dX2_perform_91 : decode cX2_perform 91 = .ok (.ireturn, 1) := by decide +kernel
theorem dX2_perform_92 : decode cX2_perform 92 = .ok (.aload_n 0, 1) := by decide +kernel
theorem dX2_perform_93 : decode cX2_perform 93 = .ok (.iload_n 2, 1) := by decide +kernel
theorem dX2_perform_94 : decode cX2_perform 94 = .ok (.invokevirtual 94, 3) := by decide +kernel
theorem dX2_perform_97 : decode cX2_perform 97 = .ok (.ireturn, 1) := by decide +kernel
theorem dX2_perform_98 : decode cX2_perform 98 = .ok (.iconst (-1), 1) := by decide +kernel
theorem dX2_perform_99 : decode cX2_perform 99 = .ok (.ireturn, 1) := by decide +kernel
theorem dX2_empty_0 : decode cX2_empty 0 = .ok (.iload_n 1, 1) := by decide +kernel
theorem dX2_empty_1 : decode cX2_empty 1 = .ok (.iconst 3, 1) := by decide +kernel
theorem dX2_empty_2 : decode cX2_empty 2 = .ok (.bipush 7, 2) := by decide +kernel
theorem dX2_empty_4 : decode cX2_empty 4 = .ok (.invokestatic 97, 3) := by decide +kernel
theorem dX2_empty_7 : decode cX2_empty 7 = .ok (.ifCond .ne 5, 3) := by decide +kernel
theorem dX2_empty_10 : decode cX2_empty 10 = .ok (.iconst (-1), 1) := by decide +kernel
theorem dX2_empty_11 : decode cX2_empty 11 = .ok (.ireturn, 1) := by decide +kernel
theorem dX2_empty_12 : decode cX2_empty 12 = .ok (.aload_n 0, 1) := by decide +kernel
theorem dX2_empty_13 : decode cX2_empty 13 = .ok (.getfield 9, 3) := by decide +kernel
theorem dX2_empty_16 : decode cX2_empty 16 = .ok (.istore_n 2, 1) := by decide +kernel
theorem dX2_empty_17 : decode cX2_empty 17 = .ok (.aload_n 0, 1) := by decide +kernel
theorem dX2_empty_18 : decode cX2_empty 18 = .ok (.iload_n 1, 1) := by decide +kernel
theorem dX2_empty_19 : decode cX2_empty 19 = .ok (.putfield 9, 3) := by decide +kernel
theorem dX2_empty_22 : decode cX2_empty 22 = .ok (.aload_n 0, 1) := by decide +kernel
theorem dX2_empty_23 : decode cX2_empty 23 = .ok (.iconst 0, 1) := by decide +kernel
theorem dX2_empty_24 : decode cX2_empty 24 = .ok (.putfield 15, 3) := by decide +kernel
theorem dX2_empty_27 : decode cX2_empty 27 = .ok (.aload_n 0, 1) := by decide +kernel
theorem dX2_empty_28 : decode cX2_empty 28 = .ok (.iconst 0, 1) := by decide +kernel
theorem dX2_empty_29 : decode cX2_empty 29 = .ok (.putfield 18, 3) := by decide +kernel
theorem dX2_empty_32 : decode cX2_empty 32 = .ok (.aload_n 0, 1) := by decide +kernel
theorem dX2_empty_33 : decode cX2_empty 33 = .ok (.iconst 0, 1) := by decide +kernel
theorem dX2_empty_34 : decode cX2_empty 34 = .ok (.putfield 21, 3) := by decide +kernel
theorem dX2_empty_37 : decode cX2_empty 37 = .ok (.aload_n 0, 1) := by decide +kernel
theorem dX2_empty_38 : decode cX2_empty 38 = .ok (.iconst 0, 1) := by decide +kernel
theorem dX2_empty_39 : decode cX2_empty 39 = .ok (.putfield 24, 3) := by decide +kernel
theorem dX2_empty_42 : decode cX2_empty 42 = .ok (.aload_n 0, 1) := by decide +kernel
theorem dX2_empty_43 : decode cX2_empty 43 = .ok (.iconst 0, 1) := by decide +kernel
theorem dX2_empty_44 : decode cX2_empty 44 = .ok (.putfield 30, 3) := by decide +kernel
theorem dX2_empty_47 : decode cX2_empty 47 = .ok (.aload_n 0, 1) := by decide +kernel
theorem dX2_empty_48 : decode cX2_empty 48 = .ok (.getfield 54, 3) := by decide +kernel
theorem dX2_empty_51 : decode cX2_empty 51 = .ok (.iconst 0, 1) := by decide +kernel
theorem dX2_empty_52 : decode cX2_empty 52 = .ok (.putfield 101, 3) := by decide +kernel
theorem dX2_empty_55 : decode cX2_empty 55 = .ok (.aload_n 0, 1) := by decide +kernel
theorem dX2_empty_56 : decode cX2_empty 56 = .ok (.getfield 40, 3) := by decide +kernel
theorem dX2_empty_59 : decode cX2_empty 59 = .ok (.invokevirtual 104, 3) := by decide +kernel
theorem dX2_empty_62 : decode cX2_empty 62 = .ok (.iload_n 2, 1) := by decide +kernel
theorem dX2_empty_63 : decode cX2_empty 63 = .ok (.ireturn, 1) := by decide +kernel
theorem dX2_putValue_0 : decode cX2_putValue 0 = .ok (.iload_n 1, 1) := by decide +kernel
theorem dX2_putValue_1 : decode cX2_putValue 1 = .ok (.invokestatic 107, 3) := by decide +kernel
theorem dX2_putValue_4 : decode cX2_putValue 4 = .ok (.ifCond .eq 14, 3) := by decide +kernel
theorem dX2_putValue_7 : decode cX2_putValue 7 = .ok (.iload_n 2, 1) := by decide +kernel
theorem dX2_putValue_8 : decode cX2_putValue 8 = .ok (.iconst 0, 1) := by decide +kernel
theorem dX2_putValue_9 : decode cX2_putValue 9 = .ok (.sipush 9999, 3) := by decide +kernel
theorem dX2_putValue_12 : decode cX2_putValue 12 = .ok (.invokestatic 97, 3) := by decide +kernel
theorem dX2_putValue_15 : decode cX2_putValue 15 = .ok (.ifCond .ne 5, 3) := by decide +kernel
theorem dX2_putValue_18 : decode cX2_putValue 18 = .ok (.iconst (-1), 1) := by decide +kernel
theorem dX2_putValue_19 : decode cX2_putValue 19 = .ok (.ireturn, 1) := by decide +kernel
theorem dX2_putValue_20 : decode cX2_putValue 20 = .ok (.aload_n 0, 1) := by decide +kernel
theorem dX2_putValue_21 : decode cX2_putValue 21 = .ok (.dup, 1) := by decide +kernel
theorem dX2_putValue_22 : decode cX2_putValue 22 = .ok (.getfield 27, 3) := by decide +kernel
theorem dX2_putValue_25 : decode cX2_putValue 25 = .ok (.iconst 1, 1) := by decide +kernel
theorem dX2_putValue_26 : decode cX2_putValue 26 = .ok (.iadd, 1) := by decide +kernel
theorem dX2_putValue_27 : decode cX2_putValue 27 = .ok (.putfield 27, 3) := by decide +kernel
theorem dX2_putValue_30 : decode cX2_putValue 30 = .ok (.aload_n 0, 1) := by decide +kernel
theorem dX2_putValue_31 : decode cX2_putValue 31 = .ok (.getfield 40, 3) := by decide +kernel
theorem dX2_putValue_34 : decode cX2_putValue 34 = .ok (.getfield 111, 3) := by decide +kernel
theorem dX2_putValue_37 : decode cX2_putValue 37 = .ok (.iload_n 1, 1) := by decide +kernel
theorem dX2_putValue_38 : decode cX2_putValue 38 = .ok (.iconst (-1), 1) := by decide +kernel
theorem dX2_putValue_39 : decode cX2_putValue 39 = .ok (.iastore, 1) := by decide +kernel
theorem dX2_putValue_40 : decode cX2_putValue 40 = .ok (.aload_n 0, 1) := by decide +kernel
theorem dX2_putValue_41 : decode cX2_putValue 41 = .ok (.iload_n 1, 1) := by decide +kernel
theorem dX2_putValue_42 : decode cX2_putValue 42 = .ok (.iload_n 2, 1) := by decide +kernel
theorem dX2_putValue_43 : decode cX2_putValue 43 = .ok (.aload_n 0, 1) := by decide +kernel
theorem dX2_putValue_44 : decode cX2_putValue 44 = .ok (.getfield 15, 3) := by decide +kernel
theorem dX2_putValue_47 : decode cX2_putValue 47 = .ok (.iconst (-1), 1) := by decide +kernel
theorem dX2_putValue_48 : decode cX2_putValue 48 = .ok (.iconst (-1), 1) := by decide +kernel
theorem dX2_putValue_49 : decode cX2_putValue 49 = .ok (.invokevirtual 114, 3) := by decide +kernel
theorem dX2_putValue_52 : decode cX2_putValue 52 = .ok (.ireturn, 1) := by decide +kernel
theorem dX2_copyName_0 : decode cX2_copyName 0 = .ok (.iload_n 1, 1) := by decide +kernel
theorem dX2_copyName_1 : decode cX2_copyName 1 = .ok (.invokestatic 107, 3) := by decide +kernel
theorem dX2_copyName_4 : decode cX2_copyName 4 = .ok (.ifCond .eq 15, 3) := by decide +kernel
theorem dX2_copyName_7 : decode cX2_copyName 7 = .ok (.iload_n 2, 1) := by decide +kernel
theorem dX2_copyName_8 : decode cX2_copyName 8 = .ok (.invokestatic 107, 3) := by decide +kernel
theorem dX2_copyName_11 : decode cX2_copyName 11 = .ok (.ifCond .eq 8, 3) := by decide +kernel
theorem dX2_copyName_14 : decode cX2_copyName 14 = .ok (.iload_n 1, 1) := by decide +kernel
theorem dX2_copyName_15 : decode cX2_copyName 15 = .ok (.iload_n 2, 1) := by decide +kernel
theorem dX2_copyName_16 : decode cX2_copyName 16 = .ok (.if_icmp .ne 5, 3) := by decide +kernel
theorem dX2_copyName_19 : decode cX2_copyName 19 = .ok (.iconst (-1), 1) := by decide +kernel
theorem dX2_copyName_20 : decode cX2_copyName 20 = .ok (.ireturn, 1) := by decide +kernel
theorem dX2_copyName_21 : decode cX2_copyName 21 = .ok (.aload_n 0, 1) := by decide +kernel
theorem dX2_copyName_22 : decode cX2_copyName 22 = .ok (.dup, 1) := by decide +kernel
theorem dX2_copyName_23 : decode cX2_copyName 23 = .ok (.getfield 27, 3) := by decide +kernel
theorem dX2_copyName_26 : decode cX2_copyName 26 = .ok (.iconst 1, 1) := by decide +kernel
theorem dX2_copyName_27 : decode cX2_copyName 27 = .ok (.iadd, 1) := by decide +kernel
theorem dX2_copyName_28 : decode cX2_copyName 28 = .ok (.putfield 27, 3) := by decide +kernel
theorem dX2_copyName_31 : decode cX2_copyName 31 = .ok (.aload_n 0, 1) := by decide +kernel
theorem dX2_copyName_32 : decode cX2_copyName 32 = .ok (.iload_n 2, 1) := by decide +kernel
theorem dX2_copyName_33 : decode cX2_copyName 33 = .ok (.iload_n 2, 1) := by decide +kernel
theorem dX2_copyName_34 : decode cX2_copyName 34 = .ok (.iload_n 2, 1) := by decide +kernel
theorem dX2_copyName_35 : decode cX2_copyName 35 = .ok (.invokevirtual 118, 3) := by decide +kernel
theorem dX2_copyName_38 : decode cX2_copyName 38 = .ok (.ifCond .ne 6, 3) := by decide +kernel
theorem dX2_copyName_41 : decode cX2_copyName 41 = .ok (.bipush (-2), 2) := by decide +kernel
theorem dX2_copyName_43 : decode cX2_copyName 43 = .ok (.ireturn, 1) := by decide +kernel
theorem dX2_copyName_44 : decode cX2_copyName 44 = .ok (.aload_n 0, 1) := by decide +kernel
theorem dX2_copyName_45 : decode cX2_copyName 45 = .ok (.getfield 40, 3) := by decide +kernel
theorem dX2_copyName_48 : decode cX2_copyName 48 = .ok (.getfield 111, 3) := by decide +kernel
theorem dX2_copyName_51 : decode cX2_copyName 51 = .ok (.iload_n 2, 1) := by decide +kernel
theorem dX2_copyName_52 : decode cX2_copyName 52 = .ok (.iaload, 1) := by decide +kernel
theorem dX2_copyName_53 : decode cX2_copyName 53 = .ok (.istore_n 3, 1) := by decide +kernel
theorem dX2_copyName_54 : decode cX2_copyName 54 = .ok (.aload_n 0, 1) := by decide +kernel
theorem dX2_copyName_55 : decode cX2_copyName 55 = .ok (.getfield 40, 3) := by decide +kernel
theorem dX2_copyName_58 : decode cX2_copyName 58 = .ok (.getfield 111, 3) := by decide +kernel
theorem dX2_copyName_61 : decode cX2_copyName 61 = .ok (.iload_n 1, 1) := by decide +kernel
theorem dX2_copyName_62 : decode cX2_copyName 62 = .ok (.iload_n 3, 1) := by decide +kernel
theorem dX2_copyName_63 : decode cX2_copyName 63 = .ok (.iastore, 1) := by decide +kernel
theorem dX2_copyName_64 : decode cX2_copyName 64 = .ok (.aload_n 0, 1) := by decide +kernel
theorem dX2_copyName_65 : decode cX2_copyName 65 = .ok (.getfield 47, 3) := by decide +kernel
theorem dX2_copyName_68 : decode cX2_copyName 68 = .ok (.iload_n 3, 1) := by decide +kernel
theorem dX2_copyName_69 : decode cX2_copyName 69 = .ok (.aload_n 0, 1) := by decide +kernel
theorem dX2_copyName_70 : decode cX2_copyName 70 = .ok (.getfield 27, 3) := by decide +kernel
theorem dX2_copyName_73 : decode cX2_copyName 73 = .ok (.invokevirtual 121, 3) := by decide +kernel
theorem dX2_copyName_76 : decode cX2_copyName 76 = .ok (.iload_n 3, 1) := by decide +kernel
theorem dX2_copyName_77 : decode cX2_copyName 77 = .ok (.ireturn, 1) := by decide +kernel
theorem dX2_giveOrder_0 : decode cX2_giveOrder 0 = .ok (.iload_n 1, 1) := by decide +kernel
theorem dX2_giveOrder_1 : decode cX2_giveOrder 1 = .ok (.iconst 0, 1) := by decide +kernel
theorem dX2_giveOrder_2 : decode cX2_giveOrder 2 = .ok (.iconst 2, 1) := by decide +kernel
theorem dX2_giveOrder_3 : decode cX2_giveOrder 3 = .ok (.invokestatic 97, 3) := by decide +kernel
theorem dX2_giveOrder_6 : decode cX2_giveOrder 6 = .ok (.ifCond .eq 25, 3) := by decide +kernel
theorem dX2_giveOrder_9 : decode cX2_giveOrder 9 = .ok (.iload_n 2, 1) := by decide +kernel
theorem dX2_giveOrder_10 : decode cX2_giveOrder 10 = .ok (.invokestatic 107, 3) := by decide +kernel
theorem dX2_giveOrder_13 : decode cX2_giveOrder 13 = .ok (.ifCond .eq 18, 3) := by decide +kernel
theorem dX2_giveOrder_16 : decode cX2_giveOrder 16 = .ok (.iload_n 3, 1) := by decide +kernel
theorem dX2_giveOrder_17 : decode cX2_giveOrder 17 = .ok (.invokestatic 107, 3) := by decide +kernel
theorem dX2_giveOrder_20 : decode cX2_giveOrder 20 = .ok (.ifCond .eq 11, 3) := by decide +kernel
theorem dX2_giveOrder_23 : decode cX2_giveOrder 23 = .ok (.iload 4, 2) := by decide +kernel
theorem dX2_giveOrder_25 : decode cX2_giveOrder 25 = .ok (.invokestatic 107, 3) := by decide +kernel
theorem dX2_giveOrder_28 : decode cX2_giveOrder 28 = .ok (.ifCond .ne 5, 3) := by decide +kernel
theorem dX2_giveOrder_31 : decode cX2_giveOrder 31 = .ok (.iconst (-1), 1) := by decide +kernel
theorem dX2_giveOrder_32 : decode cX2_giveOrder 32 = .ok (.ireturn, 1) := by decide +kernel
theorem dX2_giveOrder_33 : decode cX2_giveOrder 33 = .ok (.aload_n 0, 1) := by decide +kernel
theorem dX2_giveOrder_34 : decode cX2_giveOrder 34 = .ok (.dup, 1) := by decide +kernel
theorem dX2_giveOrder_35 : decode cX2_giveOrder 35 = .ok (.getfield 27, 3) := by decide +kernel
theorem dX2_giveOrder_38 : decode cX2_giveOrder 38 = .ok (.iconst 1, 1) := by decide +kernel
theorem dX2_giveOrder_39 : decode cX2_giveOrder 39 = .ok (.iadd, 1) := by decide +kernel
theorem dX2_giveOrder_40 : decode cX2_giveOrder 40 = .ok (.putfield 27, 3) := by decide +kernel
theorem dX2_giveOrder_43 : decode cX2_giveOrder 43 = .ok (.iload_n 2, 1) := by decide +kernel
theorem dX2_giveOrder_44 : decode cX2_giveOrder 44 = .ok (.iload_n 3, 1) := by decide +kernel
theorem dX2_giveOrder_45 : decode cX2_giveOrder 45 = .ok (.if_icmp .eq 19, 3) := by decide +kernel
theorem dX2_giveOrder_48 : decode cX2_giveOrder 48 = .ok (.iload_n 2, 1) := by decide +kernel
theorem dX2_giveOrder_49 : decode cX2_giveOrder 49 = .ok (.iload 4, 2) := by decide +kernel
theorem dX2_giveOrder_51 : decode cX2_giveOrder 51 = .ok (.if_icmp .eq 13, 3) := by decide +kernel
theorem dX2_giveOrder_54 : decode cX2_giveOrder 54 = .ok (.aload_n 0, 1) := by decide +kernel
theorem dX2_giveOrder_55 : decode cX2_giveOrder 55 = .ok (.getfield 40, 3) := by decide +kernel
theorem dX2_giveOrder_58 : decode cX2_giveOrder 58 = .ok (.getfield 111, 3) := by decide +kernel
theorem dX2_giveOrder_61 : decode cX2_giveOrder 61 = .ok (.iload_n 2, 1) := by decide +kernel
theorem dX2_giveOrder_62 : decode cX2_giveOrder 62 = .ok (.iconst (-1), 1) := by decide +kernel
theorem dX2_giveOrder_63 : decode cX2_giveOrder 63 = .ok (.iastore, 1) := by decide +kernel
theorem dX2_giveOrder_64 : decode cX2_giveOrder 64 = .ok (.aload_n 0, 1) := by decide +kernel
theorem dX2_giveOrder_65 : decode cX2_giveOrder 65 = .ok (.iload_n 3, 1) := by decide +kernel
theorem dX2_giveOrder_66 : decode cX2_giveOrder 66 = .ok (.iload_n 3, 1) := by decide +kernel
theorem dX2_giveOrder_67 : decode cX2_giveOrder 67 = .ok (.iload 4, 2) := by decide +kernel
theorem dX2_giveOrder_69 : decode cX2_giveOrder 69 = .ok (.invokevirtual 118, 3) := by decide +kernel
theorem dX2_giveOrder_72 : decode cX2_giveOrder 72 = .ok (.ifCond .eq 15, 3) := by decide +kernel
theorem dX2_giveOrder_75 : decode cX2_giveOrder 75 = .ok (.aload_n 0, 1) := by decide +kernel
theorem dX2_giveOrder_76 : decode cX2_giveOrder 76 = .ok (.iload 4, 2) := by decide +kernel
theorem dX2_giveOrder_78 : decode cX2_giveOrder 78 = .ok (.iload_n 3, 1) := by decide +kernel
theorem dX2_giveOrder_79 : decode cX2_giveOrder 79 = .ok (.iload 4, 2) := by decide +kernel
theorem dX2_giveOrder_81 : decode cX2_giveOrder 81 = .ok (.invokevirtual 118, 3) := by decide +kernel
theorem dX2_giveOrder_84 : decode cX2_giveOrder 84 = .ok (.ifCond .ne 6, 3) := by decide +kernel
theorem dX2_giveOrder_87 : decode cX2_giveOrder 87 = .ok (.bipush (-2), 2) := by decide +kernel
theorem dX2_giveOrder_89 : decode cX2_giveOrder 89 = .ok (.ireturn, 1) := by decide +kernel
theorem dX2_giveOrder_90 : decode cX2_giveOrder 90 = .ok (.aload_n 0, 1) := by decide +kernel
theorem dX2_giveOrder_91 : decode cX2_giveOrder 91 = .ok (.getfield 40, 3) := by decide +kernel
theorem dX2_giveOrder_94 : decode cX2_giveOrder 94 = .ok (.getfield 111, 3) := by decide +kernel
theorem dX2_giveOrder_97 : decode cX2_giveOrder 97 = .ok (.iload_n 3, 1) := by decide +kernel
theorem dX2_giveOrder_98 : decode cX2_giveOrder 98 = .ok (.iaload, 1) := by decide +kernel
theorem dX2_giveOrder_99 : decode cX2_giveOrder 99 = .ok (.istore 5, 2) := by decide +kernel
theorem dX2_giveOrder_101 : decode cX2_giveOrder 101 = .ok (.aload_n 0, 1) := by decide +kernel
theorem dX2_giveOrder_102 : decode cX2_giveOrder 102 = .ok (.getfield 40, 3) := by decide +kernel
theorem dX2_giveOrder_105 : decode cX2_giveOrder 105 = .ok (.getfield 111, 3) := by decide +kernel
theorem dX2_giveOrder_108 : decode cX2_giveOrder 108 = .ok (.iload 4, 2) := by decide +kernel
theorem dX2_giveOrder_110 : decode cX2_giveOrder 110 = .ok (.iaload, 1) := by decide +kernel
theorem dX2_giveOrder_111 : decode cX2_giveOrder 111 = .ok (.istore 6, 2) := by decide +kernel
theorem dX2_giveOrder_113 : decode cX2_giveOrder 113 = .ok (.iload_n 1, 1) := by decide +kernel
theorem dX2_giveOrder_114 : decode cX2_giveOrder 114 = .ok (.aload_n 0, 1) := by decide +kernel
theorem dX2_giveOrder_115 : decode cX2_giveOrder 115 = .ok (.getfield 47, 3) := by decide +kernel
theorem dX2_giveOrder_118 : decode cX2_giveOrder 118 = .ok (.iload 5, 2) := by decide +kernel
theorem dX2_giveOrder_120 : decode cX2_giveOrder 120 = .ok (.invokevirtual 125, 3) := by decide +kernel
theorem dX2_giveOrder_123 : decode cX2_giveOrder 123 = .ok (.aload_n 0, 1) := by decide +kernel
theorem dX2_giveOrder_124 : decode cX2_giveOrder 124 = .ok (.getfield 47, 3) := by decide +kernel
theorem dX2_giveOrder_127 : decode cX2_giveOrder 127 = .ok (.iload 6, 2) := by decide +kernel
theorem dX2_giveOrder_129 : decode cX2_giveOrder 129 = .ok (.invokevirtual 125, 3) := by decide +kernel
theorem dX2_giveOrder_132 : decode cX2_giveOrder 132 = .ok (.invokestatic 128, 3) := by decide +kernel
theorem dX2_giveOrder_135 : decode cX2_giveOrder 135 = .ok (.istore 7, 2) := by decide +kernel
theorem dX2_giveOrder_137 : decode cX2_giveOrder 137 = .ok (.aload_n 0, 1) := by decide +kernel
theorem dX2_giveOrder_138 : decode cX2_giveOrder 138 = .ok (.iload_n 2, 1) := by decide +kernel
theorem dX2_giveOrder_139 : decode cX2_giveOrder 139 = .ok (.iload 7, 2) := by decide +kernel
theorem dX2_giveOrder_141 : decode cX2_giveOrder 141 = .ok (.ldc 132, 2) := by decide +kernel
theorem dX2_giveOrder_143 : decode cX2_giveOrder 143 = .ok (.iload_n 3, 1) := by decide +kernel
theorem dX2_giveOrder_144 : decode cX2_giveOrder 144 = .ok (.iload 4, 2) := by decide +kernel
theorem dX2_giveOrder_146 : decode cX2_giveOrder 146 = .ok (.invokevirtual 114, 3) := by decide +kernel
theorem dX2_giveOrder_149 : decode cX2_giveOrder 149 = .ok (.istore 8, 2) := by decide +kernel
theorem dX2_giveOrder_151 : decode cX2_giveOrder 151 = .ok (.iload 8, 2) := by decide +kernel
theorem dX2_giveOrder_153 : decode cX2_giveOrder 153 = .ok (.ifCond .ge 6, 3) := by decide +kernel
theorem dX2_giveOrder_156 : decode cX2_giveOrder 156 = .ok (.bipush (-2), 2) := by decide +kernel
theorem dX2_giveOrder_158 : decode cX2_giveOrder 158 = .ok (.ireturn, 1) := by decide +kernel
theorem dX2_giveOrder_159 : decode cX2_giveOrder 159 = .ok (.aload_n 0, 1) := by decide +kernel
theorem dX2_giveOrder_160 : decode cX2_giveOrder 160 = .ok (.getfield 54, 3) := by decide +kernel
theorem dX2_giveOrder_163 : decode cX2_giveOrder 163 = .ok (.getfield 101, 3) := by decide +kernel
theorem dX2_giveOrder_166 : decode cX2_giveOrder 166 = .ok (.bipush 6, 2) := by decide +kernel
theorem dX2_giveOrder_168 : decode cX2_giveOrder 168 = .ok (.if_icmp .lt 6, 3) := by decide +kernel
theorem dX2_giveOrder_171 : decode cX2_giveOrder 171 = .ok (.bipush (-3), 2) := by decide +kernel
theorem dX2_giveOrder_173 : decode cX2_giveOrder 173 = .ok (.ireturn, 1) := by decide +kernel
theorem dX2_giveOrder_174 : decode cX2_giveOrder 174 = .ok (.aload_n 0, 1) := by decide +kernel
theorem dX2_giveOrder_175 : decode cX2_giveOrder 175 = .ok (.getfield 47, 3) := by decide +kernel
theorem dX2_giveOrder_178 : decode cX2_giveOrder 178 = .ok (.iload 5, 2) := by decide +kernel
theorem dX2_giveOrder_180 : decode cX2_giveOrder 180 = .ok (.aload_n 0, 1) := by decide +kernel
theorem dX2_giveOrder_181 : decode cX2_giveOrder 181 = .ok (.getfield 27, 3) := by decide +kernel
theorem dX2_giveOrder_184 : decode cX2_giveOrder 184 = .ok (.invokevirtual 121, 3) := by decide +kernel
theorem dX2_giveOrder_187 : decode cX2_giveOrder 187 = .ok (.aload_n 0, 1) := by decide +kernel
theorem dX2_giveOrder_188 : decode cX2_giveOrder 188 = .ok (.getfield 47, 3) := by decide +kernel
theorem dX2_giveOrder_191 : decode cX2_giveOrder 191 = .ok (.iload 6, 2) := by decide +kernel
theorem dX2_giveOrder_193 : decode cX2_giveOrder 193 = .ok (.aload_n 0, 1) := by decide +kernel
theorem dX2_giveOrder_194 : decode cX2_giveOrder 194 = .ok (.getfield 27, 3) := by decide +kernel
theorem dX2_giveOrder_197 : decode cX2_giveOrder 197 = .ok (.invokevirtual 121, 3) := by decide +kernel
theorem dX2_giveOrder_200 : decode cX2_giveOrder 200 = .ok (.aload_n 0, 1) := by decide +kernel
theorem dX2_giveOrder_201 : decode cX2_giveOrder 201 = .ok (.getfield 54, 3) := by decide +kernel
theorem dX2_giveOrder_204 : decode cX2_giveOrder 204 = .ok (.iload_n 1, 1) := by decide +kernel
theorem dX2_giveOrder_205 : decode cX2_giveOrder 205 = .ok (.iload 8, 2) := by decide +kernel
theorem dX2_giveOrder_207 : decode cX2_giveOrder 207 = .ok (.iload 5, 2) := by decide +kernel
theorem dX2_giveOrder_209 : decode cX2_giveOrder 209 = .ok (.iload 6, 2) := by decide +kernel
theorem dX2_giveOrder_211 : decode cX2_giveOrder 211 = .ok (.aload_n 0, 1) := by decide +kernel
theorem dX2_giveOrder_212 : decode cX2_giveOrder 212 = .ok (.getfield 30, 3) := by decide +kernel
theorem dX2_giveOrder_215 : decode cX2_giveOrder 215 = .ok (.invokevirtual 133, 3) := by decide +kernel
theorem dX2_giveOrder_218 : decode cX2_giveOrder 218 = .ok (.iload 8, 2) := by decide +kernel
theorem dX2_giveOrder_220 : decode cX2_giveOrder 220 = .ok (.ireturn, 1) := by decide +kernel
theorem dX2_letTicksGo_0 : decode cX2_letTicksGo 0 = .ok (.iload_n 1, 1) := by decide +kernel
theorem dX2_letTicksGo_1 : decode cX2_letTicksGo 1 = .ok (.iconst 1, 1) := by decide +kernel
theorem dX2_letTicksGo_2 : decode cX2_letTicksGo 2 = .ok (.bipush 99, 2) := by decide +kernel
theorem dX2_letTicksGo_4 : decode cX2_letTicksGo 4 = .ok (.invokestatic 97, 3) := by decide +kernel
theorem dX2_letTicksGo_7 : decode cX2_letTicksGo 7 = .ok (.ifCond .ne 5, 3) := by decide +kernel
theorem dX2_letTicksGo_10 : decode cX2_letTicksGo 10 = .ok (.iconst (-1), 1) := by decide +kernel
theorem dX2_letTicksGo_11 : decode cX2_letTicksGo 11 = .ok (.ireturn, 1) := by decide +kernel
theorem dX2_letTicksGo_12 : decode cX2_letTicksGo 12 = .ok (.aload_n 0, 1) := by decide +kernel
theorem dX2_letTicksGo_13 : decode cX2_letTicksGo 13 = .ok (.getfield 15, 3) := by decide +kernel
theorem dX2_letTicksGo_16 : decode cX2_letTicksGo 16 = .ok (.iload_n 1, 1) := by decide +kernel
theorem dX2_letTicksGo_17 : decode cX2_letTicksGo 17 = .ok (.iadd, 1) := by decide +kernel
theorem dX2_letTicksGo_18 : decode cX2_letTicksGo 18 = .ok (.ldc 137, 2) := by decide +kernel
theorem dX2_letTicksGo_20 : decode cX2_letTicksGo 20 = .ok (.if_icmp .le 6, 3) := by decide +kernel
theorem dX2_letTicksGo_23 : decode cX2_letTicksGo 23 = .ok (.bipush (-3), 2) := by decide +kernel
theorem dX2_letTicksGo_25 : decode cX2_letTicksGo 25 = .ok (.ireturn, 1) := by decide +kernel
theorem dX2_letTicksGo_26 : decode cX2_letTicksGo 26 = .ok (.aload_n 0, 1) := by decide +kernel
theorem dX2_letTicksGo_27 : decode cX2_letTicksGo 27 = .ok (.getfield 18, 3) := by decide +kernel
theorem dX2_letTicksGo_30 : decode cX2_letTicksGo 30 = .ok (.istore_n 2, 1) := by decide +kernel
theorem dX2_letTicksGo_31 : decode cX2_letTicksGo 31 = .ok (.iconst 0, 1) := by decide +kernel
theorem dX2_letTicksGo_32 : decode cX2_letTicksGo 32 = .ok (.istore_n 3, 1) := by decide +kernel
theorem dX2_letTicksGo_33 : decode cX2_letTicksGo 33 = .ok (.iload_n 3, 1) := by decide +kernel
theorem dX2_letTicksGo_34 : decode cX2_letTicksGo 34 = .ok (.iload_n 1, 1) := by decide +kernel
theorem dX2_letTicksGo_35 : decode cX2_letTicksGo 35 = .ok (.if_icmp .ge 13, 3) := by decide +kernel
theorem dX2_letTicksGo_38 : decode cX2_letTicksGo 38 = .ok (.aload_n 0, 1) := by decide +kernel
theorem dX2_letTicksGo_39 : decode cX2_letTicksGo 39 = .ok (.invokevirtual 138, 3) := by decide +kernel
theorem dX2_letTicksGo_42 : decode cX2_letTicksGo 42 = .ok (.iinc 3 1, 3) := by decide +kernel
theorem dX2_letTicksGo_45 : decode cX2_letTicksGo 45 = .ok (.goto (-12), 3) := by decide +kernel
theorem dX2_letTicksGo_48 : decode cX2_letTicksGo 48 = .ok (.aload_n 0, 1) := by decide +kernel
theorem dX2_letTicksGo_49 : decode cX2_letTicksGo 49 = .ok (.getfield 18, 3) := by decide +kernel
theorem dX2_letTicksGo_52 : decode cX2_letTicksGo 52 = .ok (.iload_n 2, 1) := by decide +kernel
theorem dX2_letTicksGo_53 : decode cX2_letTicksGo 53 = .ok (.isub, 1) := by decide +kernel
theorem dX2_letTicksGo_54 : decode cX2_letTicksGo 54 = .ok (.ireturn, 1) := by decide +kernel
theorem dX2_changeSetting_0 : decode cX2_changeSetting 0 = .ok (.iload_n 1, 1) := by decide +kernel
theorem dX2_changeSetting_1 : decode cX2_changeSetting 1 = .ok (.iconst 0, 1) := by decide +kernel
theorem dX2_changeSetting_2 : decode cX2_changeSetting 2 = .ok (.iconst 3, 1) := by decide +kernel
theorem dX2_changeSetting_3 : decode cX2_changeSetting 3 = .ok (.invokestatic 97, 3) := by decide +kernel
theorem dX2_changeSetting_6 : decode cX2_changeSetting 6 = .ok (.ifCond .ne 5, 3) := by decide +kernel
theorem dX2_changeSetting_9 : decode cX2_changeSetting 9 = .ok (.iconst (-1), 1) := by decide +kernel
theorem dX2_changeSetting_10 : decode cX2_changeSetting 10 = .ok (.ireturn, 1) := by decide +kernel
theorem dX2_changeSetting_11 : decode cX2_changeSetting 11 = .ok (.iload_n 1, 1) := by decide +kernel
theorem dX2_changeSetting_12 : decode cX2_changeSetting 12 = .ok (.iconst 2, 1) := by decide +kernel
theorem dX2_changeSetting_13 : decode cX2_changeSetting 13 = .ok (.if_icmp .ne 7, 3) := by decide +kernel
theorem dX2_changeSetting_16 : decode cX2_changeSetting 16 = .ok (.iconst 0, 1) := by decide +kernel
theorem dX2_changeSetting_17 : decode cX2_changeSetting 17 = .ok (.goto 4, 3) := by decide +kernel
theorem dX2_changeSetting_20 : decode cX2_changeSetting 20 = .ok (.iconst 1, 1) := by decide +kernel
theorem dX2_changeSetting_21 : decode cX2_changeSetting 21 = .ok (.istore_n 3, 1) := by decide +kernel
theorem dX2_changeSetting_22 : decode cX2_changeSetting 22 = .ok (.iload_n 1, 1) := by decide +kernel
theorem dX2_changeSetting_23 : decode cX2_changeSetting 23 = .ok (.iconst 3, 1) := by decide +kernel
theorem dX2_changeSetting_24 : decode cX2_changeSetting 24 = .ok (.if_icmp .ne 7, 3) := by decide +kernel
theorem dX2_changeSetting_27 : decode cX2_changeSetting 27 = .ok (.iconst 3, 1) := by decide +kernel
theorem dX2_changeSetting_28 : decode cX2_changeSetting 28 = .ok (.goto 5, 3) := by decide +kernel
theorem dX2_changeSetting_31 : decode cX2_changeSetting 31 = .ok (.bipush 9, 2) := by decide +kernel
theorem dX2_changeSetting_33 : decode cX2_changeSetting 33 = .ok (.istore 4, 2) := by decide +kernel
theorem dX2_changeSetting_35 : decode cX2_changeSetting 35 = .ok (.iload_n 2, 1) := by decide +kernel
theorem dX2_changeSetting_36 : decode cX2_changeSetting 36 = .ok (.iload_n 3, 1) := by decide +kernel
theorem dX2_changeSetting_37 : decode cX2_changeSetting 37 = .ok (.iload 4, 2) := by decide +kernel
theorem dX2_changeSetting_39 : decode cX2_changeSetting 39 = .ok (.invokestatic 97, 3) := by decide +kernel
theorem dX2_changeSetting_42 : decode cX2_changeSetting 42 = .ok (.ifCond .ne 5, 3) := by decide +kernel
theorem dX2_changeSetting_45 : decode cX2_changeSetting 45 = .ok (.iconst (-1), 1) := by decide +kernel
theorem dX2_changeSetting_46 : decode cX2_changeSetting 46 = .ok (.ireturn, 1) := by decide +kernel
theorem dX2_changeSetting_47 : decode cX2_changeSetting 47 = .ok (.aload_n 0, 1) := by decide +kernel
theorem dX2_changeSetting_48 : decode cX2_changeSetting 48 = .ok (.getfield 33, 3) := by decide +kernel
theorem dX2_changeSetting_51 : decode cX2_changeSetting 51 = .ok (.iload_n 1, 1) := by decide +kernel
theorem dX2_changeSetting_52 : decode cX2_changeSetting 52 = .ok (.iaload, 1) := by decide +kernel
theorem dX2_changeSetting_53 : decode cX2_changeSetting 53 = .ok (.istore 5, 2) := by decide +kernel
theorem dX2_changeSetting_55 : decode cX2_changeSetting 55 = .ok (.aload_n 0, 1) := by decide +kernel
theorem dX2_changeSetting_56 : decode cX2_changeSetting 56 = .ok (.getfield 33, 3) := by decide +kernel
theorem dX2_changeSetting_59 : decode cX2_changeSetting 59 = .ok (.iload_n 1, 1) := by decide +kernel
theorem dX2_changeSetting_60 : decode cX2_changeSetting 60 = .ok (.iload_n 2, 1) := by decide +kernel
theorem dX2_changeSetting_61 : decode cX2_changeSetting 61 = .ok (.iastore, 1) := by decide +kernel
theorem dX2_changeSetting_62 : decode cX2_changeSetting 62 = .ok (.iload 5, 2) := by decide +kernel
theorem dX2_changeSetting_64 : decode cX2_changeSetting 64 = .ok (.ireturn, 1) := by decide +kernel
theorem dX2_addMark_0 : decode cX2_addMark 0 = .ok (.aload_n 0, 1) := by decide +kernel
theorem dX2_addMark_1 : decode cX2_addMark 1 = .ok (.getfield 30, 3) := by decide +kernel
theorem dX2_addMark_4 : decode cX2_addMark 4 = .ok (.ifCond .lt 11, 3) := by decide +kernel
theorem dX2_addMark_7 : decode cX2_addMark 7 = .ok (.aload_n 0, 1) := by decide +kernel
theorem dX2_addMark_8 : decode cX2_addMark 8 = .ok (.getfield 30, 3) := by decide +kernel
theorem dX2_addMark_11 : decode cX2_addMark 11 = .ok (.iconst 3, 1) := by decide +kernel
theorem dX2_addMark_12 : decode cX2_addMark 12 = .ok (.if_icmp .lt 6, 3) := by decide +kernel
theorem dX2_addMark_15 : decode cX2_addMark 15 = .ok (.bipush (-3), 2) := by decide +kernel
theorem dX2_addMark_17 : decode cX2_addMark 17 = .ok (.ireturn, 1) := by decide +kernel
theorem dX2_addMark_18 : decode cX2_addMark 18 = .ok (.aload_n 0, 1) := by decide +kernel
theorem dX2_addMark_19 : decode cX2_addMark 19 = .ok (.getfield 58, 3) := by decide +kernel
theorem dX2_addMark_22 : decode cX2_addMark 22 = .ok (.aload_n 0, 1) := by decide +kernel
theorem dX2_addMark_23 : decode cX2_addMark 23 = .ok (.getfield 30, 3) := by decide +kernel
theorem dX2_addMark_26 : decode cX2_addMark 26 = .ok (.aaload, 1) := by decide +kernel
theorem dX2_addMark_27 : decode cX2_addMark 27 = .ok (.aload_n 0, 1) := by decide +kernel
theorem dX2_addMark_28 : decode cX2_addMark 28 = .ok (.getfield 40, 3) := by decide +kernel
theorem dX2_addMark_31 : decode cX2_addMark 31 = .ok (.invokevirtual 62, 3) := by decide +kernel
theorem dX2_addMark_34 : decode cX2_addMark 34 = .ok (.aload_n 0, 1) := by decide +kernel
theorem dX2_addMark_35 : decode cX2_addMark 35 = .ok (.dup, 1) := by decide +kernel
theorem dX2_addMark_36 : decode cX2_addMark 36 = .ok (.getfield 30, 3) := by decide +kernel
theorem dX2_addMark_39 : decode cX2_addMark 39 = .ok (.iconst 1, 1) := by decide +kernel
theorem dX2_addMark_40 : decode cX2_addMark 40 = .ok (.iadd, 1) := by decide +kernel
theorem dX2_addMark_41 : decode cX2_addMark 41 = .ok (.putfield 30, 3) := by decide +kernel
theorem dX2_addMark_44 : decode cX2_addMark 44 = .ok (.aload_n 0, 1) := by decide +kernel
theorem dX2_addMark_45 : decode cX2_addMark 45 = .ok (.getfield 30, 3) := by decide +kernel
theorem dX2_addMark_48 : decode cX2_addMark 48 = .ok (.iconst 1, 1) := by decide +kernel
theorem dX2_addMark_49 : decode cX2_addMark 49 = .ok (.isub, 1) := by decide +kernel
theorem dX2_addMark_50 : decode cX2_addMark 50 = .ok (.ireturn, 1) := by decide +kernel
theorem dX2_dropFirstMark_0 : decode cX2_dropFirstMark 0 = .ok (.aload_n 0, 1) := by decide +kernel
theorem dX2_dropFirstMark_1 : decode cX2_dropFirstMark 1 = .ok (.getfield 30, 3) := by decide +kernel
theorem dX2_dropFirstMark_4 : decode cX2_dropFirstMark 4 = .ok (.ifCond .gt 6, 3) := by decide +kernel
theorem dX2_dropFirstMark_7 : decode cX2_dropFirstMark 7 = .ok (.bipush (-2), 2) := by decide +kernel
theorem dX2_dropFirstMark_9 : decode cX2_dropFirstMark 9 = .ok (.ireturn, 1) := by decide +kernel
theorem dX2_dropFirstMark_10 : decode cX2_dropFirstMark 10 = .ok (.iconst 1, 1) := by decide +kernel
theorem dX2_dropFirstMark_11 : decode cX2_dropFirstMark 11 = .ok (.istore_n 1, 1) := by decide +kernel
theorem dX2_dropFirstMark_12 : decode cX2_dropFirstMark 12 = .ok (.iload_n 1, 1) := by decide +kernel
theorem dX2_dropFirstMark_13 : decode cX2_dropFirstMark 13 = .ok (.iconst 3, 1) := by decide +kernel
theorem dX2_dropFirstMark_14 : decode cX2_dropFirstMark 14 = .ok (.if_icmp .ge 26, 3) := by decide +kernel
theorem dX2_dropFirstMark_17 : decode cX2_dropFirstMark 17 = .ok (.aload_n 0, 1) := by decide +kernel
theorem dX2_dropFirstMark_18 : decode cX2_dropFirstMark 18 = .ok (.getfield 58, 3) := by decide +kernel
theorem dX2_dropFirstMark_21 : decode cX2_dropFirstMark 21 = .ok (.iload_n 1, 1) := by decide +kernel
theorem dX2_dropFirstMark_22 : decode cX2_dropFirstMark 22 = .ok (.iconst 1, 1) := by decide +kernel
theorem dX2_dropFirstMark_23 : decode cX2_dropFirstMark 23 = .ok (.isub, 1) := by decide +kernel
theorem dX2_dropFirstMark_24 : decode cX2_dropFirstMark 24 = .ok (.aaload, 1) := by decide +kernel
theorem dX2_dropFirstMark_25 : decode cX2_dropFirstMark 25 = .ok (.aload_n 0, 1) := by decide +kernel
theorem dX2_dropFirstMark_26 : decode cX2_dropFirstMark 26 = .ok (.getfield 58, 3) := by decide +kernel
theorem dX2_dropFirstMark_29 : decode cX2_dropFirstMark 29 = .ok (.iload_n 1, 1) := by decide +kernel
theorem dX2_dropFirstMark_30 : decode cX2_dropFirstMark 30 = .ok (.aaload, 1) := by decide +kernel
theorem dX2_dropFirstMark_31 : decode cX2_dropFirstMark 31 = .ok (.invokevirtual 62, 3) := by decide +kernel
theorem dX2_dropFirstMark_34 : decode cX2_dropFirstMark 34 = .ok (.iinc 1 1, 3) := by decide +kernel
theorem dX2_dropFirstMark_37 : decode cX2_dropFirstMark 37 = .ok (.goto (-25), 3) := by decide +kernel
theorem dX2_dropFirstMark_40 : decode cX2_dropFirstMark 40 = .ok (.aload_n 0, 1) := by decide +kernel
theorem dX2_dropFirstMark_41 : decode cX2_dropFirstMark 41 = .ok (.dup, 1) := by decide +kernel
theorem dX2_dropFirstMark_42 : decode cX2_dropFirstMark 42 = .ok (.getfield 30, 3) := by decide +kernel
theorem dX2_dropFirstMark_45 : decode cX2_dropFirstMark 45 = .ok (.iconst 1, 1) := by decide +kernel
theorem dX2_dropFirstMark_46 : decode cX2_dropFirstMark 46 = .ok (.isub, 1) := by decide +kernel
theorem dX2_dropFirstMark_47 : decode cX2_dropFirstMark 47 = .ok (.putfield 30, 3) := by decide +kernel
theorem dX2_dropFirstMark_50 : decode cX2_dropFirstMark 50 = .ok (.aload_n 0, 1) := by decide +kernel
theorem dX2_dropFirstMark_51 : decode cX2_dropFirstMark 51 = .ok (.getfield 54, 3) := by decide +kernel
theorem dX2_dropFirstMark_54 : decode cX2_dropFirstMark 54 = .ok (.invokevirtual 141, 3) := by decide +kernel
theorem dX2_dropFirstMark_57 : decode cX2_dropFirstMark 57 = .ok (.aload_n 0, 1) := by decide +kernel
theorem dX2_dropFirstMark_58 : decode cX2_dropFirstMark 58 = .ok (.getfield 30, 3) := by decide +kernel
theorem dX2_dropFirstMark_61 : decode cX2_dropFirstMark 61 = .ok (.ireturn, 1) := by decide +kernel
theorem dX2_goBack_0 : decode cX2_goBack 0 = .ok (.aload_n 0, 1) := by decide +kernel
theorem dX2_goBack_1 : decode cX2_goBack 1 = .ok (.iload_n 1, 1) := by decide +kernel
theorem dX2_goBack_2 : decode cX2_goBack 2 = .ok (.invokevirtual 144, 3) := by decide +kernel
theorem dX2_goBack_5 : decode cX2_goBack 5 = .ok (.ifCond .ne 5, 3) := by decide +kernel
theorem dX2_goBack_8 : decode cX2_goBack 8 = .ok (.iconst (-1), 1) := by decide +kernel
theorem dX2_goBack_9 : decode cX2_goBack 9 = .ok (.ireturn, 1) := by decide +kernel
theorem dX2_goBack_10 : decode cX2_goBack 10 = .ok (.aload_n 0, 1) := by decide +kernel
theorem dX2_goBack_11 : decode cX2_goBack 11 = .ok (.getfield 40, 3) := by decide +kernel
theorem dX2_goBack_14 : decode cX2_goBack 14 = .ok (.aload_n 0, 1) := by decide +kernel
theorem dX2_goBack_15 : decode cX2_goBack 15 = .ok (.getfield 58, 3) := by decide +kernel
theorem dX2_goBack_18 : decode cX2_goBack 18 = .ok (.iload_n 1, 1) := by decide +kernel
theorem dX2_goBack_19 : decode cX2_goBack 19 = .ok (.aaload, 1) := by decide +kernel
theorem dX2_goBack_20 : decode cX2_goBack 20 = .ok (.invokevirtual 62, 3) := by decide +kernel
theorem dX2_goBack_23 : decode cX2_goBack 23 = .ok (.aload_n 0, 1) := by decide +kernel
theorem dX2_goBack_24 : decode cX2_goBack 24 = .ok (.iload_n 1, 1) := by decide +kernel
theorem dX2_goBack_25 : decode cX2_goBack 25 = .ok (.putfield 30, 3) := by decide +kernel
theorem dX2_goBack_28 : decode cX2_goBack 28 = .ok (.aload_n 0, 1) := by decide +kernel
theorem dX2_goBack_29 : decode cX2_goBack 29 = .ok (.getfield 54, 3) := by decide +kernel
theorem dX2_goBack_32 : decode cX2_goBack 32 = .ok (.iload_n 1, 1) := by decide +kernel
theorem dX2_goBack_33 : decode cX2_goBack 33 = .ok (.invokevirtual 147, 3) := by decide +kernel
theorem dX2_goBack_36 : decode cX2_goBack 36 = .ok (.ireturn, 1) := by decide +kernel
theorem dX2_findSeat_0 : decode cX2_findSeat 0 = .ok (.aload_n 0, 1) := by decide +kernel
theorem dX2_findSeat_1 : decode cX2_findSeat 1 = .ok (.getfield 40, 3) := by decide +kernel
theorem dX2_findSeat_4 : decode cX2_findSeat 4 = .ok (.getfield 111, 3) := by decide +kernel
theorem dX2_findSeat_7 : decode cX2_findSeat 7 = .ok (.iload_n 1, 1) := by decide +kernel
theorem dX2_findSeat_8 : decode cX2_findSeat 8 = .ok (.iaload, 1) := by decide +kernel
theorem dX2_findSeat_9 : decode cX2_findSeat 9 = .ok (.iconst (-1), 1) := by decide +kernel
theorem dX2_findSeat_10 : decode cX2_findSeat 10 = .ok (.if_icmp .eq 5, 3) := by decide +kernel
theorem dX2_findSeat_13 : decode cX2_findSeat 13 = .ok (.iconst 1, 1) := by decide +kernel
theorem dX2_findSeat_14 : decode cX2_findSeat 14 = .ok (.ireturn, 1) := by decide +kernel
theorem dX2_findSeat_15 : decode cX2_findSeat 15 = .ok (.aload_n 0, 1) := by decide +kernel
theorem dX2_findSeat_16 : decode cX2_findSeat 16 = .ok (.dup, 1) := by decide +kernel
theorem dX2_findSeat_17 : decode cX2_findSeat 17 = .ok (.getfield 24, 3) := by decide +kernel
theorem dX2_findSeat_20 : decode cX2_findSeat 20 = .ok (.iconst 1, 1) := by decide +kernel
theorem dX2_findSeat_21 : decode cX2_findSeat 21 = .ok (.iadd, 1) := by decide +kernel
theorem dX2_findSeat_22 : decode cX2_findSeat 22 = .ok (.putfield 24, 3) := by decide +kernel
theorem dX2_findSeat_25 : decode cX2_findSeat 25 = .ok (.aload_n 0, 1) := by decide +kernel
theorem dX2_findSeat_26 : decode cX2_findSeat 26 = .ok (.iload_n 1, 1) := by decide +kernel
theorem dX2_findSeat_27 : decode cX2_findSeat 27 = .ok (.aload_n 0, 1) := by decide +kernel
theorem dX2_findSeat_28 : decode cX2_findSeat 28 = .ok (.getfield 40, 3) := by decide +kernel
theorem dX2_findSeat_31 : decode cX2_findSeat 31 = .ok (.getfield 150, 3) := by decide +kernel
theorem dX2_findSeat_34 : decode cX2_findSeat 34 = .ok (.iload_n 1, 1) := by decide +kernel
theorem dX2_findSeat_35 : decode cX2_findSeat 35 = .ok (.iaload, 1) := by decide +kernel
theorem dX2_findSeat_36 : decode cX2_findSeat 36 = .ok (.aload_n 0, 1) := by decide +kernel
theorem dX2_findSeat_37 : decode cX2_findSeat 37 = .ok (.getfield 15, 3) := by decide +kernel
theorem dX2_findSeat_40 : decode cX2_findSeat 40 = .ok (.aload_n 0, 1) := by decide +kernel
theorem dX2_findSeat_41 : decode cX2_findSeat 41 = .ok (.getfield 33, 3) := by decide +kernel
theorem dX2_findSeat_44 : decode cX2_findSeat 44 = .ok (.iconst 2, 1) := by decide +kernel
theorem dX2_findSeat_45 : decode cX2_findSeat 45 = .ok (.iaload, 1) := by decide +kernel
theorem dX2_findSeat_46 : decode cX2_findSeat 46 = .ok (.iadd, 1) := by decide +kernel
theorem dX2_findSeat_47 : decode cX2_findSeat 47 = .ok (.iload_n 2, 1) := by decide +kernel
theorem dX2_findSeat_48 : decode cX2_findSeat 48 = .ok (.iload_n 3, 1) := by decide +kernel
theorem dX2_findSeat_49 : decode cX2_findSeat 49 = .ok (.invokevirtual 114, 3) := by decide +kernel
theorem dX2_findSeat_52 : decode cX2_findSeat 52 = .ok (.ifCond .lt 7, 3) := by decide +kernel
theorem dX2_findSeat_55 : decode cX2_findSeat 55 = .ok (.iconst 1, 1) := by decide +kernel
theorem dX2_findSeat_56 : decode cX2_findSeat 56 = .ok (.goto 4, 3) := by decide +kernel
theorem dX2_findSeat_59 : decode cX2_findSeat 59 = .ok (.iconst 0, 1) := by decide +kernel
theorem dX2_findSeat_60 : decode cX2_findSeat 60 = .ok (.ireturn, 1) := by decide +kernel
theorem dX2_seat_0 : decode cX2_seat 0 = .ok (.aload_n 0, 1) := by decide +kernel
theorem dX2_seat_1 : decode cX2_seat 1 = .ok (.invokevirtual 153, 3) := by decide +kernel
theorem dX2_seat_4 : decode cX2_seat 4 = .ok (.istore 6, 2) := by decide +kernel
theorem dX2_seat_6 : decode cX2_seat 6 = .ok (.aload_n 0, 1) := by decide +kernel
theorem dX2_seat_7 : decode cX2_seat 7 = .ok (.getfield 40, 3) := by decide +kernel
theorem dX2_seat_10 : decode cX2_seat 10 = .ok (.invokevirtual 156, 3) := by decide +kernel
theorem dX2_seat_13 : decode cX2_seat 13 = .ok (.istore 7, 2) := by decide +kernel
theorem dX2_seat_15 : decode cX2_seat 15 = .ok (.aload_n 0, 1) := by decide +kernel
theorem dX2_seat_16 : decode cX2_seat 16 = .ok (.iload 6, 2) := by decide +kernel
theorem dX2_seat_18 : decode cX2_seat 18 = .ok (.iload 7, 2) := by decide +kernel
theorem dX2_seat_20 : decode cX2_seat 20 = .ok (.ior, 1) := by decide +kernel
theorem dX2_seat_21 : decode cX2_seat 21 = .ok (.invokevirtual 159, 3) := by decide +kernel
theorem dX2_seat_24 : decode cX2_seat 24 = .ok (.istore 8, 2) := by decide +kernel
theorem dX2_seat_26 : decode cX2_seat 26 = .ok (.iload 8, 2) := by decide +kernel
theorem dX2_seat_28 : decode cX2_seat 28 = .ok (.iconst (-1), 1) := by decide +kernel
theorem dX2_seat_29 : decode cX2_seat 29 = .ok (.if_icmp .ne 66, 3) := by decide +kernel
theorem dX2_seat_32 : decode cX2_seat 32 = .ok (.aload_n 0, 1) := by decide +kernel
theorem dX2_seat_33 : decode cX2_seat 33 = .ok (.getfield 40, 3) := by decide +kernel
theorem dX2_seat_36 : decode cX2_seat 36 = .ok (.iload 4, 2) := by decide +kernel
theorem dX2_seat_38 : decode cX2_seat 38 = .ok (.invokevirtual 162, 3) := by decide +kernel
theorem dX2_seat_41 : decode cX2_seat 41 = .ok (.aload_n 0, 1) := by decide +kernel
theorem dX2_seat_42 : decode cX2_seat 42 = .ok (.getfield 40, 3) := by decide +kernel
theorem dX2_seat_45 : decode cX2_seat 45 = .ok (.iload 5, 2) := by decide +kernel
theorem dX2_seat_47 : decode cX2_seat 47 = .ok (.invokevirtual 162, 3) := by decide +kernel
theorem dX2_seat_50 : decode cX2_seat 50 = .ok (.ior, 1) := by decide +kernel
theorem dX2_seat_51 : decode cX2_seat 51 = .ok (.istore 9, 2) := by decide +kernel
theorem dX2_seat_53 : decode cX2_seat 53 = .ok (.aload_n 0, 1) := by decide +kernel
theorem dX2_seat_54 : decode cX2_seat 54 = .ok (.iload 7, 2) := by decide +kernel
theorem dX2_seat_56 : decode cX2_seat 56 = .ok (.iload 6, 2) := by decide +kernel
theorem dX2_seat_58 : decode cX2_seat 58 = .ok (.iconst (-1), 1) := by decide +kernel
theorem dX2_seat_59 : decode cX2_seat 59 = .ok (.ixor, 1) := by decide +kernel
theorem dX2_seat_60 : decode cX2_seat 60 = .ok (.iand, 1) := by decide +kernel
theorem dX2_seat_61 : decode cX2_seat 61 = .ok (.iload 9, 2) := by decide +kernel
theorem dX2_seat_63 : decode cX2_seat 63 = .ok (.iconst (-1), 1) := by decide +kernel
theorem dX2_seat_64 : decode cX2_seat 64 = .ok (.ixor, 1) := by decide +kernel
theorem dX2_seat_65 : decode cX2_seat 65 = .ok (.iand, 1) := by decide +kernel
theorem dX2_seat_66 : decode cX2_seat 66 = .ok (.invokevirtual 165, 3) := by decide +kernel
theorem dX2_seat_69 : decode cX2_seat 69 = .ok (.istore 8, 2) := by decide +kernel
theorem dX2_seat_71 : decode cX2_seat 71 = .ok (.iload 8, 2) := by decide +kernel
theorem dX2_seat_73 : decode cX2_seat 73 = .ok (.iconst (-1), 1) := by decide +kernel
theorem dX2_seat_74 : decode cX2_seat 74 = .ok (.if_icmp .ne 6, 3) := by decide +kernel
theorem dX2_seat_77 : decode cX2_seat 77 = .ok (.bipush (-2), 2) := by decide +kernel
theorem dX2_seat_79 : decode cX2_seat 79 = .ok (.ireturn, 1) := by decide +kernel
theorem dX2_seat_80 : decode cX2_seat 80 = .ok (.aload_n 0, 1) := by decide +kernel
theorem dX2_seat_81 : decode cX2_seat 81 = .ok (.iload 8, 2) := by decide +kernel
theorem dX2_seat_83 : decode cX2_seat 83 = .ok (.aload_n 0, 1) := by decide +kernel
theorem dX2_seat_84 : decode cX2_seat 84 = .ok (.getfield 47, 3) := by decide +kernel
theorem dX2_seat_87 : decode cX2_seat 87 = .ok (.iload 8, 2) := by decide +kernel
theorem dX2_seat_89 : decode cX2_seat 89 = .ok (.invokevirtual 125, 3) := by decide +kernel
theorem dX2_seat_92 : decode cX2_seat 92 = .ok (.invokevirtual 168, 3) := by decide +kernel
theorem dX2_seat_95 : decode cX2_seat 95 = .ok (.aload_n 0, 1) := by decide +kernel
theorem dX2_seat_96 : decode cX2_seat 96 = .ok (.getfield 47, 3) := by decide +kernel
theorem dX2_seat_99 : decode cX2_seat 99 = .ok (.iload 8, 2) := by decide +kernel
theorem dX2_seat_101 : decode cX2_seat 101 = .ok (.iload_n 2, 1) := by decide +kernel
theorem dX2_seat_102 : decode cX2_seat 102 = .ok (.iload_n 3, 1) := by decide +kernel
theorem dX2_seat_103 : decode cX2_seat 103 = .ok (.aload_n 0, 1) := by decide +kernel
theorem dX2_seat_104 : decode cX2_seat 104 = .ok (.getfield 27, 3) := by decide +kernel
theorem dX2_seat_107 : decode cX2_seat 107 = .ok (.invokevirtual 171, 3) := by decide +kernel
theorem dX2_seat_110 : decode cX2_seat 110 = .ok (.aload_n 0, 1) := by decide +kernel
theorem dX2_seat_111 : decode cX2_seat 111 = .ok (.getfield 40, 3) := by decide +kernel
theorem dX2_seat_114 : decode cX2_seat 114 = .ok (.getfield 111, 3) := by decide +kernel
theorem dX2_seat_117 : decode cX2_seat 117 = .ok (.iload_n 1, 1) := by decide +kernel
theorem dX2_seat_118 : decode cX2_seat 118 = .ok (.iload 8, 2) := by decide +kernel
theorem dX2_seat_120 : decode cX2_seat 120 = .ok (.iastore, 1) := by decide +kernel
theorem dX2_seat_121 : decode cX2_seat 121 = .ok (.iload 8, 2) := by decide +kernel
theorem dX2_seat_123 : decode cX2_seat 123 = .ok (.ireturn, 1) := by decide +kernel
theorem dX2_sendOut_0 : decode cX2_sendOut 0 = .ok (.aload_n 0, 1) := by decide +kernel
theorem dX2_sendOut_1 : decode cX2_sendOut 1 = .ok (.dup, 1) := by decide +kernel
theorem dX2_sendOut_2 : decode cX2_sendOut 2 = .ok (.getfield 21, 3) := by decide +kernel
theorem dX2_sendOut_5 : decode cX2_sendOut 5 = .ok (.iconst 1, 1) := by decide +kernel
theorem dX2_sendOut_6 : decode cX2_sendOut 6 = .ok (.iadd, 1) := by decide +kernel
theorem dX2_sendOut_7 : decode cX2_sendOut 7 = .ok (.putfield 21, 3) := by decide +kernel
theorem dX2_sendOut_10 : decode cX2_sendOut 10 = .ok (.iconst 0, 1) := by decide +kernel
theorem dX2_sendOut_11 : decode cX2_sendOut 11 = .ok (.istore_n 3, 1) := by decide +kernel
theorem dX2_sendOut_12 : decode cX2_sendOut 12 = .ok (.iload_n 3, 1) := by decide +kernel
theorem dX2_sendOut_13 : decode cX2_sendOut 13 = .ok (.bipush 8, 2) := by decide +kernel
theorem dX2_sendOut_15 : decode cX2_sendOut 15 = .ok (.if_icmp .ge 42, 3) := by decide +kernel
theorem dX2_sendOut_18 : decode cX2_sendOut 18 = .ok (.aload_n 0, 1) := by decide +kernel
theorem dX2_sendOut_19 : decode cX2_sendOut 19 = .ok (.getfield 40, 3) := by decide +kernel
theorem dX2_sendOut_22 : decode cX2_sendOut 22 = .ok (.getfield 111, 3) := by decide +kernel
theorem dX2_sendOut_25 : decode cX2_sendOut 25 = .ok (.iload_n 3, 1) := by decide +kernel
theorem dX2_sendOut_26 : decode cX2_sendOut 26 = .ok (.iaload, 1) := by decide +kernel
theorem dX2_sendOut_27 : decode cX2_sendOut 27 = .ok (.iload_n 1, 1) := by decide +kernel
theorem dX2_sendOut_28 : decode cX2_sendOut 28 = .ok (.if_icmp .ne 23, 3) := by decide +kernel
theorem dX2_sendOut_31 : decode cX2_sendOut 31 = .ok (.aload_n 0, 1) := by decide +kernel
theorem dX2_sendOut_32 : decode cX2_sendOut 32 = .ok (.getfield 40, 3) := by decide +kernel
theorem dX2_sendOut_35 : decode cX2_sendOut 35 = .ok (.getfield 111, 3) := by decide +kernel
theorem dX2_sendOut_38 : decode cX2_sendOut 38 = .ok (.iload_n 3, 1) := by decide +kernel
theorem dX2_sendOut_39 : decode cX2_sendOut 39 = .ok (.iconst (-1), 1) := by decide +kernel
theorem dX2_sendOut_40 : decode cX2_sendOut 40 = .ok (.iastore, 1) := by decide +kernel
theorem dX2_sendOut_41 : decode cX2_sendOut 41 = .ok (.aload_n 0, 1) := by decide +kernel
theorem dX2_sendOut_42 : decode cX2_sendOut 42 = .ok (.getfield 40, 3) := by decide +kernel
theorem dX2_sendOut_45 : decode cX2_sendOut 45 = .ok (.getfield 150, 3) := by decide +kernel
theorem dX2_sendOut_48 : decode cX2_sendOut 48 = .ok (.iload_n 3, 1) := by decide +kernel
theorem dX2_sendOut_49 : decode cX2_sendOut 49 = .ok (.iload_n 2, 1) := by decide +kernel
theorem dX2_sendOut_50 : decode cX2_sendOut 50 = .ok (.iastore, 1) := by decide +kernel
theorem dX2_sendOut_51 : decode cX2_sendOut 51 = .ok (.iinc 3 1, 3) := by decide +kernel
theorem dX2_sendOut_54 : decode cX2_sendOut 54 = .ok (.goto (-42), 3) := by decide +kernel
theorem dX2_sendOut_57 : decode cX2_sendOut 57 = .ok (.return_, 1) := by decide +kernel
theorem dX2_result_0 : decode cX2_result 0 = .ok (.iload_n 0, 1) := by decide +kernel
theorem dX2_result_1 : decode cX2_result 1 = .ok (.lookupswitch 45 #[(0, 27), (1, 35)], 27) := by decide +kernel
theorem dX2_result_28 : decode cX2_result 28 = .ok (.iload_n 1, 1) := by decide +kernel
theorem dX2_result_29 : decode cX2_result 29 = .ok (.iload_n 2, 1) := by decide +kernel
theorem dX2_result_30 : decode cX2_result 30 = .ok (.iadd, 1) := by decide +kernel
theorem dX2_result_31 : decode cX2_result 31 = .ok (.sipush 10000, 3) := by decide +kernel
theorem dX2_result_34 : decode cX2_result 34 = .ok (.irem, 1) := by decide +kernel
theorem dX2_result_35 : decode cX2_result 35 = .ok (.ireturn, 1) := by decide +kernel
theorem dX2_result_36 : decode cX2_result 36 = .ok (.iload_n 1, 1) := by decide +kernel
theorem dX2_result_37 : decode cX2_result 37 = .ok (.iload_n 2, 1) := by decide +kernel
theorem dX2_result_38 : decode cX2_result 38 = .ok (.isub, 1) := by decide +kernel
theorem dX2_result_39 : decode cX2_result 39 = .ok (.sipush 10000, 3) := by decide +kernel
theorem dX2_result_42 : decode cX2_result 42 = .ok (.invokestatic 175, 3) := by decide +kernel
theorem dX2_result_45 : decode cX2_result 45 = .ok (.ireturn, 1) := by decide +kernel
theorem dX2_result_46 : decode cX2_result 46 = .ok (.iload_n 1, 1) := by decide +kernel
theorem dX2_result_47 : decode cX2_result 47 = .ok (.iload_n 2, 1) := by decide +kernel
theorem dX2_result_48 : decode cX2_result 48 = .ok (.imul, 1) := by decide +kernel
theorem dX2_result_49 : decode cX2_result 49 = .ok (.sipush 10000, 3) := by decide +kernel
theorem dX2_result_52 : decode cX2_result 52 = .ok (.irem, 1) := by decide +kernel
theorem dX2_result_53 : decode cX2_result 53 = .ok (.ireturn, 1) := by decide +kernel
theorem dX2_letTickGo_0 : decode cX2_letTickGo 0 = .ok (.aload_n 0, 1) := by decide +kernel
theorem dX2_letTickGo_1 : decode cX2_letTickGo 1 = .ok (.dup, 1) := by decide +kernel
theorem dX2_letTickGo_2 : decode cX2_letTickGo 2 = .ok (.getfield 15, 3) := by decide +kernel
theorem dX2_letTickGo_5 : decode cX2_letTickGo 5 = .ok (.iconst 1, 1) := by decide +kernel
theorem dX2_letTickGo_6 : decode cX2_letTickGo 6 = .ok (.iadd, 1) := by decide +kernel
theorem dX2_letTickGo_7 : decode cX2_letTickGo 7 = .ok (.putfield 15, 3) := by decide +kernel
theorem dX2_letTickGo_10 : decode cX2_letTickGo 10 = .ok (.aload_n 0, 1) := by decide +kernel
theorem dX2_letTickGo_11 : decode cX2_letTickGo 11 = .ok (.invokevirtual 180, 3) := by decide +kernel
theorem dX2_letTickGo_14 : decode cX2_letTickGo 14 = .ok (.aload_n 0, 1) := by decide +kernel
theorem dX2_letTickGo_15 : decode cX2_letTickGo 15 = .ok (.invokevirtual 183, 3) := by decide +kernel
theorem dX2_letTickGo_18 : decode cX2_letTickGo 18 = .ok (.return_, 1) := by decide +kernel
theorem dX2_finishOrders_0 : decode cX2_finishOrders 0 = .ok (.iconst 0, 1) := by decide +kernel
theorem dX2_finishOrders_1 : decode cX2_finishOrders 1 = .ok (.istore_n 1, 1) := by decide +kernel
theorem dX2_finishOrders_2 : decode cX2_finishOrders 2 = .ok (.aload_n 0, 1) := by decide +kernel
theorem dX2_finishOrders_3 : decode cX2_finishOrders 3 = .ok (.getfield 54, 3) := by decide +kernel
theorem dX2_finishOrders_6 : decode cX2_finishOrders 6 = .ok (.getfield 101, 3) := by decide +kernel
theorem dX2_finishOrders_9 : decode cX2_finishOrders 9 = .ok (.istore_n 2, 1) := by decide +kernel
theorem dX2_finishOrders_10 : decode cX2_finishOrders 10 = .ok (.iconst 0, 1) := by decide +kernel
theorem dX2_finishOrders_11 : decode cX2_finishOrders 11 = .ok (.istore_n 3, 1) := by decide +kernel
theorem dX2_finishOrders_12 : decode cX2_finishOrders 12 = .ok (.iload_n 3, 1) := by decide +kernel
theorem dX2_finishOrders_13 : decode cX2_finishOrders 13 = .ok (.iload_n 2, 1) := by decide +kernel
theorem dX2_finishOrders_14 : decode cX2_finishOrders 14 = .ok (.if_icmp .ge 50, 3) := by decide +kernel
theorem dX2_finishOrders_17 : decode cX2_finishOrders 17 = .ok (.iload_n 3, 1) := by decide +kernel
theorem dX2_finishOrders_18 : decode cX2_finishOrders 18 = .ok (.bipush 6, 2) := by decide +kernel
theorem dX2_finishOrders_20 : decode cX2_finishOrders 20 = .ok (.if_icmp .ge 44, 3) := by decide +kernel
theorem dX2_finishOrders_23 : decode cX2_finishOrders 23 = .ok (.aload_n 0, 1) := by decide +kernel
theorem dX2_finishOrders_24 : decode cX2_finishOrders 24 = .ok (.getfield 47, 3) := by decide +kernel
theorem dX2_finishOrders_27 : decode cX2_finishOrders 27 = .ok (.aload_n 0, 1) := by decide +kernel
theorem dX2_finishOrders_28 : decode cX2_finishOrders 28 = .ok (.getfield 54, 3) := by decide +kernel
theorem dX2_finishOrders_31 : decode cX2_finishOrders 31 = .ok (.getfield 186, 3) := by decide +kernel
theorem dX2_finishOrders_34 : decode cX2_finishOrders 34 = .ok (.iload_n 3, 1) := by decide +kernel
theorem dX2_finishOrders_35 : decode cX2_finishOrders 35 = .ok (.iaload, 1) := by decide +kernel
theorem dX2_finishOrders_36 : decode cX2_finishOrders 36 = .ok (.invokevirtual 187, 3) := by decide +kernel
theorem dX2_finishOrders_39 : decode cX2_finishOrders 39 = .ok (.aload_n 0, 1) := by decide +kernel
theorem dX2_finishOrders_40 : decode cX2_finishOrders 40 = .ok (.getfield 15, 3) := by decide +kernel
theorem dX2_finishOrders_43 : decode cX2_finishOrders 43 = .ok (.if_icmp .le 15, 3) := by decide +kernel
theorem dX2_finishOrders_46 : decode cX2_finishOrders 46 = .ok (.aload_n 0, 1) := by decide +kernel
theorem dX2_finishOrders_47 : decode cX2_finishOrders 47 = .ok (.getfield 54, 3) := by decide +kernel
theorem dX2_finishOrders_50 : decode cX2_finishOrders 50 = .ok (.iload_n 3, 1) := by decide +kernel
theorem dX2_finishOrders_51 : decode cX2_finishOrders 51 = .ok (.iload_n 1, 1) := by decide +kernel
theorem dX2_finishOrders_52 : decode cX2_finishOrders 52 = .ok (.invokevirtual 190, 3) := by decide +kernel
theorem dX2_finishOrders_55 : decode cX2_finishOrders 55 = .ok (.iinc 1 1, 3) := by decide +kernel
theorem dX2_finishOrders_58 : decode cX2_finishOrders 58 = .ok (.iinc 3 1, 3) := by decide +kernel
theorem dX2_finishOrders_61 : decode cX2_finishOrders 61 = .ok (.goto (-49), 3) := by decide +kernel
theorem dX2_finishOrders_64 : decode cX2_finishOrders 64 = .ok (.aload_n 0, 1) := by decide +kernel
theorem dX2_finishOrders_65 : decode cX2_finishOrders 65 = .ok (.getfield 54, 3) := by decide +kernel
theorem dX2_finishOrders_68 : decode cX2_finishOrders 68 = .ok (.iload_n 1, 1) := by decide +kernel
theorem dX2_finishOrders_69 : decode cX2_finishOrders 69 = .ok (.putfield 101, 3) := by decide +kernel
theorem dX2_finishOrders_72 : decode cX2_finishOrders 72 = .ok (.aload_n 0, 1) := by decide +kernel
theorem dX2_finishOrders_73 : decode cX2_finishOrders 73 = .ok (.dup, 1) := by decide +kernel
theorem dX2_finishOrders_74 : decode cX2_finishOrders 74 = .ok (.getfield 18, 3) := by decide +kernel
theorem dX2_finishOrders_77 : decode cX2_finishOrders 77 = .ok (.iload_n 2, 1) := by decide +kernel
theorem dX2_finishOrders_78 : decode cX2_finishOrders 78 = .ok (.iload_n 1, 1) := by decide +kernel
theorem dX2_finishOrders_79 : decode cX2_finishOrders 79 = .ok (.isub, 1) := by decide +kernel
theorem dX2_finishOrders_80 : decode cX2_finishOrders 80 = .ok (.iadd, 1) := by decide +kernel
theorem dX2_finishOrders_81 : decode cX2_finishOrders 81 = .ok (.putfield 18, 3) := by decide +kernel
theorem dX2_finishOrders_84 : decode cX2_finishOrders 84 = .ok (.return_, 1) := by decide +kernel
theorem dX2_beginOrders_0 : decode cX2_beginOrders 0 = .ok (.iconst 0, 1) := by decide +kernel
theorem dX2_beginOrders_1 : decode cX2_beginOrders 1 = .ok (.istore_n 1, 1) := by decide +kernel
theorem dX2_beginOrders_2 : decode cX2_beginOrders 2 = .ok (.iconst 0, 1) := by decide +kernel
theorem dX2_beginOrders_3 : decode cX2_beginOrders 3 = .ok (.istore_n 2, 1) := by decide +kernel
theorem dX2_beginOrders_4 : decode cX2_beginOrders 4 = .ok (.iload_n 2, 1) := by decide +kernel
theorem dX2_beginOrders_5 : decode cX2_beginOrders 5 = .ok (.aload_n 0, 1) := by decide +kernel
theorem dX2_beginOrders_6 : decode cX2_beginOrders 6 = .ok (.getfield 54, 3) := by decide +kernel
theorem dX2_beginOrders_9 : decode cX2_beginOrders 9 = .ok (.getfield 101, 3) := by decide +kernel
theorem dX2_beginOrders_12 : decode cX2_beginOrders 12 = .ok (.if_icmp .ge 157, 3) := by decide +kernel
theorem dX2_beginOrders_15 : decode cX2_beginOrders 15 = .ok (.iload_n 2, 1) := by decide +kernel
theorem dX2_beginOrders_16 : decode cX2_beginOrders 16 = .ok (.bipush 6, 2) := by decide +kernel
theorem dX2_beginOrders_18 : decode cX2_beginOrders 18 = .ok (.if_icmp .ge 151, 3) := by decide +kernel
theorem dX2_beginOrders_21 : decode cX2_beginOrders 21 = .ok (.aload_n 0, 1) := by decide +kernel
theorem dX2_beginOrders_22 : decode cX2_beginOrders 22 = .ok (.getfield 54, 3) := by decide +kernel
theorem dX2_beginOrders_25 : decode cX2_beginOrders 25 = .ok (.getfield 186, 3) := by decide +kernel
theorem dX2_beginOrders_28 : decode cX2_beginOrders 28 = .ok (.iload_n 2, 1) := by decide +kernel
theorem dX2_beginOrders_29 : decode cX2_beginOrders 29 = .ok (.iaload, 1) := by decide +kernel
theorem dX2_beginOrders_30 : decode cX2_beginOrders 30 = .ok (.istore_n 3, 1) := by decide +kernel
theorem dX2_beginOrders_31 : decode cX2_beginOrders 31 = .ok (.aload_n 0, 1) := by decide +kernel
theorem dX2_beginOrders_32 : decode cX2_beginOrders 32 = .ok (.getfield 47, 3) := by decide +kernel
theorem dX2_beginOrders_35 : decode cX2_beginOrders 35 = .ok (.aload_n 0, 1) := by decide +kernel
theorem dX2_beginOrders_36 : decode cX2_beginOrders 36 = .ok (.getfield 54, 3) := by decide +kernel
theorem dX2_beginOrders_39 : decode cX2_beginOrders 39 = .ok (.getfield 193, 3) := by decide +kernel
theorem dX2_beginOrders_42 : decode cX2_beginOrders 42 = .ok (.iload_n 2, 1) := by decide +kernel
theorem dX2_beginOrders_43 : decode cX2_beginOrders 43 = .ok (.iaload, 1) := by decide +kernel
theorem dX2_beginOrders_44 : decode cX2_beginOrders 44 = .ok (.invokevirtual 187, 3) := by decide +kernel
theorem dX2_beginOrders_47 : decode cX2_beginOrders 47 = .ok (.istore 4, 2) := by decide +kernel
theorem dX2_beginOrders_49 : decode cX2_beginOrders 49 = .ok (.aload_n 0, 1) := by decide +kernel
theorem dX2_beginOrders_50 : decode cX2_beginOrders 50 = .ok (.getfield 47, 3) := by decide +kernel
theorem dX2_beginOrders_53 : decode cX2_beginOrders 53 = .ok (.aload_n 0, 1) := by decide +kernel
theorem dX2_beginOrders_54 : decode cX2_beginOrders 54 = .ok (.getfield 54, 3) := by decide +kernel
theorem dX2_beginOrders_57 : decode cX2_beginOrders 57 = .ok (.getfield 196, 3) := by decide +kernel
theorem dX2_beginOrders_60 : decode cX2_beginOrders 60 = .ok (.iload_n 2, 1) := by decide +kernel
theorem dX2_beginOrders_61 : decode cX2_beginOrders 61 = .ok (.iaload, 1) := by decide +kernel
theorem dX2_beginOrders_62 : decode cX2_beginOrders 62 = .ok (.invokevirtual 187, 3) := by decide +kernel
theorem dX2_beginOrders_65 : decode cX2_beginOrders 65 = .ok (.istore 5, 2) := by decide +kernel
theorem dX2_beginOrders_67 : decode cX2_beginOrders 67 = .ok (.aload_n 0, 1) := by decide +kernel
theorem dX2_beginOrders_68 : decode cX2_beginOrders 68 = .ok (.getfield 47, 3) := by decide +kernel
theorem dX2_beginOrders_71 : decode cX2_beginOrders 71 = .ok (.iload_n 3, 1) := by decide +kernel
theorem dX2_beginOrders_72 : decode cX2_beginOrders 72 = .ok (.invokevirtual 187, 3) := by decide +kernel
theorem dX2_beginOrders_75 : decode cX2_beginOrders 75 = .ok (.ldc 132, 2) := by decide +kernel
theorem dX2_beginOrders_77 : decode cX2_beginOrders 77 = .ok (.if_icmp .ne 25, 3) := by decide +kernel
theorem dX2_beginOrders_80 : decode cX2_beginOrders 80 = .ok (.iload 4, 2) := by decide +kernel
theorem dX2_beginOrders_82 : decode cX2_beginOrders 82 = .ok (.aload_n 0, 1) := by decide +kernel
theorem dX2_beginOrders_83 : decode cX2_beginOrders 83 = .ok (.getfield 15, 3) := by decide +kernel
theorem dX2_beginOrders_86 : decode cX2_beginOrders 86 = .ok (.if_icmp .gt 16, 3) := by decide +kernel
theorem dX2_beginOrders_89 : decode cX2_beginOrders 89 = .ok (.iload 5, 2) := by decide +kernel
theorem dX2_beginOrders_91 : decode cX2_beginOrders 91 = .ok (.aload_n 0, 1) := by decide +kernel
theorem dX2_beginOrders_92 : decode cX2_beginOrders 92 = .ok (.getfield 15, 3) := by decide +kernel
theorem dX2_beginOrders_95 : decode cX2_beginOrders 95 = .ok (.if_icmp .gt 7, 3) := by decide +kernel
theorem dX2_beginOrders_98 : decode cX2_beginOrders 98 = .ok (.iconst 1, 1) := by decide +kernel
theorem dX2_beginOrders_99 : decode cX2_beginOrders 99 = .ok (.goto 4, 3) := by decide +kernel
theorem dX2_beginOrders_102 : decode cX2_beginOrders 102 = .ok (.iconst 0, 1) := by decide +kernel
theorem dX2_beginOrders_103 : decode cX2_beginOrders 103 = .ok (.istore 6, 2) := by decide +kernel
theorem dX2_beginOrders_105 : decode cX2_beginOrders 105 = .ok (.iload 6, 2) := by decide +kernel
theorem dX2_beginOrders_107 : decode cX2_beginOrders 107 = .ok (.ifCond .eq 56, 3) := by decide +kernel
theorem dX2_beginOrders_110 : decode cX2_beginOrders 110 = .ok (.iload_n 1, 1) := by decide +kernel
theorem dX2_beginOrders_111 : decode cX2_beginOrders 111 = .ok (.aload_n 0, 1) := by decide +kernel
theorem dX2_beginOrders_112 : decode cX2_beginOrders 112 = .ok (.getfield 33, 3) := by decide +kernel
theorem dX2_beginOrders_115 : decode cX2_beginOrders 115 = .ok (.iconst 3, 1) := by decide +kernel
theorem dX2_beginOrders_116 : decode cX2_beginOrders 116 = .ok (.iaload, 1) := by decide +kernel
theorem dX2_beginOrders_117 : decode cX2_beginOrders 117 = .ok (.if_icmp .ge 46, 3) := by decide +kernel
theorem dX2_beginOrders_120 : decode cX2_beginOrders 120 = .ok (.aload_n 0, 1) := by decide +kernel
theorem dX2_beginOrders_121 : decode cX2_beginOrders 121 = .ok (.getfield 33, 3) := by decide +kernel
theorem dX2_beginOrders_124 : decode cX2_beginOrders 124 = .ok (.aload_n 0, 1) := by decide +kernel
theorem dX2_beginOrders_125 : decode cX2_beginOrders 125 = .ok (.getfield 54, 3) := by decide +kernel
theorem dX2_beginOrders_128 : decode cX2_beginOrders 128 = .ok (.getfield 199, 3) := by decide +kernel
theorem dX2_beginOrders_131 : decode cX2_beginOrders 131 = .ok (.iload_n 2, 1) := by decide +kernel
theorem dX2_beginOrders_132 : decode cX2_beginOrders 132 = .ok (.iaload, 1) := by decide +kernel
theorem dX2_beginOrders_133 : decode cX2_beginOrders 133 = .ok (.iconst 2, 1) := by decide +kernel
theorem dX2_beginOrders_134 : decode cX2_beginOrders 134 = .ok (.if_icmp .ne 7, 3) := by decide +kernel
theorem dX2_beginOrders_137 : decode cX2_beginOrders 137 = .ok (.iconst 1, 1) := by decide +kernel
theorem dX2_beginOrders_138 : decode cX2_beginOrders 138 = .ok (.goto 4, 3) := by decide +kernel
theorem dX2_beginOrders_141 : decode cX2_beginOrders 141 = .ok (.iconst 0, 1) := by decide +kernel
theorem dX2_beginOrders_142 : decode cX2_beginOrders 142 = .ok (.iaload, 1) := by decide +kernel
theorem dX2_beginOrders_143 : decode cX2_beginOrders 143 = .ok (.istore 7, 2) := by decide +kernel
theorem dX2_beginOrders_145 : decode cX2_beginOrders 145 = .ok (.aload_n 0, 1) := by decide +kernel
theorem dX2_beginOrders_146 : decode cX2_beginOrders 146 = .ok (.getfield 47, 3) := by decide +kernel
theorem dX2_beginOrders_149 : decode cX2_beginOrders 149 = .ok (.iload_n 3, 1) := by decide +kernel
theorem dX2_beginOrders_150 : decode cX2_beginOrders 150 = .ok (.aload_n 0, 1) := by decide +kernel
theorem dX2_beginOrders_151 : decode cX2_beginOrders 151 = .ok (.getfield 15, 3) := by decide +kernel
theorem dX2_beginOrders_154 : decode cX2_beginOrders 154 = .ok (.iload 7, 2) := by decide +kernel
theorem dX2_beginOrders_156 : decode cX2_beginOrders 156 = .ok (.iadd, 1) := by decide +kernel
theorem dX2_beginOrders_157 : decode cX2_beginOrders 157 = .ok (.invokevirtual 202, 3) := by decide +kernel
theorem dX2_beginOrders_160 : decode cX2_beginOrders 160 = .ok (.iinc 1 1, 3) := by decide +kernel
theorem dX2_beginOrders_163 : decode cX2_beginOrders 163 = .ok (.iinc 2 1, 3) := by decide +kernel
theorem dX2_beginOrders_166 : decode cX2_beginOrders 166 = .ok (.goto (-162), 3) := by decide +kernel
theorem dX2_beginOrders_169 : decode cX2_beginOrders 169 = .ok (.return_, 1) := by decide +kernel
theorem dX2_ticksTillIdle_0 : decode cX2_ticksTillIdle 0 = .ok (.iconst 0, 1) := by decide +kernel
theorem dX2_ticksTillIdle_1 : decode cX2_ticksTillIdle 1 = .ok (.istore_n 1, 1) := by decide +kernel
theorem dX2_ticksTillIdle_2 : decode cX2_ticksTillIdle 2 = .ok (.aload_n 0, 1) := by decide +kernel
theorem dX2_ticksTillIdle_3 : decode cX2_ticksTillIdle 3 = .ok (.getfield 54, 3) := by decide +kernel
theorem dX2_ticksTillIdle_6 : decode cX2_ticksTillIdle 6 = .ok (.getfield 101, 3) := by decide +kernel
theorem dX2_ticksTillIdle_9 : decode cX2_ticksTillIdle 9 = .ok (.ifCond .le 20, 3) := by decide +kernel
theorem dX2_ticksTillIdle_12 : decode cX2_ticksTillIdle 12 = .ok (.iload_n 1, 1) := by decide +kernel
theorem dX2_ticksTillIdle_13 : decode cX2_ticksTillIdle 13 = .ok (.sipush 1000, 3) := by decide +kernel
theorem dX2_ticksTillIdle_16 : decode cX2_ticksTillIdle 16 = .ok (.if_icmp .ge 13, 3) := by decide +kernel
theorem dX2_ticksTillIdle_19 : decode cX2_ticksTillIdle 19 = .ok (.aload_n 0, 1) := by decide +kernel
theorem dX2_ticksTillIdle_20 : decode cX2_ticksTillIdle 20 = .ok (.invokevirtual 138, 3) := by decide +kernel
theorem dX2_ticksTillIdle_23 : decode cX2_ticksTillIdle 23 = .ok (.iinc 1 1, 3) := by decide +kernel
theorem dX2_ticksTillIdle_26 : decode cX2_ticksTillIdle 26 = .ok (.goto (-24), 3) := by decide +kernel
theorem dX2_ticksTillIdle_29 : decode cX2_ticksTillIdle 29 = .ok (.iload_n 1, 1) := by decide +kernel
theorem dX2_ticksTillIdle_30 : decode cX2_ticksTillIdle 30 = .ok (.ireturn, 1) := by decide +kernel
theorem dX2_ticksTillKnown_0 : decode cX2_ticksTillKnown 0 = .ok (.iconst 0, 1) := by decide +kernel
theorem dX2_ticksTillKnown_1 : decode cX2_ticksTillKnown 1 = .ok (.istore_n 2, 1) := by decide +kernel
theorem dX2_ticksTillKnown_2 : decode cX2_ticksTillKnown 2 = .ok (.iload_n 1, 1) := by decide +kernel
theorem dX2_ticksTillKnown_3 : decode cX2_ticksTillKnown 3 = .ok (.invokestatic 107, 3) := by decide +kernel
theorem dX2_ticksTillKnown_6 : decode cX2_ticksTillKnown 6 = .ok (.ifCond .eq 28, 3) := by decide +kernel
theorem dX2_ticksTillKnown_9 : decode cX2_ticksTillKnown 9 = .ok (.aload_n 0, 1) := by decide +kernel
theorem dX2_ticksTillKnown_10 : decode cX2_ticksTillKnown 10 = .ok (.iload_n 1, 1) := by decide +kernel
theorem dX2_ticksTillKnown_11 : decode cX2_ticksTillKnown 11 = .ok (.invokevirtual 205, 3) := by decide +kernel
theorem dX2_ticksTillKnown_14 : decode cX2_ticksTillKnown 14 = .ok (.ifCond .eq 20, 3) := by decide +kernel
theorem dX2_ticksTillKnown_17 : decode cX2_ticksTillKnown 17 = .ok (.iload_n 2, 1) := by decide +kernel
theorem dX2_ticksTillKnown_18 : decode cX2_ticksTillKnown 18 = .ok (.sipush 1000, 3) := by decide +kernel
theorem dX2_ticksTillKnown_21 : decode cX2_ticksTillKnown 21 = .ok (.if_icmp .ge 13, 3) := by decide +kernel
theorem dX2_ticksTillKnown_24 : decode cX2_ticksTillKnown 24 = .ok (.aload_n 0, 1) := by decide +kernel
theorem dX2_ticksTillKnown_25 : decode cX2_ticksTillKnown 25 = .ok (.invokevirtual 138, 3) := by decide +kernel
theorem dX2_ticksTillKnown_28 : decode cX2_ticksTillKnown 28 = .ok (.iinc 2 1, 3) := by decide +kernel
theorem dX2_ticksTillKnown_31 : decode cX2_ticksTillKnown 31 = .ok (.goto (-29), 3) := by decide +kernel
theorem dX2_ticksTillKnown_34 : decode cX2_ticksTillKnown 34 = .ok (.iload_n 2, 1) := by decide +kernel
theorem dX2_ticksTillKnown_35 : decode cX2_ticksTillKnown 35 = .ok (.ireturn, 1) := by decide +kernel
theorem dX2_tellMark_0 : decode cX2_tellMark 0 = .ok (.aload_n 0, 1) := by decide +kernel
theorem dX2_tellMark_1 : decode cX2_tellMark 1 = .ok (.iload_n 1, 1) := by decide +kernel
theorem dX2_tellMark_2 : decode cX2_tellMark 2 = .ok (.invokevirtual 144, 3) := by decide +kernel
theorem dX2_tellMark_5 : decode cX2_tellMark 5 = .ok (.ifCond .eq 19, 3) := by decide +kernel
theorem dX2_tellMark_8 : decode cX2_tellMark 8 = .ok (.iload_n 2, 1) := by decide +kernel
theorem dX2_tellMark_9 : decode cX2_tellMark 9 = .ok (.invokestatic 107, 3) := by decide +kernel
theorem dX2_tellMark_12 : decode cX2_tellMark 12 = .ok (.ifCond .eq 12, 3) := by decide +kernel
theorem dX2_tellMark_15 : decode cX2_tellMark 15 = .ok (.iload_n 3, 1) := by decide +kernel
theorem dX2_tellMark_16 : decode cX2_tellMark 16 = .ok (.iconst 0, 1) := by decide +kernel
theorem dX2_tellMark_17 : decode cX2_tellMark 17 = .ok (.iconst 1, 1) := by decide +kernel
theorem dX2_tellMark_18 : decode cX2_tellMark 18 = .ok (.invokestatic 97, 3) := by decide +kernel
theorem dX2_tellMark_21 : decode cX2_tellMark 21 = .ok (.ifCond .ne 5, 3) := by decide +kernel
theorem dX2_tellMark_24 : decode cX2_tellMark 24 = .ok (.iconst (-1), 1) := by decide +kernel
theorem dX2_tellMark_25 : decode cX2_tellMark 25 = .ok (.ireturn, 1) := by decide +kernel
theorem dX2_tellMark_26 : decode cX2_tellMark 26 = .ok (.iload_n 3, 1) := by decide +kernel
theorem dX2_tellMark_27 : decode cX2_tellMark 27 = .ok (.iconst 1, 1) := by decide +kernel
theorem dX2_tellMark_28 : decode cX2_tellMark 28 = .ok (.if_icmp .ne 15, 3) := by decide +kernel
theorem dX2_tellMark_31 : decode cX2_tellMark 31 = .ok (.aload_n 0, 1) := by decide +kernel
theorem dX2_tellMark_32 : decode cX2_tellMark 32 = .ok (.getfield 58, 3) := by decide +kernel
theorem dX2_tellMark_35 : decode cX2_tellMark 35 = .ok (.iload_n 1, 1) := by decide +kernel
theorem dX2_tellMark_36 : decode cX2_tellMark 36 = .ok (.aaload, 1) := by decide +kernel
theorem dX2_tellMark_37 : decode cX2_tellMark 37 = .ok (.getfield 150, 3) := by decide +kernel
theorem dX2_tellMark_40 : decode cX2_tellMark 40 = .ok (.iload_n 2, 1) := by decide +kernel
theorem dX2_tellMark_41 : decode cX2_tellMark 41 = .ok (.iaload, 1) := by decide +kernel
theorem dX2_tellMark_42 : decode cX2_tellMark 42 = .ok (.ireturn, 1) := by decide +kernel
theorem dX2_tellMark_43 : decode cX2_tellMark 43 = .ok (.aload_n 0, 1) := by decide +kernel
theorem dX2_tellMark_44 : decode cX2_tellMark 44 = .ok (.getfield 58, 3) := by decide +kernel
theorem dX2_tellMark_47 : decode cX2_tellMark 47 = .ok (.iload_n 1, 1) := by decide +kernel
theorem dX2_tellMark_48 : decode cX2_tellMark 48 = .ok (.aaload, 1) := by decide +kernel
theorem dX2_tellMark_49 : decode cX2_tellMark 49 = .ok (.getfield 111, 3) := by decide +kernel
theorem dX2_tellMark_52 : decode cX2_tellMark 52 = .ok (.iload_n 2, 1) := by decide +kernel
theorem dX2_tellMark_53 : decode cX2_tellMark 53 = .ok (.iaload, 1) := by decide +kernel
theorem dX2_tellMark_54 : decode cX2_tellMark 54 = .ok (.invokestatic 208, 3) := by decide +kernel
theorem dX2_tellMark_57 : decode cX2_tellMark 57 = .ok (.ireturn, 1) := by decide +kernel
theorem dX2_tellName_0 : decode cX2_tellName 0 = .ok (.iload_n 1, 1) := by decide +kernel
theorem dX2_tellName_1 : decode cX2_tellName 1 = .ok (.invokestatic 107, 3) := by decide +kernel
theorem dX2_tellName_4 : decode cX2_tellName 4 = .ok (.ifCond .ne 5, 3) := by decide +kernel
theorem dX2_tellName_7 : decode cX2_tellName 7 = .ok (.iconst (-1), 1) := by decide +kernel
theorem dX2_tellName_8 : decode cX2_tellName 8 = .ok (.ireturn, 1) := by decide +kernel
theorem dX2_tellName_9 : decode cX2_tellName 9 = .ok (.aload_n 0, 1) := by decide +kernel
theorem dX2_tellName_10 : decode cX2_tellName 10 = .ok (.getfield 40, 3) := by decide +kernel
theorem dX2_tellName_13 : decode cX2_tellName 13 = .ok (.getfield 111, 3) := by decide +kernel
theorem dX2_tellName_16 : decode cX2_tellName 16 = .ok (.iload_n 1, 1) := by decide +kernel
theorem dX2_tellName_17 : decode cX2_tellName 17 = .ok (.iaload, 1) := by decide +kernel
theorem dX2_tellName_18 : decode cX2_tellName 18 = .ok (.istore_n 3, 1) := by decide +kernel
theorem dX2_tellName_19 : decode cX2_tellName 19 = .ok (.aload_n 0, 1) := by decide +kernel
theorem dX2_tellName_20 : decode cX2_tellName 20 = .ok (.getfield 40, 3) := by decide +kernel
theorem dX2_tellName_23 : decode cX2_tellName 23 = .ok (.getfield 150, 3) := by decide +kernel
theorem dX2_tellName_26 : decode cX2_tellName 26 = .ok (.iload_n 1, 1) := by decide +kernel
theorem dX2_tellName_27 : decode cX2_tellName 27 = .ok (.iaload, 1) := by decide +kernel
theorem dX2_tellName_28 : decode cX2_tellName 28 = .ok (.istore 4, 2) := by decide +kernel
theorem dX2_tellName_30 : decode cX2_tellName 30 = .ok (.iload_n 3, 1) := by decide +kernel
theorem dX2_tellName_31 : decode cX2_tellName 31 = .ok (.iconst (-1), 1) := by decide +kernel
theorem dX2_tellName_32 : decode cX2_tellName 32 = .ok (.if_icmp .ne 8, 3) := by decide +kernel
theorem dX2_tellName_35 : decode cX2_tellName 35 = .ok (.iload 4, 2) := by decide +kernel
theorem dX2_tellName_37 : decode cX2_tellName 37 = .ok (.goto 11, 3) := by decide +kernel
theorem dX2_tellName_40 : decode cX2_tellName 40 = .ok (.aload_n 0, 1) := by decide +kernel
theorem dX2_tellName_41 : decode cX2_tellName 41 = .ok (.getfield 47, 3) := by decide +kernel
theorem dX2_tellName_44 : decode cX2_tellName 44 = .ok (.iload_n 3, 1) := by decide +kernel
theorem dX2_tellName_45 : decode cX2_tellName 45 = .ok (.invokevirtual 125, 3) := by decide +kernel
theorem dX2_tellName_48 : decode cX2_tellName 48 = .ok (.istore 5, 2) := by decide +kernel
theorem dX2_tellName_50 : decode cX2_tellName 50 = .ok (.iload_n 2, 1) := by decide +kernel
theorem dX2_tellName_51 : decode cX2_tellName 51 = .ok (.tableswitch 82 0 4 #[33, 49, 54, 57, 79], 33) := by decide +kernel
theorem dX2_tellName_84 : decode cX2_tellName 84 = .ok (.aload_n 0, 1) := by decide +kernel
theorem dX2_tellName_85 : decode cX2_tellName 85 = .ok (.iload_n 1, 1) := by decide +kernel
theorem dX2_tellName_86 : decode cX2_tellName 86 = .ok (.invokevirtual 205, 3) := by decide +kernel
theorem dX2_tellName_89 : decode cX2_tellName 89 = .ok (.ifCond .eq 8, 3) := by decide +kernel
theorem dX2_tellName_92 : decode cX2_tellName 92 = .ok (.bipush (-4), 2) := by decide +kernel
theorem dX2_tellName_94 : decode cX2_tellName 94 = .ok (.goto 5, 3) := by decide +kernel
theorem dX2_tellName_97 : decode cX2_tellName 97 = .ok (.iload 5, 2) := by decide +kernel
theorem dX2_tellName_99 : decode cX2_tellName 99 = .ok (.ireturn, 1) := by decide +kernel
theorem dX2_tellName_100 : decode cX2_tellName 100 = .ok (.iload_n 3, 1) := by decide +kernel
theorem dX2_tellName_101 : decode cX2_tellName 101 = .ok (.invokestatic 208, 3) := by decide +kernel
theorem dX2_tellName_104 : decode cX2_tellName 104 = .ok (.ireturn, 1) := by decide +kernel
theorem dX2_tellName_105 : decode cX2_tellName 105 = .ok (.iload 4, 2) := by decide +kernel
theorem dX2_tellName_107 : decode cX2_tellName 107 = .ok (.ireturn, 1) := by decide +kernel
theorem dX2_tellName_108 : decode cX2_tellName 108 = .ok (.iload_n 3, 1) := by decide +kernel
theorem dX2_tellName_109 : decode cX2_tellName 109 = .ok (.iconst (-1), 1) := by decide +kernel
theorem dX2_tellName_110 : decode cX2_tellName 110 = .ok (.if_icmp .ne 8, 3) := by decide +kernel
theorem dX2_tellName_113 : decode cX2_tellName 113 = .ok (.bipush (-4), 2) := by decide +kernel
theorem dX2_tellName_115 : decode cX2_tellName 115 = .ok (.goto 14, 3) := by decide +kernel
theorem dX2_tellName_118 : decode cX2_tellName 118 = .ok (.aload_n 0, 1) := by decide +kernel
theorem dX2_tellName_119 : decode cX2_tellName 119 = .ok (.getfield 40, 3) := by decide +kernel
theorem dX2_tellName_122 : decode cX2_tellName 122 = .ok (.iload_n 3, 1) := by decide +kernel
theorem dX2_tellName_123 : decode cX2_tellName 123 = .ok (.invokevirtual 211, 3) := by decide +kernel
theorem dX2_tellName_126 : decode cX2_tellName 126 = .ok (.invokestatic 214, 3) := by decide +kernel
theorem dX2_tellName_129 : decode cX2_tellName 129 = .ok (.ireturn, 1) := by decide +kernel
theorem dX2_tellName_130 : decode cX2_tellName 130 = .ok (.iload 5, 2) := by decide +kernel
theorem dX2_tellName_132 : decode cX2_tellName 132 = .ok (.ireturn, 1) := by decide +kernel
theorem dX2_tellName_133 : decode cX2_tellName 133 = .ok (.iconst (-1), 1) := by decide +kernel
theorem dX2_tellName_134 : decode cX2_tellName 134 = .ok (.ireturn, 1) := by decide +kernel
theorem dX2_tellChair_0 : decode cX2_tellChair 0 = .ok (.iload_n 1, 1) := by decide +kernel
theorem dX2_tellChair_1 : decode cX2_tellChair 1 = .ok (.iconst 0, 1) := by decide +kernel
theorem dX2_tellChair_2 : decode cX2_tellChair 2 = .ok (.aload_n 0, 1) := by decide +kernel
theorem dX2_tellChair_3 : decode cX2_tellChair 3 = .ok (.getfield 9, 3) := by decide +kernel
theorem dX2_tellChair_6 : decode cX2_tellChair 6 = .ok (.iconst 1, 1) := by decide +kernel
theorem dX2_tellChair_7 : decode cX2_tellChair 7 = .ok (.isub, 1) := by decide +kernel
theorem dX2_tellChair_8 : decode cX2_tellChair 8 = .ok (.invokestatic 97, 3) := by decide +kernel
theorem dX2_tellChair_11 : decode cX2_tellChair 11 = .ok (.ifCond .eq 12, 3) := by decide +kernel
theorem dX2_tellChair_14 : decode cX2_tellChair 14 = .ok (.iload_n 2, 1) := by decide +kernel
theorem dX2_tellChair_15 : decode cX2_tellChair 15 = .ok (.iconst 0, 1) := by decide +kernel
theorem dX2_tellChair_16 : decode cX2_tellChair 16 = .ok (.iconst 5, 1) := by decide +kernel
theorem dX2_tellChair_17 : decode cX2_tellChair 17 = .ok (.invokestatic 97, 3) := by decide +kernel
theorem dX2_tellChair_20 : decode cX2_tellChair 20 = .ok (.ifCond .ne 5, 3) := by decide +kernel
theorem dX2_tellChair_23 : decode cX2_tellChair 23 = .ok (.iconst (-1), 1) := by decide +kernel
theorem dX2_tellChair_24 : decode cX2_tellChair 24 = .ok (.ireturn, 1) := by decide +kernel
theorem dX2_tellChair_25 : decode cX2_tellChair 25 = .ok (.aload_n 0, 1) := by decide +kernel
theorem dX2_tellChair_26 : decode cX2_tellChair 26 = .ok (.invokevirtual 153, 3) := by decide +kernel
theorem dX2_tellChair_29 : decode cX2_tellChair 29 = .ok (.istore_n 3, 1) := by decide +kernel
theorem dX2_tellChair_30 : decode cX2_tellChair 30 = .ok (.aload_n 0, 1) := by decide +kernel
theorem dX2_tellChair_31 : decode cX2_tellChair 31 = .ok (.getfield 40, 3) := by decide +kernel
theorem dX2_tellChair_34 : decode cX2_tellChair 34 = .ok (.invokevirtual 156, 3) := by decide +kernel
theorem dX2_tellChair_37 : decode cX2_tellChair 37 = .ok (.istore 4, 2) := by decide +kernel
theorem dX2_tellChair_39 : decode cX2_tellChair 39 = .ok (.iload_n 3, 1) := by decide +kernel
theorem dX2_tellChair_40 : decode cX2_tellChair 40 = .ok (.iload 4, 2) := by decide +kernel
theorem dX2_tellChair_42 : decode cX2_tellChair 42 = .ok (.ior, 1) := by decide +kernel
theorem dX2_tellChair_43 : decode cX2_tellChair 43 = .ok (.iload_n 1, 1) := by decide +kernel
theorem dX2_tellChair_44 : decode cX2_tellChair 44 = .ok (.ishr, 1) := by decide +kernel
theorem dX2_tellChair_45 : decode cX2_tellChair 45 = .ok (.iconst 1, 1) := by decide +kernel
theorem dX2_tellChair_46 : decode cX2_tellChair 46 = .ok (.iand, 1) := by decide +kernel
theorem dX2_tellChair_47 : decode cX2_tellChair 47 = .ok (.ifCond .ne 6, 3) := by decide +kernel
theorem dX2_tellChair_50 : decode cX2_tellChair 50 = .ok (.bipush (-4), 2) := by decide +kernel
theorem dX2_tellChair_52 : decode cX2_tellChair 52 = .ok (.ireturn, 1) := by decide +kernel
theorem dX2_tellChair_53 : decode cX2_tellChair 53 = .ok (.iload_n 2, 1) := by decide +kernel
theorem dX2_tellChair_54 : decode cX2_tellChair 54 = .ok (.tableswitch 97 0 4 #[34, 56, 65, 71, 80], 34) := by decide +kernel
theorem dX2_tellChair_88 : decode cX2_tellChair 88 = .ok (.aload_n 0, 1) := by decide +kernel
theorem dX2_tellChair_89 : decode cX2_tellChair 89 = .ok (.iload_n 1, 1) := by decide +kernel
theorem dX2_tellChair_90 : decode cX2_tellChair 90 = .ok (.invokevirtual 219, 3) := by decide +kernel
theorem dX2_tellChair_93 : decode cX2_tellChair 93 = .ok (.ifCond .eq 14, 3) := by decide +kernel
theorem dX2_tellChair_96 : decode cX2_tellChair 96 = .ok (.aload_n 0, 1) := by decide +kernel
theorem dX2_tellChair_97 : decode cX2_tellChair 97 = .ok (.getfield 47, 3) := by decide +kernel
theorem dX2_tellChair_100 : decode cX2_tellChair 100 = .ok (.iload_n 1, 1) := by decide +kernel
theorem dX2_tellChair_101 : decode cX2_tellChair 101 = .ok (.invokevirtual 125, 3) := by decide +kernel
theorem dX2_tellChair_104 : decode cX2_tellChair 104 = .ok (.goto 5, 3) := by decide +kernel
theorem dX2_tellChair_107 : decode cX2_tellChair 107 = .ok (.bipush (-4), 2) := by decide +kernel
theorem dX2_tellChair_109 : decode cX2_tellChair 109 = .ok (.ireturn, 1) := by decide +kernel
theorem dX2_tellChair_110 : decode cX2_tellChair 110 = .ok (.aload_n 0, 1) := by decide +kernel
theorem dX2_tellChair_111 : decode cX2_tellChair 111 = .ok (.getfield 40, 3) := by decide +kernel
theorem dX2_tellChair_114 : decode cX2_tellChair 114 = .ok (.iload_n 1, 1) := by decide +kernel
theorem dX2_tellChair_115 : decode cX2_tellChair 115 = .ok (.invokevirtual 211, 3) := by decide +kernel
theorem dX2_tellChair_118 : decode cX2_tellChair 118 = .ok (.ireturn, 1) := by decide +kernel
theorem dX2_tellChair_119 : decode cX2_tellChair 119 = .ok (.aload_n 0, 1) := by decide +kernel
theorem dX2_tellChair_120 : decode cX2_tellChair 120 = .ok (.iload_n 1, 1) := by decide +kernel
theorem dX2_tellChair_121 : decode cX2_tellChair 121 = .ok (.invokevirtual 222, 3) := by decide +kernel
theorem dX2_tellChair_124 : decode cX2_tellChair 124 = .ok (.ireturn, 1) := by decide +kernel
theorem dX2_tellChair_125 : decode cX2_tellChair 125 = .ok (.aload_n 0, 1) := by decide +kernel
theorem dX2_tellChair_126 : decode cX2_tellChair 126 = .ok (.getfield 54, 3) := by decide +kernel
theorem dX2_tellChair_129 : decode cX2_tellChair 129 = .ok (.iload_n 1, 1) := by decide +kernel
theorem dX2_tellChair_130 : decode cX2_tellChair 130 = .ok (.invokevirtual 225, 3) := by decide +kernel
theorem dX2_tellChair_133 : decode cX2_tellChair 133 = .ok (.ireturn, 1) := by decide +kernel
theorem dX2_tellChair_134 : decode cX2_tellChair 134 = .ok (.aload_n 0, 1) := by decide +kernel
theorem dX2_tellChair_135 : decode cX2_tellChair 135 = .ok (.getfield 54, 3) := by decide +kernel
theorem dX2_tellChair_138 : decode cX2_tellChair 138 = .ok (.iload_n 1, 1) := by decide +kernel
theorem dX2_tellChair_139 : decode cX2_tellChair 139 = .ok (.invokevirtual 228, 3) := by decide +kernel
theorem dX2_tellChair_142 : decode cX2_tellChair 142 = .ok (.ifCond .eq 7, 3) := by decide +kernel
theorem dX2_tellChair_145 : decode cX2_tellChair 145 = .ok (.iconst 1, 1) := by decide +kernel
theorem dX2_tellChair_146 : decode cX2_tellChair 146 = .ok (.goto 4, 3) := by decide +kernel
theorem dX2_tellChair_149 : decode cX2_tellChair 149 = .ok (.iconst 0, 1) := by decide +kernel
theorem dX2_tellChair_150 : decode cX2_tellChair 150 = .ok (.ireturn, 1) := by decide +kernel
theorem dX2_tellChair_151 : decode cX2_tellChair 151 = .ok (.aload_n 0, 1) := by decide +kernel
theorem dX2_tellChair_152 : decode cX2_tellChair 152 = .ok (.iload 4, 2) := by decide +kernel
theorem dX2_tellChair_154 : decode cX2_tellChair 154 = .ok (.iload_n 3, 1) := by decide +kernel
theorem dX2_tellChair_155 : decode cX2_tellChair 155 = .ok (.iconst (-1), 1) := by decide +kernel
theorem dX2_tellChair_156 : decode cX2_tellChair 156 = .ok (.ixor, 1) := by decide +kernel
theorem dX2_tellChair_157 : decode cX2_tellChair 157 = .ok (.iand, 1) := by decide +kernel
theorem dX2_tellChair_158 : decode cX2_tellChair 158 = .ok (.invokevirtual 165, 3) := by decide +kernel
theorem dX2_tellChair_161 : decode cX2_tellChair 161 = .ok (.iload_n 1, 1) := by decide +kernel
theorem dX2_tellChair_162 : decode cX2_tellChair 162 = .ok (.if_icmp .ne 7, 3) := by decide +kernel
theorem dX2_tellChair_165 : decode cX2_tellChair 165 = .ok (.iconst 1, 1) := by decide +kernel
theorem dX2_tellChair_166 : decode cX2_tellChair 166 = .ok (.goto 4, 3) := by decide +kernel
theorem dX2_tellChair_169 : decode cX2_tellChair 169 = .ok (.iconst 0, 1) := by decide +kernel
theorem dX2_tellChair_170 : decode cX2_tellChair 170 = .ok (.ireturn, 1) := by decide +kernel
theorem dX2_tellOrder_0 : decode cX2_tellOrder 0 = .ok (.aload_n 0, 1) := by decide +kernel
theorem dX2_tellOrder_1 : decode cX2_tellOrder 1 = .ok (.getfield 54, 3) := by decide +kernel
theorem dX2_tellOrder_4 : decode cX2_tellOrder 4 = .ok (.iload_n 1, 1) := by decide +kernel
theorem dX2_tellOrder_5 : decode cX2_tellOrder 5 = .ok (.invokevirtual 231, 3) := by decide +kernel
theorem dX2_tellOrder_8 : decode cX2_tellOrder 8 = .ok (.ifCond .ne 5, 3) := by decide +kernel
theorem dX2_tellOrder_11 : decode cX2_tellOrder 11 = .ok (.iconst (-1), 1) := by decide +kernel
theorem dX2_tellOrder_12 : decode cX2_tellOrder 12 = .ok (.ireturn, 1) := by decide +kernel
theorem dX2_tellOrder_13 : decode cX2_tellOrder 13 = .ok (.iload_n 2, 1) := by decide +kernel
theorem dX2_tellOrder_14 : decode cX2_tellOrder 14 = .ok (.tableswitch 141 0 6 #[42, 52, 62, 72, 82, 96, 131], 42) := by decide +kernel
theorem dX2_tellOrder_56 : decode cX2_tellOrder 56 = .ok (.aload_n 0, 1) := by decide +kernel
theorem dX2_tellOrder_57 : decode cX2_tellOrder 57 = .ok (.getfield 54, 3) := by decide +kernel
theorem dX2_tellOrder_60 : decode cX2_tellOrder 60 = .ok (.getfield 199, 3) := by decide +kernel
theorem dX2_tellOrder_63 : decode cX2_tellOrder 63 = .ok (.iload_n 1, 1) := by decide +kernel
theorem dX2_tellOrder_64 : decode cX2_tellOrder 64 = .ok (.iaload, 1) := by decide +kernel
theorem dX2_tellOrder_65 : decode cX2_tellOrder 65 = .ok (.ireturn, 1) := by decide +kernel
theorem dX2_tellOrder_66 : decode cX2_tellOrder 66 = .ok (.aload_n 0, 1) := by decide +kernel
theorem dX2_tellOrder_67 : decode cX2_tellOrder 67 = .ok (.getfield 54, 3) := by decide +kernel
theorem dX2_tellOrder_70 : decode cX2_tellOrder 70 = .ok (.getfield 186, 3) := by decide +kernel
theorem dX2_tellOrder_73 : decode cX2_tellOrder 73 = .ok (.iload_n 1, 1) := by decide +kernel
theorem dX2_tellOrder_74 : decode cX2_tellOrder 74 = .ok (.iaload, 1) := by decide +kernel
theorem dX2_tellOrder_75 : decode cX2_tellOrder 75 = .ok (.ireturn, 1) := by decide +kernel
theorem dX2_tellOrder_76 : decode cX2_tellOrder 76 = .ok (.aload_n 0, 1) := by decide +kernel
theorem dX2_tellOrder_77 : decode cX2_tellOrder 77 = .ok (.getfield 54, 3) := by decide +kernel
theorem dX2_tellOrder_80 : decode cX2_tellOrder 80 = .ok (.getfield 193, 3) := by decide +kernel
theorem dX2_tellOrder_83 : decode cX2_tellOrder 83 = .ok (.iload_n 1, 1) := by decide +kernel
theorem dX2_tellOrder_84 : decode cX2_tellOrder 84 = .ok (.iaload, 1) := by decide +kernel
theorem dX2_tellOrder_85 : decode cX2_tellOrder 85 = .ok (.ireturn, 1) := by decide +kernel
theorem dX2_tellOrder_86 : decode cX2_tellOrder 86 = .ok (.aload_n 0, 1) := by decide +kernel
theorem dX2_tellOrder_87 : decode cX2_tellOrder 87 = .ok (.getfield 54, 3) := by decide +kernel
theorem dX2_tellOrder_90 : decode cX2_tellOrder 90 = .ok (.getfield 196, 3) := by decide +kernel
theorem dX2_tellOrder_93 : decode cX2_tellOrder 93 = .ok (.iload_n 1, 1) := by decide +kernel
theorem dX2_tellOrder_94 : decode cX2_tellOrder 94 = .ok (.iaload, 1) := by decide +kernel
theorem dX2_tellOrder_95 : decode cX2_tellOrder 95 = .ok (.ireturn, 1) := by decide +kernel
theorem dX2_tellOrder_96 : decode cX2_tellOrder 96 = .ok (.aload_n 0, 1) := by decide +kernel
theorem dX2_tellOrder_97 : decode cX2_tellOrder 97 = .ok (.iload_n 1, 1) := by decide +kernel
theorem dX2_tellOrder_98 : decode cX2_tellOrder 98 = .ok (.invokevirtual 234, 3) := by decide +kernel
theorem dX2_tellOrder_101 : decode cX2_tellOrder 101 = .ok (.ifCond .eq 7, 3) := by decide +kernel
theorem dX2_tellOrder_104 : decode cX2_tellOrder 104 = .ok (.iconst 1, 1) := by decide +kernel
theorem dX2_tellOrder_105 : decode cX2_tellOrder 105 = .ok (.goto 4, 3) := by decide +kernel
theorem dX2_tellOrder_108 : decode cX2_tellOrder 108 = .ok (.iconst 0, 1) := by decide +kernel
theorem dX2_tellOrder_109 : decode cX2_tellOrder 109 = .ok (.ireturn, 1) := by decide +kernel
theorem dX2_tellOrder_110 : decode cX2_tellOrder 110 = .ok (.aload_n 0, 1) := by decide +kernel
theorem dX2_tellOrder_111 : decode cX2_tellOrder 111 = .ok (.iload_n 1, 1) := by decide +kernel
theorem dX2_tellOrder_112 : decode cX2_tellOrder 112 = .ok (.invokevirtual 234, 3) := by decide +kernel
theorem dX2_tellOrder_115 : decode cX2_tellOrder 115 = .ok (.ifCond .eq 27, 3) := by decide +kernel
theorem dX2_tellOrder_118 : decode cX2_tellOrder 118 = .ok (.aload_n 0, 1) := by decide +kernel
theorem dX2_tellOrder_119 : decode cX2_tellOrder 119 = .ok (.getfield 47, 3) := by decide +kernel
theorem dX2_tellOrder_122 : decode cX2_tellOrder 122 = .ok (.aload_n 0, 1) := by decide +kernel
theorem dX2_tellOrder_123 : decode cX2_tellOrder 123 = .ok (.getfield 54, 3) := by decide +kernel
theorem dX2_tellOrder_126 : decode cX2_tellOrder 126 = .ok (.getfield 186, 3) := by decide +kernel
theorem dX2_tellOrder_129 : decode cX2_tellOrder 129 = .ok (.iload_n 1, 1) := by decide +kernel
theorem dX2_tellOrder_130 : decode cX2_tellOrder 130 = .ok (.iaload, 1) := by decide +kernel
theorem dX2_tellOrder_131 : decode cX2_tellOrder 131 = .ok (.invokevirtual 187, 3) := by decide +kernel
theorem dX2_tellOrder_134 : decode cX2_tellOrder 134 = .ok (.aload_n 0, 1) := by decide +kernel
theorem dX2_tellOrder_135 : decode cX2_tellOrder 135 = .ok (.getfield 15, 3) := by decide +kernel
theorem dX2_tellOrder_138 : decode cX2_tellOrder 138 = .ok (.isub, 1) := by decide +kernel
theorem dX2_tellOrder_139 : decode cX2_tellOrder 139 = .ok (.goto 5, 3) := by decide +kernel
theorem dX2_tellOrder_142 : decode cX2_tellOrder 142 = .ok (.bipush (-4), 2) := by decide +kernel
theorem dX2_tellOrder_144 : decode cX2_tellOrder 144 = .ok (.ireturn, 1) := by decide +kernel
theorem dX2_tellOrder_145 : decode cX2_tellOrder 145 = .ok (.aload_n 0, 1) := by decide +kernel
theorem dX2_tellOrder_146 : decode cX2_tellOrder 146 = .ok (.getfield 54, 3) := by decide +kernel
theorem dX2_tellOrder_149 : decode cX2_tellOrder 149 = .ok (.getfield 237, 3) := by decide +kernel
theorem dX2_tellOrder_152 : decode cX2_tellOrder 152 = .ok (.iload_n 1, 1) := by decide +kernel
theorem dX2_tellOrder_153 : decode cX2_tellOrder 153 = .ok (.iaload, 1) := by decide +kernel
theorem dX2_tellOrder_154 : decode cX2_tellOrder 154 = .ok (.ireturn, 1) := by decide +kernel
theorem dX2_tellOrder_155 : decode cX2_tellOrder 155 = .ok (.iconst (-1), 1) := by decide +kernel
theorem dX2_tellOrder_156 : decode cX2_tellOrder 156 = .ok (.ireturn, 1) := by decide +kernel
theorem dX2_tellNumber_0 : decode cX2_tellNumber 0 = .ok (.iload_n 1, 1) := by decide +kernel
theorem dX2_tellNumber_1 : decode cX2_tellNumber 1 = .ok (.tableswitch 134 0 9 #[55, 60, 81, 96, 104, 109, 114, 119, 124, 129], 55) := by decide +kernel
theorem dX2_tellNumber_56 : decode cX2_tellNumber 56 = .ok (.aload_n 0, 1) := by decide +kernel
theorem dX2_tellNumber_57 : decode cX2_tellNumber 57 = .ok (.getfield 9, 3) := by decide +kernel
theorem dX2_tellNumber_60 : decode cX2_tellNumber 60 = .ok (.ireturn, 1) := by decide +kernel
theorem dX2_tellNumber_61 : decode cX2_tellNumber 61 = .ok (.aload_n 0, 1) := by decide +kernel
theorem dX2_tellNumber_62 : decode cX2_tellNumber 62 = .ok (.getfield 9, 3) := by decide +kernel
theorem dX2_tellNumber_65 : decode cX2_tellNumber 65 = .ok (.aload_n 0, 1) := by decide +kernel
theorem dX2_tellNumber_66 : decode cX2_tellNumber 66 = .ok (.invokevirtual 153, 3) := by decide +kernel
theorem dX2_tellNumber_69 : decode cX2_tellNumber 69 = .ok (.aload_n 0, 1) := by decide +kernel
theorem dX2_tellNumber_70 : decode cX2_tellNumber 70 = .ok (.getfield 40, 3) := by decide +kernel
theorem dX2_tellNumber_73 : decode cX2_tellNumber 73 = .ok (.invokevirtual 156, 3) := by decide +kernel
theorem dX2_tellNumber_76 : decode cX2_tellNumber 76 = .ok (.ior, 1) := by decide +kernel
theorem dX2_tellNumber_77 : decode cX2_tellNumber 77 = .ok (.invokestatic 214, 3) := by decide +kernel
theorem dX2_tellNumber_80 : decode cX2_tellNumber 80 = .ok (.isub, 1) := by decide +kernel
theorem dX2_tellNumber_81 : decode cX2_tellNumber 81 = .ok (.ireturn, 1) := by decide +kernel
theorem dX2_tellNumber_82 : decode cX2_tellNumber 82 = .ok (.bipush 8, 2) := by decide +kernel
theorem dX2_tellNumber_84 : decode cX2_tellNumber 84 = .ok (.aload_n 0, 1) := by decide +kernel
theorem dX2_tellNumber_85 : decode cX2_tellNumber 85 = .ok (.getfield 40, 3) := by decide +kernel
theorem dX2_tellNumber_88 : decode cX2_tellNumber 88 = .ok (.iconst (-1), 1) := by decide +kernel
theorem dX2_tellNumber_89 : decode cX2_tellNumber 89 = .ok (.invokevirtual 211, 3) := by decide +kernel
theorem dX2_tellNumber_92 : decode cX2_tellNumber 92 = .ok (.invokestatic 214, 3) := by decide +kernel
theorem dX2_tellNumber_95 : decode cX2_tellNumber 95 = .ok (.isub, 1) := by decide +kernel
theorem dX2_tellNumber_96 : decode cX2_tellNumber 96 = .ok (.ireturn, 1) := by decide +kernel
theorem dX2_tellNumber_97 : decode cX2_tellNumber 97 = .ok (.aload_n 0, 1) := by decide +kernel
theorem dX2_tellNumber_98 : decode cX2_tellNumber 98 = .ok (.getfield 54, 3) := by decide +kernel
theorem dX2_tellNumber_101 : decode cX2_tellNumber 101 = .ok (.getfield 101, 3) := by decide +kernel
theorem dX2_tellNumber_104 : decode cX2_tellNumber 104 = .ok (.ireturn, 1) := by decide +kernel
theorem dX2_tellNumber_105 : decode cX2_tellNumber 105 = .ok (.aload_n 0, 1) := by decide +kernel
theorem dX2_tellNumber_106 : decode cX2_tellNumber 106 = .ok (.invokevirtual 239, 3) := by decide +kernel
theorem dX2_tellNumber_109 : decode cX2_tellNumber 109 = .ok (.ireturn, 1) := by decide +kernel
theorem dX2_tellNumber_110 : decode cX2_tellNumber 110 = .ok (.aload_n 0, 1) := by decide +kernel
theorem dX2_tellNumber_111 : decode cX2_tellNumber 111 = .ok (.getfield 18, 3) := by decide +kernel
theorem dX2_tellNumber_114 : decode cX2_tellNumber 114 = .ok (.ireturn, 1) := by decide +kernel
theorem dX2_tellNumber_115 : decode cX2_tellNumber 115 = .ok (.aload_n 0, 1) := by decide +kernel
theorem dX2_tellNumber_116 : decode cX2_tellNumber 116 = .ok (.getfield 15, 3) := by decide +kernel
theorem dX2_tellNumber_119 : decode cX2_tellNumber 119 = .ok (.ireturn, 1) := by decide +kernel
theorem dX2_tellNumber_120 : decode cX2_tellNumber 120 = .ok (.aload_n 0, 1) := by decide +kernel
theorem dX2_tellNumber_121 : decode cX2_tellNumber 121 = .ok (.getfield 30, 3) := by decide +kernel
theorem dX2_tellNumber_124 : decode cX2_tellNumber 124 = .ok (.ireturn, 1) := by decide +kernel
theorem dX2_tellNumber_125 : decode cX2_tellNumber 125 = .ok (.aload_n 0, 1) := by decide +kernel
theorem dX2_tellNumber_126 : decode cX2_tellNumber 126 = .ok (.getfield 21, 3) := by decide +kernel
theorem dX2_tellNumber_129 : decode cX2_tellNumber 129 = .ok (.ireturn, 1) := by decide +kernel
theorem dX2_tellNumber_130 : decode cX2_tellNumber 130 = .ok (.aload_n 0, 1) := by decide +kernel
theorem dX2_tellNumber_131 : decode cX2_tellNumber 131 = .ok (.getfield 24, 3) := by decide +kernel
theorem dX2_tellNumber_134 : decode cX2_tellNumber 134 = .ok (.ireturn, 1) := by decide +kernel
theorem dX2_tellNumber_135 : decode cX2_tellNumber 135 = .ok (.iload_n 1, 1) := by decide +kernel
theorem dX2_tellNumber_136 : decode cX2_tellNumber 136 = .ok (.bipush 20, 2) := by decide +kernel
theorem dX2_tellNumber_138 : decode cX2_tellNumber 138 = .ok (.bipush 23, 2) := by decide +kernel
theorem dX2_tellNumber_140 : decode cX2_tellNumber 140 = .ok (.invokestatic 97, 3) := by decide +kernel
theorem dX2_tellNumber_143 : decode cX2_tellNumber 143 = .ok (.ifCond .eq 15, 3) := by decide +kernel
theorem dX2_tellNumber_146 : decode cX2_tellNumber 146 = .ok (.aload_n 0, 1) := by decide +kernel
theorem dX2_tellNumber_147 : decode cX2_tellNumber 147 = .ok (.getfield 33, 3) := by decide +kernel
theorem dX2_tellNumber_150 : decode cX2_tellNumber 150 = .ok (.iload_n 1, 1) := by decide +kernel
theorem dX2_tellNumber_151 : decode cX2_tellNumber 151 = .ok (.bipush 20, 2) := by decide +kernel
theorem dX2_tellNumber_153 : decode cX2_tellNumber 153 = .ok (.isub, 1) := by decide +kernel
theorem dX2_tellNumber_154 : decode cX2_tellNumber 154 = .ok (.iaload, 1) := by decide +kernel
theorem dX2_tellNumber_155 : decode cX2_tellNumber 155 = .ok (.goto 4, 3) := by decide +kernel
theorem dX2_tellNumber_158 : decode cX2_tellNumber 158 = .ok (.iconst (-1), 1) := by decide +kernel
theorem dX2_tellNumber_159 : decode cX2_tellNumber 159 = .ok (.ireturn, 1) := by decide +kernel
theorem dX2_found_0 : decode cX2_found 0 = .ok (.iload_n 0, 1) := by decide +kernel
theorem dX2_found_1 : decode cX2_found 1 = .ok (.iconst (-1), 1) := by decide +kernel
theorem dX2_found_2 : decode cX2_found 2 = .ok (.if_icmp .ne 8, 3) := by decide +kernel
theorem dX2_found_5 : decode cX2_found 5 = .ok (.bipush (-4), 2) := by decide +kernel
theorem dX2_found_7 : decode cX2_found 7 = .ok (.goto 4, 3) := by decide +kernel
theorem dX2_found_10 : decode cX2_found 10 = .ok (.iload_n 0, 1) := by decide +kernel
theorem dX2_found_11 : decode cX2_found 11 = .ok (.ireturn, 1) := by decide +kernel
theorem dX2_isMark_0 : decode cX2_isMark 0 = .ok (.iload_n 1, 1) := by decide +kernel
theorem dX2_isMark_1 : decode cX2_isMark 1 = .ok (.ifCond .lt 20, 3) := by decide +kernel
theorem dX2_isMark_4 : decode cX2_isMark 4 = .ok (.iload_n 1, 1) := by decide +kernel
theorem dX2_isMark_5 : decode cX2_isMark 5 = .ok (.aload_n 0, 1) := by decide +kernel
theorem dX2_isMark_6 : decode cX2_isMark 6 = .ok (.getfield 30, 3) := by decide +kernel
theorem dX2_isMark_9 : decode cX2_isMark 9 = .ok (.if_icmp .ge 12, 3) := by decide +kernel
theorem dX2_isMark_12 : decode cX2_isMark 12 = .ok (.iload_n 1, 1) := by decide +kernel
theorem dX2_isMark_13 : decode cX2_isMark 13 = .ok (.iconst 3, 1) := by decide +kernel
theorem dX2_isMark_14 : decode cX2_isMark 14 = .ok (.if_icmp .ge 7, 3) := by decide +kernel
theorem dX2_isMark_17 : decode cX2_isMark 17 = .ok (.iconst 1, 1) := by decide +kernel
theorem dX2_isMark_18 : decode cX2_isMark 18 = .ok (.goto 4, 3) := by decide +kernel
theorem dX2_isMark_21 : decode cX2_isMark 21 = .ok (.iconst 0, 1) := by decide +kernel
theorem dX2_isMark_22 : decode cX2_isMark 22 = .ok (.ireturn, 1) := by decide +kernel
theorem dX2_isKnown_0 : decode cX2_isKnown 0 = .ok (.aload_n 0, 1) := by decide +kernel
theorem dX2_isKnown_1 : decode cX2_isKnown 1 = .ok (.getfield 47, 3) := by decide +kernel
theorem dX2_isKnown_4 : decode cX2_isKnown 4 = .ok (.iload_n 1, 1) := by decide +kernel
theorem dX2_isKnown_5 : decode cX2_isKnown 5 = .ok (.invokevirtual 187, 3) := by decide +kernel
theorem dX2_isKnown_8 : decode cX2_isKnown 8 = .ok (.aload_n 0, 1) := by decide +kernel
theorem dX2_isKnown_9 : decode cX2_isKnown 9 = .ok (.getfield 15, 3) := by decide +kernel
theorem dX2_isKnown_12 : decode cX2_isKnown 12 = .ok (.if_icmp .gt 7, 3) := by decide +kernel
theorem dX2_isKnown_15 : decode cX2_isKnown 15 = .ok (.iconst 1, 1) := by decide +kernel
theorem dX2_isKnown_16 : decode cX2_isKnown 16 = .ok (.goto 4, 3) := by decide +kernel
theorem dX2_isKnown_19 : decode cX2_isKnown 19 = .ok (.iconst 0, 1) := by decide +kernel
theorem dX2_isKnown_20 : decode cX2_isKnown 20 = .ok (.ireturn, 1) := by decide +kernel
theorem dX2_hidesValue_0 : decode cX2_hidesValue 0 = .ok (.aload_n 0, 1) := by decide +kernel
theorem dX2_hidesValue_1 : decode cX2_hidesValue 1 = .ok (.getfield 40, 3) := by decide +kernel
theorem dX2_hidesValue_4 : decode cX2_hidesValue 4 = .ok (.getfield 111, 3) := by decide +kernel
theorem dX2_hidesValue_7 : decode cX2_hidesValue 7 = .ok (.iload_n 1, 1) := by decide +kernel
theorem dX2_hidesValue_8 : decode cX2_hidesValue 8 = .ok (.iaload, 1) := by decide +kernel
theorem dX2_hidesValue_9 : decode cX2_hidesValue 9 = .ok (.iconst (-1), 1) := by decide +kernel
theorem dX2_hidesValue_10 : decode cX2_hidesValue 10 = .ok (.if_icmp .eq 23, 3) := by decide +kernel
theorem dX2_hidesValue_13 : decode cX2_hidesValue 13 = .ok (.aload_n 0, 1) := by decide +kernel
theorem dX2_hidesValue_14 : decode cX2_hidesValue 14 = .ok (.aload_n 0, 1) := by decide +kernel
theorem dX2_hidesValue_15 : decode cX2_hidesValue 15 = .ok (.getfield 40, 3) := by decide +kernel
theorem dX2_hidesValue_18 : decode cX2_hidesValue 18 = .ok (.getfield 111, 3) := by decide +kernel
theorem dX2_hidesValue_21 : decode cX2_hidesValue 21 = .ok (.iload_n 1, 1) := by decide +kernel
theorem dX2_hidesValue_22 : decode cX2_hidesValue 22 = .ok (.iaload, 1) := by decide +kernel
theorem dX2_hidesValue_23 : decode cX2_hidesValue 23 = .ok (.invokevirtual 219, 3) := by decide +kernel
theorem dX2_hidesValue_26 : decode cX2_hidesValue 26 = .ok (.ifCond .ne 7, 3) := by decide +kernel
theorem dX2_hidesValue_29 : decode cX2_hidesValue 29 = .ok (.iconst 1, 1) := by decide +kernel
theorem dX2_hidesValue_30 : decode cX2_hidesValue 30 = .ok (.goto 4, 3) := by decide +kernel
theorem dX2_hidesValue_33 : decode cX2_hidesValue 33 = .ok (.iconst 0, 1) := by decide +kernel
theorem dX2_hidesValue_34 : decode cX2_hidesValue 34 = .ok (.ireturn, 1) := by decide +kernel
theorem dX2_hasBegun_0 : decode cX2_hasBegun 0 = .ok (.aload_n 0, 1) := by decide +kernel
theorem dX2_hasBegun_1 : decode cX2_hasBegun 1 = .ok (.getfield 54, 3) := by decide +kernel
theorem dX2_hasBegun_4 : decode cX2_hasBegun 4 = .ok (.iload_n 1, 1) := by decide +kernel
theorem dX2_hasBegun_5 : decode cX2_hasBegun 5 = .ok (.invokevirtual 231, 3) := by decide +kernel
theorem dX2_hasBegun_8 : decode cX2_hasBegun 8 = .ok (.ifCond .eq 28, 3) := by decide +kernel
theorem dX2_hasBegun_11 : decode cX2_hasBegun 11 = .ok (.aload_n 0, 1) := by decide +kernel
theorem dX2_hasBegun_12 : decode cX2_hasBegun 12 = .ok (.getfield 47, 3) := by decide +kernel
theorem dX2_hasBegun_15 : decode cX2_hasBegun 15 = .ok (.aload_n 0, 1) := by decide +kernel
theorem dX2_hasBegun_16 : decode cX2_hasBegun 16 = .ok (.getfield 54, 3) := by decide +kernel
theorem dX2_hasBegun_19 : decode cX2_hasBegun 19 = .ok (.getfield 186, 3) := by decide +kernel
theorem dX2_hasBegun_22 : decode cX2_hasBegun 22 = .ok (.iload_n 1, 1) := by decide +kernel
theorem dX2_hasBegun_23 : decode cX2_hasBegun 23 = .ok (.iaload, 1) := by decide +kernel
theorem dX2_hasBegun_24 : decode cX2_hasBegun 24 = .ok (.invokevirtual 187, 3) := by decide +kernel
theorem dX2_hasBegun_27 : decode cX2_hasBegun 27 = .ok (.ldc 132, 2) := by decide +kernel
theorem dX2_hasBegun_29 : decode cX2_hasBegun 29 = .ok (.if_icmp .eq 7, 3) := by decide +kernel
theorem dX2_hasBegun_32 : decode cX2_hasBegun 32 = .ok (.iconst 1, 1) := by decide +kernel
theorem dX2_hasBegun_33 : decode cX2_hasBegun 33 = .ok (.goto 4, 3) := by decide +kernel
theorem dX2_hasBegun_36 : decode cX2_hasBegun 36 = .ok (.iconst 0, 1) := by decide +kernel
theorem dX2_hasBegun_37 : decode cX2_hasBegun 37 = .ok (.ireturn, 1) := by decide +kernel
theorem dX2_begunOrders_0 : decode cX2_begunOrders 0 = .ok (.iconst 0, 1) := by decide +kernel
theorem dX2_begunOrders_1 : decode cX2_begunOrders 1 = .ok (.istore_n 1, 1) := by decide +kernel
theorem dX2_begunOrders_2 : decode cX2_begunOrders 2 = .ok (.iconst 0, 1) := by decide +kernel
theorem dX2_begunOrders_3 : decode cX2_begunOrders 3 = .ok (.istore_n 2, 1) := by decide +kernel
theorem dX2_begunOrders_4 : decode cX2_begunOrders 4 = .ok (.iload_n 2, 1) := by decide +kernel
theorem dX2_begunOrders_5 : decode cX2_begunOrders 5 = .ok (.aload_n 0, 1) := by decide +kernel
theorem dX2_begunOrders_6 : decode cX2_begunOrders 6 = .ok (.getfield 54, 3) := by decide +kernel
theorem dX2_begunOrders_9 : decode cX2_begunOrders 9 = .ok (.getfield 101, 3) := by decide +kernel
theorem dX2_begunOrders_12 : decode cX2_begunOrders 12 = .ok (.if_icmp .ge 26, 3) := by decide +kernel
theorem dX2_begunOrders_15 : decode cX2_begunOrders 15 = .ok (.iload_n 2, 1) := by decide +kernel
theorem dX2_begunOrders_16 : decode cX2_begunOrders 16 = .ok (.bipush 6, 2) := by decide +kernel
theorem dX2_begunOrders_18 : decode cX2_begunOrders 18 = .ok (.if_icmp .ge 20, 3) := by decide +kernel
theorem dX2_begunOrders_21 : decode cX2_begunOrders 21 = .ok (.aload_n 0, 1) := by decide +kernel
theorem dX2_begunOrders_22 : decode cX2_begunOrders 22 = .ok (.iload_n 2, 1) := by decide +kernel
theorem dX2_begunOrders_23 : decode cX2_begunOrders 23 = .ok (.invokevirtual 234, 3) := by decide +kernel
theorem dX2_begunOrders_26 : decode cX2_begunOrders 26 = .ok (.ifCond .eq 6, 3) := by decide +kernel
theorem dX2_begunOrders_29 : decode cX2_begunOrders 29 = .ok (.iinc 1 1, 3) := by decide +kernel
theorem dX2_begunOrders_32 : decode cX2_begunOrders 32 = .ok (.iinc 2 1, 3) := by decide +kernel
theorem dX2_begunOrders_35 : decode cX2_begunOrders 35 = .ok (.goto (-31), 3) := by decide +kernel
theorem dX2_begunOrders_38 : decode cX2_begunOrders 38 = .ok (.iload_n 1, 1) := by decide +kernel
theorem dX2_begunOrders_39 : decode cX2_begunOrders 39 = .ok (.ireturn, 1) := by decide +kernel
theorem dX2_marksOn_0 : decode cX2_marksOn 0 = .ok (.iconst 0, 1) := by decide +kernel
theorem dX2_marksOn_1 : decode cX2_marksOn 1 = .ok (.istore_n 2, 1) := by decide +kernel
theorem dX2_marksOn_2 : decode cX2_marksOn 2 = .ok (.iconst 0, 1) := by decide +kernel
theorem dX2_marksOn_3 : decode cX2_marksOn 3 = .ok (.istore_n 3, 1) := by decide +kernel
theorem dX2_marksOn_4 : decode cX2_marksOn 4 = .ok (.iload_n 3, 1) := by decide +kernel
theorem dX2_marksOn_5 : decode cX2_marksOn 5 = .ok (.aload_n 0, 1) := by decide +kernel
theorem dX2_marksOn_6 : decode cX2_marksOn 6 = .ok (.getfield 30, 3) := by decide +kernel
theorem dX2_marksOn_9 : decode cX2_marksOn 9 = .ok (.if_icmp .ge 33, 3) := by decide +kernel
theorem dX2_marksOn_12 : decode cX2_marksOn 12 = .ok (.iload_n 3, 1) := by decide +kernel
theorem dX2_marksOn_13 : decode cX2_marksOn 13 = .ok (.iconst 3, 1) := by decide +kernel
theorem dX2_marksOn_14 : decode cX2_marksOn 14 = .ok (.if_icmp .ge 28, 3) := by decide +kernel
theorem dX2_marksOn_17 : decode cX2_marksOn 17 = .ok (.aload_n 0, 1) := by decide +kernel
theorem dX2_marksOn_18 : decode cX2_marksOn 18 = .ok (.getfield 58, 3) := by decide +kernel
theorem dX2_marksOn_21 : decode cX2_marksOn 21 = .ok (.iload_n 3, 1) := by decide +kernel
theorem dX2_marksOn_22 : decode cX2_marksOn 22 = .ok (.aaload, 1) := by decide +kernel
theorem dX2_marksOn_23 : decode cX2_marksOn 23 = .ok (.iload_n 1, 1) := by decide +kernel
theorem dX2_marksOn_24 : decode cX2_marksOn 24 = .ok (.invokevirtual 211, 3) := by decide +kernel
theorem dX2_marksOn_27 : decode cX2_marksOn 27 = .ok (.ifCond .eq 9, 3) := by decide +kernel
theorem dX2_marksOn_30 : decode cX2_marksOn 30 = .ok (.iload_n 2, 1) := by decide +kernel
theorem dX2_marksOn_31 : decode cX2_marksOn 31 = .ok (.iconst 1, 1) := by decide +kernel
theorem dX2_marksOn_32 : decode cX2_marksOn 32 = .ok (.iload_n 3, 1) := by decide +kernel
theorem dX2_marksOn_33 : decode cX2_marksOn 33 = .ok (.ishl, 1) := by decide +kernel
theorem dX2_marksOn_34 : decode cX2_marksOn 34 = .ok (.ior, 1) := by decide +kernel
theorem dX2_marksOn_35 : decode cX2_marksOn 35 = .ok (.istore_n 2, 1) := by decide +kernel
theorem dX2_marksOn_36 : decode cX2_marksOn 36 = .ok (.iinc 3 1, 3) := by decide +kernel
theorem dX2_marksOn_39 : decode cX2_marksOn 39 = .ok (.goto (-35), 3) := by decide +kernel
theorem dX2_marksOn_42 : decode cX2_marksOn 42 = .ok (.iload_n 2, 1) := by decide +kernel
theorem dX2_marksOn_43 : decode cX2_marksOn 43 = .ok (.ireturn, 1) := by decide +kernel
theorem dX2_pinnedChairs_0 : decode cX2_pinnedChairs 0 = .ok (.iconst 0, 1) := by decide +kernel
theorem dX2_pinnedChairs_1 : decode cX2_pinnedChairs 1 = .ok (.istore_n 1, 1) := by decide +kernel
theorem dX2_pinnedChairs_2 : decode cX2_pinnedChairs 2 = .ok (.iconst 0, 1) := by decide +kernel
theorem dX2_pinnedChairs_3 : decode cX2_pinnedChairs 3 = .ok (.istore_n 2, 1) := by decide +kernel
theorem dX2_pinnedChairs_4 : decode cX2_pinnedChairs 4 = .ok (.iload_n 2, 1) := by decide +kernel
theorem dX2_pinnedChairs_5 : decode cX2_pinnedChairs 5 = .ok (.aload_n 0, 1) := by decide +kernel
theorem dX2_pinnedChairs_6 : decode cX2_pinnedChairs 6 = .ok (.getfield 54, 3) := by decide +kernel
theorem dX2_pinnedChairs_9 : decode cX2_pinnedChairs 9 = .ok (.getfield 101, 3) := by decide +kernel
theorem dX2_pinnedChairs_12 : decode cX2_pinnedChairs 12 = .ok (.if_icmp .ge 53, 3) := by decide +kernel
theorem dX2_pinnedChairs_15 : decode cX2_pinnedChairs 15 = .ok (.iload_n 2, 1) := by decide +kernel
theorem dX2_pinnedChairs_16 : decode cX2_pinnedChairs 16 = .ok (.bipush 6, 2) := by decide +kernel
theorem dX2_pinnedChairs_18 : decode cX2_pinnedChairs 18 = .ok (.if_icmp .ge 47, 3) := by decide +kernel
theorem dX2_pinnedChairs_21 : decode cX2_pinnedChairs 21 = .ok (.iload_n 1, 1) := by decide +kernel
theorem dX2_pinnedChairs_22 : decode cX2_pinnedChairs 22 = .ok (.iconst 1, 1) := by decide +kernel
theorem dX2_pinnedChairs_23 : decode cX2_pinnedChairs 23 = .ok (.aload_n 0, 1) := by decide +kernel
theorem dX2_pinnedChairs_24 : decode cX2_pinnedChairs 24 = .ok (.getfield 54, 3) := by decide +kernel
theorem dX2_pinnedChairs_27 : decode cX2_pinnedChairs 27 = .ok (.getfield 186, 3) := by decide +kernel
theorem dX2_pinnedChairs_30 : decode cX2_pinnedChairs 30 = .ok (.iload_n 2, 1) := by decide +kernel
theorem dX2_pinnedChairs_31 : decode cX2_pinnedChairs 31 = .ok (.iaload, 1) := by decide +kernel
theorem dX2_pinnedChairs_32 : decode cX2_pinnedChairs 32 = .ok (.ishl, 1) := by decide +kernel
theorem dX2_pinnedChairs_33 : decode cX2_pinnedChairs 33 = .ok (.iconst 1, 1) := by decide +kernel
theorem dX2_pinnedChairs_34 : decode cX2_pinnedChairs 34 = .ok (.aload_n 0, 1) := by decide +kernel
theorem dX2_pinnedChairs_35 : decode cX2_pinnedChairs 35 = .ok (.getfield 54, 3) := by decide +kernel
theorem dX2_pinnedChairs_38 : decode cX2_pinnedChairs 38 = .ok (.getfield 193, 3) := by decide +kernel
theorem dX2_pinnedChairs_41 : decode cX2_pinnedChairs 41 = .ok (.iload_n 2, 1) := by decide +kernel
theorem dX2_pinnedChairs_42 : decode cX2_pinnedChairs 42 = .ok (.iaload, 1) := by decide +kernel
theorem dX2_pinnedChairs_43 : decode cX2_pinnedChairs 43 = .ok (.ishl, 1) := by decide +kernel
theorem dX2_pinnedChairs_44 : decode cX2_pinnedChairs 44 = .ok (.ior, 1) := by decide +kernel
theorem dX2_pinnedChairs_45 : decode cX2_pinnedChairs 45 = .ok (.iconst 1, 1) := by decide +kernel
theorem dX2_pinnedChairs_46 : decode cX2_pinnedChairs 46 = .ok (.aload_n 0, 1) := by decide +kernel
theorem dX2_pinnedChairs_47 : decode cX2_pinnedChairs 47 = .ok (.getfield 54, 3) := by decide +kernel
theorem dX2_pinnedChairs_50 : decode cX2_pinnedChairs 50 = .ok (.getfield 196, 3) := by decide +kernel
theorem dX2_pinnedChairs_53 : decode cX2_pinnedChairs 53 = .ok (.iload_n 2, 1) := by decide +kernel
theorem dX2_pinnedChairs_54 : decode cX2_pinnedChairs 54 = .ok (.iaload, 1) := by decide +kernel
theorem dX2_pinnedChairs_55 : decode cX2_pinnedChairs 55 = .ok (.ishl, 1) := by decide +kernel
theorem dX2_pinnedChairs_56 : decode cX2_pinnedChairs 56 = .ok (.ior, 1) := by decide +kernel
theorem dX2_pinnedChairs_57 : decode cX2_pinnedChairs 57 = .ok (.ior, 1) := by decide +kernel
theorem dX2_pinnedChairs_58 : decode cX2_pinnedChairs 58 = .ok (.istore_n 1, 1) := by decide +kernel
theorem dX2_pinnedChairs_59 : decode cX2_pinnedChairs 59 = .ok (.iinc 2 1, 3) := by decide +kernel
theorem dX2_pinnedChairs_62 : decode cX2_pinnedChairs 62 = .ok (.goto (-58), 3) := by decide +kernel
theorem dX2_pinnedChairs_65 : decode cX2_pinnedChairs 65 = .ok (.iconst 0, 1) := by decide +kernel
theorem dX2_pinnedChairs_66 : decode cX2_pinnedChairs 66 = .ok (.istore_n 2, 1) := by decide +kernel
theorem dX2_pinnedChairs_67 : decode cX2_pinnedChairs 67 = .ok (.iload_n 2, 1) := by decide +kernel
theorem dX2_pinnedChairs_68 : decode cX2_pinnedChairs 68 = .ok (.bipush 8, 2) := by decide +kernel
theorem dX2_pinnedChairs_70 : decode cX2_pinnedChairs 70 = .ok (.if_icmp .ge 61, 3) := by decide +kernel
theorem dX2_pinnedChairs_73 : decode cX2_pinnedChairs 73 = .ok (.iconst 0, 1) := by decide +kernel
theorem dX2_pinnedChairs_74 : decode cX2_pinnedChairs 74 = .ok (.istore_n 3, 1) := by decide +kernel
theorem dX2_pinnedChairs_75 : decode cX2_pinnedChairs 75 = .ok (.iload_n 3, 1) := by decide +kernel
theorem dX2_pinnedChairs_76 : decode cX2_pinnedChairs 76 = .ok (.aload_n 0, 1) := by decide +kernel
theorem dX2_pinnedChairs_77 : decode cX2_pinnedChairs 77 = .ok (.getfield 30, 3) := by decide +kernel
theorem dX2_pinnedChairs_80 : decode cX2_pinnedChairs 80 = .ok (.if_icmp .ge 45, 3) := by decide +kernel
theorem dX2_pinnedChairs_83 : decode cX2_pinnedChairs 83 = .ok (.iload_n 3, 1) := by decide +kernel
theorem dX2_pinnedChairs_84 : decode cX2_pinnedChairs 84 = .ok (.iconst 3, 1) := by decide +kernel
theorem dX2_pinnedChairs_85 : decode cX2_pinnedChairs 85 = .ok (.if_icmp .ge 40, 3) := by decide +kernel
theorem dX2_pinnedChairs_88 : decode cX2_pinnedChairs 88 = .ok (.aload_n 0, 1) := by decide +kernel
theorem dX2_pinnedChairs_89 : decode cX2_pinnedChairs 89 = .ok (.getfield 58, 3) := by decide +kernel
theorem dX2_pinnedChairs_92 : decode cX2_pinnedChairs 92 = .ok (.iload_n 3, 1) := by decide +kernel
theorem dX2_pinnedChairs_93 : decode cX2_pinnedChairs 93 = .ok (.aaload, 1) := by decide +kernel
theorem dX2_pinnedChairs_94 : decode cX2_pinnedChairs 94 = .ok (.getfield 111, 3) := by decide +kernel
theorem dX2_pinnedChairs_97 : decode cX2_pinnedChairs 97 = .ok (.iload_n 2, 1) := by decide +kernel
theorem dX2_pinnedChairs_98 : decode cX2_pinnedChairs 98 = .ok (.iaload, 1) := by decide +kernel
theorem dX2_pinnedChairs_99 : decode cX2_pinnedChairs 99 = .ok (.iconst (-1), 1) := by decide +kernel
theorem dX2_pinnedChairs_100 : decode cX2_pinnedChairs 100 = .ok (.if_icmp .eq 19, 3) := by decide +kernel
theorem dX2_pinnedChairs_103 : decode cX2_pinnedChairs 103 = .ok (.iload_n 1, 1) := by decide +kernel
theorem dX2_pinnedChairs_104 : decode cX2_pinnedChairs 104 = .ok (.iconst 1, 1) := by decide +kernel
theorem dX2_pinnedChairs_105 : decode cX2_pinnedChairs 105 = .ok (.aload_n 0, 1) := by decide +kernel
theorem dX2_pinnedChairs_106 : decode cX2_pinnedChairs 106 = .ok (.getfield 58, 3) := by decide +kernel
theorem dX2_pinnedChairs_109 : decode cX2_pinnedChairs 109 = .ok (.iload_n 3, 1) := by decide +kernel
theorem dX2_pinnedChairs_110 : decode cX2_pinnedChairs 110 = .ok (.aaload, 1) := by decide +kernel
theorem dX2_pinnedChairs_111 : decode cX2_pinnedChairs 111 = .ok (.getfield 111, 3) := by decide +kernel
theorem dX2_pinnedChairs_114 : decode cX2_pinnedChairs 114 = .ok (.iload_n 2, 1) := by decide +kernel
theorem dX2_pinnedChairs_115 : decode cX2_pinnedChairs 115 = .ok (.iaload, 1) := by decide +kernel
theorem dX2_pinnedChairs_116 : decode cX2_pinnedChairs 116 = .ok (.ishl, 1) := by decide +kernel
theorem dX2_pinnedChairs_117 : decode cX2_pinnedChairs 117 = .ok (.ior, 1) := by decide +kernel
theorem dX2_pinnedChairs_118 : decode cX2_pinnedChairs 118 = .ok (.istore_n 1, 1) := by decide +kernel
theorem dX2_pinnedChairs_119 : decode cX2_pinnedChairs 119 = .ok (.iinc 3 1, 3) := by decide +kernel
theorem dX2_pinnedChairs_122 : decode cX2_pinnedChairs 122 = .ok (.goto (-47), 3) := by decide +kernel
theorem dX2_pinnedChairs_125 : decode cX2_pinnedChairs 125 = .ok (.iinc 2 1, 3) := by decide +kernel
theorem dX2_pinnedChairs_128 : decode cX2_pinnedChairs 128 = .ok (.goto (-61), 3) := by decide +kernel
theorem dX2_pinnedChairs_131 : decode cX2_pinnedChairs 131 = .ok (.iload_n 1, 1) := by decide +kernel
theorem dX2_pinnedChairs_132 : decode cX2_pinnedChairs 132 = .ok (.ireturn, 1) := by decide +kernel
theorem dX2_lowestFreeChair_0 : decode cX2_lowestFreeChair 0 = .ok (.iconst 0, 1) := by decide +kernel
theorem dX2_lowestFreeChair_1 : decode cX2_lowestFreeChair 1 = .ok (.istore_n 2, 1) := by decide +kernel
theorem dX2_lowestFreeChair_2 : decode cX2_lowestFreeChair 2 = .ok (.iload_n 2, 1) := by decide +kernel
theorem dX2_lowestFreeChair_3 : decode cX2_lowestFreeChair 3 = .ok (.aload_n 0, 1) := by decide +kernel
theorem dX2_lowestFreeChair_4 : decode cX2_lowestFreeChair 4 = .ok (.getfield 9, 3) := by decide +kernel
theorem dX2_lowestFreeChair_7 : decode cX2_lowestFreeChair 7 = .ok (.if_icmp .ge 19, 3) := by decide +kernel
theorem dX2_lowestFreeChair_10 : decode cX2_lowestFreeChair 10 = .ok (.iload_n 1, 1) := by decide +kernel
theorem dX2_lowestFreeChair_11 : decode cX2_lowestFreeChair 11 = .ok (.iload_n 2, 1) := by decide +kernel
theorem dX2_lowestFreeChair_12 : decode cX2_lowestFreeChair 12 = .ok (.ishr, 1) := by decide +kernel
theorem dX2_lowestFreeChair_13 : decode cX2_lowestFreeChair 13 = .ok (.iconst 1, 1) := by decide +kernel
theorem dX2_lowestFreeChair_14 : decode cX2_lowestFreeChair 14 = .ok (.iand, 1) := by decide +kernel
theorem dX2_lowestFreeChair_15 : decode cX2_lowestFreeChair 15 = .ok (.ifCond .ne 5, 3) := by decide +kernel
theorem dX2_lowestFreeChair_18 : decode cX2_lowestFreeChair 18 = .ok (.iload_n 2, 1) := by decide +kernel
theorem dX2_lowestFreeChair_19 : decode cX2_lowestFreeChair 19 = .ok (.ireturn, 1) := by decide +kernel
theorem dX2_lowestFreeChair_20 : decode cX2_lowestFreeChair 20 = .ok (.iinc 2 1, 3) := by decide +kernel
theorem dX2_lowestFreeChair_23 : decode cX2_lowestFreeChair 23 = .ok (.goto (-21), 3) := by decide +kernel
theorem dX2_lowestFreeChair_26 : decode cX2_lowestFreeChair 26 = .ok (.iconst (-1), 1) := by decide +kernel
theorem dX2_lowestFreeChair_27 : decode cX2_lowestFreeChair 27 = .ok (.ireturn, 1) := by decide +kernel
theorem dX2_longestUnused_0 : decode cX2_longestUnused 0 = .ok (.iconst (-1), 1) := by decide +kernel
theorem dX2_longestUnused_1 : decode cX2_longestUnused 1 = .ok (.istore_n 2, 1) := by decide +kernel
theorem dX2_longestUnused_2 : decode cX2_longestUnused 2 = .ok (.iconst 0, 1) := by decide +kernel
theorem dX2_longestUnused_3 : decode cX2_longestUnused 3 = .ok (.istore_n 3, 1) := by decide +kernel
theorem dX2_longestUnused_4 : decode cX2_longestUnused 4 = .ok (.iload_n 3, 1) := by decide +kernel
theorem dX2_longestUnused_5 : decode cX2_longestUnused 5 = .ok (.aload_n 0, 1) := by decide +kernel
theorem dX2_longestUnused_6 : decode cX2_longestUnused 6 = .ok (.getfield 9, 3) := by decide +kernel
theorem dX2_longestUnused_9 : decode cX2_longestUnused 9 = .ok (.if_icmp .ge 80, 3) := by decide +kernel
theorem dX2_longestUnused_12 : decode cX2_longestUnused 12 = .ok (.iload_n 3, 1) := by decide +kernel
theorem dX2_longestUnused_13 : decode cX2_longestUnused 13 = .ok (.bipush 7, 2) := by decide +kernel
theorem dX2_longestUnused_15 : decode cX2_longestUnused 15 = .ok (.if_icmp .ge 74, 3) := by decide +kernel
theorem dX2_longestUnused_18 : decode cX2_longestUnused 18 = .ok (.iload_n 1, 1) := by decide +kernel
theorem dX2_longestUnused_19 : decode cX2_longestUnused 19 = .ok (.iload_n 3, 1) := by decide +kernel
theorem dX2_longestUnused_20 : decode cX2_longestUnused 20 = .ok (.ishr, 1) := by decide +kernel
theorem dX2_longestUnused_21 : decode cX2_longestUnused 21 = .ok (.iconst 1, 1) := by decide +kernel
theorem dX2_longestUnused_22 : decode cX2_longestUnused 22 = .ok (.iand, 1) := by decide +kernel
theorem dX2_longestUnused_23 : decode cX2_longestUnused 23 = .ok (.iconst 1, 1) := by decide +kernel
theorem dX2_longestUnused_24 : decode cX2_longestUnused 24 = .ok (.if_icmp .ne 23, 3) := by decide +kernel
theorem dX2_longestUnused_27 : decode cX2_longestUnused 27 = .ok (.aload_n 0, 1) := by decide +kernel
theorem dX2_longestUnused_28 : decode cX2_longestUnused 28 = .ok (.getfield 47, 3) := by decide +kernel
theorem dX2_longestUnused_31 : decode cX2_longestUnused 31 = .ok (.getfield 242, 3) := by decide +kernel
theorem dX2_longestUnused_34 : decode cX2_longestUnused 34 = .ok (.iload_n 3, 1) := by decide +kernel
theorem dX2_longestUnused_35 : decode cX2_longestUnused 35 = .ok (.iaload, 1) := by decide +kernel
theorem dX2_longestUnused_36 : decode cX2_longestUnused 36 = .ok (.aload_n 0, 1) := by decide +kernel
theorem dX2_longestUnused_37 : decode cX2_longestUnused 37 = .ok (.getfield 15, 3) := by decide +kernel
theorem dX2_longestUnused_40 : decode cX2_longestUnused 40 = .ok (.if_icmp .gt 7, 3) := by decide +kernel
theorem dX2_longestUnused_43 : decode cX2_longestUnused 43 = .ok (.iconst 1, 1) := by decide +kernel
theorem dX2_longestUnused_44 : decode cX2_longestUnused 44 = .ok (.goto 4, 3) := by decide +kernel
theorem dX2_longestUnused_47 : decode cX2_longestUnused 47 = .ok (.iconst 0, 1) := by decide +kernel
theorem dX2_longestUnused_48 : decode cX2_longestUnused 48 = .ok (.istore 4, 2) := by decide +kernel
theorem dX2_longestUnused_50 : decode cX2_longestUnused 50 = .ok (.iload 4, 2) := by decide +kernel
theorem dX2_longestUnused_52 : decode cX2_longestUnused 52 = .ok (.ifCond .eq 31, 3) := by decide +kernel
theorem dX2_longestUnused_55 : decode cX2_longestUnused 55 = .ok (.iload_n 2, 1) := by decide +kernel
theorem dX2_longestUnused_56 : decode cX2_longestUnused 56 = .ok (.iconst (-1), 1) := by decide +kernel
theorem dX2_longestUnused_57 : decode cX2_longestUnused 57 = .ok (.if_icmp .eq 24, 3) := by decide +kernel
theorem dX2_longestUnused_60 : decode cX2_longestUnused 60 = .ok (.aload_n 0, 1) := by decide +kernel
theorem dX2_longestUnused_61 : decode cX2_longestUnused 61 = .ok (.getfield 47, 3) := by decide +kernel
theorem dX2_longestUnused_64 : decode cX2_longestUnused 64 = .ok (.getfield 245, 3) := by decide +kernel
theorem dX2_longestUnused_67 : decode cX2_longestUnused 67 = .ok (.iload_n 3, 1) := by decide +kernel
theorem dX2_longestUnused_68 : decode cX2_longestUnused 68 = .ok (.iaload, 1) := by decide +kernel
theorem dX2_longestUnused_69 : decode cX2_longestUnused 69 = .ok (.aload_n 0, 1) := by decide +kernel
theorem dX2_longestUnused_70 : decode cX2_longestUnused 70 = .ok (.getfield 47, 3) := by decide +kernel
theorem dX2_longestUnused_73 : decode cX2_longestUnused 73 = .ok (.getfield 245, 3) := by decide +kernel
theorem dX2_longestUnused_76 : decode cX2_longestUnused 76 = .ok (.iload_n 2, 1) := by decide +kernel
theorem dX2_longestUnused_77 : decode cX2_longestUnused 77 = .ok (.iaload, 1) := by decide +kernel
theorem dX2_longestUnused_78 : decode cX2_longestUnused 78 = .ok (.if_icmp .ge 5, 3) := by decide +kernel
theorem dX2_longestUnused_81 : decode cX2_longestUnused 81 = .ok (.iload_n 3, 1) := by decide +kernel
theorem dX2_longestUnused_82 : decode cX2_longestUnused 82 = .ok (.istore_n 2, 1) := by decide +kernel
theorem dX2_longestUnused_83 : decode cX2_longestUnused 83 = .ok (.iinc 3 1, 3) := by decide +kernel
theorem dX2_longestUnused_86 : decode cX2_longestUnused 86 = .ok (.goto (-82), 3) := by decide +kernel
theorem dX2_longestUnused_89 : decode cX2_longestUnused 89 = .ok (.iload_n 2, 1) := by decide +kernel
theorem dX2_longestUnused_90 : decode cX2_longestUnused 90 = .ok (.ireturn, 1) := by decide +kernel
end
section
theorem dX6_init_0 : decode cX6_init 0 = .ok (.aload_n 0, 1) := by decide +kernel
theorem dX6_init_1 : decode cX6_init 1 = .ok (.invokespecial 1, 3) := by decide +kernel
theorem dX6_init_4 : decode cX6_init 4 = .ok (.aload_n 0, 1) := by decide +kernel
theorem dX6_init_5 : decode cX6_init 5 = .ok (.sipush 153, 3) := by decide +kernel
theorem dX6_init_8 : decode cX6_init 8 = .ok (.newarray .int, 2) := by decide +kernel
theorem dX6_init_10 : decode cX6_init 10 = .ok (.putfield 7, 3) := by decide +kernel
theorem dX6_init_13 : decode cX6_init 13 = .ok (.aload_n 0, 1) := by decide +kernel
theorem dX6_init_14 : decode cX6_init 14 = .ok (.sipush 612, 3) := by decide +kernel
theorem dX6_init_17 : decode cX6_init 17 = .ok (.newarray .int, 2) := by decide +kernel
theorem dX6_init_19 : decode cX6_init 19 = .ok (.putfield 13, 3) := by decide +kernel
theorem dX6_init_22 : decode cX6_init 22 = .ok (.aload_n 0, 1) := by decide +kernel
theorem dX6_init_23 : decode cX6_init 23 = .ok (.sipush 153, 3) := by decide +kernel
theorem dX6_init_26 : decode cX6_init 26 = .ok (.newarray .int, 2) := by decide +kernel
theorem dX6_init_28 : decode cX6_init 28 = .ok (.putfield 16, 3) := by decide +kernel
theorem dX6_init_31 : decode cX6_init 31 = .ok (.aload_n 0, 1) := by decide +kernel
theorem dX6_init_32 : decode cX6_init 32 = .ok (.sipush 153, 3) := by decide +kernel
theorem dX6_init_35 : decode cX6_init 35 = .ok (.newarray .int, 2) := by decide +kernel
theorem dX6_init_37 : decode cX6_init 37 = .ok (.putfield 19, 3) := by decide +kernel
theorem dX6_init_40 : decode cX6_init 40 = .ok (.aload_n 0, 1) := by decide +kernel
theorem dX6_init_41 : decode cX6_init 41 = .ok (.bipush 80, 2) := by decide +kernel
theorem dX6_init_43 : decode cX6_init 43 = .ok (.newarray .int, 2) := by decide +kernel
theorem dX6_init_45 : decode cX6_init 45 = .ok (.putfield 22, 3) := by decide +kernel
theorem dX6_init_48 : decode cX6_init 48 = .ok (.aload_n 0, 1) := by decide +kernel
theorem dX6_init_49 : decode cX6_init 49 = .ok (.bipush 7, 2) := by decide +kernel
theorem dX6_init_51 : decode cX6_init 51 = .ok (.newarray .int, 2) := by decide +kernel
theorem dX6_init_53 : decode cX6_init 53 = .ok (.putfield 25, 3) := by decide +kernel
theorem dX6_init_56 : decode cX6_init 56 = .ok (.aload_n 0, 1) := by decide +kernel
theorem dX6_init_57 : decode cX6_init 57 = .ok (.iconst 3, 1) := by decide +kernel
theorem dX6_init_58 : decode cX6_init 58 = .ok (.newarray .int, 2) := by decide +kernel
theorem dX6_init_60 : decode cX6_init 60 = .ok (.putfield 28, 3) := by decide +kernel
theorem dX6_init_63 : decode cX6_init 63 = .ok (.aload_n 0, 1) := by decide +kernel
theorem dX6_init_64 : decode cX6_init 64 = .ok (.getfield 7, 3) := by decide +kernel
theorem dX6_init_67 : decode cX6_init 67 = .ok (.bipush 8, 2) := by decide +kernel
theorem dX6_init_69 : decode cX6_init 69 = .ok (.iconst 1, 1) := by decide +kernel
theorem dX6_init_70 : decode cX6_init 70 = .ok (.iastore, 1) := by decide +kernel
theorem dX6_init_71 : decode cX6_init 71 = .ok (.aload_n 0, 1) := by decide +kernel
theorem dX6_init_72 : decode cX6_init 72 = .ok (.getfield 7, 3) := by decide +kernel
theorem dX6_init_75 : decode cX6_init 75 = .ok (.bipush 9, 2) := by decide +kernel
theorem dX6_init_77 : decode cX6_init 77 = .ok (.iconst 3, 1) := by decide +kernel
theorem dX6_init_78 : decode cX6_init 78 = .ok (.iastore, 1) := by decide +kernel
theorem dX6_init_79 : decode cX6_init 79 = .ok (.aload_n 0, 1) := by decide +kernel
theorem dX6_init_80 : decode cX6_init 80 = .ok (.getfield 7, 3) := by decide +kernel
theorem dX6_init_83 : decode cX6_init 83 = .ok (.bipush 10, 2) := by decide +kernel
theorem dX6_init_85 : decode cX6_init 85 = .ok (.iconst 2, 1) := by decide +kernel
theorem dX6_init_86 : decode cX6_init 86 = .ok (.iastore, 1) := by decide +kernel
theorem dX6_init_87 : decode cX6_init 87 = .ok (.aload_n 0, 1) := by decide +kernel
theorem dX6_init_88 : decode cX6_init 88 = .ok (.getfield 7, 3) := by decide +kernel
theorem dX6_init_91 : decode cX6_init 91 = .ok (.bipush 11, 2) := by decide +kernel
theorem dX6_init_93 : decode cX6_init 93 = .ok (.iconst 2, 1) := by decide +kernel
theorem dX6_init_94 : decode cX6_init 94 = .ok (.iastore, 1) := by decide +kernel
theorem dX6_init_95 : decode cX6_init 95 = .ok (.aload_n 0, 1) := by decide +kernel
theorem dX6_init_96 : decode cX6_init 96 = .ok (.iconst 5, 1) := by decide +kernel
theorem dX6_init_97 : decode cX6_init 97 = .ok (.invokevirtual 31, 3) := by decide +kernel
theorem dX6_init_100 : decode cX6_init 100 = .ok (.return_, 1) := by decide +kernel
theorem dX6_in_0 : decode cX6_in 0 = .ok (.iload_n 0, 1) := by decide +kernel
theorem dX6_in_1 : decode cX6_in 1 = .ok (.iload_n 1, 1) := by decide +kernel
theorem dX6_in_2 : decode cX6_in 2 = .ok (.if_icmp .lt 12, 3) := by decide +kernel
theorem dX6_in_5 : decode cX6_in 5 = .ok (.iload_n 0, 1) := by decide +kernel
theorem dX6_in_6 : decode cX6_in 6 = .ok (.iload_n 2, 1) := by decide +kernel
theorem dX6_in_7 : decode cX6_in 7 = .ok (.if_icmp .gt 7, 3) := by decide +kernel
theorem dX6_in_10 : decode cX6_in 10 = .ok (.iconst 1, 1) := by decide +kernel
theorem dX6_in_11 : decode cX6_in 11 = .ok (.goto 4, 3) := by decide +kernel
theorem dX6_in_14 : decode cX6_in 14 = .ok (.iconst 0, 1) := by decide +kernel
theorem dX6_in_15 : decode cX6_in 15 = .ok (.ireturn, 1) := by decide +kernel
theorem dX6_copies_0 : decode cX6_copies 0 = .ok (.iconst 0, 1) := by decide +kernel
theorem dX6_copies_1 : decode cX6_copies 1 = .ok (.istore_n 2, 1) := by decide +kernel
theorem dX6_copies_2 : decode cX6_copies 2 = .ok (.iload_n 2, 1) := by decide +kernel
theorem dX6_copies_3 : decode cX6_copies 3 = .ok (.sipush 153, 3) := by decide +kernel
theorem dX6_copies_6 : decode cX6_copies 6 = .ok (.if_icmp .ge 15, 3) := by decide +kernel
theorem dX6_copies_9 : decode cX6_copies 9 = .ok (.aload_n 1, 1) := by decide +kernel
theorem dX6_copies_10 : decode cX6_copies 10 = .ok (.iload_n 2, 1) := by decide +kernel
theorem dX6_copies_11 : decode cX6_copies 11 = .ok (.aload_n 0, 1) := by decide +kernel
theorem dX6_copies_12 : decode cX6_copies 12 = .ok (.iload_n 2, 1) := by decide +kernel
theorem dX6_copies_13 : decode cX6_copies 13 = .ok (.iaload, 1) := by decide +kernel
theorem dX6_copies_14 : decode cX6_copies 14 = .ok (.iastore, 1) := by decide +kernel
theorem dX6_copies_15 : decode cX6_copies 15 = .ok (.iinc 2 1, 3) := by decide +kernel
theorem dX6_copies_18 : decode cX6_copies 18 = .ok (.goto (-16), 3) := by decide +kernel
theorem dX6_copies_21 : decode cX6_copies 21 = .ok (.return_, 1) := by decide +kernel
theorem dX6_changes_0 : decode cX6_changes 0 = .ok (.aload_n 0, 1) := by decide +kernel
theorem dX6_changes_1 : decode cX6_changes 1 = .ok (.getfield 35, 3) := by decide +kernel
theorem dX6_changes_4 : decode cX6_changes 4 = .ok (.ifCond .eq 4, 3) := by decide +kernel
theorem dX6_changes_7 : decode cX6_changes 7 = .ok (.return_, 1) := by decide +kernel
theorem dX6_changes_8 : decode cX6_changes 8 = .ok (.aload_n 0, 1) := by decide +kernel
theorem dX6_changes_9 : decode cX6_changes 9 = .ok (.getfield 39, 3) := by decide +kernel
theorem dX6_changes_12 : decode cX6_changes 12 = .ok (.iconst 4, 1) := by decide +kernel
theorem dX6_changes_13 : decode cX6_changes 13 = .ok (.if_icmp .ne 44, 3) := by decide +kernel
theorem dX6_changes_16 : decode cX6_changes 16 = .ok (.iconst 0, 1) := by decide +kernel
theorem dX6_changes_17 : decode cX6_changes 17 = .ok (.istore_n 2, 1) := by decide +kernel
theorem dX6_changes_18 : decode cX6_changes 18 = .ok (.iload_n 2, 1) := by decide +kernel
theorem dX6_changes_19 : decode cX6_changes 19 = .ok (.sipush 459, 3) := by decide +kernel
theorem dX6_changes_22 : decode cX6_changes 22 = .ok (.if_icmp .ge 25, 3) := by decide +kernel
theorem dX6_changes_25 : decode cX6_changes 25 = .ok (.aload_n 0, 1) := by decide +kernel
theorem dX6_changes_26 : decode cX6_changes 26 = .ok (.getfield 13, 3) := by decide +kernel
theorem dX6_changes_29 : decode cX6_changes 29 = .ok (.iload_n 2, 1) := by decide +kernel
theorem dX6_changes_30 : decode cX6_changes 30 = .ok (.aload_n 0, 1) := by decide +kernel
theorem dX6_changes_31 : decode cX6_changes 31 = .ok (.getfield 13, 3) := by decide +kernel
theorem dX6_changes_34 : decode cX6_changes 34 = .ok (.iload_n 2, 1) := by decide +kernel
theorem dX6_changes_35 : decode cX6_changes 35 = .ok (.sipush 153, 3) := by decide +kernel
theorem dX6_changes_38 : decode cX6_changes 38 = .ok (.iadd, 1) := by decide +kernel
theorem dX6_changes_39 : decode cX6_changes 39 = .ok (.iaload, 1) := by decide +kernel
theorem dX6_changes_40 : decode cX6_changes 40 = .ok (.iastore, 1) := by decide +kernel
theorem dX6_changes_41 : decode cX6_changes 41 = .ok (.iinc 2 1, 3) := by decide +kernel
theorem dX6_changes_44 : decode cX6_changes 44 = .ok (.goto (-26), 3) := by decide +kernel
theorem dX6_changes_47 : decode cX6_changes 47 = .ok (.aload_n 0, 1) := by decide +kernel
theorem dX6_changes_48 : decode cX6_changes 48 = .ok (.dup, 1) := by decide +kernel
theorem dX6_changes_49 : decode cX6_changes 49 = .ok (.getfield 39, 3) := by decide +kernel
theorem dX6_changes_52 : decode cX6_changes 52 = .ok (.iconst 1, 1) := by decide +kernel
theorem dX6_changes_53 : decode cX6_changes 53 = .ok (.isub, 1) := by decide +kernel
theorem dX6_changes_54 : decode cX6_changes 54 = .ok (.putfield 39, 3) := by decide +kernel
theorem dX6_changes_57 : decode cX6_changes 57 = .ok (.iconst 0, 1) := by decide +kernel
theorem dX6_changes_58 : decode cX6_changes 58 = .ok (.istore_n 2, 1) := by decide +kernel
theorem dX6_changes_59 : decode cX6_changes 59 = .ok (.iload_n 2, 1) := by decide +kernel
theorem dX6_changes_60 : decode cX6_changes 60 = .ok (.sipush 153, 3) := by decide +kernel
theorem dX6_changes_63 : decode cX6_changes 63 = .ok (.if_icmp .ge 27, 3) := by decide +kernel
theorem dX6_changes_66 : decode cX6_changes 66 = .ok (.aload_n 0, 1) := by decide +kernel
theorem dX6_changes_67 : decode cX6_changes 67 = .ok (.getfield 13, 3) := by decide +kernel
theorem dX6_changes_70 : decode cX6_changes 70 = .ok (.sipush 153, 3) := by decide +kernel
theorem dX6_changes_73 : decode cX6_changes 73 = .ok (.aload_n 0, 1) := by decide +kernel
theorem dX6_changes_74 : decode cX6_changes 74 = .ok (.getfield 39, 3) := by decide +kernel
theorem dX6_changes_77 : decode cX6_changes 77 = .ok (.imul, 1) := by decide +kernel
theorem dX6_changes_78 : decode cX6_changes 78 = .ok (.iload_n 2, 1) := by decide +kernel
theorem dX6_changes_79 : decode cX6_changes 79 = .ok (.iadd, 1) := by decide +kernel
theorem dX6_changes_80 : decode cX6_changes 80 = .ok (.aload_n 1, 1) := by decide +kernel
theorem dX6_changes_81 : decode cX6_changes 81 = .ok (.iload_n 2, 1) := by decide +kernel
theorem dX6_changes_82 : decode cX6_changes 82 = .ok (.iaload, 1) := by decide +kernel
theorem dX6_changes_83 : decode cX6_changes 83 = .ok (.iastore, 1) := by decide +kernel
theorem dX6_changes_84 : decode cX6_changes 84 = .ok (.iinc 2 1, 3) := by decide +kernel
theorem dX6_changes_87 : decode cX6_changes 87 = .ok (.goto (-28), 3) := by decide +kernel
theorem dX6_changes_90 : decode cX6_changes 90 = .ok (.aload_n 0, 1) := by decide +kernel
theorem dX6_changes_91 : decode cX6_changes 91 = .ok (.dup, 1) := by decide +kernel
theorem dX6_changes_92 : decode cX6_changes 92 = .ok (.getfield 39, 3) := by decide +kernel
theorem dX6_changes_95 : decode cX6_changes 95 = .ok (.iconst 1, 1) := by decide +kernel
theorem dX6_changes_96 : decode cX6_changes 96 = .ok (.iadd, 1) := by decide +kernel
theorem dX6_changes_97 : decode cX6_changes 97 = .ok (.putfield 39, 3) := by decide +kernel
theorem dX6_changes_100 : decode cX6_changes 100 = .ok (.return_, 1) := by decide +kernel
theorem dX6_clears_0 : decode cX6_clears 0 = .ok (.iconst 0, 1) := by decide +kernel
theorem dX6_clears_1 : decode cX6_clears 1 = .ok (.istore_n 2, 1) := by decide +kernel
theorem dX6_clears_2 : decode cX6_clears 2 = .ok (.iload_n 2, 1) := by decide +kernel
theorem dX6_clears_3 : decode cX6_clears 3 = .ok (.sipush 153, 3) := by decide +kernel
theorem dX6_clears_6 : decode cX6_clears 6 = .ok (.if_icmp .ge 51, 3) := by decide +kernel
theorem dX6_clears_9 : decode cX6_clears 9 = .ok (.aload_n 0, 1) := by decide +kernel
theorem dX6_clears_10 : decode cX6_clears 10 = .ok (.getfield 7, 3) := by decide +kernel
theorem dX6_clears_13 : decode cX6_clears 13 = .ok (.iload_n 2, 1) := by decide +kernel
theorem dX6_clears_14 : decode cX6_clears 14 = .ok (.iload_n 2, 1) := by decide +kernel
theorem dX6_clears_15 : decode cX6_clears 15 = .ok (.bipush 8, 2) := by decide +kernel
theorem dX6_clears_17 : decode cX6_clears 17 = .ok (.bipush 11, 2) := by decide +kernel
theorem dX6_clears_19 : decode cX6_clears 19 = .ok (.invokestatic 43, 3) := by decide +kernel
theorem dX6_clears_22 : decode cX6_clears 22 = .ok (.ifCond .eq 12, 3) := by decide +kernel
theorem dX6_clears_25 : decode cX6_clears 25 = .ok (.aload_n 0, 1) := by decide +kernel
theorem dX6_clears_26 : decode cX6_clears 26 = .ok (.getfield 7, 3) := by decide +kernel
theorem dX6_clears_29 : decode cX6_clears 29 = .ok (.iload_n 2, 1) := by decide +kernel
theorem dX6_clears_30 : decode cX6_clears 30 = .ok (.iaload, 1) := by decide +kernel
theorem dX6_clears_31 : decode cX6_clears 31 = .ok (.goto 19, 3) := by decide +kernel
theorem dX6_clears_34 : decode cX6_clears 34 = .ok (.iload_n 2, 1) := by decide +kernel
theorem dX6_clears_35 : decode cX6_clears 35 = .ok (.bipush 12, 2) := by decide +kernel
theorem dX6_clears_37 : decode cX6_clears 37 = .ok (.bipush 19, 2) := by decide +kernel
theorem dX6_clears_39 : decode cX6_clears 39 = .ok (.invokestatic 43, 3) := by decide +kernel
theorem dX6_clears_42 : decode cX6_clears 42 = .ok (.ifCond .eq 7, 3) := by decide +kernel
theorem dX6_clears_45 : decode cX6_clears 45 = .ok (.iconst (-1), 1) := by decide +kernel
theorem dX6_clears_46 : decode cX6_clears 46 = .ok (.goto 4, 3) := by decide +kernel
theorem dX6_clears_49 : decode cX6_clears 49 = .ok (.iconst 0, 1) := by decide +kernel
theorem dX6_clears_50 : decode cX6_clears 50 = .ok (.iastore, 1) := by decide +kernel
theorem dX6_clears_51 : decode cX6_clears 51 = .ok (.iinc 2 1, 3) := by decide +kernel
theorem dX6_clears_54 : decode cX6_clears 54 = .ok (.goto (-52), 3) := by decide +kernel
theorem dX6_clears_57 : decode cX6_clears 57 = .ok (.aload_n 0, 1) := by decide +kernel
theorem dX6_clears_58 : decode cX6_clears 58 = .ok (.getfield 7, 3) := by decide +kernel
theorem dX6_clears_61 : decode cX6_clears 61 = .ok (.iconst 0, 1) := by decide +kernel
theorem dX6_clears_62 : decode cX6_clears 62 = .ok (.iload_n 1, 1) := by decide +kernel
theorem dX6_clears_63 : decode cX6_clears 63 = .ok (.iastore, 1) := by decide +kernel
theorem dX6_clears_64 : decode cX6_clears 64 = .ok (.return_, 1) := by decide +kernel
theorem dX6_isName_0 : decode cX6_isName 0 = .ok (.iload_n 0, 1) := by decide +kernel
theorem dX6_isName_1 : decode cX6_isName 1 = .ok (.iconst 0, 1) := by decide +kernel
theorem dX6_isName_2 : decode cX6_isName 2 = .ok (.bipush 7, 2) := by decide +kernel
theorem dX6_isName_4 : decode cX6_isName 4 = .ok (.invokestatic 43, 3) := by decide +kernel
theorem dX6_isName_7 : decode cX6_isName 7 = .ok (.ireturn, 1) := by decide +kernel
theorem dX6_at_0 : decode cX6_at 0 = .ok (.bipush 28, 2) := by decide +kernel
theorem dX6_at_2 : decode cX6_at 2 = .ok (.iconst 5, 1) := by decide +kernel
theorem dX6_at_3 : decode cX6_at 3 = .ok (.iload_n 0, 1) := by decide +kernel
theorem dX6_at_4 : decode cX6_at 4 = .ok (.imul, 1) := by decide +kernel
theorem dX6_at_5 : decode cX6_at 5 = .ok (.iadd, 1) := by decide +kernel
theorem dX6_at_6 : decode cX6_at 6 = .ok (.iload_n 1, 1) := by decide +kernel
theorem dX6_at_7 : decode cX6_at 7 = .ok (.iadd, 1) := by decide +kernel
theorem dX6_at_8 : decode cX6_at 8 = .ok (.ireturn, 1) := by decide +kernel
theorem dX6_ofOrder_0 : decode cX6_ofOrder 0 = .ok (.bipush 111, 2) := by decide +kernel
theorem dX6_ofOrder_2 : decode cX6_ofOrder 2 = .ok (.bipush 7, 2) := by decide +kernel
theorem dX6_ofOrder_4 : decode cX6_ofOrder 4 = .ok (.iload_n 0, 1) := by decide +kernel
theorem dX6_ofOrder_5 : decode cX6_ofOrder 5 = .ok (.imul, 1) := by decide +kernel
theorem dX6_ofOrder_6 : decode cX6_ofOrder 6 = .ok (.iadd, 1) := by decide +kernel
theorem dX6_ofOrder_7 : decode cX6_ofOrder 7 = .ok (.iload_n 1, 1) := by decide +kernel
theorem dX6_ofOrder_8 : decode cX6_ofOrder 8 = .ok (.iadd, 1) := by decide +kernel
theorem dX6_ofOrder_9 : decode cX6_ofOrder 9 = .ok (.ireturn, 1) := by decide +kernel
theorem dX6_isMark_0 : decode cX6_isMark 0 = .ok (.iload_n 1, 1) := by decide +kernel
theorem dX6_isMark_1 : decode cX6_isMark 1 = .ok (.ifCond .lt 17, 3) := by decide +kernel
theorem dX6_isMark_4 : decode cX6_isMark 4 = .ok (.iload_n 1, 1) := by decide +kernel
theorem dX6_isMark_5 : decode cX6_isMark 5 = .ok (.aload_n 0, 1) := by decide +kernel
theorem dX6_isMark_6 : decode cX6_isMark 6 = .ok (.getfield 7, 3) := by decide +kernel
theorem dX6_isMark_9 : decode cX6_isMark 9 = .ok (.iconst 2, 1) := by decide +kernel
theorem dX6_isMark_10 : decode cX6_isMark 10 = .ok (.iaload, 1) := by decide +kernel
theorem dX6_isMark_11 : decode cX6_isMark 11 = .ok (.if_icmp .ge 7, 3) := by decide +kernel
theorem dX6_isMark_14 : decode cX6_isMark 14 = .ok (.iconst 1, 1) := by decide +kernel
theorem dX6_isMark_15 : decode cX6_isMark 15 = .ok (.goto 4, 3) := by decide +kernel
theorem dX6_isMark_18 : decode cX6_isMark 18 = .ok (.iconst 0, 1) := by decide +kernel
theorem dX6_isMark_19 : decode cX6_isMark 19 = .ok (.ireturn, 1) := by decide +kernel
theorem dX6_isHad_0 : decode cX6_isHad 0 = .ok (.iconst 0, 1) := by decide +kernel
theorem dX6_isHad_1 : decode cX6_isHad 1 = .ok (.istore_n 2, 1) := by decide +kernel
theorem dX6_isHad_2 : decode cX6_isHad 2 = .ok (.iconst 0, 1) := by decide +kernel
theorem dX6_isHad_3 : decode cX6_isHad 3 = .ok (.istore_n 3, 1) := by decide +kernel
theorem dX6_isHad_4 : decode cX6_isHad 4 = .ok (.iload_n 3, 1) := by decide +kernel
theorem dX6_isHad_5 : decode cX6_isHad 5 = .ok (.bipush 8, 2) := by decide +kernel
theorem dX6_isHad_7 : decode cX6_isHad 7 = .ok (.if_icmp .ge 32, 3) := by decide +kernel
theorem dX6_isHad_10 : decode cX6_isHad 10 = .ok (.iload_n 2, 1) := by decide +kernel
theorem dX6_isHad_11 : decode cX6_isHad 11 = .ok (.ifCond .ne 16, 3) := by decide +kernel
theorem dX6_isHad_14 : decode cX6_isHad 14 = .ok (.aload_n 0, 1) := by decide +kernel
theorem dX6_isHad_15 : decode cX6_isHad 15 = .ok (.getfield 7, 3) := by decide +kernel
theorem dX6_isHad_18 : decode cX6_isHad 18 = .ok (.bipush 12, 2) := by decide +kernel
theorem dX6_isHad_20 : decode cX6_isHad 20 = .ok (.iload_n 3, 1) := by decide +kernel
theorem dX6_isHad_21 : decode cX6_isHad 21 = .ok (.iadd, 1) := by decide +kernel
theorem dX6_isHad_22 : decode cX6_isHad 22 = .ok (.iaload, 1) := by decide +kernel
theorem dX6_isHad_23 : decode cX6_isHad 23 = .ok (.iload_n 1, 1) := by decide +kernel
theorem dX6_isHad_24 : decode cX6_isHad 24 = .ok (.if_icmp .ne 7, 3) := by decide +kernel
theorem dX6_isHad_27 : decode cX6_isHad 27 = .ok (.iconst 1, 1) := by decide +kernel
theorem dX6_isHad_28 : decode cX6_isHad 28 = .ok (.goto 4, 3) := by decide +kernel
theorem dX6_isHad_31 : decode cX6_isHad 31 = .ok (.iconst 0, 1) := by decide +kernel
theorem dX6_isHad_32 : decode cX6_isHad 32 = .ok (.istore_n 2, 1) := by decide +kernel
theorem dX6_isHad_33 : decode cX6_isHad 33 = .ok (.iinc 3 1, 3) := by decide +kernel
theorem dX6_isHad_36 : decode cX6_isHad 36 = .ok (.goto (-32), 3) := by decide +kernel
theorem dX6_isHad_39 : decode cX6_isHad 39 = .ok (.iload_n 2, 1) := by decide +kernel
theorem dX6_isHad_40 : decode cX6_isHad 40 = .ok (.ireturn, 1) := by decide +kernel
theorem dX6_marksOf_0 : decode cX6_marksOf 0 = .ok (.iconst 0, 1) := by decide +kernel
theorem dX6_marksOf_1 : decode cX6_marksOf 1 = .ok (.istore_n 2, 1) := by decide +kernel
theorem dX6_marksOf_2 : decode cX6_marksOf 2 = .ok (.iconst 0, 1) := by decide +kernel
theorem dX6_marksOf_3 : decode cX6_marksOf 3 = .ok (.istore_n 3, 1) := by decide +kernel
theorem dX6_marksOf_4 : decode cX6_marksOf 4 = .ok (.iload_n 3, 1) := by decide +kernel
theorem dX6_marksOf_5 : decode cX6_marksOf 5 = .ok (.aload_n 0, 1) := by decide +kernel
theorem dX6_marksOf_6 : decode cX6_marksOf 6 = .ok (.getfield 7, 3) := by decide +kernel
theorem dX6_marksOf_9 : decode cX6_marksOf 9 = .ok (.iconst 2, 1) := by decide +kernel
theorem dX6_marksOf_10 : decode cX6_marksOf 10 = .ok (.iaload, 1) := by decide +kernel
theorem dX6_marksOf_11 : decode cX6_marksOf 11 = .ok (.if_icmp .ge 54, 3) := by decide +kernel
theorem dX6_marksOf_14 : decode cX6_marksOf 14 = .ok (.iconst 0, 1) := by decide +kernel
theorem dX6_marksOf_15 : decode cX6_marksOf 15 = .ok (.istore 4, 2) := by decide +kernel
theorem dX6_marksOf_17 : decode cX6_marksOf 17 = .ok (.iload 4, 2) := by decide +kernel
theorem dX6_marksOf_19 : decode cX6_marksOf 19 = .ok (.bipush 8, 2) := by decide +kernel
theorem dX6_marksOf_21 : decode cX6_marksOf 21 = .ok (.if_icmp .ge 38, 3) := by decide +kernel
theorem dX6_marksOf_24 : decode cX6_marksOf 24 = .ok (.iload_n 2, 1) := by decide +kernel
theorem dX6_marksOf_25 : decode cX6_marksOf 25 = .ok (.aload_n 0, 1) := by decide +kernel
theorem dX6_marksOf_26 : decode cX6_marksOf 26 = .ok (.getfield 7, 3) := by decide +kernel
theorem dX6_marksOf_29 : decode cX6_marksOf 29 = .ok (.bipush 63, 2) := by decide +kernel
theorem dX6_marksOf_31 : decode cX6_marksOf 31 = .ok (.bipush 16, 2) := by decide +kernel
theorem dX6_marksOf_33 : decode cX6_marksOf 33 = .ok (.iload_n 3, 1) := by decide +kernel
theorem dX6_marksOf_34 : decode cX6_marksOf 34 = .ok (.imul, 1) := by decide +kernel
theorem dX6_marksOf_35 : decode cX6_marksOf 35 = .ok (.iadd, 1) := by decide +kernel
theorem dX6_marksOf_36 : decode cX6_marksOf 36 = .ok (.iload 4, 2) := by decide +kernel
theorem dX6_marksOf_38 : decode cX6_marksOf 38 = .ok (.iadd, 1) := by decide +kernel
theorem dX6_marksOf_39 : decode cX6_marksOf 39 = .ok (.iaload, 1) := by decide +kernel
theorem dX6_marksOf_40 : decode cX6_marksOf 40 = .ok (.iload_n 1, 1) := by decide +kernel
theorem dX6_marksOf_41 : decode cX6_marksOf 41 = .ok (.if_icmp .ne 9, 3) := by decide +kernel
theorem dX6_marksOf_44 : decode cX6_marksOf 44 = .ok (.iconst 1, 1) := by decide +kernel
theorem dX6_marksOf_45 : decode cX6_marksOf 45 = .ok (.iload_n 3, 1) := by decide +kernel
theorem dX6_marksOf_46 : decode cX6_marksOf 46 = .ok (.ishl, 1) := by decide +kernel
theorem dX6_marksOf_47 : decode cX6_marksOf 47 = .ok (.goto 4, 3) := by decide +kernel
theorem dX6_marksOf_50 : decode cX6_marksOf 50 = .ok (.iconst 0, 1) := by decide +kernel
theorem dX6_marksOf_51 : decode cX6_marksOf 51 = .ok (.ior, 1) := by decide +kernel
theorem dX6_marksOf_52 : decode cX6_marksOf 52 = .ok (.istore_n 2, 1) := by decide +kernel
theorem dX6_marksOf_53 : decode cX6_marksOf 53 = .ok (.iinc 4 1, 3) := by decide +kernel
theorem dX6_marksOf_56 : decode cX6_marksOf 56 = .ok (.goto (-39), 3) := by decide +kernel
theorem dX6_marksOf_59 : decode cX6_marksOf 59 = .ok (.iinc 3 1, 3) := by decide +kernel
theorem dX6_marksOf_62 : decode cX6_marksOf 62 = .ok (.goto (-58), 3) := by decide +kernel
theorem dX6_marksOf_65 : decode cX6_marksOf 65 = .ok (.iload_n 2, 1) := by decide +kernel
theorem dX6_marksOf_66 : decode cX6_marksOf 66 = .ok (.ireturn, 1) := by decide +kernel
theorem dX6_readers_0 : decode cX6_readers 0 = .ok (.iconst 0, 1) := by decide +kernel
theorem dX6_readers_1 : decode cX6_readers 1 = .ok (.istore_n 2, 1) := by decide +kernel
theorem dX6_readers_2 : decode cX6_readers 2 = .ok (.iconst 0, 1) := by decide +kernel
theorem dX6_readers_3 : decode cX6_readers 3 = .ok (.istore_n 3, 1) := by decide +kernel
theorem dX6_readers_4 : decode cX6_readers 4 = .ok (.iload_n 3, 1) := by decide +kernel
theorem dX6_readers_5 : decode cX6_readers 5 = .ok (.aload_n 0, 1) := by decide +kernel
theorem dX6_readers_6 : decode cX6_readers 6 = .ok (.getfield 7, 3) := by decide +kernel
theorem dX6_readers_9 : decode cX6_readers 9 = .ok (.iconst 3, 1) := by decide +kernel
theorem dX6_readers_10 : decode cX6_readers 10 = .ok (.iaload, 1) := by decide +kernel
theorem dX6_readers_11 : decode cX6_readers 11 = .ok (.if_icmp .ge 45, 3) := by decide +kernel
theorem dX6_readers_14 : decode cX6_readers 14 = .ok (.iload_n 2, 1) := by decide +kernel
theorem dX6_readers_15 : decode cX6_readers 15 = .ok (.aload_n 0, 1) := by decide +kernel
theorem dX6_readers_16 : decode cX6_readers 16 = .ok (.getfield 7, 3) := by decide +kernel
theorem dX6_readers_19 : decode cX6_readers 19 = .ok (.iload_n 3, 1) := by decide +kernel
theorem dX6_readers_20 : decode cX6_readers 20 = .ok (.iconst 2, 1) := by decide +kernel
theorem dX6_readers_21 : decode cX6_readers 21 = .ok (.invokestatic 47, 3) := by decide +kernel
theorem dX6_readers_24 : decode cX6_readers 24 = .ok (.iaload, 1) := by decide +kernel
theorem dX6_readers_25 : decode cX6_readers 25 = .ok (.iload_n 1, 1) := by decide +kernel
theorem dX6_readers_26 : decode cX6_readers 26 = .ok (.if_icmp .eq 17, 3) := by decide +kernel
theorem dX6_readers_29 : decode cX6_readers 29 = .ok (.aload_n 0, 1) := by decide +kernel
theorem dX6_readers_30 : decode cX6_readers 30 = .ok (.getfield 7, 3) := by decide +kernel
theorem dX6_readers_33 : decode cX6_readers 33 = .ok (.iload_n 3, 1) := by decide +kernel
theorem dX6_readers_34 : decode cX6_readers 34 = .ok (.iconst 3, 1) := by decide +kernel
theorem dX6_readers_35 : decode cX6_readers 35 = .ok (.invokestatic 47, 3) := by decide +kernel
theorem dX6_readers_38 : decode cX6_readers 38 = .ok (.iaload, 1) := by decide +kernel
theorem dX6_readers_39 : decode cX6_readers 39 = .ok (.iload_n 1, 1) := by decide +kernel
theorem dX6_readers_40 : decode cX6_readers 40 = .ok (.if_icmp .ne 7, 3) := by decide +kernel
theorem dX6_readers_43 : decode cX6_readers 43 = .ok (.iconst 1, 1) := by decide +kernel
theorem dX6_readers_44 : decode cX6_readers 44 = .ok (.goto 4, 3) := by decide +kernel
theorem dX6_readers_47 : decode cX6_readers 47 = .ok (.iconst 0, 1) := by decide +kernel
theorem dX6_readers_48 : decode cX6_readers 48 = .ok (.iadd, 1) := by decide +kernel
theorem dX6_readers_49 : decode cX6_readers 49 = .ok (.istore_n 2, 1) := by decide +kernel
theorem dX6_readers_50 : decode cX6_readers 50 = .ok (.iinc 3 1, 3) := by decide +kernel
theorem dX6_readers_53 : decode cX6_readers 53 = .ok (.goto (-49), 3) := by decide +kernel
theorem dX6_readers_56 : decode cX6_readers 56 = .ok (.iload_n 2, 1) := by decide +kernel
theorem dX6_readers_57 : decode cX6_readers 57 = .ok (.ireturn, 1) := by decide +kernel
theorem dX6_isOfOrder_0 : decode cX6_isOfOrder 0 = .ok (.iconst 0, 1) := by decide +kernel
theorem dX6_isOfOrder_1 : decode cX6_isOfOrder 1 = .ok (.istore_n 2, 1) := by decide +kernel
theorem dX6_isOfOrder_2 : decode cX6_isOfOrder 2 = .ok (.iconst 0, 1) := by decide +kernel
theorem dX6_isOfOrder_3 : decode cX6_isOfOrder 3 = .ok (.istore_n 3, 1) := by decide +kernel
theorem dX6_isOfOrder_4 : decode cX6_isOfOrder 4 = .ok (.iload_n 3, 1) := by decide +kernel
theorem dX6_isOfOrder_5 : decode cX6_isOfOrder 5 = .ok (.aload_n 0, 1) := by decide +kernel
theorem dX6_isOfOrder_6 : decode cX6_isOfOrder 6 = .ok (.getfield 7, 3) := by decide +kernel
theorem dX6_isOfOrder_9 : decode cX6_isOfOrder 9 = .ok (.iconst 3, 1) := by decide +kernel
theorem dX6_isOfOrder_10 : decode cX6_isOfOrder 10 = .ok (.iaload, 1) := by decide +kernel
theorem dX6_isOfOrder_11 : decode cX6_isOfOrder 11 = .ok (.if_icmp .ge 33, 3) := by decide +kernel
theorem dX6_isOfOrder_14 : decode cX6_isOfOrder 14 = .ok (.iload_n 2, 1) := by decide +kernel
theorem dX6_isOfOrder_15 : decode cX6_isOfOrder 15 = .ok (.ifCond .ne 17, 3) := by decide +kernel
theorem dX6_isOfOrder_18 : decode cX6_isOfOrder 18 = .ok (.aload_n 0, 1) := by decide +kernel
theorem dX6_isOfOrder_19 : decode cX6_isOfOrder 19 = .ok (.getfield 7, 3) := by decide +kernel
theorem dX6_isOfOrder_22 : decode cX6_isOfOrder 22 = .ok (.iload_n 3, 1) := by decide +kernel
theorem dX6_isOfOrder_23 : decode cX6_isOfOrder 23 = .ok (.iconst 1, 1) := by decide +kernel
theorem dX6_isOfOrder_24 : decode cX6_isOfOrder 24 = .ok (.invokestatic 47, 3) := by decide +kernel
theorem dX6_isOfOrder_27 : decode cX6_isOfOrder 27 = .ok (.iaload, 1) := by decide +kernel
theorem dX6_isOfOrder_28 : decode cX6_isOfOrder 28 = .ok (.iload_n 1, 1) := by decide +kernel
theorem dX6_isOfOrder_29 : decode cX6_isOfOrder 29 = .ok (.if_icmp .ne 7, 3) := by decide +kernel
theorem dX6_isOfOrder_32 : decode cX6_isOfOrder 32 = .ok (.iconst 1, 1) := by decide +kernel
theorem dX6_isOfOrder_33 : decode cX6_isOfOrder 33 = .ok (.goto 4, 3) := by decide +kernel
theorem dX6_isOfOrder_36 : decode cX6_isOfOrder 36 = .ok (.iconst 0, 1) := by decide +kernel
theorem dX6_isOfOrder_37 : decode cX6_isOfOrder 37 = .ok (.istore_n 2, 1) := by decide +kernel
theorem dX6_isOfOrder_38 : decode cX6_isOfOrder 38 = .ok (.iinc 3 1, 3) := by decide +kernel
theorem dX6_isOfOrder_41 : decode cX6_isOfOrder 41 = .ok (.goto (-37), 3) := by decide +kernel
theorem dX6_isOfOrder_44 : decode cX6_isOfOrder 44 = .ok (.iload_n 2, 1) := by decide +kernel
theorem dX6_isOfOrder_45 : decode cX6_isOfOrder 45 = .ok (.ireturn, 1) := by decide +kernel
theorem dX6_frees_0 : decode cX6_frees 0 = .ok (.iconst 0, 1) := by decide +kernel
theorem dX6_frees_1 : decode cX6_frees 1 = .ok (.istore_n 1, 1) := by decide +kernel
theorem dX6_frees_2 : decode cX6_frees 2 = .ok (.iload_n 1, 1) := by decide +kernel
theorem dX6_frees_3 : decode cX6_frees 3 = .ok (.aload_n 0, 1) := by decide +kernel
theorem dX6_frees_4 : decode cX6_frees 4 = .ok (.getfield 7, 3) := by decide +kernel
theorem dX6_frees_7 : decode cX6_frees 7 = .ok (.iconst 0, 1) := by decide +kernel
theorem dX6_frees_8 : decode cX6_frees 8 = .ok (.iaload, 1) := by decide +kernel
theorem dX6_frees_9 : decode cX6_frees 9 = .ok (.if_icmp .ge 75, 3) := by decide +kernel
theorem dX6_frees_12 : decode cX6_frees 12 = .ok (.aload_n 0, 1) := by decide +kernel
theorem dX6_frees_13 : decode cX6_frees 13 = .ok (.iload_n 1, 1) := by decide +kernel
theorem dX6_frees_14 : decode cX6_frees 14 = .ok (.invokevirtual 51, 3) := by decide +kernel
theorem dX6_frees_17 : decode cX6_frees 17 = .ok (.ifCond .ne 27, 3) := by decide +kernel
theorem dX6_frees_20 : decode cX6_frees 20 = .ok (.aload_n 0, 1) := by decide +kernel
theorem dX6_frees_21 : decode cX6_frees 21 = .ok (.iload_n 1, 1) := by decide +kernel
theorem dX6_frees_22 : decode cX6_frees 22 = .ok (.invokevirtual 55, 3) := by decide +kernel
theorem dX6_frees_25 : decode cX6_frees 25 = .ok (.ifCond .gt 19, 3) := by decide +kernel
theorem dX6_frees_28 : decode cX6_frees 28 = .ok (.aload_n 0, 1) := by decide +kernel
theorem dX6_frees_29 : decode cX6_frees 29 = .ok (.iload_n 1, 1) := by decide +kernel
theorem dX6_frees_30 : decode cX6_frees 30 = .ok (.invokevirtual 59, 3) := by decide +kernel
theorem dX6_frees_33 : decode cX6_frees 33 = .ok (.ifCond .gt 11, 3) := by decide +kernel
theorem dX6_frees_36 : decode cX6_frees 36 = .ok (.aload_n 0, 1) := by decide +kernel
theorem dX6_frees_37 : decode cX6_frees 37 = .ok (.iload_n 1, 1) := by decide +kernel
theorem dX6_frees_38 : decode cX6_frees 38 = .ok (.invokevirtual 62, 3) := by decide +kernel
theorem dX6_frees_41 : decode cX6_frees 41 = .ok (.ifCond .eq 7, 3) := by decide +kernel
theorem dX6_frees_44 : decode cX6_frees 44 = .ok (.iconst 1, 1) := by decide +kernel
theorem dX6_frees_45 : decode cX6_frees 45 = .ok (.goto 4, 3) := by decide +kernel
theorem dX6_frees_48 : decode cX6_frees 48 = .ok (.iconst 0, 1) := by decide +kernel
theorem dX6_frees_49 : decode cX6_frees 49 = .ok (.istore_n 2, 1) := by decide +kernel
theorem dX6_frees_50 : decode cX6_frees 50 = .ok (.aload_n 0, 1) := by decide +kernel
theorem dX6_frees_51 : decode cX6_frees 51 = .ok (.getfield 7, 3) := by decide +kernel
theorem dX6_frees_54 : decode cX6_frees 54 = .ok (.iload_n 1, 1) := by decide +kernel
theorem dX6_frees_55 : decode cX6_frees 55 = .ok (.iconst 0, 1) := by decide +kernel
theorem dX6_frees_56 : decode cX6_frees 56 = .ok (.invokestatic 65, 3) := by decide +kernel
theorem dX6_frees_59 : decode cX6_frees 59 = .ok (.iload_n 2, 1) := by decide +kernel
theorem dX6_frees_60 : decode cX6_frees 60 = .ok (.ifCond .eq 16, 3) := by decide +kernel
theorem dX6_frees_63 : decode cX6_frees 63 = .ok (.aload_n 0, 1) := by decide +kernel
theorem dX6_frees_64 : decode cX6_frees 64 = .ok (.getfield 7, 3) := by decide +kernel
theorem dX6_frees_67 : decode cX6_frees 67 = .ok (.iload_n 1, 1) := by decide +kernel
theorem dX6_frees_68 : decode cX6_frees 68 = .ok (.iconst 0, 1) := by decide +kernel
theorem dX6_frees_69 : decode cX6_frees 69 = .ok (.invokestatic 65, 3) := by decide +kernel
theorem dX6_frees_72 : decode cX6_frees 72 = .ok (.iaload, 1) := by decide +kernel
theorem dX6_frees_73 : decode cX6_frees 73 = .ok (.goto 4, 3) := by decide +kernel
theorem dX6_frees_76 : decode cX6_frees 76 = .ok (.iconst 0, 1) := by decide +kernel
theorem dX6_frees_77 : decode cX6_frees 77 = .ok (.iastore, 1) := by decide +kernel
theorem dX6_frees_78 : decode cX6_frees 78 = .ok (.iinc 1 1, 3) := by decide +kernel
theorem dX6_frees_81 : decode cX6_frees 81 = .ok (.goto (-79), 3) := by decide +kernel
theorem dX6_frees_84 : decode cX6_frees 84 = .ok (.return_, 1) := by decide +kernel
theorem dX6_givesUp_0 : decode cX6_givesUp 0 = .ok (.aload_n 0, 1) := by decide +kernel
theorem dX6_givesUp_1 : decode cX6_givesUp 1 = .ok (.getfield 7, 3) := by decide +kernel
theorem dX6_givesUp_4 : decode cX6_givesUp 4 = .ok (.bipush 12, 2) := by decide +kernel
theorem dX6_givesUp_6 : decode cX6_givesUp 6 = .ok (.iload_n 1, 1) := by decide +kernel
theorem dX6_givesUp_7 : decode cX6_givesUp 7 = .ok (.iadd, 1) := by decide +kernel
theorem dX6_givesUp_8 : decode cX6_givesUp 8 = .ok (.iconst (-1), 1) := by decide +kernel
theorem dX6_givesUp_9 : decode cX6_givesUp 9 = .ok (.iastore, 1) := by decide +kernel
theorem dX6_givesUp_10 : decode cX6_givesUp 10 = .ok (.aload_n 0, 1) := by decide +kernel
theorem dX6_givesUp_11 : decode cX6_givesUp 11 = .ok (.invokevirtual 68, 3) := by decide +kernel
theorem dX6_givesUp_14 : decode cX6_givesUp 14 = .ok (.return_, 1) := by decide +kernel
theorem dX6_next_0 : decode cX6_next 0 = .ok (.bipush (-4), 2) := by decide +kernel
theorem dX6_next_2 : decode cX6_next 2 = .ok (.istore_n 3, 1) := by decide +kernel
theorem dX6_next_3 : decode cX6_next 3 = .ok (.iconst 0, 1) := by decide +kernel
theorem dX6_next_4 : decode cX6_next 4 = .ok (.istore 4, 2) := by decide +kernel
theorem dX6_next_6 : decode cX6_next 6 = .ok (.iload 4, 2) := by decide +kernel
theorem dX6_next_8 : decode cX6_next 8 = .ok (.aload_n 0, 1) := by decide +kernel
theorem dX6_next_9 : decode cX6_next 9 = .ok (.getfield 7, 3) := by decide +kernel
theorem dX6_next_12 : decode cX6_next 12 = .ok (.iconst 0, 1) := by decide +kernel
theorem dX6_next_13 : decode cX6_next 13 = .ok (.iaload, 1) := by decide +kernel
theorem dX6_next_14 : decode cX6_next 14 = .ok (.if_icmp .ge 157, 3) := by decide +kernel
theorem dX6_next_17 : decode cX6_next 17 = .ok (.iload_n 1, 1) := by decide +kernel
theorem dX6_next_18 : decode cX6_next 18 = .ok (.ifCond .lt 35, 3) := by decide +kernel
theorem dX6_next_21 : decode cX6_next 21 = .ok (.aload_n 0, 1) := by decide +kernel
theorem dX6_next_22 : decode cX6_next 22 = .ok (.getfield 7, 3) := by decide +kernel
theorem dX6_next_25 : decode cX6_next 25 = .ok (.bipush 12, 2) := by decide +kernel
theorem dX6_next_27 : decode cX6_next 27 = .ok (.iload_n 1, 1) := by decide +kernel
theorem dX6_next_28 : decode cX6_next 28 = .ok (.iadd, 1) := by decide +kernel
theorem dX6_next_29 : decode cX6_next 29 = .ok (.iaload, 1) := by decide +kernel
theorem dX6_next_30 : decode cX6_next 30 = .ok (.iload 4, 2) := by decide +kernel
theorem dX6_next_32 : decode cX6_next 32 = .ok (.if_icmp .eq 17, 3) := by decide +kernel
theorem dX6_next_35 : decode cX6_next 35 = .ok (.aload_n 0, 1) := by decide +kernel
theorem dX6_next_36 : decode cX6_next 36 = .ok (.getfield 7, 3) := by decide +kernel
theorem dX6_next_39 : decode cX6_next 39 = .ok (.bipush 12, 2) := by decide +kernel
theorem dX6_next_41 : decode cX6_next 41 = .ok (.iload_n 2, 1) := by decide +kernel
theorem dX6_next_42 : decode cX6_next 42 = .ok (.iadd, 1) := by decide +kernel
theorem dX6_next_43 : decode cX6_next 43 = .ok (.iaload, 1) := by decide +kernel
theorem dX6_next_44 : decode cX6_next 44 = .ok (.iload 4, 2) := by decide +kernel
theorem dX6_next_46 : decode cX6_next 46 = .ok (.if_icmp .ne 7, 3) := by decide +kernel
theorem dX6_next_49 : decode cX6_next 49 = .ok (.iconst 1, 1) := by decide +kernel
theorem dX6_next_50 : decode cX6_next 50 = .ok (.goto 4, 3) := by decide +kernel
theorem dX6_next_53 : decode cX6_next 53 = .ok (.iconst 0, 1) := by decide +kernel
theorem dX6_next_54 : decode cX6_next 54 = .ok (.istore 5, 2) := by decide +kernel
theorem dX6_next_56 : decode cX6_next 56 = .ok (.aload_n 0, 1) := by decide +kernel
theorem dX6_next_57 : decode cX6_next 57 = .ok (.getfield 7, 3) := by decide +kernel
theorem dX6_next_60 : decode cX6_next 60 = .ok (.iload 4, 2) := by decide +kernel
theorem dX6_next_62 : decode cX6_next 62 = .ok (.iconst 0, 1) := by decide +kernel
theorem dX6_next_63 : decode cX6_next 63 = .ok (.invokestatic 65, 3) := by decide +kernel
theorem dX6_next_66 : decode cX6_next 66 = .ok (.iaload, 1) := by decide +kernel
theorem dX6_next_67 : decode cX6_next 67 = .ok (.iconst 1, 1) := by decide +kernel
theorem dX6_next_68 : decode cX6_next 68 = .ok (.if_icmp .ne 54, 3) := by decide +kernel
theorem dX6_next_71 : decode cX6_next 71 = .ok (.aload_n 0, 1) := by decide +kernel
theorem dX6_next_72 : decode cX6_next 72 = .ok (.getfield 7, 3) := by decide +kernel
theorem dX6_next_75 : decode cX6_next 75 = .ok (.iload 4, 2) := by decide +kernel
theorem dX6_next_77 : decode cX6_next 77 = .ok (.iconst 2, 1) := by decide +kernel
theorem dX6_next_78 : decode cX6_next 78 = .ok (.invokestatic 65, 3) := by decide +kernel
theorem dX6_next_81 : decode cX6_next 81 = .ok (.iaload, 1) := by decide +kernel
theorem dX6_next_82 : decode cX6_next 82 = .ok (.iconst 1, 1) := by decide +kernel
theorem dX6_next_83 : decode cX6_next 83 = .ok (.if_icmp .ne 39, 3) := by decide +kernel
theorem dX6_next_86 : decode cX6_next 86 = .ok (.aload_n 0, 1) := by decide +kernel
theorem dX6_next_87 : decode cX6_next 87 = .ok (.iload 4, 2) := by decide +kernel
theorem dX6_next_89 : decode cX6_next 89 = .ok (.invokevirtual 55, 3) := by decide +kernel
theorem dX6_next_92 : decode cX6_next 92 = .ok (.ifCond .ne 30, 3) := by decide +kernel
theorem dX6_next_95 : decode cX6_next 95 = .ok (.aload_n 0, 1) := by decide +kernel
theorem dX6_next_96 : decode cX6_next 96 = .ok (.iload 4, 2) := by decide +kernel
theorem dX6_next_98 : decode cX6_next 98 = .ok (.invokevirtual 59, 3) := by decide +kernel
theorem dX6_next_101 : decode cX6_next 101 = .ok (.ifCond .ne 21, 3) := by decide +kernel
theorem dX6_next_104 : decode cX6_next 104 = .ok (.aload_n 0, 1) := by decide +kernel
theorem dX6_next_105 : decode cX6_next 105 = .ok (.iload 4, 2) := by decide +kernel
theorem dX6_next_107 : decode cX6_next 107 = .ok (.invokevirtual 62, 3) := by decide +kernel
theorem dX6_next_110 : decode cX6_next 110 = .ok (.ifCond .ne 12, 3) := by decide +kernel
theorem dX6_next_113 : decode cX6_next 113 = .ok (.iload 5, 2) := by decide +kernel
theorem dX6_next_115 : decode cX6_next 115 = .ok (.ifCond .ne 7, 3) := by decide +kernel
theorem dX6_next_118 : decode cX6_next 118 = .ok (.iconst 1, 1) := by decide +kernel
theorem dX6_next_119 : decode cX6_next 119 = .ok (.goto 4, 3) := by decide +kernel
theorem dX6_next_122 : decode cX6_next 122 = .ok (.iconst 0, 1) := by decide +kernel
theorem dX6_next_123 : decode cX6_next 123 = .ok (.istore 6, 2) := by decide +kernel
theorem dX6_next_125 : decode cX6_next 125 = .ok (.iload 6, 2) := by decide +kernel
theorem dX6_next_127 : decode cX6_next 127 = .ok (.ifCond .eq 36, 3) := by decide +kernel
theorem dX6_next_130 : decode cX6_next 130 = .ok (.iload_n 3, 1) := by decide +kernel
theorem dX6_next_131 : decode cX6_next 131 = .ok (.ifCond .lt 27, 3) := by decide +kernel
theorem dX6_next_134 : decode cX6_next 134 = .ok (.aload_n 0, 1) := by decide +kernel
theorem dX6_next_135 : decode cX6_next 135 = .ok (.getfield 7, 3) := by decide +kernel
theorem dX6_next_138 : decode cX6_next 138 = .ok (.iload 4, 2) := by decide +kernel
theorem dX6_next_140 : decode cX6_next 140 = .ok (.iconst 4, 1) := by decide +kernel
theorem dX6_next_141 : decode cX6_next 141 = .ok (.invokestatic 65, 3) := by decide +kernel
theorem dX6_next_144 : decode cX6_next 144 = .ok (.iaload, 1) := by decide +kernel
theorem dX6_next_145 : decode cX6_next 145 = .ok (.aload_n 0, 1) := by decide +kernel
theorem dX6_next_146 : decode cX6_next 146 = .ok (.getfield 7, 3) := by decide +kernel
theorem dX6_next_149 : decode cX6_next 149 = .ok (.iload_n 3, 1) := by decide +kernel
theorem dX6_next_150 : decode cX6_next 150 = .ok (.iconst 4, 1) := by decide +kernel
theorem dX6_next_151 : decode cX6_next 151 = .ok (.invokestatic 65, 3) := by decide +kernel
theorem dX6_next_154 : decode cX6_next 154 = .ok (.iaload, 1) := by decide +kernel
theorem dX6_next_155 : decode cX6_next 155 = .ok (.if_icmp .ge 8, 3) := by decide +kernel
theorem dX6_next_158 : decode cX6_next 158 = .ok (.iload 4, 2) := by decide +kernel
theorem dX6_next_160 : decode cX6_next 160 = .ok (.goto 4, 3) := by decide +kernel
theorem dX6_next_163 : decode cX6_next 163 = .ok (.iload_n 3, 1) := by decide +kernel
theorem dX6_next_164 : decode cX6_next 164 = .ok (.istore_n 3, 1) := by decide +kernel
theorem dX6_next_165 : decode cX6_next 165 = .ok (.iinc 4 1, 3) := by decide +kernel
theorem dX6_next_168 : decode cX6_next 168 = .ok (.goto (-162), 3) := by decide +kernel
theorem dX6_next_171 : decode cX6_next 171 = .ok (.iload_n 3, 1) := by decide +kernel
theorem dX6_next_172 : decode cX6_next 172 = .ok (.ireturn, 1) := by decide +kernel
theorem dX6_chairFor_0 : decode cX6_chairFor 0 = .ok (.iconst 0, 1) := by decide +kernel
theorem dX6_chairFor_1 : decode cX6_chairFor 1 = .ok (.istore_n 3, 1) := by decide +kernel
theorem dX6_chairFor_2 : decode cX6_chairFor 2 = .ok (.iload_n 3, 1) := by decide +kernel
theorem dX6_chairFor_3 : decode cX6_chairFor 3 = .ok (.aload_n 0, 1) := by decide +kernel
theorem dX6_chairFor_4 : decode cX6_chairFor 4 = .ok (.getfield 7, 3) := by decide +kernel
theorem dX6_chairFor_7 : decode cX6_chairFor 7 = .ok (.iconst 0, 1) := by decide +kernel
theorem dX6_chairFor_8 : decode cX6_chairFor 8 = .ok (.iaload, 1) := by decide +kernel
theorem dX6_chairFor_9 : decode cX6_chairFor 9 = .ok (.if_icmp .ge 24, 3) := by decide +kernel
theorem dX6_chairFor_12 : decode cX6_chairFor 12 = .ok (.aload_n 0, 1) := by decide +kernel
theorem dX6_chairFor_13 : decode cX6_chairFor 13 = .ok (.getfield 7, 3) := by decide +kernel
theorem dX6_chairFor_16 : decode cX6_chairFor 16 = .ok (.iload_n 3, 1) := by decide +kernel
theorem dX6_chairFor_17 : decode cX6_chairFor 17 = .ok (.iconst 0, 1) := by decide +kernel
theorem dX6_chairFor_18 : decode cX6_chairFor 18 = .ok (.invokestatic 65, 3) := by decide +kernel
theorem dX6_chairFor_21 : decode cX6_chairFor 21 = .ok (.iaload, 1) := by decide +kernel
theorem dX6_chairFor_22 : decode cX6_chairFor 22 = .ok (.ifCond .ne 5, 3) := by decide +kernel
theorem dX6_chairFor_25 : decode cX6_chairFor 25 = .ok (.iload_n 3, 1) := by decide +kernel
theorem dX6_chairFor_26 : decode cX6_chairFor 26 = .ok (.ireturn, 1) := by decide +kernel
theorem dX6_chairFor_27 : decode cX6_chairFor 27 = .ok (.iinc 3 1, 3) := by decide +kernel
theorem dX6_chairFor_30 : decode cX6_chairFor 30 = .ok (.goto (-28), 3) := by decide +kernel
theorem dX6_chairFor_33 : decode cX6_chairFor 33 = .ok (.aload_n 0, 1) := by decide +kernel
theorem dX6_chairFor_34 : decode cX6_chairFor 34 = .ok (.iload_n 1, 1) := by decide +kernel
theorem dX6_chairFor_35 : decode cX6_chairFor 35 = .ok (.iload_n 2, 1) := by decide +kernel
theorem dX6_chairFor_36 : decode cX6_chairFor 36 = .ok (.invokevirtual 71, 3) := by decide +kernel
theorem dX6_chairFor_39 : decode cX6_chairFor 39 = .ok (.istore_n 3, 1) := by decide +kernel
theorem dX6_chairFor_40 : decode cX6_chairFor 40 = .ok (.iconst 0, 1) := by decide +kernel
theorem dX6_chairFor_41 : decode cX6_chairFor 41 = .ok (.istore 4, 2) := by decide +kernel
theorem dX6_chairFor_43 : decode cX6_chairFor 43 = .ok (.iload 4, 2) := by decide +kernel
theorem dX6_chairFor_45 : decode cX6_chairFor 45 = .ok (.bipush 8, 2) := by decide +kernel
theorem dX6_chairFor_47 : decode cX6_chairFor 47 = .ok (.if_icmp .ge 58, 3) := by decide +kernel
theorem dX6_chairFor_50 : decode cX6_chairFor 50 = .ok (.iload_n 3, 1) := by decide +kernel
theorem dX6_chairFor_51 : decode cX6_chairFor 51 = .ok (.ifCond .lt 54, 3) := by decide +kernel
theorem dX6_chairFor_54 : decode cX6_chairFor 54 = .ok (.aload_n 0, 1) := by decide +kernel
theorem dX6_chairFor_55 : decode cX6_chairFor 55 = .ok (.getfield 7, 3) := by decide +kernel
theorem dX6_chairFor_58 : decode cX6_chairFor 58 = .ok (.bipush 12, 2) := by decide +kernel
theorem dX6_chairFor_60 : decode cX6_chairFor 60 = .ok (.iload 4, 2) := by decide +kernel
theorem dX6_chairFor_62 : decode cX6_chairFor 62 = .ok (.iadd, 1) := by decide +kernel
theorem dX6_chairFor_63 : decode cX6_chairFor 63 = .ok (.iaload, 1) := by decide +kernel
theorem dX6_chairFor_64 : decode cX6_chairFor 64 = .ok (.iload_n 3, 1) := by decide +kernel
theorem dX6_chairFor_65 : decode cX6_chairFor 65 = .ok (.if_icmp .ne 34, 3) := by decide +kernel
theorem dX6_chairFor_68 : decode cX6_chairFor 68 = .ok (.aload_n 0, 1) := by decide +kernel
theorem dX6_chairFor_69 : decode cX6_chairFor 69 = .ok (.getfield 7, 3) := by decide +kernel
theorem dX6_chairFor_72 : decode cX6_chairFor 72 = .ok (.bipush 12, 2) := by decide +kernel
theorem dX6_chairFor_74 : decode cX6_chairFor 74 = .ok (.iload 4, 2) := by decide +kernel
theorem dX6_chairFor_76 : decode cX6_chairFor 76 = .ok (.iadd, 1) := by decide +kernel
theorem dX6_chairFor_77 : decode cX6_chairFor 77 = .ok (.iconst (-1), 1) := by decide +kernel
theorem dX6_chairFor_78 : decode cX6_chairFor 78 = .ok (.iastore, 1) := by decide +kernel
theorem dX6_chairFor_79 : decode cX6_chairFor 79 = .ok (.aload_n 0, 1) := by decide +kernel
theorem dX6_chairFor_80 : decode cX6_chairFor 80 = .ok (.getfield 7, 3) := by decide +kernel
theorem dX6_chairFor_83 : decode cX6_chairFor 83 = .ok (.bipush 20, 2) := by decide +kernel
theorem dX6_chairFor_85 : decode cX6_chairFor 85 = .ok (.iload 4, 2) := by decide +kernel
theorem dX6_chairFor_87 : decode cX6_chairFor 87 = .ok (.iadd, 1) := by decide +kernel
theorem dX6_chairFor_88 : decode cX6_chairFor 88 = .ok (.aload_n 0, 1) := by decide +kernel
theorem dX6_chairFor_89 : decode cX6_chairFor 89 = .ok (.getfield 7, 3) := by decide +kernel
theorem dX6_chairFor_92 : decode cX6_chairFor 92 = .ok (.iload_n 3, 1) := by decide +kernel
theorem dX6_chairFor_93 : decode cX6_chairFor 93 = .ok (.iconst 1, 1) := by decide +kernel
theorem dX6_chairFor_94 : decode cX6_chairFor 94 = .ok (.invokestatic 65, 3) := by decide +kernel
theorem dX6_chairFor_97 : decode cX6_chairFor 97 = .ok (.iaload, 1) := by decide +kernel
theorem dX6_chairFor_98 : decode cX6_chairFor 98 = .ok (.iastore, 1) := by decide +kernel
theorem dX6_chairFor_99 : decode cX6_chairFor 99 = .ok (.iinc 4 1, 3) := by decide +kernel
theorem dX6_chairFor_102 : decode cX6_chairFor 102 = .ok (.goto (-59), 3) := by decide +kernel
theorem dX6_chairFor_105 : decode cX6_chairFor 105 = .ok (.aload_n 0, 1) := by decide +kernel
theorem dX6_chairFor_106 : decode cX6_chairFor 106 = .ok (.getfield 7, 3) := by decide +kernel
theorem dX6_chairFor_109 : decode cX6_chairFor 109 = .ok (.iconst 5, 1) := by decide +kernel
theorem dX6_chairFor_110 : decode cX6_chairFor 110 = .ok (.dup2, 1) := by decide +kernel
theorem dX6_chairFor_111 : decode cX6_chairFor 111 = .ok (.iaload, 1) := by decide +kernel
theorem dX6_chairFor_112 : decode cX6_chairFor 112 = .ok (.iload_n 3, 1) := by decide +kernel
theorem dX6_chairFor_113 : decode cX6_chairFor 113 = .ok (.ifCond .lt 7, 3) := by decide +kernel
theorem dX6_chairFor_116 : decode cX6_chairFor 116 = .ok (.iconst 1, 1) := by decide +kernel
theorem dX6_chairFor_117 : decode cX6_chairFor 117 = .ok (.goto 4, 3) := by decide +kernel
theorem dX6_chairFor_120 : decode cX6_chairFor 120 = .ok (.iconst 0, 1) := by decide +kernel
theorem dX6_chairFor_121 : decode cX6_chairFor 121 = .ok (.iadd, 1) := by decide +kernel
theorem dX6_chairFor_122 : decode cX6_chairFor 122 = .ok (.iastore, 1) := by decide +kernel
theorem dX6_chairFor_123 : decode cX6_chairFor 123 = .ok (.iload_n 3, 1) := by decide +kernel
theorem dX6_chairFor_124 : decode cX6_chairFor 124 = .ok (.ireturn, 1) := by decide +kernel
theorem dX6_gets_0 : decode cX6_gets 0 = .ok (.aload_n 0, 1) := by decide +kernel
theorem dX6_gets_1 : decode cX6_gets 1 = .ok (.iload_n 2, 1) := by decide +kernel
theorem dX6_gets_2 : decode cX6_gets 2 = .ok (.iload_n 3, 1) := by decide +kernel
theorem dX6_gets_3 : decode cX6_gets 3 = .ok (.invokevirtual 74, 3) := by decide +kernel
theorem dX6_gets_6 : decode cX6_gets 6 = .ok (.istore 4, 2) := by decide +kernel
theorem dX6_gets_8 : decode cX6_gets 8 = .ok (.iload 4, 2) := by decide +kernel
theorem dX6_gets_10 : decode cX6_gets 10 = .ok (.ifCond .ge 6, 3) := by decide +kernel
theorem dX6_gets_13 : decode cX6_gets 13 = .ok (.bipush (-4), 2) := by decide +kernel
theorem dX6_gets_15 : decode cX6_gets 15 = .ok (.ireturn, 1) := by decide +kernel
theorem dX6_gets_16 : decode cX6_gets 16 = .ok (.aload_n 0, 1) := by decide +kernel
theorem dX6_gets_17 : decode cX6_gets 17 = .ok (.getfield 7, 3) := by decide +kernel
theorem dX6_gets_20 : decode cX6_gets 20 = .ok (.bipush 12, 2) := by decide +kernel
theorem dX6_gets_22 : decode cX6_gets 22 = .ok (.iload_n 1, 1) := by decide +kernel
theorem dX6_gets_23 : decode cX6_gets 23 = .ok (.iadd, 1) := by decide +kernel
theorem dX6_gets_24 : decode cX6_gets 24 = .ok (.iload 4, 2) := by decide +kernel
theorem dX6_gets_26 : decode cX6_gets 26 = .ok (.iastore, 1) := by decide +kernel
theorem dX6_gets_27 : decode cX6_gets 27 = .ok (.aload_n 0, 1) := by decide +kernel
theorem dX6_gets_28 : decode cX6_gets 28 = .ok (.getfield 7, 3) := by decide +kernel
theorem dX6_gets_31 : decode cX6_gets 31 = .ok (.iload 4, 2) := by decide +kernel
theorem dX6_gets_33 : decode cX6_gets 33 = .ok (.iconst 0, 1) := by decide +kernel
theorem dX6_gets_34 : decode cX6_gets 34 = .ok (.invokestatic 65, 3) := by decide +kernel
theorem dX6_gets_37 : decode cX6_gets 37 = .ok (.iconst 1, 1) := by decide +kernel
theorem dX6_gets_38 : decode cX6_gets 38 = .ok (.iastore, 1) := by decide +kernel
theorem dX6_gets_39 : decode cX6_gets 39 = .ok (.aload_n 0, 1) := by decide +kernel
theorem dX6_gets_40 : decode cX6_gets 40 = .ok (.getfield 7, 3) := by decide +kernel
theorem dX6_gets_43 : decode cX6_gets 43 = .ok (.iload 4, 2) := by decide +kernel
theorem dX6_gets_45 : decode cX6_gets 45 = .ok (.iconst 1, 1) := by decide +kernel
theorem dX6_gets_46 : decode cX6_gets 46 = .ok (.invokestatic 65, 3) := by decide +kernel
theorem dX6_gets_49 : decode cX6_gets 49 = .ok (.iconst 0, 1) := by decide +kernel
theorem dX6_gets_50 : decode cX6_gets 50 = .ok (.iastore, 1) := by decide +kernel
theorem dX6_gets_51 : decode cX6_gets 51 = .ok (.aload_n 0, 1) := by decide +kernel
theorem dX6_gets_52 : decode cX6_gets 52 = .ok (.getfield 7, 3) := by decide +kernel
theorem dX6_gets_55 : decode cX6_gets 55 = .ok (.iload 4, 2) := by decide +kernel
theorem dX6_gets_57 : decode cX6_gets 57 = .ok (.iconst 2, 1) := by decide +kernel
theorem dX6_gets_58 : decode cX6_gets 58 = .ok (.invokestatic 65, 3) := by decide +kernel
theorem dX6_gets_61 : decode cX6_gets 61 = .ok (.iconst 0, 1) := by decide +kernel
theorem dX6_gets_62 : decode cX6_gets 62 = .ok (.iastore, 1) := by decide +kernel
theorem dX6_gets_63 : decode cX6_gets 63 = .ok (.aload_n 0, 1) := by decide +kernel
theorem dX6_gets_64 : decode cX6_gets 64 = .ok (.getfield 7, 3) := by decide +kernel
theorem dX6_gets_67 : decode cX6_gets 67 = .ok (.iload 4, 2) := by decide +kernel
theorem dX6_gets_69 : decode cX6_gets 69 = .ok (.iconst 3, 1) := by decide +kernel
theorem dX6_gets_70 : decode cX6_gets 70 = .ok (.invokestatic 65, 3) := by decide +kernel
theorem dX6_gets_73 : decode cX6_gets 73 = .ok (.iconst (-1), 1) := by decide +kernel
theorem dX6_gets_74 : decode cX6_gets 74 = .ok (.iastore, 1) := by decide +kernel
theorem dX6_gets_75 : decode cX6_gets 75 = .ok (.aload_n 0, 1) := by decide +kernel
theorem dX6_gets_76 : decode cX6_gets 76 = .ok (.getfield 7, 3) := by decide +kernel
theorem dX6_gets_79 : decode cX6_gets 79 = .ok (.iload 4, 2) := by decide +kernel
theorem dX6_gets_81 : decode cX6_gets 81 = .ok (.iconst 4, 1) := by decide +kernel
theorem dX6_gets_82 : decode cX6_gets 82 = .ok (.invokestatic 65, 3) := by decide +kernel
theorem dX6_gets_85 : decode cX6_gets 85 = .ok (.aload_n 0, 1) := by decide +kernel
theorem dX6_gets_86 : decode cX6_gets 86 = .ok (.getfield 7, 3) := by decide +kernel
theorem dX6_gets_89 : decode cX6_gets 89 = .ok (.bipush 7, 2) := by decide +kernel
theorem dX6_gets_91 : decode cX6_gets 91 = .ok (.iaload, 1) := by decide +kernel
theorem dX6_gets_92 : decode cX6_gets 92 = .ok (.iastore, 1) := by decide +kernel
theorem dX6_gets_93 : decode cX6_gets 93 = .ok (.iload 4, 2) := by decide +kernel
theorem dX6_gets_95 : decode cX6_gets 95 = .ok (.ireturn, 1) := by decide +kernel
theorem dX6_isKnown_0 : decode cX6_isKnown 0 = .ok (.aload_n 0, 1) := by decide +kernel
theorem dX6_isKnown_1 : decode cX6_isKnown 1 = .ok (.getfield 7, 3) := by decide +kernel
theorem dX6_isKnown_4 : decode cX6_isKnown 4 = .ok (.iload_n 1, 1) := by decide +kernel
theorem dX6_isKnown_5 : decode cX6_isKnown 5 = .ok (.iconst 1, 1) := by decide +kernel
theorem dX6_isKnown_6 : decode cX6_isKnown 6 = .ok (.invokestatic 65, 3) := by decide +kernel
theorem dX6_isKnown_9 : decode cX6_isKnown 9 = .ok (.iload_n 2, 1) := by decide +kernel
theorem dX6_isKnown_10 : decode cX6_isKnown 10 = .ok (.iastore, 1) := by decide +kernel
theorem dX6_isKnown_11 : decode cX6_isKnown 11 = .ok (.aload_n 0, 1) := by decide +kernel
theorem dX6_isKnown_12 : decode cX6_isKnown 12 = .ok (.getfield 7, 3) := by decide +kernel
theorem dX6_isKnown_15 : decode cX6_isKnown 15 = .ok (.iload_n 1, 1) := by decide +kernel
theorem dX6_isKnown_16 : decode cX6_isKnown 16 = .ok (.iconst 2, 1) := by decide +kernel
theorem dX6_isKnown_17 : decode cX6_isKnown 17 = .ok (.invokestatic 65, 3) := by decide +kernel
theorem dX6_isKnown_20 : decode cX6_isKnown 20 = .ok (.iconst 1, 1) := by decide +kernel
theorem dX6_isKnown_21 : decode cX6_isKnown 21 = .ok (.iastore, 1) := by decide +kernel
theorem dX6_isKnown_22 : decode cX6_isKnown 22 = .ok (.aload_n 0, 1) := by decide +kernel
theorem dX6_isKnown_23 : decode cX6_isKnown 23 = .ok (.getfield 7, 3) := by decide +kernel
theorem dX6_isKnown_26 : decode cX6_isKnown 26 = .ok (.iload_n 1, 1) := by decide +kernel
theorem dX6_isKnown_27 : decode cX6_isKnown 27 = .ok (.iconst 3, 1) := by decide +kernel
theorem dX6_isKnown_28 : decode cX6_isKnown 28 = .ok (.invokestatic 65, 3) := by decide +kernel
theorem dX6_isKnown_31 : decode cX6_isKnown 31 = .ok (.iconst (-1), 1) := by decide +kernel
theorem dX6_isKnown_32 : decode cX6_isKnown 32 = .ok (.iastore, 1) := by decide +kernel
theorem dX6_isKnown_33 : decode cX6_isKnown 33 = .ok (.return_, 1) := by decide +kernel
theorem dX6_sits_0 : decode cX6_sits 0 = .ok (.aload_n 0, 1) := by decide +kernel
theorem dX6_sits_1 : decode cX6_sits 1 = .ok (.getfield 7, 3) := by decide +kernel
theorem dX6_sits_4 : decode cX6_sits 4 = .ok (.bipush 12, 2) := by decide +kernel
theorem dX6_sits_6 : decode cX6_sits 6 = .ok (.iload_n 1, 1) := by decide +kernel
theorem dX6_sits_7 : decode cX6_sits 7 = .ok (.iadd, 1) := by decide +kernel
theorem dX6_sits_8 : decode cX6_sits 8 = .ok (.iaload, 1) := by decide +kernel
theorem dX6_sits_9 : decode cX6_sits 9 = .ok (.ifCond .lt 5, 3) := by decide +kernel
theorem dX6_sits_12 : decode cX6_sits 12 = .ok (.iconst 1, 1) := by decide +kernel
theorem dX6_sits_13 : decode cX6_sits 13 = .ok (.ireturn, 1) := by decide +kernel
theorem dX6_sits_14 : decode cX6_sits 14 = .ok (.aload_n 0, 1) := by decide +kernel
theorem dX6_sits_15 : decode cX6_sits 15 = .ok (.iload_n 1, 1) := by decide +kernel
theorem dX6_sits_16 : decode cX6_sits 16 = .ok (.iload_n 2, 1) := by decide +kernel
theorem dX6_sits_17 : decode cX6_sits 17 = .ok (.iload_n 3, 1) := by decide +kernel
theorem dX6_sits_18 : decode cX6_sits 18 = .ok (.invokevirtual 77, 3) := by decide +kernel
theorem dX6_sits_21 : decode cX6_sits 21 = .ok (.istore 4, 2) := by decide +kernel
theorem dX6_sits_23 : decode cX6_sits 23 = .ok (.iload 4, 2) := by decide +kernel
theorem dX6_sits_25 : decode cX6_sits 25 = .ok (.ifCond .ge 5, 3) := by decide +kernel
theorem dX6_sits_28 : decode cX6_sits 28 = .ok (.iconst 0, 1) := by decide +kernel
theorem dX6_sits_29 : decode cX6_sits 29 = .ok (.ireturn, 1) := by decide +kernel
theorem dX6_sits_30 : decode cX6_sits 30 = .ok (.aload_n 0, 1) := by decide +kernel
theorem dX6_sits_31 : decode cX6_sits 31 = .ok (.getfield 7, 3) := by decide +kernel
theorem dX6_sits_34 : decode cX6_sits 34 = .ok (.bipush 10, 2) := by decide +kernel
theorem dX6_sits_36 : decode cX6_sits 36 = .ok (.iaload, 1) := by decide +kernel
theorem dX6_sits_37 : decode cX6_sits 37 = .ok (.istore 5, 2) := by decide +kernel
theorem dX6_sits_39 : decode cX6_sits 39 = .ok (.aload_n 0, 1) := by decide +kernel
theorem dX6_sits_40 : decode cX6_sits 40 = .ok (.getfield 7, 3) := by decide +kernel
theorem dX6_sits_43 : decode cX6_sits 43 = .ok (.bipush 6, 2) := by decide +kernel
theorem dX6_sits_45 : decode cX6_sits 45 = .ok (.dup2, 1) := by decide +kernel
theorem dX6_sits_46 : decode cX6_sits 46 = .ok (.iaload, 1) := by decide +kernel
theorem dX6_sits_47 : decode cX6_sits 47 = .ok (.iconst 1, 1) := by decide +kernel
theorem dX6_sits_48 : decode cX6_sits 48 = .ok (.iadd, 1) := by decide +kernel
theorem dX6_sits_49 : decode cX6_sits 49 = .ok (.iastore, 1) := by decide +kernel
theorem dX6_sits_50 : decode cX6_sits 50 = .ok (.aload_n 0, 1) := by decide +kernel
theorem dX6_sits_51 : decode cX6_sits 51 = .ok (.getfield 7, 3) := by decide +kernel
theorem dX6_sits_54 : decode cX6_sits 54 = .ok (.iload 4, 2) := by decide +kernel
theorem dX6_sits_56 : decode cX6_sits 56 = .ok (.iconst 1, 1) := by decide +kernel
theorem dX6_sits_57 : decode cX6_sits 57 = .ok (.invokestatic 65, 3) := by decide +kernel
theorem dX6_sits_60 : decode cX6_sits 60 = .ok (.aload_n 0, 1) := by decide +kernel
theorem dX6_sits_61 : decode cX6_sits 61 = .ok (.getfield 7, 3) := by decide +kernel
theorem dX6_sits_64 : decode cX6_sits 64 = .ok (.bipush 20, 2) := by decide +kernel
theorem dX6_sits_66 : decode cX6_sits 66 = .ok (.iload_n 1, 1) := by decide +kernel
theorem dX6_sits_67 : decode cX6_sits 67 = .ok (.iadd, 1) := by decide +kernel
theorem dX6_sits_68 : decode cX6_sits 68 = .ok (.iaload, 1) := by decide +kernel
theorem dX6_sits_69 : decode cX6_sits 69 = .ok (.iastore, 1) := by decide +kernel
theorem dX6_sits_70 : decode cX6_sits 70 = .ok (.aload_n 0, 1) := by decide +kernel
theorem dX6_sits_71 : decode cX6_sits 71 = .ok (.getfield 7, 3) := by decide +kernel
theorem dX6_sits_74 : decode cX6_sits 74 = .ok (.iload 4, 2) := by decide +kernel
theorem dX6_sits_76 : decode cX6_sits 76 = .ok (.iconst 2, 1) := by decide +kernel
theorem dX6_sits_77 : decode cX6_sits 77 = .ok (.invokestatic 65, 3) := by decide +kernel
theorem dX6_sits_80 : decode cX6_sits 80 = .ok (.iload 5, 2) := by decide +kernel
theorem dX6_sits_82 : decode cX6_sits 82 = .ok (.ifCond .ne 7, 3) := by decide +kernel
theorem dX6_sits_85 : decode cX6_sits 85 = .ok (.iconst 1, 1) := by decide +kernel
theorem dX6_sits_86 : decode cX6_sits 86 = .ok (.goto 4, 3) := by decide +kernel
theorem dX6_sits_89 : decode cX6_sits 89 = .ok (.iconst 0, 1) := by decide +kernel
theorem dX6_sits_90 : decode cX6_sits 90 = .ok (.iastore, 1) := by decide +kernel
theorem dX6_sits_91 : decode cX6_sits 91 = .ok (.aload_n 0, 1) := by decide +kernel
theorem dX6_sits_92 : decode cX6_sits 92 = .ok (.getfield 7, 3) := by decide +kernel
theorem dX6_sits_95 : decode cX6_sits 95 = .ok (.iload 4, 2) := by decide +kernel
theorem dX6_sits_97 : decode cX6_sits 97 = .ok (.iconst 3, 1) := by decide +kernel
theorem dX6_sits_98 : decode cX6_sits 98 = .ok (.invokestatic 65, 3) := by decide +kernel
theorem dX6_sits_101 : decode cX6_sits 101 = .ok (.iload 5, 2) := by decide +kernel
theorem dX6_sits_103 : decode cX6_sits 103 = .ok (.ifCond .ne 7, 3) := by decide +kernel
theorem dX6_sits_106 : decode cX6_sits 106 = .ok (.iconst (-1), 1) := by decide +kernel
theorem dX6_sits_107 : decode cX6_sits 107 = .ok (.goto 12, 3) := by decide +kernel
theorem dX6_sits_110 : decode cX6_sits 110 = .ok (.aload_n 0, 1) := by decide +kernel
theorem dX6_sits_111 : decode cX6_sits 111 = .ok (.getfield 7, 3) := by decide +kernel
theorem dX6_sits_114 : decode cX6_sits 114 = .ok (.iconst 1, 1) := by decide +kernel
theorem dX6_sits_115 : decode cX6_sits 115 = .ok (.iaload, 1) := by decide +kernel
theorem dX6_sits_116 : decode cX6_sits 116 = .ok (.iload 5, 2) := by decide +kernel
theorem dX6_sits_118 : decode cX6_sits 118 = .ok (.iadd, 1) := by decide +kernel
theorem dX6_sits_119 : decode cX6_sits 119 = .ok (.iastore, 1) := by decide +kernel
theorem dX6_sits_120 : decode cX6_sits 120 = .ok (.iconst 1, 1) := by decide +kernel
theorem dX6_sits_121 : decode cX6_sits 121 = .ok (.ireturn, 1) := by decide +kernel
theorem dX6_begin_0 : decode cX6_begin 0 = .ok (.iload_n 1, 1) := by decide +kernel
theorem dX6_begin_1 : decode cX6_begin 1 = .ok (.iconst 3, 1) := by decide +kernel
theorem dX6_begin_2 : decode cX6_begin 2 = .ok (.bipush 7, 2) := by decide +kernel
theorem dX6_begin_4 : decode cX6_begin 4 = .ok (.invokestatic 43, 3) := by decide +kernel
theorem dX6_begin_7 : decode cX6_begin 7 = .ok (.ifCond .ne 5, 3) := by decide +kernel
theorem dX6_begin_10 : decode cX6_begin 10 = .ok (.iconst (-1), 1) := by decide +kernel
theorem dX6_begin_11 : decode cX6_begin 11 = .ok (.ireturn, 1) := by decide +kernel
theorem dX6_begin_12 : decode cX6_begin 12 = .ok (.aload_n 0, 1) := by decide +kernel
theorem dX6_begin_13 : decode cX6_begin 13 = .ok (.aload_n 0, 1) := by decide +kernel
theorem dX6_begin_14 : decode cX6_begin 14 = .ok (.getfield 7, 3) := by decide +kernel
theorem dX6_begin_17 : decode cX6_begin 17 = .ok (.invokevirtual 81, 3) := by decide +kernel
theorem dX6_begin_20 : decode cX6_begin 20 = .ok (.aload_n 0, 1) := by decide +kernel
theorem dX6_begin_21 : decode cX6_begin 21 = .ok (.getfield 7, 3) := by decide +kernel
theorem dX6_begin_24 : decode cX6_begin 24 = .ok (.iconst 0, 1) := by decide +kernel
theorem dX6_begin_25 : decode cX6_begin 25 = .ok (.iaload, 1) := by decide +kernel
theorem dX6_begin_26 : decode cX6_begin 26 = .ok (.istore_n 2, 1) := by decide +kernel
theorem dX6_begin_27 : decode cX6_begin 27 = .ok (.aload_n 0, 1) := by decide +kernel
theorem dX6_begin_28 : decode cX6_begin 28 = .ok (.iload_n 1, 1) := by decide +kernel
theorem dX6_begin_29 : decode cX6_begin 29 = .ok (.invokevirtual 31, 3) := by decide +kernel
theorem dX6_begin_32 : decode cX6_begin 32 = .ok (.iload_n 2, 1) := by decide +kernel
theorem dX6_begin_33 : decode cX6_begin 33 = .ok (.ireturn, 1) := by decide +kernel
theorem dX6_put_0 : decode cX6_put 0 = .ok (.iload_n 1, 1) := by decide +kernel
theorem dX6_put_1 : decode cX6_put 1 = .ok (.invokestatic 85, 3) := by decide +kernel
theorem dX6_put_4 : decode cX6_put 4 = .ok (.ifCond .eq 14, 3) := by decide +kernel
theorem dX6_put_7 : decode cX6_put 7 = .ok (.iload_n 2, 1) := by decide +kernel
theorem dX6_put_8 : decode cX6_put 8 = .ok (.iconst 0, 1) := by decide +kernel
theorem dX6_put_9 : decode cX6_put 9 = .ok (.sipush 9999, 3) := by decide +kernel
theorem dX6_put_12 : decode cX6_put 12 = .ok (.invokestatic 43, 3) := by decide +kernel
theorem dX6_put_15 : decode cX6_put 15 = .ok (.ifCond .ne 5, 3) := by decide +kernel
theorem dX6_put_18 : decode cX6_put 18 = .ok (.iconst (-1), 1) := by decide +kernel
theorem dX6_put_19 : decode cX6_put 19 = .ok (.ireturn, 1) := by decide +kernel
theorem dX6_put_20 : decode cX6_put 20 = .ok (.aload_n 0, 1) := by decide +kernel
theorem dX6_put_21 : decode cX6_put 21 = .ok (.getfield 7, 3) := by decide +kernel
theorem dX6_put_24 : decode cX6_put 24 = .ok (.aload_n 0, 1) := by decide +kernel
theorem dX6_put_25 : decode cX6_put 25 = .ok (.getfield 19, 3) := by decide +kernel
theorem dX6_put_28 : decode cX6_put 28 = .ok (.invokestatic 88, 3) := by decide +kernel
theorem dX6_put_31 : decode cX6_put 31 = .ok (.aload_n 0, 1) := by decide +kernel
theorem dX6_put_32 : decode cX6_put 32 = .ok (.getfield 7, 3) := by decide +kernel
theorem dX6_put_35 : decode cX6_put 35 = .ok (.bipush 7, 2) := by decide +kernel
theorem dX6_put_37 : decode cX6_put 37 = .ok (.dup2, 1) := by decide +kernel
theorem dX6_put_38 : decode cX6_put 38 = .ok (.iaload, 1) := by decide +kernel
theorem dX6_put_39 : decode cX6_put 39 = .ok (.iconst 1, 1) := by decide +kernel
theorem dX6_put_40 : decode cX6_put 40 = .ok (.iadd, 1) := by decide +kernel
theorem dX6_put_41 : decode cX6_put 41 = .ok (.iastore, 1) := by decide +kernel
theorem dX6_put_42 : decode cX6_put 42 = .ok (.aload_n 0, 1) := by decide +kernel
theorem dX6_put_43 : decode cX6_put 43 = .ok (.iload_n 1, 1) := by decide +kernel
theorem dX6_put_44 : decode cX6_put 44 = .ok (.invokevirtual 92, 3) := by decide +kernel
theorem dX6_put_47 : decode cX6_put 47 = .ok (.aload_n 0, 1) := by decide +kernel
theorem dX6_put_48 : decode cX6_put 48 = .ok (.iload_n 1, 1) := by decide +kernel
theorem dX6_put_49 : decode cX6_put 49 = .ok (.iconst (-1), 1) := by decide +kernel
theorem dX6_put_50 : decode cX6_put 50 = .ok (.iconst (-1), 1) := by decide +kernel
theorem dX6_put_51 : decode cX6_put 51 = .ok (.invokevirtual 77, 3) := by decide +kernel
theorem dX6_put_54 : decode cX6_put 54 = .ok (.istore_n 3, 1) := by decide +kernel
theorem dX6_put_55 : decode cX6_put 55 = .ok (.iload_n 3, 1) := by decide +kernel
theorem dX6_put_56 : decode cX6_put 56 = .ok (.ifCond .ge 17, 3) := by decide +kernel
theorem dX6_put_59 : decode cX6_put 59 = .ok (.aload_n 0, 1) := by decide +kernel
theorem dX6_put_60 : decode cX6_put 60 = .ok (.getfield 19, 3) := by decide +kernel
theorem dX6_put_63 : decode cX6_put 63 = .ok (.aload_n 0, 1) := by decide +kernel
theorem dX6_put_64 : decode cX6_put 64 = .ok (.getfield 7, 3) := by decide +kernel
theorem dX6_put_67 : decode cX6_put 67 = .ok (.invokestatic 88, 3) := by decide +kernel
theorem dX6_put_70 : decode cX6_put 70 = .ok (.bipush (-2), 2) := by decide +kernel
theorem dX6_put_72 : decode cX6_put 72 = .ok (.ireturn, 1) := by decide +kernel
theorem dX6_put_73 : decode cX6_put 73 = .ok (.aload_n 0, 1) := by decide +kernel
theorem dX6_put_74 : decode cX6_put 74 = .ok (.aload_n 0, 1) := by decide +kernel
theorem dX6_put_75 : decode cX6_put 75 = .ok (.getfield 19, 3) := by decide +kernel
theorem dX6_put_78 : decode cX6_put 78 = .ok (.invokevirtual 81, 3) := by decide +kernel
theorem dX6_put_81 : decode cX6_put 81 = .ok (.aload_n 0, 1) := by decide +kernel
theorem dX6_put_82 : decode cX6_put 82 = .ok (.iload_n 3, 1) := by decide +kernel
theorem dX6_put_83 : decode cX6_put 83 = .ok (.iload_n 2, 1) := by decide +kernel
theorem dX6_put_84 : decode cX6_put 84 = .ok (.invokevirtual 95, 3) := by decide +kernel
theorem dX6_put_87 : decode cX6_put 87 = .ok (.iload_n 3, 1) := by decide +kernel
theorem dX6_put_88 : decode cX6_put 88 = .ok (.ireturn, 1) := by decide +kernel
theorem dX6_copy_0 : decode cX6_copy 0 = .ok (.iload_n 1, 1) := by decide +kernel
theorem dX6_copy_1 : decode cX6_copy 1 = .ok (.invokestatic 85, 3) := by decide +kernel
theorem dX6_copy_4 : decode cX6_copy 4 = .ok (.ifCond .eq 15, 3) := by decide +kernel
theorem dX6_copy_7 : decode cX6_copy 7 = .ok (.iload_n 2, 1) := by decide +kernel
theorem dX6_copy_8 : decode cX6_copy 8 = .ok (.invokestatic 85, 3) := by decide +kernel
theorem dX6_copy_11 : decode cX6_copy 11 = .ok (.ifCond .eq 8, 3) := by decide +kernel
theorem dX6_copy_14 : decode cX6_copy 14 = .ok (.iload_n 1, 1) := by decide +kernel
theorem dX6_copy_15 : decode cX6_copy 15 = .ok (.iload_n 2, 1) := by decide +kernel
theorem dX6_copy_16 : decode cX6_copy 16 = .ok (.if_icmp .ne 5, 3) := by decide +kernel
theorem dX6_copy_19 : decode cX6_copy 19 = .ok (.iconst (-1), 1) := by decide +kernel
theorem dX6_copy_20 : decode cX6_copy 20 = .ok (.ireturn, 1) := by decide +kernel
theorem dX6_copy_21 : decode cX6_copy 21 = .ok (.aload_n 0, 1) := by decide +kernel
theorem dX6_copy_22 : decode cX6_copy 22 = .ok (.getfield 7, 3) := by decide +kernel
theorem dX6_copy_25 : decode cX6_copy 25 = .ok (.aload_n 0, 1) := by decide +kernel
theorem dX6_copy_26 : decode cX6_copy 26 = .ok (.getfield 19, 3) := by decide +kernel
theorem dX6_copy_29 : decode cX6_copy 29 = .ok (.invokestatic 88, 3) := by decide +kernel
theorem dX6_copy_32 : decode cX6_copy 32 = .ok (.aload_n 0, 1) := by decide +kernel
theorem dX6_copy_33 : decode cX6_copy 33 = .ok (.getfield 7, 3) := by decide +kernel
theorem dX6_copy_36 : decode cX6_copy 36 = .ok (.bipush 7, 2) := by decide +kernel
theorem dX6_copy_38 : decode cX6_copy 38 = .ok (.dup2, 1) := by decide +kernel
theorem dX6_copy_39 : decode cX6_copy 39 = .ok (.iaload, 1) := by decide +kernel
theorem dX6_copy_40 : decode cX6_copy 40 = .ok (.iconst 1, 1) := by decide +kernel
theorem dX6_copy_41 : decode cX6_copy 41 = .ok (.iadd, 1) := by decide +kernel
theorem dX6_copy_42 : decode cX6_copy 42 = .ok (.iastore, 1) := by decide +kernel
theorem dX6_copy_43 : decode cX6_copy 43 = .ok (.aload_n 0, 1) := by decide +kernel
theorem dX6_copy_44 : decode cX6_copy 44 = .ok (.iload_n 2, 1) := by decide +kernel
theorem dX6_copy_45 : decode cX6_copy 45 = .ok (.iconst (-1), 1) := by decide +kernel
theorem dX6_copy_46 : decode cX6_copy 46 = .ok (.iconst (-1), 1) := by decide +kernel
theorem dX6_copy_47 : decode cX6_copy 47 = .ok (.invokevirtual 99, 3) := by decide +kernel
theorem dX6_copy_50 : decode cX6_copy 50 = .ok (.ifCond .ne 17, 3) := by decide +kernel
theorem dX6_copy_53 : decode cX6_copy 53 = .ok (.aload_n 0, 1) := by decide +kernel
theorem dX6_copy_54 : decode cX6_copy 54 = .ok (.getfield 19, 3) := by decide +kernel
theorem dX6_copy_57 : decode cX6_copy 57 = .ok (.aload_n 0, 1) := by decide +kernel
theorem dX6_copy_58 : decode cX6_copy 58 = .ok (.getfield 7, 3) := by decide +kernel
theorem dX6_copy_61 : decode cX6_copy 61 = .ok (.invokestatic 88, 3) := by decide +kernel
theorem dX6_copy_64 : decode cX6_copy 64 = .ok (.bipush (-2), 2) := by decide +kernel
theorem dX6_copy_66 : decode cX6_copy 66 = .ok (.ireturn, 1) := by decide +kernel
theorem dX6_copy_67 : decode cX6_copy 67 = .ok (.aload_n 0, 1) := by decide +kernel
theorem dX6_copy_68 : decode cX6_copy 68 = .ok (.aload_n 0, 1) := by decide +kernel
theorem dX6_copy_69 : decode cX6_copy 69 = .ok (.getfield 19, 3) := by decide +kernel
theorem dX6_copy_72 : decode cX6_copy 72 = .ok (.invokevirtual 81, 3) := by decide +kernel
theorem dX6_copy_75 : decode cX6_copy 75 = .ok (.aload_n 0, 1) := by decide +kernel
theorem dX6_copy_76 : decode cX6_copy 76 = .ok (.getfield 7, 3) := by decide +kernel
theorem dX6_copy_79 : decode cX6_copy 79 = .ok (.bipush 12, 2) := by decide +kernel
theorem dX6_copy_81 : decode cX6_copy 81 = .ok (.iload_n 2, 1) := by decide +kernel
theorem dX6_copy_82 : decode cX6_copy 82 = .ok (.iadd, 1) := by decide +kernel
theorem dX6_copy_83 : decode cX6_copy 83 = .ok (.iaload, 1) := by decide +kernel
theorem dX6_copy_84 : decode cX6_copy 84 = .ok (.istore_n 3, 1) := by decide +kernel
theorem dX6_copy_85 : decode cX6_copy 85 = .ok (.aload_n 0, 1) := by decide +kernel
theorem dX6_copy_86 : decode cX6_copy 86 = .ok (.iload_n 1, 1) := by decide +kernel
theorem dX6_copy_87 : decode cX6_copy 87 = .ok (.invokevirtual 92, 3) := by decide +kernel
theorem dX6_copy_90 : decode cX6_copy 90 = .ok (.aload_n 0, 1) := by decide +kernel
theorem dX6_copy_91 : decode cX6_copy 91 = .ok (.getfield 7, 3) := by decide +kernel
theorem dX6_copy_94 : decode cX6_copy 94 = .ok (.bipush 12, 2) := by decide +kernel
theorem dX6_copy_96 : decode cX6_copy 96 = .ok (.iload_n 1, 1) := by decide +kernel
theorem dX6_copy_97 : decode cX6_copy 97 = .ok (.iadd, 1) := by decide +kernel
theorem dX6_copy_98 : decode cX6_copy 98 = .ok (.iload_n 3, 1) := by decide +kernel
theorem dX6_copy_99 : decode cX6_copy 99 = .ok (.iastore, 1) := by decide +kernel
theorem dX6_copy_100 : decode cX6_copy 100 = .ok (.aload_n 0, 1) := by decide +kernel
theorem dX6_copy_101 : decode cX6_copy 101 = .ok (.getfield 7, 3) := by decide +kernel
theorem dX6_copy_104 : decode cX6_copy 104 = .ok (.iload_n 3, 1) := by decide +kernel
theorem dX6_copy_105 : decode cX6_copy 105 = .ok (.iconst 4, 1) := by decide +kernel
theorem dX6_copy_106 : decode cX6_copy 106 = .ok (.invokestatic 65, 3) := by decide +kernel
theorem dX6_copy_109 : decode cX6_copy 109 = .ok (.aload_n 0, 1) := by decide +kernel
theorem dX6_copy_110 : decode cX6_copy 110 = .ok (.getfield 7, 3) := by decide +kernel
theorem dX6_copy_113 : decode cX6_copy 113 = .ok (.bipush 7, 2) := by decide +kernel
theorem dX6_copy_115 : decode cX6_copy 115 = .ok (.iaload, 1) := by decide +kernel
theorem dX6_copy_116 : decode cX6_copy 116 = .ok (.iastore, 1) := by decide +kernel
theorem dX6_copy_117 : decode cX6_copy 117 = .ok (.iload_n 3, 1) := by decide +kernel
theorem dX6_copy_118 : decode cX6_copy 118 = .ok (.ireturn, 1) := by decide +kernel
theorem dX6_gives_0 : decode cX6_gives 0 = .ok (.aload_n 0, 1) := by decide +kernel
theorem dX6_gives_1 : decode cX6_gives 1 = .ok (.getfield 7, 3) := by decide +kernel
theorem dX6_gives_4 : decode cX6_gives 4 = .ok (.bipush 7, 2) := by decide +kernel
theorem dX6_gives_6 : decode cX6_gives 6 = .ok (.dup2, 1) := by decide +kernel
theorem dX6_gives_7 : decode cX6_gives 7 = .ok (.iaload, 1) := by decide +kernel
theorem dX6_gives_8 : decode cX6_gives 8 = .ok (.iconst 1, 1) := by decide +kernel
theorem dX6_gives_9 : decode cX6_gives 9 = .ok (.iadd, 1) := by decide +kernel
theorem dX6_gives_10 : decode cX6_gives 10 = .ok (.iastore, 1) := by decide +kernel
theorem dX6_gives_11 : decode cX6_gives 11 = .ok (.iload_n 1, 1) := by decide +kernel
theorem dX6_gives_12 : decode cX6_gives 12 = .ok (.iload_n 2, 1) := by decide +kernel
theorem dX6_gives_13 : decode cX6_gives 13 = .ok (.if_icmp .eq 13, 3) := by decide +kernel
theorem dX6_gives_16 : decode cX6_gives 16 = .ok (.iload_n 1, 1) := by decide +kernel
theorem dX6_gives_17 : decode cX6_gives 17 = .ok (.iload_n 3, 1) := by decide +kernel
theorem dX6_gives_18 : decode cX6_gives 18 = .ok (.if_icmp .eq 8, 3) := by decide +kernel
theorem dX6_gives_21 : decode cX6_gives 21 = .ok (.aload_n 0, 1) := by decide +kernel
theorem dX6_gives_22 : decode cX6_gives 22 = .ok (.iload_n 1, 1) := by decide +kernel
theorem dX6_gives_23 : decode cX6_gives 23 = .ok (.invokevirtual 92, 3) := by decide +kernel
theorem dX6_gives_26 : decode cX6_gives 26 = .ok (.aload_n 0, 1) := by decide +kernel
theorem dX6_gives_27 : decode cX6_gives 27 = .ok (.iload_n 2, 1) := by decide +kernel
theorem dX6_gives_28 : decode cX6_gives 28 = .ok (.iload_n 2, 1) := by decide +kernel
theorem dX6_gives_29 : decode cX6_gives 29 = .ok (.iload_n 3, 1) := by decide +kernel
theorem dX6_gives_30 : decode cX6_gives 30 = .ok (.invokevirtual 99, 3) := by decide +kernel
theorem dX6_gives_33 : decode cX6_gives 33 = .ok (.ifCond .eq 13, 3) := by decide +kernel
theorem dX6_gives_36 : decode cX6_gives 36 = .ok (.aload_n 0, 1) := by decide +kernel
theorem dX6_gives_37 : decode cX6_gives 37 = .ok (.iload_n 3, 1) := by decide +kernel
theorem dX6_gives_38 : decode cX6_gives 38 = .ok (.iload_n 2, 1) := by decide +kernel
theorem dX6_gives_39 : decode cX6_gives 39 = .ok (.iload_n 3, 1) := by decide +kernel
theorem dX6_gives_40 : decode cX6_gives 40 = .ok (.invokevirtual 99, 3) := by decide +kernel
theorem dX6_gives_43 : decode cX6_gives 43 = .ok (.ifCond .ne 6, 3) := by decide +kernel
theorem dX6_gives_46 : decode cX6_gives 46 = .ok (.bipush (-4), 2) := by decide +kernel
theorem dX6_gives_48 : decode cX6_gives 48 = .ok (.ireturn, 1) := by decide +kernel
theorem dX6_gives_49 : decode cX6_gives 49 = .ok (.aload_n 0, 1) := by decide +kernel
theorem dX6_gives_50 : decode cX6_gives 50 = .ok (.getfield 7, 3) := by decide +kernel
theorem dX6_gives_53 : decode cX6_gives 53 = .ok (.iconst 3, 1) := by decide +kernel
theorem dX6_gives_54 : decode cX6_gives 54 = .ok (.iaload, 1) := by decide +kernel
theorem dX6_gives_55 : decode cX6_gives 55 = .ok (.istore 4, 2) := by decide +kernel
theorem dX6_gives_57 : decode cX6_gives 57 = .ok (.iload 4, 2) := by decide +kernel
theorem dX6_gives_59 : decode cX6_gives 59 = .ok (.bipush 6, 2) := by decide +kernel
theorem dX6_gives_61 : decode cX6_gives 61 = .ok (.if_icmp .ge 43, 3) := by decide +kernel
theorem dX6_gives_64 : decode cX6_gives 64 = .ok (.aload_n 0, 1) := by decide +kernel
theorem dX6_gives_65 : decode cX6_gives 65 = .ok (.getfield 7, 3) := by decide +kernel
theorem dX6_gives_68 : decode cX6_gives 68 = .ok (.iload 4, 2) := by decide +kernel
theorem dX6_gives_70 : decode cX6_gives 70 = .ok (.iconst 2, 1) := by decide +kernel
theorem dX6_gives_71 : decode cX6_gives 71 = .ok (.invokestatic 47, 3) := by decide +kernel
theorem dX6_gives_74 : decode cX6_gives 74 = .ok (.aload_n 0, 1) := by decide +kernel
theorem dX6_gives_75 : decode cX6_gives 75 = .ok (.getfield 7, 3) := by decide +kernel
theorem dX6_gives_78 : decode cX6_gives 78 = .ok (.bipush 12, 2) := by decide +kernel
theorem dX6_gives_80 : decode cX6_gives 80 = .ok (.iload_n 2, 1) := by decide +kernel
theorem dX6_gives_81 : decode cX6_gives 81 = .ok (.iadd, 1) := by decide +kernel
theorem dX6_gives_82 : decode cX6_gives 82 = .ok (.iaload, 1) := by decide +kernel
theorem dX6_gives_83 : decode cX6_gives 83 = .ok (.iastore, 1) := by decide +kernel
theorem dX6_gives_84 : decode cX6_gives 84 = .ok (.aload_n 0, 1) := by decide +kernel
theorem dX6_gives_85 : decode cX6_gives 85 = .ok (.getfield 7, 3) := by decide +kernel
theorem dX6_gives_88 : decode cX6_gives 88 = .ok (.iload 4, 2) := by decide +kernel
theorem dX6_gives_90 : decode cX6_gives 90 = .ok (.iconst 3, 1) := by decide +kernel
theorem dX6_gives_91 : decode cX6_gives 91 = .ok (.invokestatic 47, 3) := by decide +kernel
theorem dX6_gives_94 : decode cX6_gives 94 = .ok (.aload_n 0, 1) := by decide +kernel
theorem dX6_gives_95 : decode cX6_gives 95 = .ok (.getfield 7, 3) := by decide +kernel
theorem dX6_gives_98 : decode cX6_gives 98 = .ok (.bipush 12, 2) := by decide +kernel
theorem dX6_gives_100 : decode cX6_gives 100 = .ok (.iload_n 3, 1) := by decide +kernel
theorem dX6_gives_101 : decode cX6_gives 101 = .ok (.iadd, 1) := by decide +kernel
theorem dX6_gives_102 : decode cX6_gives 102 = .ok (.iaload, 1) := by decide +kernel
theorem dX6_gives_103 : decode cX6_gives 103 = .ok (.iastore, 1) := by decide +kernel
theorem dX6_gives_104 : decode cX6_gives 104 = .ok (.aload_n 0, 1) := by decide +kernel
theorem dX6_gives_105 : decode cX6_gives 105 = .ok (.getfield 7, 3) := by decide +kernel
theorem dX6_gives_108 : decode cX6_gives 108 = .ok (.bipush 12, 2) := by decide +kernel
theorem dX6_gives_110 : decode cX6_gives 110 = .ok (.iload_n 2, 1) := by decide +kernel
theorem dX6_gives_111 : decode cX6_gives 111 = .ok (.iadd, 1) := by decide +kernel
theorem dX6_gives_112 : decode cX6_gives 112 = .ok (.iaload, 1) := by decide +kernel
theorem dX6_gives_113 : decode cX6_gives 113 = .ok (.istore 5, 2) := by decide +kernel
theorem dX6_gives_115 : decode cX6_gives 115 = .ok (.aload_n 0, 1) := by decide +kernel
theorem dX6_gives_116 : decode cX6_gives 116 = .ok (.getfield 7, 3) := by decide +kernel
theorem dX6_gives_119 : decode cX6_gives 119 = .ok (.bipush 12, 2) := by decide +kernel
theorem dX6_gives_121 : decode cX6_gives 121 = .ok (.iload_n 3, 1) := by decide +kernel
theorem dX6_gives_122 : decode cX6_gives 122 = .ok (.iadd, 1) := by decide +kernel
theorem dX6_gives_123 : decode cX6_gives 123 = .ok (.iaload, 1) := by decide +kernel
theorem dX6_gives_124 : decode cX6_gives 124 = .ok (.istore 6, 2) := by decide +kernel
theorem dX6_gives_126 : decode cX6_gives 126 = .ok (.aload_n 0, 1) := by decide +kernel
theorem dX6_gives_127 : decode cX6_gives 127 = .ok (.iload_n 2, 1) := by decide +kernel
theorem dX6_gives_128 : decode cX6_gives 128 = .ok (.iload_n 3, 1) := by decide +kernel
theorem dX6_gives_129 : decode cX6_gives 129 = .ok (.invokevirtual 74, 3) := by decide +kernel
theorem dX6_gives_132 : decode cX6_gives 132 = .ok (.istore 7, 2) := by decide +kernel
theorem dX6_gives_134 : decode cX6_gives 134 = .ok (.iload 7, 2) := by decide +kernel
theorem dX6_gives_136 : decode cX6_gives 136 = .ok (.ifCond .ge 6, 3) := by decide +kernel
theorem dX6_gives_139 : decode cX6_gives 139 = .ok (.bipush (-4), 2) := by decide +kernel
theorem dX6_gives_141 : decode cX6_gives 141 = .ok (.ireturn, 1) := by decide +kernel
theorem dX6_gives_142 : decode cX6_gives 142 = .ok (.aload_n 0, 1) := by decide +kernel
theorem dX6_gives_143 : decode cX6_gives 143 = .ok (.getfield 7, 3) := by decide +kernel
theorem dX6_gives_146 : decode cX6_gives 146 = .ok (.iload 5, 2) := by decide +kernel
theorem dX6_gives_148 : decode cX6_gives 148 = .ok (.iconst 4, 1) := by decide +kernel
theorem dX6_gives_149 : decode cX6_gives 149 = .ok (.invokestatic 65, 3) := by decide +kernel
theorem dX6_gives_152 : decode cX6_gives 152 = .ok (.aload_n 0, 1) := by decide +kernel
theorem dX6_gives_153 : decode cX6_gives 153 = .ok (.getfield 7, 3) := by decide +kernel
theorem dX6_gives_156 : decode cX6_gives 156 = .ok (.bipush 7, 2) := by decide +kernel
theorem dX6_gives_158 : decode cX6_gives 158 = .ok (.iaload, 1) := by decide +kernel
theorem dX6_gives_159 : decode cX6_gives 159 = .ok (.iastore, 1) := by decide +kernel
theorem dX6_gives_160 : decode cX6_gives 160 = .ok (.aload_n 0, 1) := by decide +kernel
theorem dX6_gives_161 : decode cX6_gives 161 = .ok (.getfield 7, 3) := by decide +kernel
theorem dX6_gives_164 : decode cX6_gives 164 = .ok (.iload 6, 2) := by decide +kernel
theorem dX6_gives_166 : decode cX6_gives 166 = .ok (.iconst 4, 1) := by decide +kernel
theorem dX6_gives_167 : decode cX6_gives 167 = .ok (.invokestatic 65, 3) := by decide +kernel
theorem dX6_gives_170 : decode cX6_gives 170 = .ok (.aload_n 0, 1) := by decide +kernel
theorem dX6_gives_171 : decode cX6_gives 171 = .ok (.getfield 7, 3) := by decide +kernel
theorem dX6_gives_174 : decode cX6_gives 174 = .ok (.bipush 7, 2) := by decide +kernel
theorem dX6_gives_176 : decode cX6_gives 176 = .ok (.iaload, 1) := by decide +kernel
theorem dX6_gives_177 : decode cX6_gives 177 = .ok (.iastore, 1) := by decide +kernel
theorem dX6_gives_178 : decode cX6_gives 178 = .ok (.aload_n 0, 1) := by decide +kernel
theorem dX6_gives_179 : decode cX6_gives 179 = .ok (.getfield 7, 3) := by decide +kernel
theorem dX6_gives_182 : decode cX6_gives 182 = .ok (.bipush 12, 2) := by decide +kernel
theorem dX6_gives_184 : decode cX6_gives 184 = .ok (.iload_n 1, 1) := by decide +kernel
theorem dX6_gives_185 : decode cX6_gives 185 = .ok (.iadd, 1) := by decide +kernel
theorem dX6_gives_186 : decode cX6_gives 186 = .ok (.iload 7, 2) := by decide +kernel
theorem dX6_gives_188 : decode cX6_gives 188 = .ok (.iastore, 1) := by decide +kernel
theorem dX6_gives_189 : decode cX6_gives 189 = .ok (.aload_n 0, 1) := by decide +kernel
theorem dX6_gives_190 : decode cX6_gives 190 = .ok (.getfield 7, 3) := by decide +kernel
theorem dX6_gives_193 : decode cX6_gives 193 = .ok (.iload 7, 2) := by decide +kernel
theorem dX6_gives_195 : decode cX6_gives 195 = .ok (.iconst 0, 1) := by decide +kernel
theorem dX6_gives_196 : decode cX6_gives 196 = .ok (.invokestatic 65, 3) := by decide +kernel
theorem dX6_gives_199 : decode cX6_gives 199 = .ok (.iconst 1, 1) := by decide +kernel
theorem dX6_gives_200 : decode cX6_gives 200 = .ok (.iastore, 1) := by decide +kernel
theorem dX6_gives_201 : decode cX6_gives 201 = .ok (.aload_n 0, 1) := by decide +kernel
theorem dX6_gives_202 : decode cX6_gives 202 = .ok (.getfield 7, 3) := by decide +kernel
theorem dX6_gives_205 : decode cX6_gives 205 = .ok (.iload 7, 2) := by decide +kernel
theorem dX6_gives_207 : decode cX6_gives 207 = .ok (.iconst 1, 1) := by decide +kernel
theorem dX6_gives_208 : decode cX6_gives 208 = .ok (.invokestatic 65, 3) := by decide +kernel
theorem dX6_gives_211 : decode cX6_gives 211 = .ok (.iconst 0, 1) := by decide +kernel
theorem dX6_gives_212 : decode cX6_gives 212 = .ok (.iastore, 1) := by decide +kernel
theorem dX6_gives_213 : decode cX6_gives 213 = .ok (.aload_n 0, 1) := by decide +kernel
theorem dX6_gives_214 : decode cX6_gives 214 = .ok (.getfield 7, 3) := by decide +kernel
theorem dX6_gives_217 : decode cX6_gives 217 = .ok (.iload 7, 2) := by decide +kernel
theorem dX6_gives_219 : decode cX6_gives 219 = .ok (.iconst 2, 1) := by decide +kernel
theorem dX6_gives_220 : decode cX6_gives 220 = .ok (.invokestatic 65, 3) := by decide +kernel
theorem dX6_gives_223 : decode cX6_gives 223 = .ok (.iconst 0, 1) := by decide +kernel
theorem dX6_gives_224 : decode cX6_gives 224 = .ok (.iastore, 1) := by decide +kernel
theorem dX6_gives_225 : decode cX6_gives 225 = .ok (.aload_n 0, 1) := by decide +kernel
theorem dX6_gives_226 : decode cX6_gives 226 = .ok (.getfield 7, 3) := by decide +kernel
theorem dX6_gives_229 : decode cX6_gives 229 = .ok (.iload 7, 2) := by decide +kernel
theorem dX6_gives_231 : decode cX6_gives 231 = .ok (.iconst 3, 1) := by decide +kernel
theorem dX6_gives_232 : decode cX6_gives 232 = .ok (.invokestatic 65, 3) := by decide +kernel
theorem dX6_gives_235 : decode cX6_gives 235 = .ok (.iconst (-1), 1) := by decide +kernel
theorem dX6_gives_236 : decode cX6_gives 236 = .ok (.iastore, 1) := by decide +kernel
theorem dX6_gives_237 : decode cX6_gives 237 = .ok (.aload_n 0, 1) := by decide +kernel
theorem dX6_gives_238 : decode cX6_gives 238 = .ok (.getfield 7, 3) := by decide +kernel
theorem dX6_gives_241 : decode cX6_gives 241 = .ok (.iload 7, 2) := by decide +kernel
theorem dX6_gives_243 : decode cX6_gives 243 = .ok (.iconst 4, 1) := by decide +kernel
theorem dX6_gives_244 : decode cX6_gives 244 = .ok (.invokestatic 65, 3) := by decide +kernel
theorem dX6_gives_247 : decode cX6_gives 247 = .ok (.aload_n 0, 1) := by decide +kernel
theorem dX6_gives_248 : decode cX6_gives 248 = .ok (.getfield 7, 3) := by decide +kernel
theorem dX6_gives_251 : decode cX6_gives 251 = .ok (.bipush 7, 2) := by decide +kernel
theorem dX6_gives_253 : decode cX6_gives 253 = .ok (.iaload, 1) := by decide +kernel
theorem dX6_gives_254 : decode cX6_gives 254 = .ok (.iastore, 1) := by decide +kernel
theorem dX6_gives_255 : decode cX6_gives 255 = .ok (.iload 7, 2) := by decide +kernel
theorem dX6_gives_257 : decode cX6_gives 257 = .ok (.ireturn, 1) := by decide +kernel
theorem dX6_order_0 : decode cX6_order 0 = .ok (.iload_n 1, 1) := by decide +kernel
theorem dX6_order_1 : decode cX6_order 1 = .ok (.iconst 0, 1) := by decide +kernel
theorem dX6_order_2 : decode cX6_order 2 = .ok (.iconst 2, 1) := by decide +kernel
theorem dX6_order_3 : decode cX6_order 3 = .ok (.invokestatic 43, 3) := by decide +kernel
theorem dX6_order_6 : decode cX6_order 6 = .ok (.ifCond .eq 25, 3) := by decide +kernel
theorem dX6_order_9 : decode cX6_order 9 = .ok (.iload_n 2, 1) := by decide +kernel
theorem dX6_order_10 : decode cX6_order 10 = .ok (.invokestatic 85, 3) := by decide +kernel
theorem dX6_order_13 : decode cX6_order 13 = .ok (.ifCond .eq 18, 3) := by decide +kernel
theorem dX6_order_16 : decode cX6_order 16 = .ok (.iload_n 3, 1) := by decide +kernel
theorem dX6_order_17 : decode cX6_order 17 = .ok (.invokestatic 85, 3) := by decide +kernel
theorem dX6_order_20 : decode cX6_order 20 = .ok (.ifCond .eq 11, 3) := by decide +kernel
theorem dX6_order_23 : decode cX6_order 23 = .ok (.iload 4, 2) := by decide +kernel
theorem dX6_order_25 : decode cX6_order 25 = .ok (.invokestatic 85, 3) := by decide +kernel
theorem dX6_order_28 : decode cX6_order 28 = .ok (.ifCond .ne 5, 3) := by decide +kernel
theorem dX6_order_31 : decode cX6_order 31 = .ok (.iconst (-1), 1) := by decide +kernel
theorem dX6_order_32 : decode cX6_order 32 = .ok (.ireturn, 1) := by decide +kernel
theorem dX6_order_33 : decode cX6_order 33 = .ok (.aload_n 0, 1) := by decide +kernel
theorem dX6_order_34 : decode cX6_order 34 = .ok (.getfield 7, 3) := by decide +kernel
theorem dX6_order_37 : decode cX6_order 37 = .ok (.aload_n 0, 1) := by decide +kernel
theorem dX6_order_38 : decode cX6_order 38 = .ok (.getfield 19, 3) := by decide +kernel
theorem dX6_order_41 : decode cX6_order 41 = .ok (.invokestatic 88, 3) := by decide +kernel
theorem dX6_order_44 : decode cX6_order 44 = .ok (.aload_n 0, 1) := by decide +kernel
theorem dX6_order_45 : decode cX6_order 45 = .ok (.iload_n 2, 1) := by decide +kernel
theorem dX6_order_46 : decode cX6_order 46 = .ok (.iload_n 3, 1) := by decide +kernel
theorem dX6_order_47 : decode cX6_order 47 = .ok (.iload 4, 2) := by decide +kernel
theorem dX6_order_49 : decode cX6_order 49 = .ok (.invokevirtual 102, 3) := by decide +kernel
theorem dX6_order_52 : decode cX6_order 52 = .ok (.istore 5, 2) := by decide +kernel
theorem dX6_order_54 : decode cX6_order 54 = .ok (.iload 5, 2) := by decide +kernel
theorem dX6_order_56 : decode cX6_order 56 = .ok (.ifCond .lt 14, 3) := by decide +kernel
theorem dX6_order_59 : decode cX6_order 59 = .ok (.aload_n 0, 1) := by decide +kernel
theorem dX6_order_60 : decode cX6_order 60 = .ok (.getfield 7, 3) := by decide +kernel
theorem dX6_order_63 : decode cX6_order 63 = .ok (.iconst 3, 1) := by decide +kernel
theorem dX6_order_64 : decode cX6_order 64 = .ok (.iaload, 1) := by decide +kernel
theorem dX6_order_65 : decode cX6_order 65 = .ok (.bipush 6, 2) := by decide +kernel
theorem dX6_order_67 : decode cX6_order 67 = .ok (.if_icmp .ne 27, 3) := by decide +kernel
theorem dX6_order_70 : decode cX6_order 70 = .ok (.aload_n 0, 1) := by decide +kernel
theorem dX6_order_71 : decode cX6_order 71 = .ok (.getfield 19, 3) := by decide +kernel
theorem dX6_order_74 : decode cX6_order 74 = .ok (.aload_n 0, 1) := by decide +kernel
theorem dX6_order_75 : decode cX6_order 75 = .ok (.getfield 7, 3) := by decide +kernel
theorem dX6_order_78 : decode cX6_order 78 = .ok (.invokestatic 88, 3) := by decide +kernel
theorem dX6_order_81 : decode cX6_order 81 = .ok (.iload 5, 2) := by decide +kernel
theorem dX6_order_83 : decode cX6_order 83 = .ok (.ifCond .ge 8, 3) := by decide +kernel
theorem dX6_order_86 : decode cX6_order 86 = .ok (.bipush (-2), 2) := by decide +kernel
theorem dX6_order_88 : decode cX6_order 88 = .ok (.goto 5, 3) := by decide +kernel
theorem dX6_order_91 : decode cX6_order 91 = .ok (.bipush (-3), 2) := by decide +kernel
theorem dX6_order_93 : decode cX6_order 93 = .ok (.ireturn, 1) := by decide +kernel
theorem dX6_order_94 : decode cX6_order 94 = .ok (.aload_n 0, 1) := by decide +kernel
theorem dX6_order_95 : decode cX6_order 95 = .ok (.aload_n 0, 1) := by decide +kernel
theorem dX6_order_96 : decode cX6_order 96 = .ok (.getfield 19, 3) := by decide +kernel
theorem dX6_order_99 : decode cX6_order 99 = .ok (.invokevirtual 81, 3) := by decide +kernel
theorem dX6_order_102 : decode cX6_order 102 = .ok (.aload_n 0, 1) := by decide +kernel
theorem dX6_order_103 : decode cX6_order 103 = .ok (.getfield 7, 3) := by decide +kernel
theorem dX6_order_106 : decode cX6_order 106 = .ok (.iconst 3, 1) := by decide +kernel
theorem dX6_order_107 : decode cX6_order 107 = .ok (.iaload, 1) := by decide +kernel
theorem dX6_order_108 : decode cX6_order 108 = .ok (.istore 6, 2) := by decide +kernel
theorem dX6_order_110 : decode cX6_order 110 = .ok (.aload_n 0, 1) := by decide +kernel
theorem dX6_order_111 : decode cX6_order 111 = .ok (.getfield 7, 3) := by decide +kernel
theorem dX6_order_114 : decode cX6_order 114 = .ok (.iload 6, 2) := by decide +kernel
theorem dX6_order_116 : decode cX6_order 116 = .ok (.iconst 0, 1) := by decide +kernel
theorem dX6_order_117 : decode cX6_order 117 = .ok (.invokestatic 47, 3) := by decide +kernel
theorem dX6_order_120 : decode cX6_order 120 = .ok (.iload_n 1, 1) := by decide +kernel
theorem dX6_order_121 : decode cX6_order 121 = .ok (.iastore, 1) := by decide +kernel
theorem dX6_order_122 : decode cX6_order 122 = .ok (.aload_n 0, 1) := by decide +kernel
theorem dX6_order_123 : decode cX6_order 123 = .ok (.getfield 7, 3) := by decide +kernel
theorem dX6_order_126 : decode cX6_order 126 = .ok (.iload 6, 2) := by decide +kernel
theorem dX6_order_128 : decode cX6_order 128 = .ok (.iconst 1, 1) := by decide +kernel
theorem dX6_order_129 : decode cX6_order 129 = .ok (.invokestatic 47, 3) := by decide +kernel
theorem dX6_order_132 : decode cX6_order 132 = .ok (.iload 5, 2) := by decide +kernel
theorem dX6_order_134 : decode cX6_order 134 = .ok (.iastore, 1) := by decide +kernel
theorem dX6_order_135 : decode cX6_order 135 = .ok (.aload_n 0, 1) := by decide +kernel
theorem dX6_order_136 : decode cX6_order 136 = .ok (.getfield 7, 3) := by decide +kernel
theorem dX6_order_139 : decode cX6_order 139 = .ok (.iload 6, 2) := by decide +kernel
theorem dX6_order_141 : decode cX6_order 141 = .ok (.iconst 4, 1) := by decide +kernel
theorem dX6_order_142 : decode cX6_order 142 = .ok (.invokestatic 47, 3) := by decide +kernel
theorem dX6_order_145 : decode cX6_order 145 = .ok (.iconst (-1), 1) := by decide +kernel
theorem dX6_order_146 : decode cX6_order 146 = .ok (.iastore, 1) := by decide +kernel
theorem dX6_order_147 : decode cX6_order 147 = .ok (.aload_n 0, 1) := by decide +kernel
theorem dX6_order_148 : decode cX6_order 148 = .ok (.getfield 7, 3) := by decide +kernel
theorem dX6_order_151 : decode cX6_order 151 = .ok (.iload 6, 2) := by decide +kernel
theorem dX6_order_153 : decode cX6_order 153 = .ok (.iconst 5, 1) := by decide +kernel
theorem dX6_order_154 : decode cX6_order 154 = .ok (.invokestatic 47, 3) := by decide +kernel
theorem dX6_order_157 : decode cX6_order 157 = .ok (.aload_n 0, 1) := by decide +kernel
theorem dX6_order_158 : decode cX6_order 158 = .ok (.getfield 7, 3) := by decide +kernel
theorem dX6_order_161 : decode cX6_order 161 = .ok (.iconst 2, 1) := by decide +kernel
theorem dX6_order_162 : decode cX6_order 162 = .ok (.iaload, 1) := by decide +kernel
theorem dX6_order_163 : decode cX6_order 163 = .ok (.iastore, 1) := by decide +kernel
theorem dX6_order_164 : decode cX6_order 164 = .ok (.aload_n 0, 1) := by decide +kernel
theorem dX6_order_165 : decode cX6_order 165 = .ok (.getfield 7, 3) := by decide +kernel
theorem dX6_order_168 : decode cX6_order 168 = .ok (.iconst 3, 1) := by decide +kernel
theorem dX6_order_169 : decode cX6_order 169 = .ok (.dup2, 1) := by decide +kernel
theorem dX6_order_170 : decode cX6_order 170 = .ok (.iaload, 1) := by decide +kernel
theorem dX6_order_171 : decode cX6_order 171 = .ok (.iconst 1, 1) := by decide +kernel
theorem dX6_order_172 : decode cX6_order 172 = .ok (.iadd, 1) := by decide +kernel
theorem dX6_order_173 : decode cX6_order 173 = .ok (.iastore, 1) := by decide +kernel
theorem dX6_order_174 : decode cX6_order 174 = .ok (.iload 5, 2) := by decide +kernel
theorem dX6_order_176 : decode cX6_order 176 = .ok (.ireturn, 1) := by decide +kernel
theorem dX6_drops_0 : decode cX6_drops 0 = .ok (.aload_n 0, 1) := by decide +kernel
theorem dX6_drops_1 : decode cX6_drops 1 = .ok (.getfield 7, 3) := by decide +kernel
theorem dX6_drops_4 : decode cX6_drops 4 = .ok (.iconst 3, 1) := by decide +kernel
theorem dX6_drops_5 : decode cX6_drops 5 = .ok (.dup2, 1) := by decide +kernel
theorem dX6_drops_6 : decode cX6_drops 6 = .ok (.iaload, 1) := by decide +kernel
theorem dX6_drops_7 : decode cX6_drops 7 = .ok (.iconst 1, 1) := by decide +kernel
theorem dX6_drops_8 : decode cX6_drops 8 = .ok (.isub, 1) := by decide +kernel
theorem dX6_drops_9 : decode cX6_drops 9 = .ok (.iastore, 1) := by decide +kernel
theorem dX6_drops_10 : decode cX6_drops 10 = .ok (.iload_n 1, 1) := by decide +kernel
theorem dX6_drops_11 : decode cX6_drops 11 = .ok (.iconst 0, 1) := by decide +kernel
theorem dX6_drops_12 : decode cX6_drops 12 = .ok (.invokestatic 47, 3) := by decide +kernel
theorem dX6_drops_15 : decode cX6_drops 15 = .ok (.istore_n 2, 1) := by decide +kernel
theorem dX6_drops_16 : decode cX6_drops 16 = .ok (.iload_n 2, 1) := by decide +kernel
theorem dX6_drops_17 : decode cX6_drops 17 = .ok (.aload_n 0, 1) := by decide +kernel
theorem dX6_drops_18 : decode cX6_drops 18 = .ok (.getfield 7, 3) := by decide +kernel
theorem dX6_drops_21 : decode cX6_drops 21 = .ok (.iconst 3, 1) := by decide +kernel
theorem dX6_drops_22 : decode cX6_drops 22 = .ok (.iaload, 1) := by decide +kernel
theorem dX6_drops_23 : decode cX6_drops 23 = .ok (.iconst 0, 1) := by decide +kernel
theorem dX6_drops_24 : decode cX6_drops 24 = .ok (.invokestatic 47, 3) := by decide +kernel
theorem dX6_drops_27 : decode cX6_drops 27 = .ok (.if_icmp .ge 24, 3) := by decide +kernel
theorem dX6_drops_30 : decode cX6_drops 30 = .ok (.aload_n 0, 1) := by decide +kernel
theorem dX6_drops_31 : decode cX6_drops 31 = .ok (.getfield 7, 3) := by decide +kernel
theorem dX6_drops_34 : decode cX6_drops 34 = .ok (.iload_n 2, 1) := by decide +kernel
theorem dX6_drops_35 : decode cX6_drops 35 = .ok (.aload_n 0, 1) := by decide +kernel
theorem dX6_drops_36 : decode cX6_drops 36 = .ok (.getfield 7, 3) := by decide +kernel
theorem dX6_drops_39 : decode cX6_drops 39 = .ok (.iload_n 2, 1) := by decide +kernel
theorem dX6_drops_40 : decode cX6_drops 40 = .ok (.bipush 7, 2) := by decide +kernel
theorem dX6_drops_42 : decode cX6_drops 42 = .ok (.iadd, 1) := by decide +kernel
theorem dX6_drops_43 : decode cX6_drops 43 = .ok (.iaload, 1) := by decide +kernel
theorem dX6_drops_44 : decode cX6_drops 44 = .ok (.iastore, 1) := by decide +kernel
theorem dX6_drops_45 : decode cX6_drops 45 = .ok (.iinc 2 1, 3) := by decide +kernel
theorem dX6_drops_48 : decode cX6_drops 48 = .ok (.goto (-32), 3) := by decide +kernel
theorem dX6_drops_51 : decode cX6_drops 51 = .ok (.return_, 1) := by decide +kernel
theorem dX6_result_0 : decode cX6_result 0 = .ok (.iload_n 0, 1) := by decide +kernel
theorem dX6_result_1 : decode cX6_result 1 = .ok (.ifCond .ne 9, 3) := by decide +kernel
theorem dX6_result_4 : decode cX6_result 4 = .ok (.iload_n 1, 1) := by decide +kernel
theorem dX6_result_5 : decode cX6_result 5 = .ok (.iload_n 2, 1) := by decide +kernel
theorem dX6_result_6 : decode cX6_result 6 = .ok (.iadd, 1) := by decide +kernel
theorem dX6_result_7 : decode cX6_result 7 = .ok (.goto 24, 3) := by decide +kernel
theorem dX6_result_10 : decode cX6_result 10 = .ok (.iload_n 0, 1) := by decide +kernel
theorem dX6_result_11 : decode cX6_result 11 = .ok (.iconst 1, 1) := by decide +kernel
theorem dX6_result_12 : decode cX6_result 12 = .ok (.if_icmp .ne 9, 3) := by decide +kernel
theorem dX6_result_15 : decode cX6_result 15 = .ok (.iload_n 1, 1) := by decide +kernel
theorem dX6_result_16 : decode cX6_result 16 = .ok (.iload_n 2, 1) := by decide +kernel
theorem dX6_result_17 : decode cX6_result 17 = .ok (.isub, 1) := by decide +kernel
theorem dX6_result_18 : decode cX6_result 18 = .ok (.goto 13, 3) := by decide +kernel
theorem dX6_result_21 : decode cX6_result 21 = .ok (.iload_n 1, 1) := by decide +kernel
theorem dX6_result_22 : decode cX6_result 22 = .ok (.i2l, 1) := by decide +kernel
theorem dX6_result_23 : decode cX6_result 23 = .ok (.iload_n 2, 1) := by decide +kernel
theorem dX6_result_24 : decode cX6_result 24 = .ok (.i2l, 1) := by decide +kernel
theorem dX6_result_25 : decode cX6_result 25 = .ok (.lmul, 1) := by decide +kernel
theorem dX6_result_26 : decode cX6_result 26 = .ok (.ldc2_w 105, 3) := by decide +kernel
theorem dX6_result_29 : decode cX6_result 29 = .ok (.lrem, 1) := by decide +kernel
theorem dX6_result_30 : decode cX6_result 30 = .ok (.l2i, 1) := by decide +kernel
theorem dX6_result_31 : decode cX6_result 31 = .ok (.istore_n 3, 1) := by decide +kernel
theorem dX6_result_32 : decode cX6_result 32 = .ok (.iload_n 3, 1) := by decide +kernel
theorem dX6_result_33 : decode cX6_result 33 = .ok (.ifCond .ge 11, 3) := by decide +kernel
theorem dX6_result_36 : decode cX6_result 36 = .ok (.iload_n 3, 1) := by decide +kernel
theorem dX6_result_37 : decode cX6_result 37 = .ok (.sipush 10000, 3) := by decide +kernel
theorem dX6_result_40 : decode cX6_result 40 = .ok (.iadd, 1) := by decide +kernel
theorem dX6_result_41 : decode cX6_result 41 = .ok (.goto 8, 3) := by decide +kernel
theorem dX6_result_44 : decode cX6_result 44 = .ok (.iload_n 3, 1) := by decide +kernel
theorem dX6_result_45 : decode cX6_result 45 = .ok (.sipush 10000, 3) := by decide +kernel
theorem dX6_result_48 : decode cX6_result 48 = .ok (.irem, 1) := by decide +kernel
theorem dX6_result_49 : decode cX6_result 49 = .ok (.ireturn, 1) := by decide +kernel
theorem dX6_dones_0 : decode cX6_dones 0 = .ok (.iconst 0, 1) := by decide +kernel
theorem dX6_dones_1 : decode cX6_dones 1 = .ok (.istore_n 1, 1) := by decide +kernel
theorem dX6_dones_2 : decode cX6_dones 2 = .ok (.iload_n 1, 1) := by decide +kernel
theorem dX6_dones_3 : decode cX6_dones 3 = .ok (.aload_n 0, 1) := by decide +kernel
theorem dX6_dones_4 : decode cX6_dones 4 = .ok (.getfield 7, 3) := by decide +kernel
theorem dX6_dones_7 : decode cX6_dones 7 = .ok (.iconst 3, 1) := by decide +kernel
theorem dX6_dones_8 : decode cX6_dones 8 = .ok (.iaload, 1) := by decide +kernel
theorem dX6_dones_9 : decode cX6_dones 9 = .ok (.if_icmp .ge 128, 3) := by decide +kernel
theorem dX6_dones_12 : decode cX6_dones 12 = .ok (.aload_n 0, 1) := by decide +kernel
theorem dX6_dones_13 : decode cX6_dones 13 = .ok (.getfield 7, 3) := by decide +kernel
theorem dX6_dones_16 : decode cX6_dones 16 = .ok (.iload_n 1, 1) := by decide +kernel
theorem dX6_dones_17 : decode cX6_dones 17 = .ok (.iconst 4, 1) := by decide +kernel
theorem dX6_dones_18 : decode cX6_dones 18 = .ok (.invokestatic 47, 3) := by decide +kernel
theorem dX6_dones_21 : decode cX6_dones 21 = .ok (.iaload, 1) := by decide +kernel
theorem dX6_dones_22 : decode cX6_dones 22 = .ok (.ifCond .lt 109, 3) := by decide +kernel
theorem dX6_dones_25 : decode cX6_dones 25 = .ok (.aload_n 0, 1) := by decide +kernel
theorem dX6_dones_26 : decode cX6_dones 26 = .ok (.getfield 7, 3) := by decide +kernel
theorem dX6_dones_29 : decode cX6_dones 29 = .ok (.iload_n 1, 1) := by decide +kernel
theorem dX6_dones_30 : decode cX6_dones 30 = .ok (.iconst 4, 1) := by decide +kernel
theorem dX6_dones_31 : decode cX6_dones 31 = .ok (.invokestatic 47, 3) := by decide +kernel
theorem dX6_dones_34 : decode cX6_dones 34 = .ok (.iaload, 1) := by decide +kernel
theorem dX6_dones_35 : decode cX6_dones 35 = .ok (.aload_n 0, 1) := by decide +kernel
theorem dX6_dones_36 : decode cX6_dones 36 = .ok (.getfield 7, 3) := by decide +kernel
theorem dX6_dones_39 : decode cX6_dones 39 = .ok (.iconst 1, 1) := by decide +kernel
theorem dX6_dones_40 : decode cX6_dones 40 = .ok (.iaload, 1) := by decide +kernel
theorem dX6_dones_41 : decode cX6_dones 41 = .ok (.if_icmp .gt 90, 3) := by decide +kernel
theorem dX6_dones_44 : decode cX6_dones 44 = .ok (.aload_n 0, 1) := by decide +kernel
theorem dX6_dones_45 : decode cX6_dones 45 = .ok (.getfield 7, 3) := by decide +kernel
theorem dX6_dones_48 : decode cX6_dones 48 = .ok (.aload_n 0, 1) := by decide +kernel
theorem dX6_dones_49 : decode cX6_dones 49 = .ok (.getfield 7, 3) := by decide +kernel
theorem dX6_dones_52 : decode cX6_dones 52 = .ok (.iload_n 1, 1) := by decide +kernel
theorem dX6_dones_53 : decode cX6_dones 53 = .ok (.iconst 2, 1) := by decide +kernel
theorem dX6_dones_54 : decode cX6_dones 54 = .ok (.invokestatic 47, 3) := by decide +kernel
theorem dX6_dones_57 : decode cX6_dones 57 = .ok (.iaload, 1) := by decide +kernel
theorem dX6_dones_58 : decode cX6_dones 58 = .ok (.iconst 1, 1) := by decide +kernel
theorem dX6_dones_59 : decode cX6_dones 59 = .ok (.invokestatic 65, 3) := by decide +kernel
theorem dX6_dones_62 : decode cX6_dones 62 = .ok (.iaload, 1) := by decide +kernel
theorem dX6_dones_63 : decode cX6_dones 63 = .ok (.istore_n 2, 1) := by decide +kernel
theorem dX6_dones_64 : decode cX6_dones 64 = .ok (.aload_n 0, 1) := by decide +kernel
theorem dX6_dones_65 : decode cX6_dones 65 = .ok (.getfield 7, 3) := by decide +kernel
theorem dX6_dones_68 : decode cX6_dones 68 = .ok (.aload_n 0, 1) := by decide +kernel
theorem dX6_dones_69 : decode cX6_dones 69 = .ok (.getfield 7, 3) := by decide +kernel
theorem dX6_dones_72 : decode cX6_dones 72 = .ok (.iload_n 1, 1) := by decide +kernel
theorem dX6_dones_73 : decode cX6_dones 73 = .ok (.iconst 3, 1) := by decide +kernel
theorem dX6_dones_74 : decode cX6_dones 74 = .ok (.invokestatic 47, 3) := by decide +kernel
theorem dX6_dones_77 : decode cX6_dones 77 = .ok (.iaload, 1) := by decide +kernel
theorem dX6_dones_78 : decode cX6_dones 78 = .ok (.iconst 1, 1) := by decide +kernel
theorem dX6_dones_79 : decode cX6_dones 79 = .ok (.invokestatic 65, 3) := by decide +kernel
theorem dX6_dones_82 : decode cX6_dones 82 = .ok (.iaload, 1) := by decide +kernel
theorem dX6_dones_83 : decode cX6_dones 83 = .ok (.istore_n 3, 1) := by decide +kernel
theorem dX6_dones_84 : decode cX6_dones 84 = .ok (.aload_n 0, 1) := by decide +kernel
theorem dX6_dones_85 : decode cX6_dones 85 = .ok (.aload_n 0, 1) := by decide +kernel
theorem dX6_dones_86 : decode cX6_dones 86 = .ok (.getfield 7, 3) := by decide +kernel
theorem dX6_dones_89 : decode cX6_dones 89 = .ok (.iload_n 1, 1) := by decide +kernel
theorem dX6_dones_90 : decode cX6_dones 90 = .ok (.iconst 1, 1) := by decide +kernel
theorem dX6_dones_91 : decode cX6_dones 91 = .ok (.invokestatic 47, 3) := by decide +kernel
theorem dX6_dones_94 : decode cX6_dones 94 = .ok (.iaload, 1) := by decide +kernel
theorem dX6_dones_95 : decode cX6_dones 95 = .ok (.aload_n 0, 1) := by decide +kernel
theorem dX6_dones_96 : decode cX6_dones 96 = .ok (.getfield 7, 3) := by decide +kernel
theorem dX6_dones_99 : decode cX6_dones 99 = .ok (.iload_n 1, 1) := by decide +kernel
theorem dX6_dones_100 : decode cX6_dones 100 = .ok (.iconst 0, 1) := by decide +kernel
theorem dX6_dones_101 : decode cX6_dones 101 = .ok (.invokestatic 47, 3) := by decide +kernel
theorem dX6_dones_104 : decode cX6_dones 104 = .ok (.iaload, 1) := by decide +kernel
theorem dX6_dones_105 : decode cX6_dones 105 = .ok (.iload_n 2, 1) := by decide +kernel
theorem dX6_dones_106 : decode cX6_dones 106 = .ok (.iload_n 3, 1) := by decide +kernel
theorem dX6_dones_107 : decode cX6_dones 107 = .ok (.invokestatic 107, 3) := by decide +kernel
theorem dX6_dones_110 : decode cX6_dones 110 = .ok (.invokevirtual 95, 3) := by decide +kernel
theorem dX6_dones_113 : decode cX6_dones 113 = .ok (.aload_n 0, 1) := by decide +kernel
theorem dX6_dones_114 : decode cX6_dones 114 = .ok (.iload_n 1, 1) := by decide +kernel
theorem dX6_dones_115 : decode cX6_dones 115 = .ok (.invokevirtual 110, 3) := by decide +kernel
theorem dX6_dones_118 : decode cX6_dones 118 = .ok (.aload_n 0, 1) := by decide +kernel
theorem dX6_dones_119 : decode cX6_dones 119 = .ok (.getfield 7, 3) := by decide +kernel
theorem dX6_dones_122 : decode cX6_dones 122 = .ok (.iconst 4, 1) := by decide +kernel
theorem dX6_dones_123 : decode cX6_dones 123 = .ok (.dup2, 1) := by decide +kernel
theorem dX6_dones_124 : decode cX6_dones 124 = .ok (.iaload, 1) := by decide +kernel
theorem dX6_dones_125 : decode cX6_dones 125 = .ok (.iconst 1, 1) := by decide +kernel
theorem dX6_dones_126 : decode cX6_dones 126 = .ok (.iadd, 1) := by decide +kernel
theorem dX6_dones_127 : decode cX6_dones 127 = .ok (.iastore, 1) := by decide +kernel
theorem dX6_dones_128 : decode cX6_dones 128 = .ok (.goto (-126), 3) := by decide +kernel
theorem dX6_dones_131 : decode cX6_dones 131 = .ok (.iinc 1 1, 3) := by decide +kernel
theorem dX6_dones_134 : decode cX6_dones 134 = .ok (.goto (-132), 3) := by decide +kernel
theorem dX6_dones_137 : decode cX6_dones 137 = .ok (.aload_n 0, 1) := by decide +kernel
theorem dX6_dones_138 : decode cX6_dones 138 = .ok (.invokevirtual 68, 3) := by decide +kernel
theorem dX6_dones_141 : decode cX6_dones 141 = .ok (.return_, 1) := by decide +kernel
theorem dX6_ticks_0 : decode cX6_ticks 0 = .ok (.aload_n 0, 1) := by decide +kernel
theorem dX6_ticks_1 : decode cX6_ticks 1 = .ok (.getfield 7, 3) := by decide +kernel
theorem dX6_ticks_4 : decode cX6_ticks 4 = .ok (.iconst 1, 1) := by decide +kernel
theorem dX6_ticks_5 : decode cX6_ticks 5 = .ok (.dup2, 1) := by decide +kernel
theorem dX6_ticks_6 : decode cX6_ticks 6 = .ok (.iaload, 1) := by decide +kernel
theorem dX6_ticks_7 : decode cX6_ticks 7 = .ok (.iconst 1, 1) := by decide +kernel
theorem dX6_ticks_8 : decode cX6_ticks 8 = .ok (.iadd, 1) := by decide +kernel
theorem dX6_ticks_9 : decode cX6_ticks 9 = .ok (.iastore, 1) := by decide +kernel
theorem dX6_ticks_10 : decode cX6_ticks 10 = .ok (.iconst 0, 1) := by decide +kernel
theorem dX6_ticks_11 : decode cX6_ticks 11 = .ok (.istore_n 1, 1) := by decide +kernel
theorem dX6_ticks_12 : decode cX6_ticks 12 = .ok (.iload_n 1, 1) := by decide +kernel
theorem dX6_ticks_13 : decode cX6_ticks 13 = .ok (.aload_n 0, 1) := by decide +kernel
theorem dX6_ticks_14 : decode cX6_ticks 14 = .ok (.getfield 7, 3) := by decide +kernel
theorem dX6_ticks_17 : decode cX6_ticks 17 = .ok (.iconst 0, 1) := by decide +kernel
theorem dX6_ticks_18 : decode cX6_ticks 18 = .ok (.iaload, 1) := by decide +kernel
theorem dX6_ticks_19 : decode cX6_ticks 19 = .ok (.if_icmp .ge 70, 3) := by decide +kernel
theorem dX6_ticks_22 : decode cX6_ticks 22 = .ok (.aload_n 0, 1) := by decide +kernel
theorem dX6_ticks_23 : decode cX6_ticks 23 = .ok (.getfield 7, 3) := by decide +kernel
theorem dX6_ticks_26 : decode cX6_ticks 26 = .ok (.iload_n 1, 1) := by decide +kernel
theorem dX6_ticks_27 : decode cX6_ticks 27 = .ok (.iconst 0, 1) := by decide +kernel
theorem dX6_ticks_28 : decode cX6_ticks 28 = .ok (.invokestatic 65, 3) := by decide +kernel
theorem dX6_ticks_31 : decode cX6_ticks 31 = .ok (.iaload, 1) := by decide +kernel
theorem dX6_ticks_32 : decode cX6_ticks 32 = .ok (.iconst 1, 1) := by decide +kernel
theorem dX6_ticks_33 : decode cX6_ticks 33 = .ok (.if_icmp .ne 50, 3) := by decide +kernel
theorem dX6_ticks_36 : decode cX6_ticks 36 = .ok (.aload_n 0, 1) := by decide +kernel
theorem dX6_ticks_37 : decode cX6_ticks 37 = .ok (.getfield 7, 3) := by decide +kernel
theorem dX6_ticks_40 : decode cX6_ticks 40 = .ok (.iload_n 1, 1) := by decide +kernel
theorem dX6_ticks_41 : decode cX6_ticks 41 = .ok (.iconst 3, 1) := by decide +kernel
theorem dX6_ticks_42 : decode cX6_ticks 42 = .ok (.invokestatic 65, 3) := by decide +kernel
theorem dX6_ticks_45 : decode cX6_ticks 45 = .ok (.iaload, 1) := by decide +kernel
theorem dX6_ticks_46 : decode cX6_ticks 46 = .ok (.ifCond .lt 37, 3) := by decide +kernel
theorem dX6_ticks_49 : decode cX6_ticks 49 = .ok (.aload_n 0, 1) := by decide +kernel
theorem dX6_ticks_50 : decode cX6_ticks 50 = .ok (.getfield 7, 3) := by decide +kernel
theorem dX6_ticks_53 : decode cX6_ticks 53 = .ok (.iload_n 1, 1) := by decide +kernel
theorem dX6_ticks_54 : decode cX6_ticks 54 = .ok (.iconst 3, 1) := by decide +kernel
theorem dX6_ticks_55 : decode cX6_ticks 55 = .ok (.invokestatic 65, 3) := by decide +kernel
theorem dX6_ticks_58 : decode cX6_ticks 58 = .ok (.iaload, 1) := by decide +kernel
theorem dX6_ticks_59 : decode cX6_ticks 59 = .ok (.aload_n 0, 1) := by decide +kernel
theorem dX6_ticks_60 : decode cX6_ticks 60 = .ok (.getfield 7, 3) := by decide +kernel
theorem dX6_ticks_63 : decode cX6_ticks 63 = .ok (.iconst 1, 1) := by decide +kernel
theorem dX6_ticks_64 : decode cX6_ticks 64 = .ok (.iaload, 1) := by decide +kernel
theorem dX6_ticks_65 : decode cX6_ticks 65 = .ok (.if_icmp .gt 18, 3) := by decide +kernel
theorem dX6_ticks_68 : decode cX6_ticks 68 = .ok (.aload_n 0, 1) := by decide +kernel
theorem dX6_ticks_69 : decode cX6_ticks 69 = .ok (.iload_n 1, 1) := by decide +kernel
theorem dX6_ticks_70 : decode cX6_ticks 70 = .ok (.aload_n 0, 1) := by decide +kernel
theorem dX6_ticks_71 : decode cX6_ticks 71 = .ok (.getfield 7, 3) := by decide +kernel
theorem dX6_ticks_74 : decode cX6_ticks 74 = .ok (.iload_n 1, 1) := by decide +kernel
theorem dX6_ticks_75 : decode cX6_ticks 75 = .ok (.iconst 1, 1) := by decide +kernel
theorem dX6_ticks_76 : decode cX6_ticks 76 = .ok (.invokestatic 65, 3) := by decide +kernel
theorem dX6_ticks_79 : decode cX6_ticks 79 = .ok (.iaload, 1) := by decide +kernel
theorem dX6_ticks_80 : decode cX6_ticks 80 = .ok (.invokevirtual 95, 3) := by decide +kernel
theorem dX6_ticks_83 : decode cX6_ticks 83 = .ok (.iinc 1 1, 3) := by decide +kernel
theorem dX6_ticks_86 : decode cX6_ticks 86 = .ok (.goto (-74), 3) := by decide +kernel
theorem dX6_ticks_89 : decode cX6_ticks 89 = .ok (.aload_n 0, 1) := by decide +kernel
theorem dX6_ticks_90 : decode cX6_ticks 90 = .ok (.invokevirtual 113, 3) := by decide +kernel
theorem dX6_ticks_93 : decode cX6_ticks 93 = .ok (.iconst 0, 1) := by decide +kernel
theorem dX6_ticks_94 : decode cX6_ticks 94 = .ok (.istore_n 1, 1) := by decide +kernel
theorem dX6_ticks_95 : decode cX6_ticks 95 = .ok (.iconst 0, 1) := by decide +kernel
theorem dX6_ticks_96 : decode cX6_ticks 96 = .ok (.istore_n 2, 1) := by decide +kernel
theorem dX6_ticks_97 : decode cX6_ticks 97 = .ok (.iload_n 2, 1) := by decide +kernel
theorem dX6_ticks_98 : decode cX6_ticks 98 = .ok (.aload_n 0, 1) := by decide +kernel
theorem dX6_ticks_99 : decode cX6_ticks 99 = .ok (.getfield 7, 3) := by decide +kernel
theorem dX6_ticks_102 : decode cX6_ticks 102 = .ok (.iconst 3, 1) := by decide +kernel
theorem dX6_ticks_103 : decode cX6_ticks 103 = .ok (.iaload, 1) := by decide +kernel
theorem dX6_ticks_104 : decode cX6_ticks 104 = .ok (.if_icmp .ge 136, 3) := by decide +kernel
theorem dX6_ticks_107 : decode cX6_ticks 107 = .ok (.iload_n 1, 1) := by decide +kernel
theorem dX6_ticks_108 : decode cX6_ticks 108 = .ok (.aload_n 0, 1) := by decide +kernel
theorem dX6_ticks_109 : decode cX6_ticks 109 = .ok (.getfield 7, 3) := by decide +kernel
theorem dX6_ticks_112 : decode cX6_ticks 112 = .ok (.bipush 11, 2) := by decide +kernel
theorem dX6_ticks_114 : decode cX6_ticks 114 = .ok (.iaload, 1) := by decide +kernel
theorem dX6_ticks_115 : decode cX6_ticks 115 = .ok (.if_icmp .ge 125, 3) := by decide +kernel
theorem dX6_ticks_118 : decode cX6_ticks 118 = .ok (.aload_n 0, 1) := by decide +kernel
theorem dX6_ticks_119 : decode cX6_ticks 119 = .ok (.getfield 7, 3) := by decide +kernel
theorem dX6_ticks_122 : decode cX6_ticks 122 = .ok (.iload_n 2, 1) := by decide +kernel
theorem dX6_ticks_123 : decode cX6_ticks 123 = .ok (.iconst 4, 1) := by decide +kernel
theorem dX6_ticks_124 : decode cX6_ticks 124 = .ok (.invokestatic 47, 3) := by decide +kernel
theorem dX6_ticks_127 : decode cX6_ticks 127 = .ok (.iaload, 1) := by decide +kernel
theorem dX6_ticks_128 : decode cX6_ticks 128 = .ok (.ifCond .ge 53, 3) := by decide +kernel
theorem dX6_ticks_131 : decode cX6_ticks 131 = .ok (.aload_n 0, 1) := by decide +kernel
theorem dX6_ticks_132 : decode cX6_ticks 132 = .ok (.getfield 7, 3) := by decide +kernel
theorem dX6_ticks_135 : decode cX6_ticks 135 = .ok (.aload_n 0, 1) := by decide +kernel
theorem dX6_ticks_136 : decode cX6_ticks 136 = .ok (.getfield 7, 3) := by decide +kernel
theorem dX6_ticks_139 : decode cX6_ticks 139 = .ok (.iload_n 2, 1) := by decide +kernel
theorem dX6_ticks_140 : decode cX6_ticks 140 = .ok (.iconst 2, 1) := by decide +kernel
theorem dX6_ticks_141 : decode cX6_ticks 141 = .ok (.invokestatic 47, 3) := by decide +kernel
theorem dX6_ticks_144 : decode cX6_ticks 144 = .ok (.iaload, 1) := by decide +kernel
theorem dX6_ticks_145 : decode cX6_ticks 145 = .ok (.iconst 2, 1) := by decide +kernel
theorem dX6_ticks_146 : decode cX6_ticks 146 = .ok (.invokestatic 65, 3) := by decide +kernel
theorem dX6_ticks_149 : decode cX6_ticks 149 = .ok (.iaload, 1) := by decide +kernel
theorem dX6_ticks_150 : decode cX6_ticks 150 = .ok (.iconst 1, 1) := by decide +kernel
theorem dX6_ticks_151 : decode cX6_ticks 151 = .ok (.if_icmp .ne 30, 3) := by decide +kernel
theorem dX6_ticks_154 : decode cX6_ticks 154 = .ok (.aload_n 0, 1) := by decide +kernel
theorem dX6_ticks_155 : decode cX6_ticks 155 = .ok (.getfield 7, 3) := by decide +kernel
theorem dX6_ticks_158 : decode cX6_ticks 158 = .ok (.aload_n 0, 1) := by decide +kernel
theorem dX6_ticks_159 : decode cX6_ticks 159 = .ok (.getfield 7, 3) := by decide +kernel
theorem dX6_ticks_162 : decode cX6_ticks 162 = .ok (.iload_n 2, 1) := by decide +kernel
theorem dX6_ticks_163 : decode cX6_ticks 163 = .ok (.iconst 3, 1) := by decide +kernel
theorem dX6_ticks_164 : decode cX6_ticks 164 = .ok (.invokestatic 47, 3) := by decide +kernel
theorem dX6_ticks_167 : decode cX6_ticks 167 = .ok (.iaload, 1) := by decide +kernel
theorem dX6_ticks_168 : decode cX6_ticks 168 = .ok (.iconst 2, 1) := by decide +kernel
theorem dX6_ticks_169 : decode cX6_ticks 169 = .ok (.invokestatic 65, 3) := by decide +kernel
theorem dX6_ticks_172 : decode cX6_ticks 172 = .ok (.iaload, 1) := by decide +kernel
theorem dX6_ticks_173 : decode cX6_ticks 173 = .ok (.iconst 1, 1) := by decide +kernel
theorem dX6_ticks_174 : decode cX6_ticks 174 = .ok (.if_icmp .ne 7, 3) := by decide +kernel
theorem dX6_ticks_177 : decode cX6_ticks 177 = .ok (.iconst 1, 1) := by decide +kernel
theorem dX6_ticks_178 : decode cX6_ticks 178 = .ok (.goto 4, 3) := by decide +kernel
theorem dX6_ticks_181 : decode cX6_ticks 181 = .ok (.iconst 0, 1) := by decide +kernel
theorem dX6_ticks_182 : decode cX6_ticks 182 = .ok (.istore_n 3, 1) := by decide +kernel
theorem dX6_ticks_183 : decode cX6_ticks 183 = .ok (.iload_n 3, 1) := by decide +kernel
theorem dX6_ticks_184 : decode cX6_ticks 184 = .ok (.ifCond .eq 50, 3) := by decide +kernel
theorem dX6_ticks_187 : decode cX6_ticks 187 = .ok (.aload_n 0, 1) := by decide +kernel
theorem dX6_ticks_188 : decode cX6_ticks 188 = .ok (.getfield 7, 3) := by decide +kernel
theorem dX6_ticks_191 : decode cX6_ticks 191 = .ok (.iload_n 2, 1) := by decide +kernel
theorem dX6_ticks_192 : decode cX6_ticks 192 = .ok (.iconst 4, 1) := by decide +kernel
theorem dX6_ticks_193 : decode cX6_ticks 193 = .ok (.invokestatic 47, 3) := by decide +kernel
theorem dX6_ticks_196 : decode cX6_ticks 196 = .ok (.aload_n 0, 1) := by decide +kernel
theorem dX6_ticks_197 : decode cX6_ticks 197 = .ok (.getfield 7, 3) := by decide +kernel
theorem dX6_ticks_200 : decode cX6_ticks 200 = .ok (.iconst 1, 1) := by decide +kernel
theorem dX6_ticks_201 : decode cX6_ticks 201 = .ok (.iaload, 1) := by decide +kernel
theorem dX6_ticks_202 : decode cX6_ticks 202 = .ok (.aload_n 0, 1) := by decide +kernel
theorem dX6_ticks_203 : decode cX6_ticks 203 = .ok (.getfield 7, 3) := by decide +kernel
theorem dX6_ticks_206 : decode cX6_ticks 206 = .ok (.bipush 8, 2) := by decide +kernel
theorem dX6_ticks_208 : decode cX6_ticks 208 = .ok (.aload_n 0, 1) := by decide +kernel
theorem dX6_ticks_209 : decode cX6_ticks 209 = .ok (.getfield 7, 3) := by decide +kernel
theorem dX6_ticks_212 : decode cX6_ticks 212 = .ok (.iload_n 2, 1) := by decide +kernel
theorem dX6_ticks_213 : decode cX6_ticks 213 = .ok (.iconst 0, 1) := by decide +kernel
theorem dX6_ticks_214 : decode cX6_ticks 214 = .ok (.invokestatic 47, 3) := by decide +kernel
theorem dX6_ticks_217 : decode cX6_ticks 217 = .ok (.iaload, 1) := by decide +kernel
theorem dX6_ticks_218 : decode cX6_ticks 218 = .ok (.iconst 2, 1) := by decide +kernel
theorem dX6_ticks_219 : decode cX6_ticks 219 = .ok (.if_icmp .ne 7, 3) := by decide +kernel
theorem dX6_ticks_222 : decode cX6_ticks 222 = .ok (.iconst 1, 1) := by decide +kernel
theorem dX6_ticks_223 : decode cX6_ticks 223 = .ok (.goto 4, 3) := by decide +kernel
theorem dX6_ticks_226 : decode cX6_ticks 226 = .ok (.iconst 0, 1) := by decide +kernel
theorem dX6_ticks_227 : decode cX6_ticks 227 = .ok (.iadd, 1) := by decide +kernel
theorem dX6_ticks_228 : decode cX6_ticks 228 = .ok (.iaload, 1) := by decide +kernel
theorem dX6_ticks_229 : decode cX6_ticks 229 = .ok (.iadd, 1) := by decide +kernel
theorem dX6_ticks_230 : decode cX6_ticks 230 = .ok (.iastore, 1) := by decide +kernel
theorem dX6_ticks_231 : decode cX6_ticks 231 = .ok (.iinc 1 1, 3) := by decide +kernel
theorem dX6_ticks_234 : decode cX6_ticks 234 = .ok (.iinc 2 1, 3) := by decide +kernel
theorem dX6_ticks_237 : decode cX6_ticks 237 = .ok (.goto (-140), 3) := by decide +kernel
theorem dX6_ticks_240 : decode cX6_ticks 240 = .ok (.return_, 1) := by decide +kernel
theorem dX6_tick_0 : decode cX6_tick 0 = .ok (.iload_n 1, 1) := by decide +kernel
theorem dX6_tick_1 : decode cX6_tick 1 = .ok (.iconst 1, 1) := by decide +kernel
theorem dX6_tick_2 : decode cX6_tick 2 = .ok (.bipush 99, 2) := by decide +kernel
theorem dX6_tick_4 : decode cX6_tick 4 = .ok (.invokestatic 43, 3) := by decide +kernel
theorem dX6_tick_7 : decode cX6_tick 7 = .ok (.ifCond .ne 5, 3) := by decide +kernel
theorem dX6_tick_10 : decode cX6_tick 10 = .ok (.iconst (-1), 1) := by decide +kernel
theorem dX6_tick_11 : decode cX6_tick 11 = .ok (.ireturn, 1) := by decide +kernel
theorem dX6_tick_12 : decode cX6_tick 12 = .ok (.aload_n 0, 1) := by decide +kernel
theorem dX6_tick_13 : decode cX6_tick 13 = .ok (.getfield 7, 3) := by decide +kernel
theorem dX6_tick_16 : decode cX6_tick 16 = .ok (.iconst 1, 1) := by decide +kernel
theorem dX6_tick_17 : decode cX6_tick 17 = .ok (.iaload, 1) := by decide +kernel
theorem dX6_tick_18 : decode cX6_tick 18 = .ok (.iload_n 1, 1) := by decide +kernel
theorem dX6_tick_19 : decode cX6_tick 19 = .ok (.iadd, 1) := by decide +kernel
theorem dX6_tick_20 : decode cX6_tick 20 = .ok (.ldc 116, 2) := by decide +kernel
theorem dX6_tick_22 : decode cX6_tick 22 = .ok (.if_icmp .le 6, 3) := by decide +kernel
theorem dX6_tick_25 : decode cX6_tick 25 = .ok (.bipush (-3), 2) := by decide +kernel
theorem dX6_tick_27 : decode cX6_tick 27 = .ok (.ireturn, 1) := by decide +kernel
theorem dX6_tick_28 : decode cX6_tick 28 = .ok (.aload_n 0, 1) := by decide +kernel
theorem dX6_tick_29 : decode cX6_tick 29 = .ok (.aload_n 0, 1) := by decide +kernel
theorem dX6_tick_30 : decode cX6_tick 30 = .ok (.getfield 7, 3) := by decide +kernel
theorem dX6_tick_33 : decode cX6_tick 33 = .ok (.invokevirtual 81, 3) := by decide +kernel
theorem dX6_tick_36 : decode cX6_tick 36 = .ok (.aload_n 0, 1) := by decide +kernel
theorem dX6_tick_37 : decode cX6_tick 37 = .ok (.getfield 7, 3) := by decide +kernel
theorem dX6_tick_40 : decode cX6_tick 40 = .ok (.iconst 4, 1) := by decide +kernel
theorem dX6_tick_41 : decode cX6_tick 41 = .ok (.iaload, 1) := by decide +kernel
theorem dX6_tick_42 : decode cX6_tick 42 = .ok (.istore_n 2, 1) := by decide +kernel
theorem dX6_tick_43 : decode cX6_tick 43 = .ok (.iconst 0, 1) := by decide +kernel
theorem dX6_tick_44 : decode cX6_tick 44 = .ok (.istore_n 3, 1) := by decide +kernel
theorem dX6_tick_45 : decode cX6_tick 45 = .ok (.iload_n 3, 1) := by decide +kernel
theorem dX6_tick_46 : decode cX6_tick 46 = .ok (.iload_n 1, 1) := by decide +kernel
theorem dX6_tick_47 : decode cX6_tick 47 = .ok (.if_icmp .ge 13, 3) := by decide +kernel
theorem dX6_tick_50 : decode cX6_tick 50 = .ok (.aload_n 0, 1) := by decide +kernel
theorem dX6_tick_51 : decode cX6_tick 51 = .ok (.invokevirtual 117, 3) := by decide +kernel
theorem dX6_tick_54 : decode cX6_tick 54 = .ok (.iinc 3 1, 3) := by decide +kernel
theorem dX6_tick_57 : decode cX6_tick 57 = .ok (.goto (-12), 3) := by decide +kernel
theorem dX6_tick_60 : decode cX6_tick 60 = .ok (.aload_n 0, 1) := by decide +kernel
theorem dX6_tick_61 : decode cX6_tick 61 = .ok (.getfield 7, 3) := by decide +kernel
theorem dX6_tick_64 : decode cX6_tick 64 = .ok (.iconst 4, 1) := by decide +kernel
theorem dX6_tick_65 : decode cX6_tick 65 = .ok (.iaload, 1) := by decide +kernel
theorem dX6_tick_66 : decode cX6_tick 66 = .ok (.iload_n 2, 1) := by decide +kernel
theorem dX6_tick_67 : decode cX6_tick 67 = .ok (.isub, 1) := by decide +kernel
theorem dX6_tick_68 : decode cX6_tick 68 = .ok (.ireturn, 1) := by decide +kernel
theorem dX6_set_0 : decode cX6_set 0 = .ok (.iload_n 1, 1) := by decide +kernel
theorem dX6_set_1 : decode cX6_set 1 = .ok (.ifCond .eq 8, 3) := by decide +kernel
theorem dX6_set_4 : decode cX6_set 4 = .ok (.iload_n 1, 1) := by decide +kernel
theorem dX6_set_5 : decode cX6_set 5 = .ok (.iconst 1, 1) := by decide +kernel
theorem dX6_set_6 : decode cX6_set 6 = .ok (.if_icmp .ne 13, 3) := by decide +kernel
theorem dX6_set_9 : decode cX6_set 9 = .ok (.iload_n 2, 1) := by decide +kernel
theorem dX6_set_10 : decode cX6_set 10 = .ok (.iconst 1, 1) := by decide +kernel
theorem dX6_set_11 : decode cX6_set 11 = .ok (.bipush 9, 2) := by decide +kernel
theorem dX6_set_13 : decode cX6_set 13 = .ok (.invokestatic 43, 3) := by decide +kernel
theorem dX6_set_16 : decode cX6_set 16 = .ok (.goto 37, 3) := by decide +kernel
theorem dX6_set_19 : decode cX6_set 19 = .ok (.iload_n 1, 1) := by decide +kernel
theorem dX6_set_20 : decode cX6_set 20 = .ok (.iconst 2, 1) := by decide +kernel
theorem dX6_set_21 : decode cX6_set 21 = .ok (.if_icmp .ne 13, 3) := by decide +kernel
theorem dX6_set_24 : decode cX6_set 24 = .ok (.iload_n 2, 1) := by decide +kernel
theorem dX6_set_25 : decode cX6_set 25 = .ok (.iconst 0, 1) := by decide +kernel
theorem dX6_set_26 : decode cX6_set 26 = .ok (.bipush 9, 2) := by decide +kernel
theorem dX6_set_28 : decode cX6_set 28 = .ok (.invokestatic 43, 3) := by decide +kernel
theorem dX6_set_31 : decode cX6_set 31 = .ok (.goto 22, 3) := by decide +kernel
theorem dX6_set_34 : decode cX6_set 34 = .ok (.iload_n 1, 1) := by decide +kernel
theorem dX6_set_35 : decode cX6_set 35 = .ok (.iconst 3, 1) := by decide +kernel
theorem dX6_set_36 : decode cX6_set 36 = .ok (.if_icmp .ne 16, 3) := by decide +kernel
theorem dX6_set_39 : decode cX6_set 39 = .ok (.iload_n 2, 1) := by decide +kernel
theorem dX6_set_40 : decode cX6_set 40 = .ok (.iconst 1, 1) := by decide +kernel
theorem dX6_set_41 : decode cX6_set 41 = .ok (.iconst 3, 1) := by decide +kernel
theorem dX6_set_42 : decode cX6_set 42 = .ok (.invokestatic 43, 3) := by decide +kernel
theorem dX6_set_45 : decode cX6_set 45 = .ok (.ifCond .eq 7, 3) := by decide +kernel
theorem dX6_set_48 : decode cX6_set 48 = .ok (.iconst 1, 1) := by decide +kernel
theorem dX6_set_49 : decode cX6_set 49 = .ok (.goto 4, 3) := by decide +kernel
theorem dX6_set_52 : decode cX6_set 52 = .ok (.iconst 0, 1) := by decide +kernel
theorem dX6_set_53 : decode cX6_set 53 = .ok (.istore_n 3, 1) := by decide +kernel
theorem dX6_set_54 : decode cX6_set 54 = .ok (.iload_n 3, 1) := by decide +kernel
theorem dX6_set_55 : decode cX6_set 55 = .ok (.ifCond .ne 5, 3) := by decide +kernel
theorem dX6_set_58 : decode cX6_set 58 = .ok (.iconst (-1), 1) := by decide +kernel
theorem dX6_set_59 : decode cX6_set 59 = .ok (.ireturn, 1) := by decide +kernel
theorem dX6_set_60 : decode cX6_set 60 = .ok (.aload_n 0, 1) := by decide +kernel
theorem dX6_set_61 : decode cX6_set 61 = .ok (.aload_n 0, 1) := by decide +kernel
theorem dX6_set_62 : decode cX6_set 62 = .ok (.getfield 7, 3) := by decide +kernel
theorem dX6_set_65 : decode cX6_set 65 = .ok (.invokevirtual 81, 3) := by decide +kernel
theorem dX6_set_68 : decode cX6_set 68 = .ok (.aload_n 0, 1) := by decide +kernel
theorem dX6_set_69 : decode cX6_set 69 = .ok (.getfield 7, 3) := by decide +kernel
theorem dX6_set_72 : decode cX6_set 72 = .ok (.bipush 8, 2) := by decide +kernel
theorem dX6_set_74 : decode cX6_set 74 = .ok (.iload_n 1, 1) := by decide +kernel
theorem dX6_set_75 : decode cX6_set 75 = .ok (.iadd, 1) := by decide +kernel
theorem dX6_set_76 : decode cX6_set 76 = .ok (.iaload, 1) := by decide +kernel
theorem dX6_set_77 : decode cX6_set 77 = .ok (.istore 4, 2) := by decide +kernel
theorem dX6_set_79 : decode cX6_set 79 = .ok (.aload_n 0, 1) := by decide +kernel
theorem dX6_set_80 : decode cX6_set 80 = .ok (.getfield 7, 3) := by decide +kernel
theorem dX6_set_83 : decode cX6_set 83 = .ok (.bipush 8, 2) := by decide +kernel
theorem dX6_set_85 : decode cX6_set 85 = .ok (.iload_n 1, 1) := by decide +kernel
theorem dX6_set_86 : decode cX6_set 86 = .ok (.iadd, 1) := by decide +kernel
theorem dX6_set_87 : decode cX6_set 87 = .ok (.iload_n 2, 1) := by decide +kernel
theorem dX6_set_88 : decode cX6_set 88 = .ok (.iastore, 1) := by decide +kernel
theorem dX6_set_89 : decode cX6_set 89 = .ok (.iload 4, 2) := by decide +kernel
theorem dX6_set_91 : decode cX6_set 91 = .ok (.ireturn, 1) := by decide +kernel
theorem dX6_mark_0 : decode cX6_mark 0 = .ok (.aload_n 0, 1) := by decide +kernel
theorem dX6_mark_1 : decode cX6_mark 1 = .ok (.getfield 7, 3) := by decide +kernel
theorem dX6_mark_4 : decode cX6_mark 4 = .ok (.iconst 2, 1) := by decide +kernel
theorem dX6_mark_5 : decode cX6_mark 5 = .ok (.iaload, 1) := by decide +kernel
theorem dX6_mark_6 : decode cX6_mark 6 = .ok (.iconst 3, 1) := by decide +kernel
theorem dX6_mark_7 : decode cX6_mark 7 = .ok (.if_icmp .ne 6, 3) := by decide +kernel
theorem dX6_mark_10 : decode cX6_mark 10 = .ok (.bipush (-3), 2) := by decide +kernel
theorem dX6_mark_12 : decode cX6_mark 12 = .ok (.ireturn, 1) := by decide +kernel
theorem dX6_mark_13 : decode cX6_mark 13 = .ok (.aload_n 0, 1) := by decide +kernel
theorem dX6_mark_14 : decode cX6_mark 14 = .ok (.aload_n 0, 1) := by decide +kernel
theorem dX6_mark_15 : decode cX6_mark 15 = .ok (.getfield 7, 3) := by decide +kernel
theorem dX6_mark_18 : decode cX6_mark 18 = .ok (.invokevirtual 81, 3) := by decide +kernel
theorem dX6_mark_21 : decode cX6_mark 21 = .ok (.iconst 0, 1) := by decide +kernel
theorem dX6_mark_22 : decode cX6_mark 22 = .ok (.istore_n 1, 1) := by decide +kernel
theorem dX6_mark_23 : decode cX6_mark 23 = .ok (.iload_n 1, 1) := by decide +kernel
theorem dX6_mark_24 : decode cX6_mark 24 = .ok (.bipush 16, 2) := by decide +kernel
theorem dX6_mark_26 : decode cX6_mark 26 = .ok (.if_icmp .ge 37, 3) := by decide +kernel
end
section
theorem dX6_mark_29 : decode cX6_mark 29 = .ok (.aload_n 0, 1) := by decide +kernel
theorem dX6_mark_30 : decode cX6_mark 30 = .ok (.getfield 7, 3) := by decide +kernel
theorem dX6_mark_33 : decode cX6_mark 33 = .ok (.bipush 63, 2) := by decide +kernel
theorem dX6_mark_35 : decode cX6_mark 35 = .ok (.bipush 16, 2) := by decide +kernel
theorem dX6_mark_37 : decode cX6_mark 37 = .ok (.aload_n 0, 1) := by decide +kernel
theorem dX6_mark_38 : decode cX6_mark 38 = .ok (.getfield 7, 3) := by decide +kernel
theorem dX6_mark_41 : decode cX6_mark 41 = .ok (.iconst 2, 1) := by decide +kernel
theorem dX6_mark_42 : decode cX6_mark 42 = .ok (.iaload, 1) := by decide +kernel
theorem dX6_mark_43 : decode cX6_mark 43 = .ok (.imul, 1) := by decide +kernel
theorem dX6_mark_44 : decode cX6_mark 44 = .ok (.iadd, 1) := by decide +kernel
theorem dX6_mark_45 : decode cX6_mark 45 = .ok (.iload_n 1, 1) := by decide +kernel
theorem dX6_mark_46 : decode cX6_mark 46 = .ok (.iadd, 1) := by decide +kernel
theorem dX6_mark_47 : decode cX6_mark 47 = .ok (.aload_n 0, 1) := by decide +kernel
theorem dX6_mark_48 : decode cX6_mark 48 = .ok (.getfield 7, 3) := by decide +kernel
theorem dX6_mark_51 : decode cX6_mark 51 = .ok (.bipush 12, 2) := by decide +kernel
theorem dX6_mark_53 : decode cX6_mark 53 = .ok (.iload_n 1, 1) := by decide +kernel
theorem dX6_mark_54 : decode cX6_mark 54 = .ok (.iadd, 1) := by decide +kernel
theorem dX6_mark_55 : decode cX6_mark 55 = .ok (.iaload, 1) := by decide +kernel
theorem dX6_mark_56 : decode cX6_mark 56 = .ok (.iastore, 1) := by decide +kernel
theorem dX6_mark_57 : decode cX6_mark 57 = .ok (.iinc 1 1, 3) := by decide +kernel
theorem dX6_mark_60 : decode cX6_mark 60 = .ok (.goto (-37), 3) := by decide +kernel
theorem dX6_mark_63 : decode cX6_mark 63 = .ok (.aload_n 0, 1) := by decide +kernel
theorem dX6_mark_64 : decode cX6_mark 64 = .ok (.getfield 7, 3) := by decide +kernel
theorem dX6_mark_67 : decode cX6_mark 67 = .ok (.iconst 2, 1) := by decide +kernel
theorem dX6_mark_68 : decode cX6_mark 68 = .ok (.dup2, 1) := by decide +kernel
theorem dX6_mark_69 : decode cX6_mark 69 = .ok (.iaload, 1) := by decide +kernel
theorem dX6_mark_70 : decode cX6_mark 70 = .ok (.iconst 1, 1) := by decide +kernel
theorem dX6_mark_71 : decode cX6_mark 71 = .ok (.iadd, 1) := by decide +kernel
theorem dX6_mark_72 : decode cX6_mark 72 = .ok (.iastore, 1) := by decide +kernel
theorem dX6_mark_73 : decode cX6_mark 73 = .ok (.aload_n 0, 1) := by decide +kernel
theorem dX6_mark_74 : decode cX6_mark 74 = .ok (.getfield 7, 3) := by decide +kernel
theorem dX6_mark_77 : decode cX6_mark 77 = .ok (.iconst 2, 1) := by decide +kernel
theorem dX6_mark_78 : decode cX6_mark 78 = .ok (.iaload, 1) := by decide +kernel
theorem dX6_mark_79 : decode cX6_mark 79 = .ok (.iconst 1, 1) := by decide +kernel
theorem dX6_mark_80 : decode cX6_mark 80 = .ok (.isub, 1) := by decide +kernel
theorem dX6_mark_81 : decode cX6_mark 81 = .ok (.ireturn, 1) := by decide +kernel
theorem dX6_keep_0 : decode cX6_keep 0 = .ok (.aload_n 0, 1) := by decide +kernel
theorem dX6_keep_1 : decode cX6_keep 1 = .ok (.getfield 7, 3) := by decide +kernel
theorem dX6_keep_4 : decode cX6_keep 4 = .ok (.iconst 2, 1) := by decide +kernel
theorem dX6_keep_5 : decode cX6_keep 5 = .ok (.iaload, 1) := by decide +kernel
theorem dX6_keep_6 : decode cX6_keep 6 = .ok (.ifCond .ne 6, 3) := by decide +kernel
theorem dX6_keep_9 : decode cX6_keep 9 = .ok (.bipush (-2), 2) := by decide +kernel
theorem dX6_keep_11 : decode cX6_keep 11 = .ok (.ireturn, 1) := by decide +kernel
theorem dX6_keep_12 : decode cX6_keep 12 = .ok (.aload_n 0, 1) := by decide +kernel
theorem dX6_keep_13 : decode cX6_keep 13 = .ok (.aload_n 0, 1) := by decide +kernel
theorem dX6_keep_14 : decode cX6_keep 14 = .ok (.getfield 7, 3) := by decide +kernel
theorem dX6_keep_17 : decode cX6_keep 17 = .ok (.invokevirtual 81, 3) := by decide +kernel
theorem dX6_keep_20 : decode cX6_keep 20 = .ok (.aload_n 0, 1) := by decide +kernel
theorem dX6_keep_21 : decode cX6_keep 21 = .ok (.getfield 7, 3) := by decide +kernel
theorem dX6_keep_24 : decode cX6_keep 24 = .ok (.iconst 2, 1) := by decide +kernel
theorem dX6_keep_25 : decode cX6_keep 25 = .ok (.dup2, 1) := by decide +kernel
theorem dX6_keep_26 : decode cX6_keep 26 = .ok (.iaload, 1) := by decide +kernel
theorem dX6_keep_27 : decode cX6_keep 27 = .ok (.iconst 1, 1) := by decide +kernel
theorem dX6_keep_28 : decode cX6_keep 28 = .ok (.isub, 1) := by decide +kernel
theorem dX6_keep_29 : decode cX6_keep 29 = .ok (.iastore, 1) := by decide +kernel
theorem dX6_keep_30 : decode cX6_keep 30 = .ok (.bipush 63, 2) := by decide +kernel
theorem dX6_keep_32 : decode cX6_keep 32 = .ok (.istore_n 1, 1) := by decide +kernel
theorem dX6_keep_33 : decode cX6_keep 33 = .ok (.iload_n 1, 1) := by decide +kernel
theorem dX6_keep_34 : decode cX6_keep 34 = .ok (.bipush 63, 2) := by decide +kernel
theorem dX6_keep_36 : decode cX6_keep 36 = .ok (.bipush 16, 2) := by decide +kernel
theorem dX6_keep_38 : decode cX6_keep 38 = .ok (.aload_n 0, 1) := by decide +kernel
theorem dX6_keep_39 : decode cX6_keep 39 = .ok (.getfield 7, 3) := by decide +kernel
theorem dX6_keep_42 : decode cX6_keep 42 = .ok (.iconst 2, 1) := by decide +kernel
theorem dX6_keep_43 : decode cX6_keep 43 = .ok (.iaload, 1) := by decide +kernel
theorem dX6_keep_44 : decode cX6_keep 44 = .ok (.imul, 1) := by decide +kernel
theorem dX6_keep_45 : decode cX6_keep 45 = .ok (.iadd, 1) := by decide +kernel
theorem dX6_keep_46 : decode cX6_keep 46 = .ok (.if_icmp .ge 24, 3) := by decide +kernel
theorem dX6_keep_49 : decode cX6_keep 49 = .ok (.aload_n 0, 1) := by decide +kernel
theorem dX6_keep_50 : decode cX6_keep 50 = .ok (.getfield 7, 3) := by decide +kernel
theorem dX6_keep_53 : decode cX6_keep 53 = .ok (.iload_n 1, 1) := by decide +kernel
theorem dX6_keep_54 : decode cX6_keep 54 = .ok (.aload_n 0, 1) := by decide +kernel
theorem dX6_keep_55 : decode cX6_keep 55 = .ok (.getfield 7, 3) := by decide +kernel
theorem dX6_keep_58 : decode cX6_keep 58 = .ok (.iload_n 1, 1) := by decide +kernel
theorem dX6_keep_59 : decode cX6_keep 59 = .ok (.bipush 16, 2) := by decide +kernel
theorem dX6_keep_61 : decode cX6_keep 61 = .ok (.iadd, 1) := by decide +kernel
theorem dX6_keep_62 : decode cX6_keep 62 = .ok (.iaload, 1) := by decide +kernel
theorem dX6_keep_63 : decode cX6_keep 63 = .ok (.iastore, 1) := by decide +kernel
theorem dX6_keep_64 : decode cX6_keep 64 = .ok (.iinc 1 1, 3) := by decide +kernel
theorem dX6_keep_67 : decode cX6_keep 67 = .ok (.goto (-34), 3) := by decide +kernel
theorem dX6_keep_70 : decode cX6_keep 70 = .ok (.iconst 0, 1) := by decide +kernel
theorem dX6_keep_71 : decode cX6_keep 71 = .ok (.istore_n 1, 1) := by decide +kernel
theorem dX6_keep_72 : decode cX6_keep 72 = .ok (.iload_n 1, 1) := by decide +kernel
theorem dX6_keep_73 : decode cX6_keep 73 = .ok (.aload_n 0, 1) := by decide +kernel
theorem dX6_keep_74 : decode cX6_keep 74 = .ok (.getfield 7, 3) := by decide +kernel
theorem dX6_keep_77 : decode cX6_keep 77 = .ok (.iconst 3, 1) := by decide +kernel
theorem dX6_keep_78 : decode cX6_keep 78 = .ok (.iaload, 1) := by decide +kernel
theorem dX6_keep_79 : decode cX6_keep 79 = .ok (.if_icmp .ge 40, 3) := by decide +kernel
theorem dX6_keep_82 : decode cX6_keep 82 = .ok (.aload_n 0, 1) := by decide +kernel
theorem dX6_keep_83 : decode cX6_keep 83 = .ok (.getfield 7, 3) := by decide +kernel
theorem dX6_keep_86 : decode cX6_keep 86 = .ok (.iload_n 1, 1) := by decide +kernel
theorem dX6_keep_87 : decode cX6_keep 87 = .ok (.iconst 5, 1) := by decide +kernel
theorem dX6_keep_88 : decode cX6_keep 88 = .ok (.invokestatic 47, 3) := by decide +kernel
theorem dX6_keep_91 : decode cX6_keep 91 = .ok (.dup2, 1) := by decide +kernel
theorem dX6_keep_92 : decode cX6_keep 92 = .ok (.iaload, 1) := by decide +kernel
theorem dX6_keep_93 : decode cX6_keep 93 = .ok (.aload_n 0, 1) := by decide +kernel
theorem dX6_keep_94 : decode cX6_keep 94 = .ok (.getfield 7, 3) := by decide +kernel
theorem dX6_keep_97 : decode cX6_keep 97 = .ok (.iload_n 1, 1) := by decide +kernel
theorem dX6_keep_98 : decode cX6_keep 98 = .ok (.iconst 5, 1) := by decide +kernel
theorem dX6_keep_99 : decode cX6_keep 99 = .ok (.invokestatic 47, 3) := by decide +kernel
theorem dX6_keep_102 : decode cX6_keep 102 = .ok (.iaload, 1) := by decide +kernel
theorem dX6_keep_103 : decode cX6_keep 103 = .ok (.ifCond .le 7, 3) := by decide +kernel
theorem dX6_keep_106 : decode cX6_keep 106 = .ok (.iconst 1, 1) := by decide +kernel
theorem dX6_keep_107 : decode cX6_keep 107 = .ok (.goto 4, 3) := by decide +kernel
theorem dX6_keep_110 : decode cX6_keep 110 = .ok (.iconst 0, 1) := by decide +kernel
theorem dX6_keep_111 : decode cX6_keep 111 = .ok (.isub, 1) := by decide +kernel
theorem dX6_keep_112 : decode cX6_keep 112 = .ok (.iastore, 1) := by decide +kernel
theorem dX6_keep_113 : decode cX6_keep 113 = .ok (.iinc 1 1, 3) := by decide +kernel
theorem dX6_keep_116 : decode cX6_keep 116 = .ok (.goto (-44), 3) := by decide +kernel
theorem dX6_keep_119 : decode cX6_keep 119 = .ok (.aload_n 0, 1) := by decide +kernel
theorem dX6_keep_120 : decode cX6_keep 120 = .ok (.invokevirtual 68, 3) := by decide +kernel
theorem dX6_keep_123 : decode cX6_keep 123 = .ok (.aload_n 0, 1) := by decide +kernel
theorem dX6_keep_124 : decode cX6_keep 124 = .ok (.getfield 7, 3) := by decide +kernel
theorem dX6_keep_127 : decode cX6_keep 127 = .ok (.iconst 2, 1) := by decide +kernel
theorem dX6_keep_128 : decode cX6_keep 128 = .ok (.iaload, 1) := by decide +kernel
theorem dX6_keep_129 : decode cX6_keep 129 = .ok (.ireturn, 1) := by decide +kernel
theorem dX6_back_0 : decode cX6_back 0 = .ok (.aload_n 0, 1) := by decide +kernel
theorem dX6_back_1 : decode cX6_back 1 = .ok (.iload_n 1, 1) := by decide +kernel
theorem dX6_back_2 : decode cX6_back 2 = .ok (.invokevirtual 120, 3) := by decide +kernel
theorem dX6_back_5 : decode cX6_back 5 = .ok (.ifCond .ne 5, 3) := by decide +kernel
theorem dX6_back_8 : decode cX6_back 8 = .ok (.iconst (-1), 1) := by decide +kernel
theorem dX6_back_9 : decode cX6_back 9 = .ok (.ireturn, 1) := by decide +kernel
theorem dX6_back_10 : decode cX6_back 10 = .ok (.aload_n 0, 1) := by decide +kernel
theorem dX6_back_11 : decode cX6_back 11 = .ok (.aload_n 0, 1) := by decide +kernel
theorem dX6_back_12 : decode cX6_back 12 = .ok (.getfield 7, 3) := by decide +kernel
theorem dX6_back_15 : decode cX6_back 15 = .ok (.invokevirtual 81, 3) := by decide +kernel
theorem dX6_back_18 : decode cX6_back 18 = .ok (.iconst 0, 1) := by decide +kernel
theorem dX6_back_19 : decode cX6_back 19 = .ok (.istore_n 2, 1) := by decide +kernel
theorem dX6_back_20 : decode cX6_back 20 = .ok (.iload_n 2, 1) := by decide +kernel
theorem dX6_back_21 : decode cX6_back 21 = .ok (.bipush 16, 2) := by decide +kernel
theorem dX6_back_23 : decode cX6_back 23 = .ok (.if_icmp .ge 32, 3) := by decide +kernel
theorem dX6_back_26 : decode cX6_back 26 = .ok (.aload_n 0, 1) := by decide +kernel
theorem dX6_back_27 : decode cX6_back 27 = .ok (.getfield 7, 3) := by decide +kernel
theorem dX6_back_30 : decode cX6_back 30 = .ok (.bipush 12, 2) := by decide +kernel
theorem dX6_back_32 : decode cX6_back 32 = .ok (.iload_n 2, 1) := by decide +kernel
theorem dX6_back_33 : decode cX6_back 33 = .ok (.iadd, 1) := by decide +kernel
theorem dX6_back_34 : decode cX6_back 34 = .ok (.aload_n 0, 1) := by decide +kernel
theorem dX6_back_35 : decode cX6_back 35 = .ok (.getfield 7, 3) := by decide +kernel
theorem dX6_back_38 : decode cX6_back 38 = .ok (.bipush 63, 2) := by decide +kernel
theorem dX6_back_40 : decode cX6_back 40 = .ok (.bipush 16, 2) := by decide +kernel
theorem dX6_back_42 : decode cX6_back 42 = .ok (.iload_n 1, 1) := by decide +kernel
theorem dX6_back_43 : decode cX6_back 43 = .ok (.imul, 1) := by decide +kernel
theorem dX6_back_44 : decode cX6_back 44 = .ok (.iadd, 1) := by decide +kernel
theorem dX6_back_45 : decode cX6_back 45 = .ok (.iload_n 2, 1) := by decide +kernel
theorem dX6_back_46 : decode cX6_back 46 = .ok (.iadd, 1) := by decide +kernel
theorem dX6_back_47 : decode cX6_back 47 = .ok (.iaload, 1) := by decide +kernel
theorem dX6_back_48 : decode cX6_back 48 = .ok (.iastore, 1) := by decide +kernel
theorem dX6_back_49 : decode cX6_back 49 = .ok (.iinc 2 1, 3) := by decide +kernel
theorem dX6_back_52 : decode cX6_back 52 = .ok (.goto (-32), 3) := by decide +kernel
theorem dX6_back_55 : decode cX6_back 55 = .ok (.iconst 0, 1) := by decide +kernel
theorem dX6_back_56 : decode cX6_back 56 = .ok (.istore_n 2, 1) := by decide +kernel
theorem dX6_back_57 : decode cX6_back 57 = .ok (.iconst 0, 1) := by decide +kernel
theorem dX6_back_58 : decode cX6_back 58 = .ok (.istore_n 3, 1) := by decide +kernel
theorem dX6_back_59 : decode cX6_back 59 = .ok (.iload_n 3, 1) := by decide +kernel
theorem dX6_back_60 : decode cX6_back 60 = .ok (.aload_n 0, 1) := by decide +kernel
theorem dX6_back_61 : decode cX6_back 61 = .ok (.getfield 7, 3) := by decide +kernel
theorem dX6_back_64 : decode cX6_back 64 = .ok (.iconst 3, 1) := by decide +kernel
theorem dX6_back_65 : decode cX6_back 65 = .ok (.iaload, 1) := by decide +kernel
theorem dX6_back_66 : decode cX6_back 66 = .ok (.if_icmp .ge 34, 3) := by decide +kernel
theorem dX6_back_69 : decode cX6_back 69 = .ok (.aload_n 0, 1) := by decide +kernel
theorem dX6_back_70 : decode cX6_back 70 = .ok (.getfield 7, 3) := by decide +kernel
theorem dX6_back_73 : decode cX6_back 73 = .ok (.iload_n 3, 1) := by decide +kernel
theorem dX6_back_74 : decode cX6_back 74 = .ok (.iconst 5, 1) := by decide +kernel
theorem dX6_back_75 : decode cX6_back 75 = .ok (.invokestatic 47, 3) := by decide +kernel
theorem dX6_back_78 : decode cX6_back 78 = .ok (.iaload, 1) := by decide +kernel
theorem dX6_back_79 : decode cX6_back 79 = .ok (.iload_n 1, 1) := by decide +kernel
theorem dX6_back_80 : decode cX6_back 80 = .ok (.if_icmp .le 14, 3) := by decide +kernel
theorem dX6_back_83 : decode cX6_back 83 = .ok (.aload_n 0, 1) := by decide +kernel
theorem dX6_back_84 : decode cX6_back 84 = .ok (.iload_n 3, 1) := by decide +kernel
theorem dX6_back_85 : decode cX6_back 85 = .ok (.invokevirtual 110, 3) := by decide +kernel
theorem dX6_back_88 : decode cX6_back 88 = .ok (.iinc 2 1, 3) := by decide +kernel
theorem dX6_back_91 : decode cX6_back 91 = .ok (.goto (-32), 3) := by decide +kernel
theorem dX6_back_94 : decode cX6_back 94 = .ok (.iinc 3 1, 3) := by decide +kernel
theorem dX6_back_97 : decode cX6_back 97 = .ok (.goto (-38), 3) := by decide +kernel
theorem dX6_back_100 : decode cX6_back 100 = .ok (.aload_n 0, 1) := by decide +kernel
theorem dX6_back_101 : decode cX6_back 101 = .ok (.getfield 7, 3) := by decide +kernel
theorem dX6_back_104 : decode cX6_back 104 = .ok (.iconst 2, 1) := by decide +kernel
theorem dX6_back_105 : decode cX6_back 105 = .ok (.iload_n 1, 1) := by decide +kernel
theorem dX6_back_106 : decode cX6_back 106 = .ok (.iastore, 1) := by decide +kernel
theorem dX6_back_107 : decode cX6_back 107 = .ok (.aload_n 0, 1) := by decide +kernel
theorem dX6_back_108 : decode cX6_back 108 = .ok (.invokevirtual 68, 3) := by decide +kernel
theorem dX6_back_111 : decode cX6_back 111 = .ok (.iload_n 2, 1) := by decide +kernel
theorem dX6_back_112 : decode cX6_back 112 = .ok (.ireturn, 1) := by decide +kernel
theorem dX6_markOf_0 : decode cX6_markOf 0 = .ok (.aload_n 0, 1) := by decide +kernel
theorem dX6_markOf_1 : decode cX6_markOf 1 = .ok (.iload_n 1, 1) := by decide +kernel
theorem dX6_markOf_2 : decode cX6_markOf 2 = .ok (.invokevirtual 120, 3) := by decide +kernel
theorem dX6_markOf_5 : decode cX6_markOf 5 = .ok (.ifCond .eq 19, 3) := by decide +kernel
theorem dX6_markOf_8 : decode cX6_markOf 8 = .ok (.iload_n 2, 1) := by decide +kernel
theorem dX6_markOf_9 : decode cX6_markOf 9 = .ok (.invokestatic 85, 3) := by decide +kernel
theorem dX6_markOf_12 : decode cX6_markOf 12 = .ok (.ifCond .eq 12, 3) := by decide +kernel
theorem dX6_markOf_15 : decode cX6_markOf 15 = .ok (.iload_n 3, 1) := by decide +kernel
theorem dX6_markOf_16 : decode cX6_markOf 16 = .ok (.iconst 0, 1) := by decide +kernel
theorem dX6_markOf_17 : decode cX6_markOf 17 = .ok (.iconst 1, 1) := by decide +kernel
theorem dX6_markOf_18 : decode cX6_markOf 18 = .ok (.invokestatic 43, 3) := by decide +kernel
theorem dX6_markOf_21 : decode cX6_markOf 21 = .ok (.ifCond .ne 5, 3) := by decide +kernel
theorem dX6_markOf_24 : decode cX6_markOf 24 = .ok (.iconst (-1), 1) := by decide +kernel
theorem dX6_markOf_25 : decode cX6_markOf 25 = .ok (.ireturn, 1) := by decide +kernel
theorem dX6_markOf_26 : decode cX6_markOf 26 = .ok (.aload_n 0, 1) := by decide +kernel
theorem dX6_markOf_27 : decode cX6_markOf 27 = .ok (.getfield 7, 3) := by decide +kernel
theorem dX6_markOf_30 : decode cX6_markOf 30 = .ok (.bipush 63, 2) := by decide +kernel
theorem dX6_markOf_32 : decode cX6_markOf 32 = .ok (.bipush 16, 2) := by decide +kernel
theorem dX6_markOf_34 : decode cX6_markOf 34 = .ok (.iload_n 1, 1) := by decide +kernel
theorem dX6_markOf_35 : decode cX6_markOf 35 = .ok (.imul, 1) := by decide +kernel
theorem dX6_markOf_36 : decode cX6_markOf 36 = .ok (.iadd, 1) := by decide +kernel
theorem dX6_markOf_37 : decode cX6_markOf 37 = .ok (.bipush 8, 2) := by decide +kernel
theorem dX6_markOf_39 : decode cX6_markOf 39 = .ok (.iload_n 3, 1) := by decide +kernel
theorem dX6_markOf_40 : decode cX6_markOf 40 = .ok (.imul, 1) := by decide +kernel
theorem dX6_markOf_41 : decode cX6_markOf 41 = .ok (.iadd, 1) := by decide +kernel
theorem dX6_markOf_42 : decode cX6_markOf 42 = .ok (.iload_n 2, 1) := by decide +kernel
theorem dX6_markOf_43 : decode cX6_markOf 43 = .ok (.iadd, 1) := by decide +kernel
theorem dX6_markOf_44 : decode cX6_markOf 44 = .ok (.iaload, 1) := by decide +kernel
theorem dX6_markOf_45 : decode cX6_markOf 45 = .ok (.istore 4, 2) := by decide +kernel
theorem dX6_markOf_47 : decode cX6_markOf 47 = .ok (.iload_n 3, 1) := by decide +kernel
theorem dX6_markOf_48 : decode cX6_markOf 48 = .ok (.ifCond .ne 13, 3) := by decide +kernel
theorem dX6_markOf_51 : decode cX6_markOf 51 = .ok (.iload 4, 2) := by decide +kernel
theorem dX6_markOf_53 : decode cX6_markOf 53 = .ok (.ifCond .ge 8, 3) := by decide +kernel
theorem dX6_markOf_56 : decode cX6_markOf 56 = .ok (.bipush (-4), 2) := by decide +kernel
theorem dX6_markOf_58 : decode cX6_markOf 58 = .ok (.goto 5, 3) := by decide +kernel
theorem dX6_markOf_61 : decode cX6_markOf 61 = .ok (.iload 4, 2) := by decide +kernel
theorem dX6_markOf_63 : decode cX6_markOf 63 = .ok (.ireturn, 1) := by decide +kernel
theorem dX6_names_0 : decode cX6_names 0 = .ok (.iconst 0, 1) := by decide +kernel
theorem dX6_names_1 : decode cX6_names 1 = .ok (.istore_n 2, 1) := by decide +kernel
theorem dX6_names_2 : decode cX6_names 2 = .ok (.iconst 0, 1) := by decide +kernel
theorem dX6_names_3 : decode cX6_names 3 = .ok (.istore_n 3, 1) := by decide +kernel
theorem dX6_names_4 : decode cX6_names 4 = .ok (.iload_n 3, 1) := by decide +kernel
theorem dX6_names_5 : decode cX6_names 5 = .ok (.bipush 8, 2) := by decide +kernel
theorem dX6_names_7 : decode cX6_names 7 = .ok (.if_icmp .ge 32, 3) := by decide +kernel
theorem dX6_names_10 : decode cX6_names 10 = .ok (.iload_n 2, 1) := by decide +kernel
theorem dX6_names_11 : decode cX6_names 11 = .ok (.aload_n 0, 1) := by decide +kernel
theorem dX6_names_12 : decode cX6_names 12 = .ok (.getfield 7, 3) := by decide +kernel
theorem dX6_names_15 : decode cX6_names 15 = .ok (.bipush 12, 2) := by decide +kernel
theorem dX6_names_17 : decode cX6_names 17 = .ok (.iload_n 3, 1) := by decide +kernel
theorem dX6_names_18 : decode cX6_names 18 = .ok (.iadd, 1) := by decide +kernel
theorem dX6_names_19 : decode cX6_names 19 = .ok (.iaload, 1) := by decide +kernel
theorem dX6_names_20 : decode cX6_names 20 = .ok (.iload_n 1, 1) := by decide +kernel
theorem dX6_names_21 : decode cX6_names 21 = .ok (.if_icmp .ne 9, 3) := by decide +kernel
theorem dX6_names_24 : decode cX6_names 24 = .ok (.iconst 1, 1) := by decide +kernel
theorem dX6_names_25 : decode cX6_names 25 = .ok (.iload_n 3, 1) := by decide +kernel
theorem dX6_names_26 : decode cX6_names 26 = .ok (.ishl, 1) := by decide +kernel
theorem dX6_names_27 : decode cX6_names 27 = .ok (.goto 4, 3) := by decide +kernel
theorem dX6_names_30 : decode cX6_names 30 = .ok (.iconst 0, 1) := by decide +kernel
theorem dX6_names_31 : decode cX6_names 31 = .ok (.ior, 1) := by decide +kernel
theorem dX6_names_32 : decode cX6_names 32 = .ok (.istore_n 2, 1) := by decide +kernel
theorem dX6_names_33 : decode cX6_names 33 = .ok (.iinc 3 1, 3) := by decide +kernel
theorem dX6_names_36 : decode cX6_names 36 = .ok (.goto (-32), 3) := by decide +kernel
theorem dX6_names_39 : decode cX6_names 39 = .ok (.iload_n 2, 1) := by decide +kernel
theorem dX6_names_40 : decode cX6_names 40 = .ok (.ireturn, 1) := by decide +kernel
theorem dX6_ones_0 : decode cX6_ones 0 = .ok (.iconst 0, 1) := by decide +kernel
theorem dX6_ones_1 : decode cX6_ones 1 = .ok (.istore_n 1, 1) := by decide +kernel
theorem dX6_ones_2 : decode cX6_ones 2 = .ok (.iconst 0, 1) := by decide +kernel
theorem dX6_ones_3 : decode cX6_ones 3 = .ok (.istore_n 2, 1) := by decide +kernel
theorem dX6_ones_4 : decode cX6_ones 4 = .ok (.iload_n 2, 1) := by decide +kernel
theorem dX6_ones_5 : decode cX6_ones 5 = .ok (.bipush 8, 2) := by decide +kernel
theorem dX6_ones_7 : decode cX6_ones 7 = .ok (.if_icmp .ge 17, 3) := by decide +kernel
theorem dX6_ones_10 : decode cX6_ones 10 = .ok (.iload_n 1, 1) := by decide +kernel
theorem dX6_ones_11 : decode cX6_ones 11 = .ok (.iload_n 0, 1) := by decide +kernel
theorem dX6_ones_12 : decode cX6_ones 12 = .ok (.iload_n 2, 1) := by decide +kernel
theorem dX6_ones_13 : decode cX6_ones 13 = .ok (.ishr, 1) := by decide +kernel
theorem dX6_ones_14 : decode cX6_ones 14 = .ok (.iconst 1, 1) := by decide +kernel
theorem dX6_ones_15 : decode cX6_ones 15 = .ok (.iand, 1) := by decide +kernel
theorem dX6_ones_16 : decode cX6_ones 16 = .ok (.iadd, 1) := by decide +kernel
theorem dX6_ones_17 : decode cX6_ones 17 = .ok (.istore_n 1, 1) := by decide +kernel
theorem dX6_ones_18 : decode cX6_ones 18 = .ok (.iinc 2 1, 3) := by decide +kernel
theorem dX6_ones_21 : decode cX6_ones 21 = .ok (.goto (-17), 3) := by decide +kernel
theorem dX6_ones_24 : decode cX6_ones 24 = .ok (.iload_n 1, 1) := by decide +kernel
theorem dX6_ones_25 : decode cX6_ones 25 = .ok (.ireturn, 1) := by decide +kernel
theorem dX6_toCome_0 : decode cX6_toCome 0 = .ok (.iconst 0, 1) := by decide +kernel
theorem dX6_toCome_1 : decode cX6_toCome 1 = .ok (.istore_n 2, 1) := by decide +kernel
theorem dX6_toCome_2 : decode cX6_toCome 2 = .ok (.iload_n 2, 1) := by decide +kernel
theorem dX6_toCome_3 : decode cX6_toCome 3 = .ok (.aload_n 0, 1) := by decide +kernel
theorem dX6_toCome_4 : decode cX6_toCome 4 = .ok (.getfield 7, 3) := by decide +kernel
theorem dX6_toCome_7 : decode cX6_toCome 7 = .ok (.iconst 0, 1) := by decide +kernel
theorem dX6_toCome_8 : decode cX6_toCome 8 = .ok (.iaload, 1) := by decide +kernel
theorem dX6_toCome_9 : decode cX6_toCome 9 = .ok (.if_icmp .ge 25, 3) := by decide +kernel
theorem dX6_toCome_12 : decode cX6_toCome 12 = .ok (.aload_n 0, 1) := by decide +kernel
theorem dX6_toCome_13 : decode cX6_toCome 13 = .ok (.getfield 25, 3) := by decide +kernel
theorem dX6_toCome_16 : decode cX6_toCome 16 = .ok (.iload_n 2, 1) := by decide +kernel
theorem dX6_toCome_17 : decode cX6_toCome 17 = .ok (.aload_n 0, 1) := by decide +kernel
theorem dX6_toCome_18 : decode cX6_toCome 18 = .ok (.getfield 7, 3) := by decide +kernel
theorem dX6_toCome_21 : decode cX6_toCome 21 = .ok (.iload_n 2, 1) := by decide +kernel
theorem dX6_toCome_22 : decode cX6_toCome 22 = .ok (.iconst 1, 1) := by decide +kernel
theorem dX6_toCome_23 : decode cX6_toCome 23 = .ok (.invokestatic 65, 3) := by decide +kernel
theorem dX6_toCome_26 : decode cX6_toCome 26 = .ok (.iaload, 1) := by decide +kernel
theorem dX6_toCome_27 : decode cX6_toCome 27 = .ok (.iastore, 1) := by decide +kernel
theorem dX6_toCome_28 : decode cX6_toCome 28 = .ok (.iinc 2 1, 3) := by decide +kernel
theorem dX6_toCome_31 : decode cX6_toCome 31 = .ok (.goto (-29), 3) := by decide +kernel
theorem dX6_toCome_34 : decode cX6_toCome 34 = .ok (.iconst 0, 1) := by decide +kernel
theorem dX6_toCome_35 : decode cX6_toCome 35 = .ok (.istore_n 2, 1) := by decide +kernel
theorem dX6_toCome_36 : decode cX6_toCome 36 = .ok (.iload_n 2, 1) := by decide +kernel
theorem dX6_toCome_37 : decode cX6_toCome 37 = .ok (.aload_n 0, 1) := by decide +kernel
theorem dX6_toCome_38 : decode cX6_toCome 38 = .ok (.getfield 7, 3) := by decide +kernel
theorem dX6_toCome_41 : decode cX6_toCome 41 = .ok (.iconst 3, 1) := by decide +kernel
theorem dX6_toCome_42 : decode cX6_toCome 42 = .ok (.iaload, 1) := by decide +kernel
theorem dX6_toCome_43 : decode cX6_toCome 43 = .ok (.if_icmp .ge 67, 3) := by decide +kernel
theorem dX6_toCome_46 : decode cX6_toCome 46 = .ok (.aload_n 0, 1) := by decide +kernel
theorem dX6_toCome_47 : decode cX6_toCome 47 = .ok (.getfield 25, 3) := by decide +kernel
theorem dX6_toCome_50 : decode cX6_toCome 50 = .ok (.aload_n 0, 1) := by decide +kernel
theorem dX6_toCome_51 : decode cX6_toCome 51 = .ok (.getfield 7, 3) := by decide +kernel
theorem dX6_toCome_54 : decode cX6_toCome 54 = .ok (.iload_n 2, 1) := by decide +kernel
theorem dX6_toCome_55 : decode cX6_toCome 55 = .ok (.iconst 1, 1) := by decide +kernel
theorem dX6_toCome_56 : decode cX6_toCome 56 = .ok (.invokestatic 47, 3) := by decide +kernel
theorem dX6_toCome_59 : decode cX6_toCome 59 = .ok (.iaload, 1) := by decide +kernel
theorem dX6_toCome_60 : decode cX6_toCome 60 = .ok (.aload_n 0, 1) := by decide +kernel
theorem dX6_toCome_61 : decode cX6_toCome 61 = .ok (.getfield 7, 3) := by decide +kernel
theorem dX6_toCome_64 : decode cX6_toCome 64 = .ok (.iload_n 2, 1) := by decide +kernel
theorem dX6_toCome_65 : decode cX6_toCome 65 = .ok (.iconst 0, 1) := by decide +kernel
theorem dX6_toCome_66 : decode cX6_toCome 66 = .ok (.invokestatic 47, 3) := by decide +kernel
theorem dX6_toCome_69 : decode cX6_toCome 69 = .ok (.iaload, 1) := by decide +kernel
theorem dX6_toCome_70 : decode cX6_toCome 70 = .ok (.aload_n 0, 1) := by decide +kernel
theorem dX6_toCome_71 : decode cX6_toCome 71 = .ok (.getfield 25, 3) := by decide +kernel
theorem dX6_toCome_74 : decode cX6_toCome 74 = .ok (.aload_n 0, 1) := by decide +kernel
theorem dX6_toCome_75 : decode cX6_toCome 75 = .ok (.getfield 7, 3) := by decide +kernel
theorem dX6_toCome_78 : decode cX6_toCome 78 = .ok (.iload_n 2, 1) := by decide +kernel
theorem dX6_toCome_79 : decode cX6_toCome 79 = .ok (.iconst 2, 1) := by decide +kernel
theorem dX6_toCome_80 : decode cX6_toCome 80 = .ok (.invokestatic 47, 3) := by decide +kernel
theorem dX6_toCome_83 : decode cX6_toCome 83 = .ok (.iaload, 1) := by decide +kernel
theorem dX6_toCome_84 : decode cX6_toCome 84 = .ok (.iaload, 1) := by decide +kernel
theorem dX6_toCome_85 : decode cX6_toCome 85 = .ok (.aload_n 0, 1) := by decide +kernel
theorem dX6_toCome_86 : decode cX6_toCome 86 = .ok (.getfield 25, 3) := by decide +kernel
theorem dX6_toCome_89 : decode cX6_toCome 89 = .ok (.aload_n 0, 1) := by decide +kernel
theorem dX6_toCome_90 : decode cX6_toCome 90 = .ok (.getfield 7, 3) := by decide +kernel
theorem dX6_toCome_93 : decode cX6_toCome 93 = .ok (.iload_n 2, 1) := by decide +kernel
theorem dX6_toCome_94 : decode cX6_toCome 94 = .ok (.iconst 3, 1) := by decide +kernel
theorem dX6_toCome_95 : decode cX6_toCome 95 = .ok (.invokestatic 47, 3) := by decide +kernel
theorem dX6_toCome_98 : decode cX6_toCome 98 = .ok (.iaload, 1) := by decide +kernel
theorem dX6_toCome_99 : decode cX6_toCome 99 = .ok (.iaload, 1) := by decide +kernel
theorem dX6_toCome_100 : decode cX6_toCome 100 = .ok (.invokestatic 107, 3) := by decide +kernel
theorem dX6_toCome_103 : decode cX6_toCome 103 = .ok (.iastore, 1) := by decide +kernel
theorem dX6_toCome_104 : decode cX6_toCome 104 = .ok (.iinc 2 1, 3) := by decide +kernel
theorem dX6_toCome_107 : decode cX6_toCome 107 = .ok (.goto (-71), 3) := by decide +kernel
theorem dX6_toCome_110 : decode cX6_toCome 110 = .ok (.aload_n 0, 1) := by decide +kernel
theorem dX6_toCome_111 : decode cX6_toCome 111 = .ok (.getfield 25, 3) := by decide +kernel
theorem dX6_toCome_114 : decode cX6_toCome 114 = .ok (.iload_n 1, 1) := by decide +kernel
theorem dX6_toCome_115 : decode cX6_toCome 115 = .ok (.iaload, 1) := by decide +kernel
theorem dX6_toCome_116 : decode cX6_toCome 116 = .ok (.ireturn, 1) := by decide +kernel
theorem dX6_nameOf_0 : decode cX6_nameOf 0 = .ok (.iload_n 1, 1) := by decide +kernel
theorem dX6_nameOf_1 : decode cX6_nameOf 1 = .ok (.invokestatic 85, 3) := by decide +kernel
theorem dX6_nameOf_4 : decode cX6_nameOf 4 = .ok (.ifCond .eq 12, 3) := by decide +kernel
theorem dX6_nameOf_7 : decode cX6_nameOf 7 = .ok (.iload_n 2, 1) := by decide +kernel
theorem dX6_nameOf_8 : decode cX6_nameOf 8 = .ok (.iconst 0, 1) := by decide +kernel
theorem dX6_nameOf_9 : decode cX6_nameOf 9 = .ok (.iconst 4, 1) := by decide +kernel
theorem dX6_nameOf_10 : decode cX6_nameOf 10 = .ok (.invokestatic 43, 3) := by decide +kernel
theorem dX6_nameOf_13 : decode cX6_nameOf 13 = .ok (.ifCond .ne 5, 3) := by decide +kernel
theorem dX6_nameOf_16 : decode cX6_nameOf 16 = .ok (.iconst (-1), 1) := by decide +kernel
theorem dX6_nameOf_17 : decode cX6_nameOf 17 = .ok (.ireturn, 1) := by decide +kernel
theorem dX6_nameOf_18 : decode cX6_nameOf 18 = .ok (.aload_n 0, 1) := by decide +kernel
theorem dX6_nameOf_19 : decode cX6_nameOf 19 = .ok (.getfield 7, 3) := by decide +kernel
theorem dX6_nameOf_22 : decode cX6_nameOf 22 = .ok (.bipush 12, 2) := by decide +kernel
theorem dX6_nameOf_24 : decode cX6_nameOf 24 = .ok (.iload_n 1, 1) := by decide +kernel
theorem dX6_nameOf_25 : decode cX6_nameOf 25 = .ok (.iadd, 1) := by decide +kernel
theorem dX6_nameOf_26 : decode cX6_nameOf 26 = .ok (.iaload, 1) := by decide +kernel
theorem dX6_nameOf_27 : decode cX6_nameOf 27 = .ok (.istore_n 3, 1) := by decide +kernel
theorem dX6_nameOf_28 : decode cX6_nameOf 28 = .ok (.iload_n 2, 1) := by decide +kernel
theorem dX6_nameOf_29 : decode cX6_nameOf 29 = .ok (.iconst 2, 1) := by decide +kernel
theorem dX6_nameOf_30 : decode cX6_nameOf 30 = .ok (.if_icmp .eq 7, 3) := by decide +kernel
theorem dX6_nameOf_33 : decode cX6_nameOf 33 = .ok (.iload_n 3, 1) := by decide +kernel
theorem dX6_nameOf_34 : decode cX6_nameOf 34 = .ok (.ifCond .ge 28, 3) := by decide +kernel
theorem dX6_nameOf_37 : decode cX6_nameOf 37 = .ok (.iload_n 2, 1) := by decide +kernel
theorem dX6_nameOf_38 : decode cX6_nameOf 38 = .ok (.iconst 1, 1) := by decide +kernel
theorem dX6_nameOf_39 : decode cX6_nameOf 39 = .ok (.if_icmp .eq 8, 3) := by decide +kernel
theorem dX6_nameOf_42 : decode cX6_nameOf 42 = .ok (.iload_n 2, 1) := by decide +kernel
theorem dX6_nameOf_43 : decode cX6_nameOf 43 = .ok (.iconst 3, 1) := by decide +kernel
theorem dX6_nameOf_44 : decode cX6_nameOf 44 = .ok (.if_icmp .ne 8, 3) := by decide +kernel
theorem dX6_nameOf_47 : decode cX6_nameOf 47 = .ok (.bipush (-4), 2) := by decide +kernel
theorem dX6_nameOf_49 : decode cX6_nameOf 49 = .ok (.goto 12, 3) := by decide +kernel
theorem dX6_nameOf_52 : decode cX6_nameOf 52 = .ok (.aload_n 0, 1) := by decide +kernel
theorem dX6_nameOf_53 : decode cX6_nameOf 53 = .ok (.getfield 7, 3) := by decide +kernel
theorem dX6_nameOf_56 : decode cX6_nameOf 56 = .ok (.bipush 20, 2) := by decide +kernel
theorem dX6_nameOf_58 : decode cX6_nameOf 58 = .ok (.iload_n 1, 1) := by decide +kernel
theorem dX6_nameOf_59 : decode cX6_nameOf 59 = .ok (.iadd, 1) := by decide +kernel
theorem dX6_nameOf_60 : decode cX6_nameOf 60 = .ok (.iaload, 1) := by decide +kernel
theorem dX6_nameOf_61 : decode cX6_nameOf 61 = .ok (.ireturn, 1) := by decide +kernel
theorem dX6_nameOf_62 : decode cX6_nameOf 62 = .ok (.iload_n 2, 1) := by decide +kernel
theorem dX6_nameOf_63 : decode cX6_nameOf 63 = .ok (.ifCond .ne 33, 3) := by decide +kernel
theorem dX6_nameOf_66 : decode cX6_nameOf 66 = .ok (.aload_n 0, 1) := by decide +kernel
theorem dX6_nameOf_67 : decode cX6_nameOf 67 = .ok (.getfield 7, 3) := by decide +kernel
theorem dX6_nameOf_70 : decode cX6_nameOf 70 = .ok (.iload_n 3, 1) := by decide +kernel
theorem dX6_nameOf_71 : decode cX6_nameOf 71 = .ok (.iconst 2, 1) := by decide +kernel
theorem dX6_nameOf_72 : decode cX6_nameOf 72 = .ok (.invokestatic 65, 3) := by decide +kernel
theorem dX6_nameOf_75 : decode cX6_nameOf 75 = .ok (.iaload, 1) := by decide +kernel
theorem dX6_nameOf_76 : decode cX6_nameOf 76 = .ok (.iconst 1, 1) := by decide +kernel
theorem dX6_nameOf_77 : decode cX6_nameOf 77 = .ok (.if_icmp .ne 16, 3) := by decide +kernel
theorem dX6_nameOf_80 : decode cX6_nameOf 80 = .ok (.aload_n 0, 1) := by decide +kernel
theorem dX6_nameOf_81 : decode cX6_nameOf 81 = .ok (.getfield 7, 3) := by decide +kernel
theorem dX6_nameOf_84 : decode cX6_nameOf 84 = .ok (.iload_n 3, 1) := by decide +kernel
theorem dX6_nameOf_85 : decode cX6_nameOf 85 = .ok (.iconst 1, 1) := by decide +kernel
theorem dX6_nameOf_86 : decode cX6_nameOf 86 = .ok (.invokestatic 65, 3) := by decide +kernel
theorem dX6_nameOf_89 : decode cX6_nameOf 89 = .ok (.iaload, 1) := by decide +kernel
theorem dX6_nameOf_90 : decode cX6_nameOf 90 = .ok (.goto 5, 3) := by decide +kernel
theorem dX6_nameOf_93 : decode cX6_nameOf 93 = .ok (.bipush (-4), 2) := by decide +kernel
theorem dX6_nameOf_95 : decode cX6_nameOf 95 = .ok (.ireturn, 1) := by decide +kernel
theorem dX6_nameOf_96 : decode cX6_nameOf 96 = .ok (.iload_n 2, 1) := by decide +kernel
theorem dX6_nameOf_97 : decode cX6_nameOf 97 = .ok (.iconst 1, 1) := by decide +kernel
theorem dX6_nameOf_98 : decode cX6_nameOf 98 = .ok (.if_icmp .ne 7, 3) := by decide +kernel
theorem dX6_nameOf_101 : decode cX6_nameOf 101 = .ok (.iload_n 3, 1) := by decide +kernel
theorem dX6_nameOf_102 : decode cX6_nameOf 102 = .ok (.goto 24, 3) := by decide +kernel
theorem dX6_nameOf_105 : decode cX6_nameOf 105 = .ok (.iload_n 2, 1) := by decide +kernel
theorem dX6_nameOf_106 : decode cX6_nameOf 106 = .ok (.iconst 3, 1) := by decide +kernel
theorem dX6_nameOf_107 : decode cX6_nameOf 107 = .ok (.if_icmp .ne 14, 3) := by decide +kernel
theorem dX6_nameOf_110 : decode cX6_nameOf 110 = .ok (.aload_n 0, 1) := by decide +kernel
theorem dX6_nameOf_111 : decode cX6_nameOf 111 = .ok (.iload_n 3, 1) := by decide +kernel
theorem dX6_nameOf_112 : decode cX6_nameOf 112 = .ok (.invokevirtual 123, 3) := by decide +kernel
theorem dX6_nameOf_115 : decode cX6_nameOf 115 = .ok (.invokestatic 126, 3) := by decide +kernel
theorem dX6_nameOf_118 : decode cX6_nameOf 118 = .ok (.goto 8, 3) := by decide +kernel
theorem dX6_nameOf_121 : decode cX6_nameOf 121 = .ok (.aload_n 0, 1) := by decide +kernel
theorem dX6_nameOf_122 : decode cX6_nameOf 122 = .ok (.iload_n 3, 1) := by decide +kernel
theorem dX6_nameOf_123 : decode cX6_nameOf 123 = .ok (.invokevirtual 129, 3) := by decide +kernel
theorem dX6_nameOf_126 : decode cX6_nameOf 126 = .ok (.ireturn, 1) := by decide +kernel
theorem dX6_chairOf_0 : decode cX6_chairOf 0 = .ok (.iload_n 1, 1) := by decide +kernel
theorem dX6_chairOf_1 : decode cX6_chairOf 1 = .ok (.iconst 0, 1) := by decide +kernel
theorem dX6_chairOf_2 : decode cX6_chairOf 2 = .ok (.aload_n 0, 1) := by decide +kernel
theorem dX6_chairOf_3 : decode cX6_chairOf 3 = .ok (.getfield 7, 3) := by decide +kernel
theorem dX6_chairOf_6 : decode cX6_chairOf 6 = .ok (.iconst 0, 1) := by decide +kernel
theorem dX6_chairOf_7 : decode cX6_chairOf 7 = .ok (.iaload, 1) := by decide +kernel
theorem dX6_chairOf_8 : decode cX6_chairOf 8 = .ok (.iconst 1, 1) := by decide +kernel
theorem dX6_chairOf_9 : decode cX6_chairOf 9 = .ok (.isub, 1) := by decide +kernel
theorem dX6_chairOf_10 : decode cX6_chairOf 10 = .ok (.invokestatic 43, 3) := by decide +kernel
theorem dX6_chairOf_13 : decode cX6_chairOf 13 = .ok (.ifCond .eq 12, 3) := by decide +kernel
theorem dX6_chairOf_16 : decode cX6_chairOf 16 = .ok (.iload_n 2, 1) := by decide +kernel
theorem dX6_chairOf_17 : decode cX6_chairOf 17 = .ok (.iconst 0, 1) := by decide +kernel
theorem dX6_chairOf_18 : decode cX6_chairOf 18 = .ok (.iconst 5, 1) := by decide +kernel
theorem dX6_chairOf_19 : decode cX6_chairOf 19 = .ok (.invokestatic 43, 3) := by decide +kernel
theorem dX6_chairOf_22 : decode cX6_chairOf 22 = .ok (.ifCond .ne 5, 3) := by decide +kernel
theorem dX6_chairOf_25 : decode cX6_chairOf 25 = .ok (.iconst (-1), 1) := by decide +kernel
theorem dX6_chairOf_26 : decode cX6_chairOf 26 = .ok (.ireturn, 1) := by decide +kernel
theorem dX6_chairOf_27 : decode cX6_chairOf 27 = .ok (.aload_n 0, 1) := by decide +kernel
theorem dX6_chairOf_28 : decode cX6_chairOf 28 = .ok (.getfield 7, 3) := by decide +kernel
theorem dX6_chairOf_31 : decode cX6_chairOf 31 = .ok (.iload_n 1, 1) := by decide +kernel
theorem dX6_chairOf_32 : decode cX6_chairOf 32 = .ok (.iconst 0, 1) := by decide +kernel
theorem dX6_chairOf_33 : decode cX6_chairOf 33 = .ok (.invokestatic 65, 3) := by decide +kernel
theorem dX6_chairOf_36 : decode cX6_chairOf 36 = .ok (.iaload, 1) := by decide +kernel
theorem dX6_chairOf_37 : decode cX6_chairOf 37 = .ok (.ifCond .ne 6, 3) := by decide +kernel
theorem dX6_chairOf_40 : decode cX6_chairOf 40 = .ok (.bipush (-4), 2) := by decide +kernel
theorem dX6_chairOf_42 : decode cX6_chairOf 42 = .ok (.ireturn, 1) := by decide +kernel
theorem dX6_chairOf_43 : decode cX6_chairOf 43 = .ok (.iload_n 2, 1) := by decide +kernel
theorem dX6_chairOf_44 : decode cX6_chairOf 44 = .ok (.tableswitch 98 0 4 #[36, 66, 72, 78, 84], 36) := by decide +kernel
theorem dX6_chairOf_80 : decode cX6_chairOf 80 = .ok (.aload_n 0, 1) := by decide +kernel
theorem dX6_chairOf_81 : decode cX6_chairOf 81 = .ok (.getfield 7, 3) := by decide +kernel
theorem dX6_chairOf_84 : decode cX6_chairOf 84 = .ok (.iload_n 1, 1) := by decide +kernel
theorem dX6_chairOf_85 : decode cX6_chairOf 85 = .ok (.iconst 2, 1) := by decide +kernel
theorem dX6_chairOf_86 : decode cX6_chairOf 86 = .ok (.invokestatic 65, 3) := by decide +kernel
theorem dX6_chairOf_89 : decode cX6_chairOf 89 = .ok (.iaload, 1) := by decide +kernel
theorem dX6_chairOf_90 : decode cX6_chairOf 90 = .ok (.iconst 1, 1) := by decide +kernel
theorem dX6_chairOf_91 : decode cX6_chairOf 91 = .ok (.if_icmp .ne 16, 3) := by decide +kernel
theorem dX6_chairOf_94 : decode cX6_chairOf 94 = .ok (.aload_n 0, 1) := by decide +kernel
theorem dX6_chairOf_95 : decode cX6_chairOf 95 = .ok (.getfield 7, 3) := by decide +kernel
theorem dX6_chairOf_98 : decode cX6_chairOf 98 = .ok (.iload_n 1, 1) := by decide +kernel
theorem dX6_chairOf_99 : decode cX6_chairOf 99 = .ok (.iconst 1, 1) := by decide +kernel
theorem dX6_chairOf_100 : decode cX6_chairOf 100 = .ok (.invokestatic 65, 3) := by decide +kernel
theorem dX6_chairOf_103 : decode cX6_chairOf 103 = .ok (.iaload, 1) := by decide +kernel
theorem dX6_chairOf_104 : decode cX6_chairOf 104 = .ok (.goto 5, 3) := by decide +kernel
theorem dX6_chairOf_107 : decode cX6_chairOf 107 = .ok (.bipush (-4), 2) := by decide +kernel
theorem dX6_chairOf_109 : decode cX6_chairOf 109 = .ok (.ireturn, 1) := by decide +kernel
theorem dX6_chairOf_110 : decode cX6_chairOf 110 = .ok (.aload_n 0, 1) := by decide +kernel
theorem dX6_chairOf_111 : decode cX6_chairOf 111 = .ok (.iload_n 1, 1) := by decide +kernel
theorem dX6_chairOf_112 : decode cX6_chairOf 112 = .ok (.invokevirtual 123, 3) := by decide +kernel
theorem dX6_chairOf_115 : decode cX6_chairOf 115 = .ok (.ireturn, 1) := by decide +kernel
theorem dX6_chairOf_116 : decode cX6_chairOf 116 = .ok (.aload_n 0, 1) := by decide +kernel
theorem dX6_chairOf_117 : decode cX6_chairOf 117 = .ok (.iload_n 1, 1) := by decide +kernel
theorem dX6_chairOf_118 : decode cX6_chairOf 118 = .ok (.invokevirtual 55, 3) := by decide +kernel
theorem dX6_chairOf_121 : decode cX6_chairOf 121 = .ok (.ireturn, 1) := by decide +kernel
theorem dX6_chairOf_122 : decode cX6_chairOf 122 = .ok (.aload_n 0, 1) := by decide +kernel
theorem dX6_chairOf_123 : decode cX6_chairOf 123 = .ok (.iload_n 1, 1) := by decide +kernel
theorem dX6_chairOf_124 : decode cX6_chairOf 124 = .ok (.invokevirtual 59, 3) := by decide +kernel
theorem dX6_chairOf_127 : decode cX6_chairOf 127 = .ok (.ireturn, 1) := by decide +kernel
theorem dX6_chairOf_128 : decode cX6_chairOf 128 = .ok (.aload_n 0, 1) := by decide +kernel
theorem dX6_chairOf_129 : decode cX6_chairOf 129 = .ok (.iload_n 1, 1) := by decide +kernel
theorem dX6_chairOf_130 : decode cX6_chairOf 130 = .ok (.invokevirtual 62, 3) := by decide +kernel
theorem dX6_chairOf_133 : decode cX6_chairOf 133 = .ok (.ifCond .eq 7, 3) := by decide +kernel
theorem dX6_chairOf_136 : decode cX6_chairOf 136 = .ok (.iconst 1, 1) := by decide +kernel
theorem dX6_chairOf_137 : decode cX6_chairOf 137 = .ok (.goto 4, 3) := by decide +kernel
theorem dX6_chairOf_140 : decode cX6_chairOf 140 = .ok (.iconst 0, 1) := by decide +kernel
theorem dX6_chairOf_141 : decode cX6_chairOf 141 = .ok (.ireturn, 1) := by decide +kernel
theorem dX6_chairOf_142 : decode cX6_chairOf 142 = .ok (.aload_n 0, 1) := by decide +kernel
theorem dX6_chairOf_143 : decode cX6_chairOf 143 = .ok (.iconst (-1), 1) := by decide +kernel
theorem dX6_chairOf_144 : decode cX6_chairOf 144 = .ok (.iconst (-1), 1) := by decide +kernel
theorem dX6_chairOf_145 : decode cX6_chairOf 145 = .ok (.invokevirtual 71, 3) := by decide +kernel
theorem dX6_chairOf_148 : decode cX6_chairOf 148 = .ok (.iload_n 1, 1) := by decide +kernel
theorem dX6_chairOf_149 : decode cX6_chairOf 149 = .ok (.if_icmp .ne 7, 3) := by decide +kernel
theorem dX6_chairOf_152 : decode cX6_chairOf 152 = .ok (.iconst 1, 1) := by decide +kernel
theorem dX6_chairOf_153 : decode cX6_chairOf 153 = .ok (.goto 4, 3) := by decide +kernel
theorem dX6_chairOf_156 : decode cX6_chairOf 156 = .ok (.iconst 0, 1) := by decide +kernel
theorem dX6_chairOf_157 : decode cX6_chairOf 157 = .ok (.ireturn, 1) := by decide +kernel
theorem dX6_orderOf_0 : decode cX6_orderOf 0 = .ok (.iload_n 1, 1) := by decide +kernel
theorem dX6_orderOf_1 : decode cX6_orderOf 1 = .ok (.ifCond .lt 23, 3) := by decide +kernel
theorem dX6_orderOf_4 : decode cX6_orderOf 4 = .ok (.iload_n 1, 1) := by decide +kernel
theorem dX6_orderOf_5 : decode cX6_orderOf 5 = .ok (.aload_n 0, 1) := by decide +kernel
theorem dX6_orderOf_6 : decode cX6_orderOf 6 = .ok (.getfield 7, 3) := by decide +kernel
theorem dX6_orderOf_9 : decode cX6_orderOf 9 = .ok (.iconst 3, 1) := by decide +kernel
theorem dX6_orderOf_10 : decode cX6_orderOf 10 = .ok (.iaload, 1) := by decide +kernel
theorem dX6_orderOf_11 : decode cX6_orderOf 11 = .ok (.if_icmp .ge 13, 3) := by decide +kernel
theorem dX6_orderOf_14 : decode cX6_orderOf 14 = .ok (.iload_n 2, 1) := by decide +kernel
theorem dX6_orderOf_15 : decode cX6_orderOf 15 = .ok (.iconst 0, 1) := by decide +kernel
theorem dX6_orderOf_16 : decode cX6_orderOf 16 = .ok (.bipush 6, 2) := by decide +kernel
theorem dX6_orderOf_18 : decode cX6_orderOf 18 = .ok (.invokestatic 43, 3) := by decide +kernel
theorem dX6_orderOf_21 : decode cX6_orderOf 21 = .ok (.ifCond .ne 5, 3) := by decide +kernel
theorem dX6_orderOf_24 : decode cX6_orderOf 24 = .ok (.iconst (-1), 1) := by decide +kernel
theorem dX6_orderOf_25 : decode cX6_orderOf 25 = .ok (.ireturn, 1) := by decide +kernel
theorem dX6_orderOf_26 : decode cX6_orderOf 26 = .ok (.aload_n 0, 1) := by decide +kernel
theorem dX6_orderOf_27 : decode cX6_orderOf 27 = .ok (.getfield 7, 3) := by decide +kernel
theorem dX6_orderOf_30 : decode cX6_orderOf 30 = .ok (.iload_n 1, 1) := by decide +kernel
theorem dX6_orderOf_31 : decode cX6_orderOf 31 = .ok (.iconst 4, 1) := by decide +kernel
theorem dX6_orderOf_32 : decode cX6_orderOf 32 = .ok (.invokestatic 47, 3) := by decide +kernel
theorem dX6_orderOf_35 : decode cX6_orderOf 35 = .ok (.iaload, 1) := by decide +kernel
theorem dX6_orderOf_36 : decode cX6_orderOf 36 = .ok (.istore_n 3, 1) := by decide +kernel
theorem dX6_orderOf_37 : decode cX6_orderOf 37 = .ok (.iload_n 2, 1) := by decide +kernel
theorem dX6_orderOf_38 : decode cX6_orderOf 38 = .ok (.iconst 4, 1) := by decide +kernel
theorem dX6_orderOf_39 : decode cX6_orderOf 39 = .ok (.if_icmp .ge 14, 3) := by decide +kernel
theorem dX6_orderOf_42 : decode cX6_orderOf 42 = .ok (.aload_n 0, 1) := by decide +kernel
theorem dX6_orderOf_43 : decode cX6_orderOf 43 = .ok (.getfield 7, 3) := by decide +kernel
theorem dX6_orderOf_46 : decode cX6_orderOf 46 = .ok (.iload_n 1, 1) := by decide +kernel
theorem dX6_orderOf_47 : decode cX6_orderOf 47 = .ok (.iload_n 2, 1) := by decide +kernel
theorem dX6_orderOf_48 : decode cX6_orderOf 48 = .ok (.invokestatic 47, 3) := by decide +kernel
theorem dX6_orderOf_51 : decode cX6_orderOf 51 = .ok (.iaload, 1) := by decide +kernel
theorem dX6_orderOf_52 : decode cX6_orderOf 52 = .ok (.ireturn, 1) := by decide +kernel
theorem dX6_orderOf_53 : decode cX6_orderOf 53 = .ok (.iload_n 2, 1) := by decide +kernel
theorem dX6_orderOf_54 : decode cX6_orderOf 54 = .ok (.iconst 4, 1) := by decide +kernel
theorem dX6_orderOf_55 : decode cX6_orderOf 55 = .ok (.if_icmp .ne 15, 3) := by decide +kernel
theorem dX6_orderOf_58 : decode cX6_orderOf 58 = .ok (.iload_n 3, 1) := by decide +kernel
theorem dX6_orderOf_59 : decode cX6_orderOf 59 = .ok (.ifCond .ge 7, 3) := by decide +kernel
theorem dX6_orderOf_62 : decode cX6_orderOf 62 = .ok (.iconst 0, 1) := by decide +kernel
theorem dX6_orderOf_63 : decode cX6_orderOf 63 = .ok (.goto 42, 3) := by decide +kernel
theorem dX6_orderOf_66 : decode cX6_orderOf 66 = .ok (.iconst 1, 1) := by decide +kernel
theorem dX6_orderOf_67 : decode cX6_orderOf 67 = .ok (.goto 38, 3) := by decide +kernel
theorem dX6_orderOf_70 : decode cX6_orderOf 70 = .ok (.iload_n 2, 1) := by decide +kernel
theorem dX6_orderOf_71 : decode cX6_orderOf 71 = .ok (.iconst 5, 1) := by decide +kernel
theorem dX6_orderOf_72 : decode cX6_orderOf 72 = .ok (.if_icmp .ne 23, 3) := by decide +kernel
theorem dX6_orderOf_75 : decode cX6_orderOf 75 = .ok (.iload_n 3, 1) := by decide +kernel
theorem dX6_orderOf_76 : decode cX6_orderOf 76 = .ok (.ifCond .ge 8, 3) := by decide +kernel
theorem dX6_orderOf_79 : decode cX6_orderOf 79 = .ok (.bipush (-4), 2) := by decide +kernel
theorem dX6_orderOf_81 : decode cX6_orderOf 81 = .ok (.goto 24, 3) := by decide +kernel
theorem dX6_orderOf_84 : decode cX6_orderOf 84 = .ok (.iload_n 3, 1) := by decide +kernel
theorem dX6_orderOf_85 : decode cX6_orderOf 85 = .ok (.aload_n 0, 1) := by decide +kernel
theorem dX6_orderOf_86 : decode cX6_orderOf 86 = .ok (.getfield 7, 3) := by decide +kernel
theorem dX6_orderOf_89 : decode cX6_orderOf 89 = .ok (.iconst 1, 1) := by decide +kernel
theorem dX6_orderOf_90 : decode cX6_orderOf 90 = .ok (.iaload, 1) := by decide +kernel
theorem dX6_orderOf_91 : decode cX6_orderOf 91 = .ok (.isub, 1) := by decide +kernel
theorem dX6_orderOf_92 : decode cX6_orderOf 92 = .ok (.goto 13, 3) := by decide +kernel
theorem dX6_orderOf_95 : decode cX6_orderOf 95 = .ok (.aload_n 0, 1) := by decide +kernel
theorem dX6_orderOf_96 : decode cX6_orderOf 96 = .ok (.getfield 7, 3) := by decide +kernel
theorem dX6_orderOf_99 : decode cX6_orderOf 99 = .ok (.iload_n 1, 1) := by decide +kernel
theorem dX6_orderOf_100 : decode cX6_orderOf 100 = .ok (.iconst 5, 1) := by decide +kernel
theorem dX6_orderOf_101 : decode cX6_orderOf 101 = .ok (.invokestatic 47, 3) := by decide +kernel
theorem dX6_orderOf_104 : decode cX6_orderOf 104 = .ok (.iaload, 1) := by decide +kernel
theorem dX6_orderOf_105 : decode cX6_orderOf 105 = .ok (.ireturn, 1) := by decide +kernel
theorem dX6_many_0 : decode cX6_many 0 = .ok (.iconst 0, 1) := by decide +kernel
theorem dX6_many_1 : decode cX6_many 1 = .ok (.istore_n 2, 1) := by decide +kernel
theorem dX6_many_2 : decode cX6_many 2 = .ok (.iconst 0, 1) := by decide +kernel
theorem dX6_many_3 : decode cX6_many 3 = .ok (.istore_n 3, 1) := by decide +kernel
theorem dX6_many_4 : decode cX6_many 4 = .ok (.iload_n 3, 1) := by decide +kernel
theorem dX6_many_5 : decode cX6_many 5 = .ok (.bipush 8, 2) := by decide +kernel
theorem dX6_many_7 : decode cX6_many 7 = .ok (.if_icmp .ge 101, 3) := by decide +kernel
theorem dX6_many_10 : decode cX6_many 10 = .ok (.iload_n 2, 1) := by decide +kernel
theorem dX6_many_11 : decode cX6_many 11 = .ok (.iload_n 1, 1) := by decide +kernel
theorem dX6_many_12 : decode cX6_many 12 = .ok (.iconst 1, 1) := by decide +kernel
theorem dX6_many_13 : decode cX6_many 13 = .ok (.if_icmp .ne 34, 3) := by decide +kernel
theorem dX6_many_16 : decode cX6_many 16 = .ok (.iload_n 3, 1) := by decide +kernel
theorem dX6_many_17 : decode cX6_many 17 = .ok (.aload_n 0, 1) := by decide +kernel
theorem dX6_many_18 : decode cX6_many 18 = .ok (.getfield 7, 3) := by decide +kernel
theorem dX6_many_21 : decode cX6_many 21 = .ok (.iconst 0, 1) := by decide +kernel
theorem dX6_many_22 : decode cX6_many 22 = .ok (.iaload, 1) := by decide +kernel
theorem dX6_many_23 : decode cX6_many 23 = .ok (.if_icmp .ge 20, 3) := by decide +kernel
theorem dX6_many_26 : decode cX6_many 26 = .ok (.aload_n 0, 1) := by decide +kernel
theorem dX6_many_27 : decode cX6_many 27 = .ok (.getfield 7, 3) := by decide +kernel
theorem dX6_many_30 : decode cX6_many 30 = .ok (.iload_n 3, 1) := by decide +kernel
theorem dX6_many_31 : decode cX6_many 31 = .ok (.iconst 0, 1) := by decide +kernel
theorem dX6_many_32 : decode cX6_many 32 = .ok (.invokestatic 65, 3) := by decide +kernel
theorem dX6_many_35 : decode cX6_many 35 = .ok (.iaload, 1) := by decide +kernel
theorem dX6_many_36 : decode cX6_many 36 = .ok (.ifCond .ne 7, 3) := by decide +kernel
theorem dX6_many_39 : decode cX6_many 39 = .ok (.iconst 1, 1) := by decide +kernel
theorem dX6_many_40 : decode cX6_many 40 = .ok (.goto 60, 3) := by decide +kernel
theorem dX6_many_43 : decode cX6_many 43 = .ok (.iconst 0, 1) := by decide +kernel
theorem dX6_many_44 : decode cX6_many 44 = .ok (.goto 56, 3) := by decide +kernel
theorem dX6_many_47 : decode cX6_many 47 = .ok (.iload_n 1, 1) := by decide +kernel
theorem dX6_many_48 : decode cX6_many 48 = .ok (.iconst 2, 1) := by decide +kernel
theorem dX6_many_49 : decode cX6_many 49 = .ok (.if_icmp .ne 23, 3) := by decide +kernel
theorem dX6_many_52 : decode cX6_many 52 = .ok (.aload_n 0, 1) := by decide +kernel
theorem dX6_many_53 : decode cX6_many 53 = .ok (.getfield 7, 3) := by decide +kernel
theorem dX6_many_56 : decode cX6_many 56 = .ok (.bipush 12, 2) := by decide +kernel
theorem dX6_many_58 : decode cX6_many 58 = .ok (.iload_n 3, 1) := by decide +kernel
theorem dX6_many_59 : decode cX6_many 59 = .ok (.iadd, 1) := by decide +kernel
theorem dX6_many_60 : decode cX6_many 60 = .ok (.iaload, 1) := by decide +kernel
theorem dX6_many_61 : decode cX6_many 61 = .ok (.ifCond .lt 7, 3) := by decide +kernel
theorem dX6_many_64 : decode cX6_many 64 = .ok (.iconst 1, 1) := by decide +kernel
theorem dX6_many_65 : decode cX6_many 65 = .ok (.goto 35, 3) := by decide +kernel
theorem dX6_many_68 : decode cX6_many 68 = .ok (.iconst 0, 1) := by decide +kernel
theorem dX6_many_69 : decode cX6_many 69 = .ok (.goto 31, 3) := by decide +kernel
theorem dX6_many_72 : decode cX6_many 72 = .ok (.iload_n 3, 1) := by decide +kernel
theorem dX6_many_73 : decode cX6_many 73 = .ok (.aload_n 0, 1) := by decide +kernel
theorem dX6_many_74 : decode cX6_many 74 = .ok (.getfield 7, 3) := by decide +kernel
theorem dX6_many_77 : decode cX6_many 77 = .ok (.iconst 3, 1) := by decide +kernel
theorem dX6_many_78 : decode cX6_many 78 = .ok (.iaload, 1) := by decide +kernel
theorem dX6_many_79 : decode cX6_many 79 = .ok (.if_icmp .ge 20, 3) := by decide +kernel
theorem dX6_many_82 : decode cX6_many 82 = .ok (.aload_n 0, 1) := by decide +kernel
theorem dX6_many_83 : decode cX6_many 83 = .ok (.getfield 7, 3) := by decide +kernel
theorem dX6_many_86 : decode cX6_many 86 = .ok (.iload_n 3, 1) := by decide +kernel
theorem dX6_many_87 : decode cX6_many 87 = .ok (.iconst 4, 1) := by decide +kernel
theorem dX6_many_88 : decode cX6_many 88 = .ok (.invokestatic 47, 3) := by decide +kernel
theorem dX6_many_91 : decode cX6_many 91 = .ok (.iaload, 1) := by decide +kernel
theorem dX6_many_92 : decode cX6_many 92 = .ok (.ifCond .lt 7, 3) := by decide +kernel
theorem dX6_many_95 : decode cX6_many 95 = .ok (.iconst 1, 1) := by decide +kernel
theorem dX6_many_96 : decode cX6_many 96 = .ok (.goto 4, 3) := by decide +kernel
theorem dX6_many_99 : decode cX6_many 99 = .ok (.iconst 0, 1) := by decide +kernel
theorem dX6_many_100 : decode cX6_many 100 = .ok (.iadd, 1) := by decide +kernel
theorem dX6_many_101 : decode cX6_many 101 = .ok (.istore_n 2, 1) := by decide +kernel
theorem dX6_many_102 : decode cX6_many 102 = .ok (.iinc 3 1, 3) := by decide +kernel
theorem dX6_many_105 : decode cX6_many 105 = .ok (.goto (-101), 3) := by decide +kernel
theorem dX6_many_108 : decode cX6_many 108 = .ok (.iload_n 2, 1) := by decide +kernel
theorem dX6_many_109 : decode cX6_many 109 = .ok (.ireturn, 1) := by decide +kernel
theorem dX6_count_0 : decode cX6_count 0 = .ok (.iload_n 1, 1) := by decide +kernel
theorem dX6_count_1 : decode cX6_count 1 = .ok (.tableswitch 190 0 23 #[111, 118, 118, 124, 118, 131, 138, 145, 152, 159, 167, 172, 190, 190, 190, 190, 190, 190, 190, 190, 177, 177, 177, 177], 111) := by decide +kernel
theorem dX6_count_112 : decode cX6_count 112 = .ok (.aload_n 0, 1) := by decide +kernel
theorem dX6_count_113 : decode cX6_count 113 = .ok (.getfield 7, 3) := by decide +kernel
theorem dX6_count_116 : decode cX6_count 116 = .ok (.iconst 0, 1) := by decide +kernel
theorem dX6_count_117 : decode cX6_count 117 = .ok (.iaload, 1) := by decide +kernel
theorem dX6_count_118 : decode cX6_count 118 = .ok (.ireturn, 1) := by decide +kernel
theorem dX6_count_119 : decode cX6_count 119 = .ok (.aload_n 0, 1) := by decide +kernel
theorem dX6_count_120 : decode cX6_count 120 = .ok (.iload_n 1, 1) := by decide +kernel
theorem dX6_count_121 : decode cX6_count 121 = .ok (.invokevirtual 132, 3) := by decide +kernel
theorem dX6_count_124 : decode cX6_count 124 = .ok (.ireturn, 1) := by decide +kernel
theorem dX6_count_125 : decode cX6_count 125 = .ok (.aload_n 0, 1) := by decide +kernel
theorem dX6_count_126 : decode cX6_count 126 = .ok (.getfield 7, 3) := by decide +kernel
theorem dX6_count_129 : decode cX6_count 129 = .ok (.iconst 3, 1) := by decide +kernel
theorem dX6_count_130 : decode cX6_count 130 = .ok (.iaload, 1) := by decide +kernel
theorem dX6_count_131 : decode cX6_count 131 = .ok (.ireturn, 1) := by decide +kernel
theorem dX6_count_132 : decode cX6_count 132 = .ok (.aload_n 0, 1) := by decide +kernel
theorem dX6_count_133 : decode cX6_count 133 = .ok (.getfield 7, 3) := by decide +kernel
theorem dX6_count_136 : decode cX6_count 136 = .ok (.iconst 4, 1) := by decide +kernel
theorem dX6_count_137 : decode cX6_count 137 = .ok (.iaload, 1) := by decide +kernel
theorem dX6_count_138 : decode cX6_count 138 = .ok (.ireturn, 1) := by decide +kernel
theorem dX6_count_139 : decode cX6_count 139 = .ok (.aload_n 0, 1) := by decide +kernel
theorem dX6_count_140 : decode cX6_count 140 = .ok (.getfield 7, 3) := by decide +kernel
theorem dX6_count_143 : decode cX6_count 143 = .ok (.iconst 1, 1) := by decide +kernel
theorem dX6_count_144 : decode cX6_count 144 = .ok (.iaload, 1) := by decide +kernel
theorem dX6_count_145 : decode cX6_count 145 = .ok (.ireturn, 1) := by decide +kernel
theorem dX6_count_146 : decode cX6_count 146 = .ok (.aload_n 0, 1) := by decide +kernel
theorem dX6_count_147 : decode cX6_count 147 = .ok (.getfield 7, 3) := by decide +kernel
theorem dX6_count_150 : decode cX6_count 150 = .ok (.iconst 2, 1) := by decide +kernel
theorem dX6_count_151 : decode cX6_count 151 = .ok (.iaload, 1) := by decide +kernel
theorem dX6_count_152 : decode cX6_count 152 = .ok (.ireturn, 1) := by decide +kernel
theorem dX6_count_153 : decode cX6_count 153 = .ok (.aload_n 0, 1) := by decide +kernel
theorem dX6_count_154 : decode cX6_count 154 = .ok (.getfield 7, 3) := by decide +kernel
theorem dX6_count_157 : decode cX6_count 157 = .ok (.iconst 5, 1) := by decide +kernel
theorem dX6_count_158 : decode cX6_count 158 = .ok (.iaload, 1) := by decide +kernel
theorem dX6_count_159 : decode cX6_count 159 = .ok (.ireturn, 1) := by decide +kernel
theorem dX6_count_160 : decode cX6_count 160 = .ok (.aload_n 0, 1) := by decide +kernel
theorem dX6_count_161 : decode cX6_count 161 = .ok (.getfield 7, 3) := by decide +kernel
theorem dX6_count_164 : decode cX6_count 164 = .ok (.bipush 6, 2) := by decide +kernel
theorem dX6_count_166 : decode cX6_count 166 = .ok (.iaload, 1) := by decide +kernel
theorem dX6_count_167 : decode cX6_count 167 = .ok (.ireturn, 1) := by decide +kernel
theorem dX6_count_168 : decode cX6_count 168 = .ok (.aload_n 0, 1) := by decide +kernel
theorem dX6_count_169 : decode cX6_count 169 = .ok (.getfield 39, 3) := by decide +kernel
theorem dX6_count_172 : decode cX6_count 172 = .ok (.ireturn, 1) := by decide +kernel
theorem dX6_count_173 : decode cX6_count 173 = .ok (.aload_n 0, 1) := by decide +kernel
theorem dX6_count_174 : decode cX6_count 174 = .ok (.getfield 135, 3) := by decide +kernel
theorem dX6_count_177 : decode cX6_count 177 = .ok (.ireturn, 1) := by decide +kernel
theorem dX6_count_178 : decode cX6_count 178 = .ok (.aload_n 0, 1) := by decide +kernel
theorem dX6_count_179 : decode cX6_count 179 = .ok (.getfield 7, 3) := by decide +kernel
theorem dX6_count_182 : decode cX6_count 182 = .ok (.bipush 8, 2) := by decide +kernel
theorem dX6_count_184 : decode cX6_count 184 = .ok (.iload_n 1, 1) := by decide +kernel
theorem dX6_count_185 : decode cX6_count 185 = .ok (.iadd, 1) := by decide +kernel
theorem dX6_count_186 : decode cX6_count 186 = .ok (.bipush 20, 2) := by decide +kernel
theorem dX6_count_188 : decode cX6_count 188 = .ok (.isub, 1) := by decide +kernel
theorem dX6_count_189 : decode cX6_count 189 = .ok (.iaload, 1) := by decide +kernel
theorem dX6_count_190 : decode cX6_count 190 = .ok (.ireturn, 1) := by decide +kernel
theorem dX6_count_191 : decode cX6_count 191 = .ok (.iconst (-1), 1) := by decide +kernel
theorem dX6_count_192 : decode cX6_count 192 = .ok (.ireturn, 1) := by decide +kernel
theorem dX6_sends_0 : decode cX6_sends 0 = .ok (.iload_n 1, 1) := by decide +kernel
theorem dX6_sends_1 : decode cX6_sends 1 = .ok (.invokestatic 85, 3) := by decide +kernel
theorem dX6_sends_4 : decode cX6_sends 4 = .ok (.ifCond .eq 17, 3) := by decide +kernel
theorem dX6_sends_7 : decode cX6_sends 7 = .ok (.iload_n 2, 1) := by decide +kernel
theorem dX6_sends_8 : decode cX6_sends 8 = .ok (.invokestatic 85, 3) := by decide +kernel
theorem dX6_sends_11 : decode cX6_sends 11 = .ok (.ifCond .eq 10, 3) := by decide +kernel
theorem dX6_sends_14 : decode cX6_sends 14 = .ok (.iload_n 3, 1) := by decide +kernel
theorem dX6_sends_15 : decode cX6_sends 15 = .ok (.invokestatic 85, 3) := by decide +kernel
theorem dX6_sends_18 : decode cX6_sends 18 = .ok (.ifCond .ne 5, 3) := by decide +kernel
theorem dX6_sends_21 : decode cX6_sends 21 = .ok (.iconst (-1), 1) := by decide +kernel
theorem dX6_sends_22 : decode cX6_sends 22 = .ok (.ireturn, 1) := by decide +kernel
theorem dX6_sends_23 : decode cX6_sends 23 = .ok (.aload_n 0, 1) := by decide +kernel
theorem dX6_sends_24 : decode cX6_sends 24 = .ok (.getfield 7, 3) := by decide +kernel
theorem dX6_sends_27 : decode cX6_sends 27 = .ok (.aload_n 0, 1) := by decide +kernel
theorem dX6_sends_28 : decode cX6_sends 28 = .ok (.getfield 19, 3) := by decide +kernel
theorem dX6_sends_31 : decode cX6_sends 31 = .ok (.invokestatic 88, 3) := by decide +kernel
theorem dX6_sends_34 : decode cX6_sends 34 = .ok (.aload_n 0, 1) := by decide +kernel
theorem dX6_sends_35 : decode cX6_sends 35 = .ok (.iload_n 1, 1) := by decide +kernel
theorem dX6_sends_36 : decode cX6_sends 36 = .ok (.iload_n 2, 1) := by decide +kernel
theorem dX6_sends_37 : decode cX6_sends 37 = .ok (.iload_n 3, 1) := by decide +kernel
theorem dX6_sends_38 : decode cX6_sends 38 = .ok (.invokevirtual 102, 3) := by decide +kernel
theorem dX6_sends_41 : decode cX6_sends 41 = .ok (.istore 4, 2) := by decide +kernel
theorem dX6_sends_43 : decode cX6_sends 43 = .ok (.aload_n 0, 1) := by decide +kernel
theorem dX6_sends_44 : decode cX6_sends 44 = .ok (.getfield 7, 3) := by decide +kernel
theorem dX6_sends_47 : decode cX6_sends 47 = .ok (.iconst 5, 1) := by decide +kernel
theorem dX6_sends_48 : decode cX6_sends 48 = .ok (.iaload, 1) := by decide +kernel
theorem dX6_sends_49 : decode cX6_sends 49 = .ok (.aload_n 0, 1) := by decide +kernel
theorem dX6_sends_50 : decode cX6_sends 50 = .ok (.getfield 19, 3) := by decide +kernel
theorem dX6_sends_53 : decode cX6_sends 53 = .ok (.iconst 5, 1) := by decide +kernel
theorem dX6_sends_54 : decode cX6_sends 54 = .ok (.iaload, 1) := by decide +kernel
theorem dX6_sends_55 : decode cX6_sends 55 = .ok (.isub, 1) := by decide +kernel
theorem dX6_sends_56 : decode cX6_sends 56 = .ok (.istore 5, 2) := by decide +kernel
theorem dX6_sends_58 : decode cX6_sends 58 = .ok (.aload_n 0, 1) := by decide +kernel
theorem dX6_sends_59 : decode cX6_sends 59 = .ok (.getfield 19, 3) := by decide +kernel
theorem dX6_sends_62 : decode cX6_sends 62 = .ok (.aload_n 0, 1) := by decide +kernel
theorem dX6_sends_63 : decode cX6_sends 63 = .ok (.getfield 7, 3) := by decide +kernel
theorem dX6_sends_66 : decode cX6_sends 66 = .ok (.invokestatic 88, 3) := by decide +kernel
theorem dX6_sends_69 : decode cX6_sends 69 = .ok (.iload 4, 2) := by decide +kernel
theorem dX6_sends_71 : decode cX6_sends 71 = .ok (.ifCond .ge 8, 3) := by decide +kernel
theorem dX6_sends_74 : decode cX6_sends 74 = .ok (.bipush (-2), 2) := by decide +kernel
theorem dX6_sends_76 : decode cX6_sends 76 = .ok (.goto 5, 3) := by decide +kernel
theorem dX6_sends_79 : decode cX6_sends 79 = .ok (.iload 5, 2) := by decide +kernel
theorem dX6_sends_81 : decode cX6_sends 81 = .ok (.ireturn, 1) := by decide +kernel
theorem dX6_idleIn_0 : decode cX6_idleIn 0 = .ok (.aload_n 0, 1) := by decide +kernel
theorem dX6_idleIn_1 : decode cX6_idleIn 1 = .ok (.getfield 7, 3) := by decide +kernel
theorem dX6_idleIn_4 : decode cX6_idleIn 4 = .ok (.aload_n 0, 1) := by decide +kernel
theorem dX6_idleIn_5 : decode cX6_idleIn 5 = .ok (.getfield 19, 3) := by decide +kernel
theorem dX6_idleIn_8 : decode cX6_idleIn 8 = .ok (.invokestatic 88, 3) := by decide +kernel
theorem dX6_idleIn_11 : decode cX6_idleIn 11 = .ok (.iconst 0, 1) := by decide +kernel
theorem dX6_idleIn_12 : decode cX6_idleIn 12 = .ok (.istore_n 1, 1) := by decide +kernel
theorem dX6_idleIn_13 : decode cX6_idleIn 13 = .ok (.aload_n 0, 1) := by decide +kernel
theorem dX6_idleIn_14 : decode cX6_idleIn 14 = .ok (.getfield 7, 3) := by decide +kernel
theorem dX6_idleIn_17 : decode cX6_idleIn 17 = .ok (.iconst 3, 1) := by decide +kernel
theorem dX6_idleIn_18 : decode cX6_idleIn 18 = .ok (.iaload, 1) := by decide +kernel
theorem dX6_idleIn_19 : decode cX6_idleIn 19 = .ok (.ifCond .le 13, 3) := by decide +kernel
theorem dX6_idleIn_22 : decode cX6_idleIn 22 = .ok (.aload_n 0, 1) := by decide +kernel
theorem dX6_idleIn_23 : decode cX6_idleIn 23 = .ok (.invokevirtual 117, 3) := by decide +kernel
theorem dX6_idleIn_26 : decode cX6_idleIn 26 = .ok (.iinc 1 1, 3) := by decide +kernel
theorem dX6_idleIn_29 : decode cX6_idleIn 29 = .ok (.goto (-16), 3) := by decide +kernel
theorem dX6_idleIn_32 : decode cX6_idleIn 32 = .ok (.aload_n 0, 1) := by decide +kernel
theorem dX6_idleIn_33 : decode cX6_idleIn 33 = .ok (.getfield 19, 3) := by decide +kernel
theorem dX6_idleIn_36 : decode cX6_idleIn 36 = .ok (.aload_n 0, 1) := by decide +kernel
theorem dX6_idleIn_37 : decode cX6_idleIn 37 = .ok (.getfield 7, 3) := by decide +kernel
theorem dX6_idleIn_40 : decode cX6_idleIn 40 = .ok (.invokestatic 88, 3) := by decide +kernel
theorem dX6_idleIn_43 : decode cX6_idleIn 43 = .ok (.iload_n 1, 1) := by decide +kernel
theorem dX6_idleIn_44 : decode cX6_idleIn 44 = .ok (.ireturn, 1) := by decide +kernel
theorem dX6_knownIn_0 : decode cX6_knownIn 0 = .ok (.iload_n 1, 1) := by decide +kernel
theorem dX6_knownIn_1 : decode cX6_knownIn 1 = .ok (.invokestatic 85, 3) := by decide +kernel
theorem dX6_knownIn_4 : decode cX6_knownIn 4 = .ok (.ifCond .ne 5, 3) := by decide +kernel
theorem dX6_knownIn_7 : decode cX6_knownIn 7 = .ok (.iconst (-1), 1) := by decide +kernel
theorem dX6_knownIn_8 : decode cX6_knownIn 8 = .ok (.ireturn, 1) := by decide +kernel
theorem dX6_knownIn_9 : decode cX6_knownIn 9 = .ok (.aload_n 0, 1) := by decide +kernel
theorem dX6_knownIn_10 : decode cX6_knownIn 10 = .ok (.getfield 7, 3) := by decide +kernel
theorem dX6_knownIn_13 : decode cX6_knownIn 13 = .ok (.aload_n 0, 1) := by decide +kernel
theorem dX6_knownIn_14 : decode cX6_knownIn 14 = .ok (.getfield 19, 3) := by decide +kernel
theorem dX6_knownIn_17 : decode cX6_knownIn 17 = .ok (.invokestatic 88, 3) := by decide +kernel
theorem dX6_knownIn_20 : decode cX6_knownIn 20 = .ok (.aload_n 0, 1) := by decide +kernel
theorem dX6_knownIn_21 : decode cX6_knownIn 21 = .ok (.getfield 7, 3) := by decide +kernel
theorem dX6_knownIn_24 : decode cX6_knownIn 24 = .ok (.bipush 12, 2) := by decide +kernel
theorem dX6_knownIn_26 : decode cX6_knownIn 26 = .ok (.iload_n 1, 1) := by decide +kernel
theorem dX6_knownIn_27 : decode cX6_knownIn 27 = .ok (.iadd, 1) := by decide +kernel
theorem dX6_knownIn_28 : decode cX6_knownIn 28 = .ok (.iaload, 1) := by decide +kernel
theorem dX6_knownIn_29 : decode cX6_knownIn 29 = .ok (.istore_n 2, 1) := by decide +kernel
theorem dX6_knownIn_30 : decode cX6_knownIn 30 = .ok (.iconst 0, 1) := by decide +kernel
theorem dX6_knownIn_31 : decode cX6_knownIn 31 = .ok (.istore_n 3, 1) := by decide +kernel
theorem dX6_knownIn_32 : decode cX6_knownIn 32 = .ok (.iload_n 2, 1) := by decide +kernel
theorem dX6_knownIn_33 : decode cX6_knownIn 33 = .ok (.ifCond .lt 26, 3) := by decide +kernel
theorem dX6_knownIn_36 : decode cX6_knownIn 36 = .ok (.aload_n 0, 1) := by decide +kernel
theorem dX6_knownIn_37 : decode cX6_knownIn 37 = .ok (.getfield 7, 3) := by decide +kernel
theorem dX6_knownIn_40 : decode cX6_knownIn 40 = .ok (.iload_n 2, 1) := by decide +kernel
theorem dX6_knownIn_41 : decode cX6_knownIn 41 = .ok (.iconst 2, 1) := by decide +kernel
theorem dX6_knownIn_42 : decode cX6_knownIn 42 = .ok (.invokestatic 65, 3) := by decide +kernel
theorem dX6_knownIn_45 : decode cX6_knownIn 45 = .ok (.iaload, 1) := by decide +kernel
theorem dX6_knownIn_46 : decode cX6_knownIn 46 = .ok (.ifCond .ne 13, 3) := by decide +kernel
theorem dX6_knownIn_49 : decode cX6_knownIn 49 = .ok (.aload_n 0, 1) := by decide +kernel
theorem dX6_knownIn_50 : decode cX6_knownIn 50 = .ok (.invokevirtual 117, 3) := by decide +kernel
theorem dX6_knownIn_53 : decode cX6_knownIn 53 = .ok (.iinc 3 1, 3) := by decide +kernel
theorem dX6_knownIn_56 : decode cX6_knownIn 56 = .ok (.goto (-24), 3) := by decide +kernel
theorem dX6_knownIn_59 : decode cX6_knownIn 59 = .ok (.aload_n 0, 1) := by decide +kernel
theorem dX6_knownIn_60 : decode cX6_knownIn 60 = .ok (.getfield 19, 3) := by decide +kernel
theorem dX6_knownIn_63 : decode cX6_knownIn 63 = .ok (.aload_n 0, 1) := by decide +kernel
theorem dX6_knownIn_64 : decode cX6_knownIn 64 = .ok (.getfield 7, 3) := by decide +kernel
theorem dX6_knownIn_67 : decode cX6_knownIn 67 = .ok (.invokestatic 88, 3) := by decide +kernel
theorem dX6_knownIn_70 : decode cX6_knownIn 70 = .ok (.iload_n 3, 1) := by decide +kernel
theorem dX6_knownIn_71 : decode cX6_knownIn 71 = .ok (.ireturn, 1) := by decide +kernel
theorem dX6_undo_0 : decode cX6_undo 0 = .ok (.aload_n 0, 1) := by decide +kernel
theorem dX6_undo_1 : decode cX6_undo 1 = .ok (.getfield 39, 3) := by decide +kernel
theorem dX6_undo_4 : decode cX6_undo 4 = .ok (.ifCond .ne 6, 3) := by decide +kernel
theorem dX6_undo_7 : decode cX6_undo 7 = .ok (.bipush (-2), 2) := by decide +kernel
theorem dX6_undo_9 : decode cX6_undo 9 = .ok (.ireturn, 1) := by decide +kernel
theorem dX6_undo_10 : decode cX6_undo 10 = .ok (.aload_n 0, 1) := by decide +kernel
theorem dX6_undo_11 : decode cX6_undo 11 = .ok (.dup, 1) := by decide +kernel
theorem dX6_undo_12 : decode cX6_undo 12 = .ok (.getfield 39, 3) := by decide +kernel
theorem dX6_undo_15 : decode cX6_undo 15 = .ok (.iconst 1, 1) := by decide +kernel
theorem dX6_undo_16 : decode cX6_undo 16 = .ok (.isub, 1) := by decide +kernel
theorem dX6_undo_17 : decode cX6_undo 17 = .ok (.putfield 39, 3) := by decide +kernel
theorem dX6_undo_20 : decode cX6_undo 20 = .ok (.iconst 0, 1) := by decide +kernel
theorem dX6_undo_21 : decode cX6_undo 21 = .ok (.istore_n 1, 1) := by decide +kernel
theorem dX6_undo_22 : decode cX6_undo 22 = .ok (.iload_n 1, 1) := by decide +kernel
theorem dX6_undo_23 : decode cX6_undo 23 = .ok (.sipush 153, 3) := by decide +kernel
theorem dX6_undo_26 : decode cX6_undo 26 = .ok (.if_icmp .ge 30, 3) := by decide +kernel
theorem dX6_undo_29 : decode cX6_undo 29 = .ok (.aload_n 0, 1) := by decide +kernel
theorem dX6_undo_30 : decode cX6_undo 30 = .ok (.getfield 7, 3) := by decide +kernel
theorem dX6_undo_33 : decode cX6_undo 33 = .ok (.iload_n 1, 1) := by decide +kernel
theorem dX6_undo_34 : decode cX6_undo 34 = .ok (.aload_n 0, 1) := by decide +kernel
theorem dX6_undo_35 : decode cX6_undo 35 = .ok (.getfield 13, 3) := by decide +kernel
theorem dX6_undo_38 : decode cX6_undo 38 = .ok (.sipush 153, 3) := by decide +kernel
theorem dX6_undo_41 : decode cX6_undo 41 = .ok (.aload_n 0, 1) := by decide +kernel
theorem dX6_undo_42 : decode cX6_undo 42 = .ok (.getfield 39, 3) := by decide +kernel
theorem dX6_undo_45 : decode cX6_undo 45 = .ok (.imul, 1) := by decide +kernel
theorem dX6_undo_46 : decode cX6_undo 46 = .ok (.iload_n 1, 1) := by decide +kernel
theorem dX6_undo_47 : decode cX6_undo 47 = .ok (.iadd, 1) := by decide +kernel
theorem dX6_undo_48 : decode cX6_undo 48 = .ok (.iaload, 1) := by decide +kernel
theorem dX6_undo_49 : decode cX6_undo 49 = .ok (.iastore, 1) := by decide +kernel
theorem dX6_undo_50 : decode cX6_undo 50 = .ok (.iinc 1 1, 3) := by decide +kernel
theorem dX6_undo_53 : decode cX6_undo 53 = .ok (.goto (-31), 3) := by decide +kernel
theorem dX6_undo_56 : decode cX6_undo 56 = .ok (.aload_n 0, 1) := by decide +kernel
theorem dX6_undo_57 : decode cX6_undo 57 = .ok (.getfield 39, 3) := by decide +kernel
theorem dX6_undo_60 : decode cX6_undo 60 = .ok (.ireturn, 1) := by decide +kernel
theorem dX6_type_0 : decode cX6_type 0 = .ok (.iload_n 1, 1) := by decide +kernel
theorem dX6_type_1 : decode cX6_type 1 = .ok (.bipush 32, 2) := by decide +kernel
theorem dX6_type_3 : decode cX6_type 3 = .ok (.bipush 126, 2) := by decide +kernel
theorem dX6_type_5 : decode cX6_type 5 = .ok (.invokestatic 43, 3) := by decide +kernel
theorem dX6_type_8 : decode cX6_type 8 = .ok (.ifCond .ne 5, 3) := by decide +kernel
theorem dX6_type_11 : decode cX6_type 11 = .ok (.iconst (-1), 1) := by decide +kernel
theorem dX6_type_12 : decode cX6_type 12 = .ok (.ireturn, 1) := by decide +kernel
theorem dX6_type_13 : decode cX6_type 13 = .ok (.aload_n 0, 1) := by decide +kernel
theorem dX6_type_14 : decode cX6_type 14 = .ok (.getfield 135, 3) := by decide +kernel
theorem dX6_type_17 : decode cX6_type 17 = .ok (.bipush 80, 2) := by decide +kernel
theorem dX6_type_19 : decode cX6_type 19 = .ok (.if_icmp .ne 6, 3) := by decide +kernel
theorem dX6_type_22 : decode cX6_type 22 = .ok (.bipush (-3), 2) := by decide +kernel
theorem dX6_type_24 : decode cX6_type 24 = .ok (.ireturn, 1) := by decide +kernel
theorem dX6_type_25 : decode cX6_type 25 = .ok (.aload_n 0, 1) := by decide +kernel
theorem dX6_type_26 : decode cX6_type 26 = .ok (.getfield 22, 3) := by decide +kernel
theorem dX6_type_29 : decode cX6_type 29 = .ok (.aload_n 0, 1) := by decide +kernel
theorem dX6_type_30 : decode cX6_type 30 = .ok (.getfield 135, 3) := by decide +kernel
theorem dX6_type_33 : decode cX6_type 33 = .ok (.iload_n 1, 1) := by decide +kernel
theorem dX6_type_34 : decode cX6_type 34 = .ok (.iastore, 1) := by decide +kernel
theorem dX6_type_35 : decode cX6_type 35 = .ok (.aload_n 0, 1) := by decide +kernel
theorem dX6_type_36 : decode cX6_type 36 = .ok (.dup, 1) := by decide +kernel
theorem dX6_type_37 : decode cX6_type 37 = .ok (.getfield 135, 3) := by decide +kernel
theorem dX6_type_40 : decode cX6_type 40 = .ok (.iconst 1, 1) := by decide +kernel
theorem dX6_type_41 : decode cX6_type 41 = .ok (.iadd, 1) := by decide +kernel
theorem dX6_type_42 : decode cX6_type 42 = .ok (.putfield 135, 3) := by decide +kernel
theorem dX6_type_45 : decode cX6_type 45 = .ok (.aload_n 0, 1) := by decide +kernel
theorem dX6_type_46 : decode cX6_type 46 = .ok (.getfield 135, 3) := by decide +kernel
theorem dX6_type_49 : decode cX6_type 49 = .ok (.ireturn, 1) := by decide +kernel
theorem dX6_clearText_0 : decode cX6_clearText 0 = .ok (.aload_n 0, 1) := by decide +kernel
theorem dX6_clearText_1 : decode cX6_clearText 1 = .ok (.getfield 135, 3) := by decide +kernel
theorem dX6_clearText_4 : decode cX6_clearText 4 = .ok (.istore_n 1, 1) := by decide +kernel
theorem dX6_clearText_5 : decode cX6_clearText 5 = .ok (.aload_n 0, 1) := by decide +kernel
theorem dX6_clearText_6 : decode cX6_clearText 6 = .ok (.iconst 0, 1) := by decide +kernel
theorem dX6_clearText_7 : decode cX6_clearText 7 = .ok (.putfield 135, 3) := by decide +kernel
theorem dX6_clearText_10 : decode cX6_clearText 10 = .ok (.iload_n 1, 1) := by decide +kernel
theorem dX6_clearText_11 : decode cX6_clearText 11 = .ok (.ireturn, 1) := by decide +kernel
theorem dX6_isAt_0 : decode cX6_isAt 0 = .ok (.aload_n 0, 1) := by decide +kernel
theorem dX6_isAt_1 : decode cX6_isAt 1 = .ok (.getfield 138, 3) := by decide +kernel
theorem dX6_isAt_4 : decode cX6_isAt 4 = .ok (.aload_n 0, 1) := by decide +kernel
theorem dX6_isAt_5 : decode cX6_isAt 5 = .ok (.getfield 135, 3) := by decide +kernel
theorem dX6_isAt_8 : decode cX6_isAt 8 = .ok (.if_icmp .ge 24, 3) := by decide +kernel
theorem dX6_isAt_11 : decode cX6_isAt 11 = .ok (.aload_n 0, 1) := by decide +kernel
theorem dX6_isAt_12 : decode cX6_isAt 12 = .ok (.getfield 22, 3) := by decide +kernel
theorem dX6_isAt_15 : decode cX6_isAt 15 = .ok (.aload_n 0, 1) := by decide +kernel
theorem dX6_isAt_16 : decode cX6_isAt 16 = .ok (.getfield 138, 3) := by decide +kernel
theorem dX6_isAt_19 : decode cX6_isAt 19 = .ok (.iaload, 1) := by decide +kernel
theorem dX6_isAt_20 : decode cX6_isAt 20 = .ok (.iload_n 1, 1) := by decide +kernel
theorem dX6_isAt_21 : decode cX6_isAt 21 = .ok (.iload_n 2, 1) := by decide +kernel
theorem dX6_isAt_22 : decode cX6_isAt 22 = .ok (.invokestatic 43, 3) := by decide +kernel
theorem dX6_isAt_25 : decode cX6_isAt 25 = .ok (.ifCond .eq 7, 3) := by decide +kernel
theorem dX6_isAt_28 : decode cX6_isAt 28 = .ok (.iconst 1, 1) := by decide +kernel
theorem dX6_isAt_29 : decode cX6_isAt 29 = .ok (.goto 4, 3) := by decide +kernel
theorem dX6_isAt_32 : decode cX6_isAt 32 = .ok (.iconst 0, 1) := by decide +kernel
theorem dX6_isAt_33 : decode cX6_isAt 33 = .ok (.ireturn, 1) := by decide +kernel
theorem dX6_isWord_0 : decode cX6_isWord 0 = .ok (.aload_n 0, 1) := by decide +kernel
theorem dX6_isWord_1 : decode cX6_isWord 1 = .ok (.getfield 138, 3) := by decide +kernel
theorem dX6_isWord_4 : decode cX6_isWord 4 = .ok (.iload_n 1, 1) := by decide +kernel
theorem dX6_isWord_5 : decode cX6_isWord 5 = .ok (.isub, 1) := by decide +kernel
theorem dX6_isWord_6 : decode cX6_isWord 6 = .ok (.iload 5, 2) := by decide +kernel
theorem dX6_isWord_8 : decode cX6_isWord 8 = .ok (.ifCond .le 7, 3) := by decide +kernel
theorem dX6_isWord_11 : decode cX6_isWord 11 = .ok (.iconst 4, 1) := by decide +kernel
theorem dX6_isWord_12 : decode cX6_isWord 12 = .ok (.goto 4, 3) := by decide +kernel
theorem dX6_isWord_15 : decode cX6_isWord 15 = .ok (.iconst 3, 1) := by decide +kernel
theorem dX6_isWord_16 : decode cX6_isWord 16 = .ok (.if_icmp .ne 42, 3) := by decide +kernel
theorem dX6_isWord_19 : decode cX6_isWord 19 = .ok (.aload_n 0, 1) := by decide +kernel
theorem dX6_isWord_20 : decode cX6_isWord 20 = .ok (.getfield 22, 3) := by decide +kernel
theorem dX6_isWord_23 : decode cX6_isWord 23 = .ok (.iload_n 1, 1) := by decide +kernel
theorem dX6_isWord_24 : decode cX6_isWord 24 = .ok (.iaload, 1) := by decide +kernel
theorem dX6_isWord_25 : decode cX6_isWord 25 = .ok (.iload_n 2, 1) := by decide +kernel
theorem dX6_isWord_26 : decode cX6_isWord 26 = .ok (.if_icmp .ne 32, 3) := by decide +kernel
theorem dX6_isWord_29 : decode cX6_isWord 29 = .ok (.aload_n 0, 1) := by decide +kernel
theorem dX6_isWord_30 : decode cX6_isWord 30 = .ok (.getfield 22, 3) := by decide +kernel
theorem dX6_isWord_33 : decode cX6_isWord 33 = .ok (.iload_n 1, 1) := by decide +kernel
theorem dX6_isWord_34 : decode cX6_isWord 34 = .ok (.iconst 1, 1) := by decide +kernel
theorem dX6_isWord_35 : decode cX6_isWord 35 = .ok (.iadd, 1) := by decide +kernel
theorem dX6_isWord_36 : decode cX6_isWord 36 = .ok (.iaload, 1) := by decide +kernel
theorem dX6_isWord_37 : decode cX6_isWord 37 = .ok (.iload_n 3, 1) := by decide +kernel
theorem dX6_isWord_38 : decode cX6_isWord 38 = .ok (.if_icmp .ne 20, 3) := by decide +kernel
theorem dX6_isWord_41 : decode cX6_isWord 41 = .ok (.aload_n 0, 1) := by decide +kernel
theorem dX6_isWord_42 : decode cX6_isWord 42 = .ok (.getfield 22, 3) := by decide +kernel
theorem dX6_isWord_45 : decode cX6_isWord 45 = .ok (.iload_n 1, 1) := by decide +kernel
theorem dX6_isWord_46 : decode cX6_isWord 46 = .ok (.iconst 2, 1) := by decide +kernel
theorem dX6_isWord_47 : decode cX6_isWord 47 = .ok (.iadd, 1) := by decide +kernel
theorem dX6_isWord_48 : decode cX6_isWord 48 = .ok (.iaload, 1) := by decide +kernel
theorem dX6_isWord_49 : decode cX6_isWord 49 = .ok (.iload 4, 2) := by decide +kernel
theorem dX6_isWord_51 : decode cX6_isWord 51 = .ok (.if_icmp .ne 7, 3) := by decide +kernel
theorem dX6_isWord_54 : decode cX6_isWord 54 = .ok (.iconst 1, 1) := by decide +kernel
theorem dX6_isWord_55 : decode cX6_isWord 55 = .ok (.goto 4, 3) := by decide +kernel
theorem dX6_isWord_58 : decode cX6_isWord 58 = .ok (.iconst 0, 1) := by decide +kernel
theorem dX6_isWord_59 : decode cX6_isWord 59 = .ok (.istore 6, 2) := by decide +kernel
theorem dX6_isWord_61 : decode cX6_isWord 61 = .ok (.iload 6, 2) := by decide +kernel
theorem dX6_isWord_63 : decode cX6_isWord 63 = .ok (.ifCond .eq 25, 3) := by decide +kernel
theorem dX6_isWord_66 : decode cX6_isWord 66 = .ok (.iload 5, 2) := by decide +kernel
theorem dX6_isWord_68 : decode cX6_isWord 68 = .ok (.ifCond .eq 16, 3) := by decide +kernel
theorem dX6_isWord_71 : decode cX6_isWord 71 = .ok (.aload_n 0, 1) := by decide +kernel
theorem dX6_isWord_72 : decode cX6_isWord 72 = .ok (.getfield 22, 3) := by decide +kernel
theorem dX6_isWord_75 : decode cX6_isWord 75 = .ok (.iload_n 1, 1) := by decide +kernel
theorem dX6_isWord_76 : decode cX6_isWord 76 = .ok (.iconst 3, 1) := by decide +kernel
theorem dX6_isWord_77 : decode cX6_isWord 77 = .ok (.iadd, 1) := by decide +kernel
theorem dX6_isWord_78 : decode cX6_isWord 78 = .ok (.iaload, 1) := by decide +kernel
theorem dX6_isWord_79 : decode cX6_isWord 79 = .ok (.iload 5, 2) := by decide +kernel
theorem dX6_isWord_81 : decode cX6_isWord 81 = .ok (.if_icmp .ne 7, 3) := by decide +kernel
theorem dX6_isWord_84 : decode cX6_isWord 84 = .ok (.iconst 1, 1) := by decide +kernel
theorem dX6_isWord_85 : decode cX6_isWord 85 = .ok (.goto 4, 3) := by decide +kernel
theorem dX6_isWord_88 : decode cX6_isWord 88 = .ok (.iconst 0, 1) := by decide +kernel
theorem dX6_isWord_89 : decode cX6_isWord 89 = .ok (.ireturn, 1) := by decide +kernel
theorem dX6_wordAt_0 : decode cX6_wordAt 0 = .ok (.aload_n 0, 1) := by decide +kernel
theorem dX6_wordAt_1 : decode cX6_wordAt 1 = .ok (.iload_n 1, 1) := by decide +kernel
theorem dX6_wordAt_2 : decode cX6_wordAt 2 = .ok (.bipush 97, 2) := by decide +kernel
theorem dX6_wordAt_4 : decode cX6_wordAt 4 = .ok (.bipush 100, 2) := by decide +kernel
theorem dX6_wordAt_6 : decode cX6_wordAt 6 = .ok (.bipush 100, 2) := by decide +kernel
theorem dX6_wordAt_8 : decode cX6_wordAt 8 = .ok (.iconst 0, 1) := by decide +kernel
theorem dX6_wordAt_9 : decode cX6_wordAt 9 = .ok (.invokevirtual 141, 3) := by decide +kernel
theorem dX6_wordAt_12 : decode cX6_wordAt 12 = .ok (.ifCond .eq 5, 3) := by decide +kernel
theorem dX6_wordAt_15 : decode cX6_wordAt 15 = .ok (.iconst 0, 1) := by decide +kernel
theorem dX6_wordAt_16 : decode cX6_wordAt 16 = .ok (.ireturn, 1) := by decide +kernel
theorem dX6_wordAt_17 : decode cX6_wordAt 17 = .ok (.aload_n 0, 1) := by decide +kernel
theorem dX6_wordAt_18 : decode cX6_wordAt 18 = .ok (.iload_n 1, 1) := by decide +kernel
theorem dX6_wordAt_19 : decode cX6_wordAt 19 = .ok (.bipush 115, 2) := by decide +kernel
theorem dX6_wordAt_21 : decode cX6_wordAt 21 = .ok (.bipush 117, 2) := by decide +kernel
theorem dX6_wordAt_23 : decode cX6_wordAt 23 = .ok (.bipush 98, 2) := by decide +kernel
theorem dX6_wordAt_25 : decode cX6_wordAt 25 = .ok (.iconst 0, 1) := by decide +kernel
theorem dX6_wordAt_26 : decode cX6_wordAt 26 = .ok (.invokevirtual 141, 3) := by decide +kernel
theorem dX6_wordAt_29 : decode cX6_wordAt 29 = .ok (.ifCond .eq 5, 3) := by decide +kernel
theorem dX6_wordAt_32 : decode cX6_wordAt 32 = .ok (.iconst 1, 1) := by decide +kernel
theorem dX6_wordAt_33 : decode cX6_wordAt 33 = .ok (.ireturn, 1) := by decide +kernel
theorem dX6_wordAt_34 : decode cX6_wordAt 34 = .ok (.aload_n 0, 1) := by decide +kernel
theorem dX6_wordAt_35 : decode cX6_wordAt 35 = .ok (.iload_n 1, 1) := by decide +kernel
theorem dX6_wordAt_36 : decode cX6_wordAt 36 = .ok (.bipush 109, 2) := by decide +kernel
theorem dX6_wordAt_38 : decode cX6_wordAt 38 = .ok (.bipush 117, 2) := by decide +kernel
theorem dX6_wordAt_40 : decode cX6_wordAt 40 = .ok (.bipush 108, 2) := by decide +kernel
theorem dX6_wordAt_42 : decode cX6_wordAt 42 = .ok (.iconst 0, 1) := by decide +kernel
theorem dX6_wordAt_43 : decode cX6_wordAt 43 = .ok (.invokevirtual 141, 3) := by decide +kernel
theorem dX6_wordAt_46 : decode cX6_wordAt 46 = .ok (.ifCond .eq 5, 3) := by decide +kernel
theorem dX6_wordAt_49 : decode cX6_wordAt 49 = .ok (.iconst 2, 1) := by decide +kernel
theorem dX6_wordAt_50 : decode cX6_wordAt 50 = .ok (.ireturn, 1) := by decide +kernel
theorem dX6_wordAt_51 : decode cX6_wordAt 51 = .ok (.aload_n 0, 1) := by decide +kernel
theorem dX6_wordAt_52 : decode cX6_wordAt 52 = .ok (.iload_n 1, 1) := by decide +kernel
theorem dX6_wordAt_53 : decode cX6_wordAt 53 = .ok (.bipush 112, 2) := by decide +kernel
theorem dX6_wordAt_55 : decode cX6_wordAt 55 = .ok (.bipush 117, 2) := by decide +kernel
theorem dX6_wordAt_57 : decode cX6_wordAt 57 = .ok (.bipush 116, 2) := by decide +kernel
theorem dX6_wordAt_59 : decode cX6_wordAt 59 = .ok (.iconst 0, 1) := by decide +kernel
theorem dX6_wordAt_60 : decode cX6_wordAt 60 = .ok (.invokevirtual 141, 3) := by decide +kernel
theorem dX6_wordAt_63 : decode cX6_wordAt 63 = .ok (.ifCond .eq 5, 3) := by decide +kernel
theorem dX6_wordAt_66 : decode cX6_wordAt 66 = .ok (.iconst 3, 1) := by decide +kernel
theorem dX6_wordAt_67 : decode cX6_wordAt 67 = .ok (.ireturn, 1) := by decide +kernel
theorem dX6_wordAt_68 : decode cX6_wordAt 68 = .ok (.aload_n 0, 1) := by decide +kernel
theorem dX6_wordAt_69 : decode cX6_wordAt 69 = .ok (.iload_n 1, 1) := by decide +kernel
theorem dX6_wordAt_70 : decode cX6_wordAt 70 = .ok (.bipush 99, 2) := by decide +kernel
theorem dX6_wordAt_72 : decode cX6_wordAt 72 = .ok (.bipush 111, 2) := by decide +kernel
theorem dX6_wordAt_74 : decode cX6_wordAt 74 = .ok (.bipush 112, 2) := by decide +kernel
theorem dX6_wordAt_76 : decode cX6_wordAt 76 = .ok (.bipush 121, 2) := by decide +kernel
theorem dX6_wordAt_78 : decode cX6_wordAt 78 = .ok (.invokevirtual 141, 3) := by decide +kernel
theorem dX6_wordAt_81 : decode cX6_wordAt 81 = .ok (.ifCond .eq 5, 3) := by decide +kernel
theorem dX6_wordAt_84 : decode cX6_wordAt 84 = .ok (.iconst 4, 1) := by decide +kernel
theorem dX6_wordAt_85 : decode cX6_wordAt 85 = .ok (.ireturn, 1) := by decide +kernel
theorem dX6_wordAt_86 : decode cX6_wordAt 86 = .ok (.aload_n 0, 1) := by decide +kernel
theorem dX6_wordAt_87 : decode cX6_wordAt 87 = .ok (.iload_n 1, 1) := by decide +kernel
theorem dX6_wordAt_88 : decode cX6_wordAt 88 = .ok (.bipush 116, 2) := by decide +kernel
theorem dX6_wordAt_90 : decode cX6_wordAt 90 = .ok (.bipush 105, 2) := by decide +kernel
theorem dX6_wordAt_92 : decode cX6_wordAt 92 = .ok (.bipush 99, 2) := by decide +kernel
theorem dX6_wordAt_94 : decode cX6_wordAt 94 = .ok (.bipush 107, 2) := by decide +kernel
theorem dX6_wordAt_96 : decode cX6_wordAt 96 = .ok (.invokevirtual 141, 3) := by decide +kernel
theorem dX6_wordAt_99 : decode cX6_wordAt 99 = .ok (.ifCond .eq 5, 3) := by decide +kernel
theorem dX6_wordAt_102 : decode cX6_wordAt 102 = .ok (.iconst 5, 1) := by decide +kernel
theorem dX6_wordAt_103 : decode cX6_wordAt 103 = .ok (.ireturn, 1) := by decide +kernel
theorem dX6_wordAt_104 : decode cX6_wordAt 104 = .ok (.aload_n 0, 1) := by decide +kernel
theorem dX6_wordAt_105 : decode cX6_wordAt 105 = .ok (.iload_n 1, 1) := by decide +kernel
theorem dX6_wordAt_106 : decode cX6_wordAt 106 = .ok (.bipush 109, 2) := by decide +kernel
theorem dX6_wordAt_108 : decode cX6_wordAt 108 = .ok (.bipush 97, 2) := by decide +kernel
theorem dX6_wordAt_110 : decode cX6_wordAt 110 = .ok (.bipush 114, 2) := by decide +kernel
theorem dX6_wordAt_112 : decode cX6_wordAt 112 = .ok (.bipush 107, 2) := by decide +kernel
theorem dX6_wordAt_114 : decode cX6_wordAt 114 = .ok (.invokevirtual 141, 3) := by decide +kernel
theorem dX6_wordAt_117 : decode cX6_wordAt 117 = .ok (.ifCond .eq 8, 3) := by decide +kernel
theorem dX6_wordAt_120 : decode cX6_wordAt 120 = .ok (.bipush 6, 2) := by decide +kernel
theorem dX6_wordAt_122 : decode cX6_wordAt 122 = .ok (.goto 47, 3) := by decide +kernel
theorem dX6_wordAt_125 : decode cX6_wordAt 125 = .ok (.aload_n 0, 1) := by decide +kernel
theorem dX6_wordAt_126 : decode cX6_wordAt 126 = .ok (.iload_n 1, 1) := by decide +kernel
theorem dX6_wordAt_127 : decode cX6_wordAt 127 = .ok (.bipush 107, 2) := by decide +kernel
theorem dX6_wordAt_129 : decode cX6_wordAt 129 = .ok (.bipush 101, 2) := by decide +kernel
theorem dX6_wordAt_131 : decode cX6_wordAt 131 = .ok (.bipush 101, 2) := by decide +kernel
theorem dX6_wordAt_133 : decode cX6_wordAt 133 = .ok (.bipush 112, 2) := by decide +kernel
theorem dX6_wordAt_135 : decode cX6_wordAt 135 = .ok (.invokevirtual 141, 3) := by decide +kernel
theorem dX6_wordAt_138 : decode cX6_wordAt 138 = .ok (.ifCond .eq 8, 3) := by decide +kernel
theorem dX6_wordAt_141 : decode cX6_wordAt 141 = .ok (.bipush 7, 2) := by decide +kernel
theorem dX6_wordAt_143 : decode cX6_wordAt 143 = .ok (.goto 26, 3) := by decide +kernel
theorem dX6_wordAt_146 : decode cX6_wordAt 146 = .ok (.aload_n 0, 1) := by decide +kernel
theorem dX6_wordAt_147 : decode cX6_wordAt 147 = .ok (.iload_n 1, 1) := by decide +kernel
theorem dX6_wordAt_148 : decode cX6_wordAt 148 = .ok (.bipush 98, 2) := by decide +kernel
theorem dX6_wordAt_150 : decode cX6_wordAt 150 = .ok (.bipush 97, 2) := by decide +kernel
theorem dX6_wordAt_152 : decode cX6_wordAt 152 = .ok (.bipush 99, 2) := by decide +kernel
theorem dX6_wordAt_154 : decode cX6_wordAt 154 = .ok (.bipush 107, 2) := by decide +kernel
theorem dX6_wordAt_156 : decode cX6_wordAt 156 = .ok (.invokevirtual 141, 3) := by decide +kernel
theorem dX6_wordAt_159 : decode cX6_wordAt 159 = .ok (.ifCond .eq 8, 3) := by decide +kernel
theorem dX6_wordAt_162 : decode cX6_wordAt 162 = .ok (.bipush 8, 2) := by decide +kernel
theorem dX6_wordAt_164 : decode cX6_wordAt 164 = .ok (.goto 5, 3) := by decide +kernel
theorem dX6_wordAt_167 : decode cX6_wordAt 167 = .ok (.bipush (-4), 2) := by decide +kernel
theorem dX6_wordAt_169 : decode cX6_wordAt 169 = .ok (.ireturn, 1) := by decide +kernel
theorem dX6_passes_0 : decode cX6_passes 0 = .ok (.aload_n 0, 1) := by decide +kernel
theorem dX6_passes_1 : decode cX6_passes 1 = .ok (.iload_n 1, 1) := by decide +kernel
theorem dX6_passes_2 : decode cX6_passes 2 = .ok (.iload_n 1, 1) := by decide +kernel
theorem dX6_passes_3 : decode cX6_passes 3 = .ok (.invokevirtual 145, 3) := by decide +kernel
theorem dX6_passes_6 : decode cX6_passes 6 = .ok (.istore_n 2, 1) := by decide +kernel
theorem dX6_passes_7 : decode cX6_passes 7 = .ok (.aload_n 0, 1) := by decide +kernel
theorem dX6_passes_8 : decode cX6_passes 8 = .ok (.dup, 1) := by decide +kernel
theorem dX6_passes_9 : decode cX6_passes 9 = .ok (.getfield 138, 3) := by decide +kernel
theorem dX6_passes_12 : decode cX6_passes 12 = .ok (.iload_n 2, 1) := by decide +kernel
theorem dX6_passes_13 : decode cX6_passes 13 = .ok (.ifCond .eq 7, 3) := by decide +kernel
theorem dX6_passes_16 : decode cX6_passes 16 = .ok (.iconst 1, 1) := by decide +kernel
theorem dX6_passes_17 : decode cX6_passes 17 = .ok (.goto 4, 3) := by decide +kernel
theorem dX6_passes_20 : decode cX6_passes 20 = .ok (.iconst 0, 1) := by decide +kernel
theorem dX6_passes_21 : decode cX6_passes 21 = .ok (.iadd, 1) := by decide +kernel
theorem dX6_passes_22 : decode cX6_passes 22 = .ok (.putfield 138, 3) := by decide +kernel
theorem dX6_passes_25 : decode cX6_passes 25 = .ok (.iload_n 2, 1) := by decide +kernel
theorem dX6_passes_26 : decode cX6_passes 26 = .ok (.ireturn, 1) := by decide +kernel
theorem dX6_readsName_0 : decode cX6_readsName 0 = .ok (.aload_n 0, 1) := by decide +kernel
theorem dX6_readsName_1 : decode cX6_readsName 1 = .ok (.bipush 32, 2) := by decide +kernel
theorem dX6_readsName_3 : decode cX6_readsName 3 = .ok (.invokevirtual 149, 3) := by decide +kernel
theorem dX6_readsName_6 : decode cX6_readsName 6 = .ok (.ifCond .eq 14, 3) := by decide +kernel
theorem dX6_readsName_9 : decode cX6_readsName 9 = .ok (.aload_n 0, 1) := by decide +kernel
theorem dX6_readsName_10 : decode cX6_readsName 10 = .ok (.bipush 97, 2) := by decide +kernel
theorem dX6_readsName_12 : decode cX6_readsName 12 = .ok (.bipush 104, 2) := by decide +kernel
theorem dX6_readsName_14 : decode cX6_readsName 14 = .ok (.invokevirtual 145, 3) := by decide +kernel
theorem dX6_readsName_17 : decode cX6_readsName 17 = .ok (.ifCond .ne 5, 3) := by decide +kernel
theorem dX6_readsName_20 : decode cX6_readsName 20 = .ok (.iconst 0, 1) := by decide +kernel
theorem dX6_readsName_21 : decode cX6_readsName 21 = .ok (.ireturn, 1) := by decide +kernel
theorem dX6_readsName_22 : decode cX6_readsName 22 = .ok (.aload_n 0, 1) := by decide +kernel
theorem dX6_readsName_23 : decode cX6_readsName 23 = .ok (.getfield 28, 3) := by decide +kernel
theorem dX6_readsName_26 : decode cX6_readsName 26 = .ok (.iload_n 1, 1) := by decide +kernel
theorem dX6_readsName_27 : decode cX6_readsName 27 = .ok (.aload_n 0, 1) := by decide +kernel
theorem dX6_readsName_28 : decode cX6_readsName 28 = .ok (.getfield 22, 3) := by decide +kernel
theorem dX6_readsName_31 : decode cX6_readsName 31 = .ok (.aload_n 0, 1) := by decide +kernel
theorem dX6_readsName_32 : decode cX6_readsName 32 = .ok (.getfield 138, 3) := by decide +kernel
theorem dX6_readsName_35 : decode cX6_readsName 35 = .ok (.iaload, 1) := by decide +kernel
theorem dX6_readsName_36 : decode cX6_readsName 36 = .ok (.bipush 97, 2) := by decide +kernel
theorem dX6_readsName_38 : decode cX6_readsName 38 = .ok (.isub, 1) := by decide +kernel
theorem dX6_readsName_39 : decode cX6_readsName 39 = .ok (.iastore, 1) := by decide +kernel
theorem dX6_readsName_40 : decode cX6_readsName 40 = .ok (.aload_n 0, 1) := by decide +kernel
theorem dX6_readsName_41 : decode cX6_readsName 41 = .ok (.dup, 1) := by decide +kernel
theorem dX6_readsName_42 : decode cX6_readsName 42 = .ok (.getfield 138, 3) := by decide +kernel
theorem dX6_readsName_45 : decode cX6_readsName 45 = .ok (.iconst 1, 1) := by decide +kernel
theorem dX6_readsName_46 : decode cX6_readsName 46 = .ok (.iadd, 1) := by decide +kernel
theorem dX6_readsName_47 : decode cX6_readsName 47 = .ok (.putfield 138, 3) := by decide +kernel
theorem dX6_readsName_50 : decode cX6_readsName 50 = .ok (.iconst 1, 1) := by decide +kernel
theorem dX6_readsName_51 : decode cX6_readsName 51 = .ok (.ireturn, 1) := by decide +kernel
theorem dX6_readsNumber_0 : decode cX6_readsNumber 0 = .ok (.aload_n 0, 1) := by decide +kernel
theorem dX6_readsNumber_1 : decode cX6_readsNumber 1 = .ok (.bipush 32, 2) := by decide +kernel
theorem dX6_readsNumber_3 : decode cX6_readsNumber 3 = .ok (.invokevirtual 149, 3) := by decide +kernel
theorem dX6_readsNumber_6 : decode cX6_readsNumber 6 = .ok (.ifCond .ne 5, 3) := by decide +kernel
theorem dX6_readsNumber_9 : decode cX6_readsNumber 9 = .ok (.iconst 0, 1) := by decide +kernel
theorem dX6_readsNumber_10 : decode cX6_readsNumber 10 = .ok (.ireturn, 1) := by decide +kernel
theorem dX6_readsNumber_11 : decode cX6_readsNumber 11 = .ok (.aload_n 0, 1) := by decide +kernel
theorem dX6_readsNumber_12 : decode cX6_readsNumber 12 = .ok (.getfield 138, 3) := by decide +kernel
theorem dX6_readsNumber_15 : decode cX6_readsNumber 15 = .ok (.istore_n 2, 1) := by decide +kernel
theorem dX6_readsNumber_16 : decode cX6_readsNumber 16 = .ok (.aload_n 0, 1) := by decide +kernel
theorem dX6_readsNumber_17 : decode cX6_readsNumber 17 = .ok (.getfield 28, 3) := by decide +kernel
theorem dX6_readsNumber_20 : decode cX6_readsNumber 20 = .ok (.iload_n 1, 1) := by decide +kernel
theorem dX6_readsNumber_21 : decode cX6_readsNumber 21 = .ok (.iconst 0, 1) := by decide +kernel
theorem dX6_readsNumber_22 : decode cX6_readsNumber 22 = .ok (.iastore, 1) := by decide +kernel
theorem dX6_readsNumber_23 : decode cX6_readsNumber 23 = .ok (.aload_n 0, 1) := by decide +kernel
theorem dX6_readsNumber_24 : decode cX6_readsNumber 24 = .ok (.bipush 48, 2) := by decide +kernel
theorem dX6_readsNumber_26 : decode cX6_readsNumber 26 = .ok (.bipush 57, 2) := by decide +kernel
theorem dX6_readsNumber_28 : decode cX6_readsNumber 28 = .ok (.invokevirtual 145, 3) := by decide +kernel
theorem dX6_readsNumber_31 : decode cX6_readsNumber 31 = .ok (.ifCond .eq 54, 3) := by decide +kernel
theorem dX6_readsNumber_34 : decode cX6_readsNumber 34 = .ok (.aload_n 0, 1) := by decide +kernel
theorem dX6_readsNumber_35 : decode cX6_readsNumber 35 = .ok (.getfield 138, 3) := by decide +kernel
theorem dX6_readsNumber_38 : decode cX6_readsNumber 38 = .ok (.iload_n 2, 1) := by decide +kernel
theorem dX6_readsNumber_39 : decode cX6_readsNumber 39 = .ok (.isub, 1) := by decide +kernel
theorem dX6_readsNumber_40 : decode cX6_readsNumber 40 = .ok (.iconst 4, 1) := by decide +kernel
theorem dX6_readsNumber_41 : decode cX6_readsNumber 41 = .ok (.if_icmp .ge 44, 3) := by decide +kernel
theorem dX6_readsNumber_44 : decode cX6_readsNumber 44 = .ok (.aload_n 0, 1) := by decide +kernel
theorem dX6_readsNumber_45 : decode cX6_readsNumber 45 = .ok (.getfield 28, 3) := by decide +kernel
theorem dX6_readsNumber_48 : decode cX6_readsNumber 48 = .ok (.iload_n 1, 1) := by decide +kernel
theorem dX6_readsNumber_49 : decode cX6_readsNumber 49 = .ok (.bipush 10, 2) := by decide +kernel
theorem dX6_readsNumber_51 : decode cX6_readsNumber 51 = .ok (.aload_n 0, 1) := by decide +kernel
theorem dX6_readsNumber_52 : decode cX6_readsNumber 52 = .ok (.getfield 28, 3) := by decide +kernel
theorem dX6_readsNumber_55 : decode cX6_readsNumber 55 = .ok (.iload_n 1, 1) := by decide +kernel
theorem dX6_readsNumber_56 : decode cX6_readsNumber 56 = .ok (.iaload, 1) := by decide +kernel
theorem dX6_readsNumber_57 : decode cX6_readsNumber 57 = .ok (.imul, 1) := by decide +kernel
theorem dX6_readsNumber_58 : decode cX6_readsNumber 58 = .ok (.aload_n 0, 1) := by decide +kernel
theorem dX6_readsNumber_59 : decode cX6_readsNumber 59 = .ok (.getfield 22, 3) := by decide +kernel
theorem dX6_readsNumber_62 : decode cX6_readsNumber 62 = .ok (.aload_n 0, 1) := by decide +kernel
theorem dX6_readsNumber_63 : decode cX6_readsNumber 63 = .ok (.getfield 138, 3) := by decide +kernel
theorem dX6_readsNumber_66 : decode cX6_readsNumber 66 = .ok (.iaload, 1) := by decide +kernel
theorem dX6_readsNumber_67 : decode cX6_readsNumber 67 = .ok (.iadd, 1) := by decide +kernel
theorem dX6_readsNumber_68 : decode cX6_readsNumber 68 = .ok (.bipush 48, 2) := by decide +kernel
theorem dX6_readsNumber_70 : decode cX6_readsNumber 70 = .ok (.isub, 1) := by decide +kernel
theorem dX6_readsNumber_71 : decode cX6_readsNumber 71 = .ok (.iastore, 1) := by decide +kernel
theorem dX6_readsNumber_72 : decode cX6_readsNumber 72 = .ok (.aload_n 0, 1) := by decide +kernel
theorem dX6_readsNumber_73 : decode cX6_readsNumber 73 = .ok (.dup, 1) := by decide +kernel
theorem dX6_readsNumber_74 : decode cX6_readsNumber 74 = .ok (.getfield 138, 3) := by decide +kernel
theorem dX6_readsNumber_77 : decode cX6_readsNumber 77 = .ok (.iconst 1, 1) := by decide +kernel
theorem dX6_readsNumber_78 : decode cX6_readsNumber 78 = .ok (.iadd, 1) := by decide +kernel
theorem dX6_readsNumber_79 : decode cX6_readsNumber 79 = .ok (.putfield 138, 3) := by decide +kernel
theorem dX6_readsNumber_82 : decode cX6_readsNumber 82 = .ok (.goto (-59), 3) := by decide +kernel
theorem dX6_readsNumber_85 : decode cX6_readsNumber 85 = .ok (.aload_n 0, 1) := by decide +kernel
theorem dX6_readsNumber_86 : decode cX6_readsNumber 86 = .ok (.getfield 138, 3) := by decide +kernel
theorem dX6_readsNumber_89 : decode cX6_readsNumber 89 = .ok (.iload_n 2, 1) := by decide +kernel
theorem dX6_readsNumber_90 : decode cX6_readsNumber 90 = .ok (.if_icmp .le 7, 3) := by decide +kernel
theorem dX6_readsNumber_93 : decode cX6_readsNumber 93 = .ok (.iconst 1, 1) := by decide +kernel
theorem dX6_readsNumber_94 : decode cX6_readsNumber 94 = .ok (.goto 4, 3) := by decide +kernel
theorem dX6_readsNumber_97 : decode cX6_readsNumber 97 = .ok (.iconst 0, 1) := by decide +kernel
theorem dX6_readsNumber_98 : decode cX6_readsNumber 98 = .ok (.ireturn, 1) := by decide +kernel
theorem dX6_isForm_0 : decode cX6_isForm 0 = .ok (.iload_n 1, 1) := by decide +kernel
theorem dX6_isForm_1 : decode cX6_isForm 1 = .ok (.bipush 6, 2) := by decide +kernel
theorem dX6_isForm_3 : decode cX6_isForm 3 = .ok (.if_icmp .eq 9, 3) := by decide +kernel
theorem dX6_isForm_6 : decode cX6_isForm 6 = .ok (.iload_n 1, 1) := by decide +kernel
theorem dX6_isForm_7 : decode cX6_isForm 7 = .ok (.bipush 7, 2) := by decide +kernel
theorem dX6_isForm_9 : decode cX6_isForm 9 = .ok (.if_icmp .ne 7, 3) := by decide +kernel
theorem dX6_isForm_12 : decode cX6_isForm 12 = .ok (.iconst 1, 1) := by decide +kernel
theorem dX6_isForm_13 : decode cX6_isForm 13 = .ok (.goto 4, 3) := by decide +kernel
theorem dX6_isForm_16 : decode cX6_isForm 16 = .ok (.iconst 0, 1) := by decide +kernel
theorem dX6_isForm_17 : decode cX6_isForm 17 = .ok (.istore_n 2, 1) := by decide +kernel
theorem dX6_isForm_18 : decode cX6_isForm 18 = .ok (.iload_n 1, 1) := by decide +kernel
theorem dX6_isForm_19 : decode cX6_isForm 19 = .ok (.iconst 3, 1) := by decide +kernel
theorem dX6_isForm_20 : decode cX6_isForm 20 = .ok (.if_icmp .ge 36, 3) := by decide +kernel
theorem dX6_isForm_23 : decode cX6_isForm 23 = .ok (.aload_n 0, 1) := by decide +kernel
theorem dX6_isForm_24 : decode cX6_isForm 24 = .ok (.iconst 0, 1) := by decide +kernel
theorem dX6_isForm_25 : decode cX6_isForm 25 = .ok (.invokevirtual 152, 3) := by decide +kernel
theorem dX6_isForm_28 : decode cX6_isForm 28 = .ok (.ifCond .eq 23, 3) := by decide +kernel
theorem dX6_isForm_31 : decode cX6_isForm 31 = .ok (.aload_n 0, 1) := by decide +kernel
theorem dX6_isForm_32 : decode cX6_isForm 32 = .ok (.iconst 1, 1) := by decide +kernel
theorem dX6_isForm_33 : decode cX6_isForm 33 = .ok (.invokevirtual 152, 3) := by decide +kernel
theorem dX6_isForm_36 : decode cX6_isForm 36 = .ok (.ifCond .eq 15, 3) := by decide +kernel
theorem dX6_isForm_39 : decode cX6_isForm 39 = .ok (.aload_n 0, 1) := by decide +kernel
theorem dX6_isForm_40 : decode cX6_isForm 40 = .ok (.iconst 2, 1) := by decide +kernel
theorem dX6_isForm_41 : decode cX6_isForm 41 = .ok (.invokevirtual 152, 3) := by decide +kernel
theorem dX6_isForm_44 : decode cX6_isForm 44 = .ok (.ifCond .eq 7, 3) := by decide +kernel
theorem dX6_isForm_47 : decode cX6_isForm 47 = .ok (.iconst 1, 1) := by decide +kernel
theorem dX6_isForm_48 : decode cX6_isForm 48 = .ok (.goto 4, 3) := by decide +kernel
theorem dX6_isForm_51 : decode cX6_isForm 51 = .ok (.iconst 0, 1) := by decide +kernel
theorem dX6_isForm_52 : decode cX6_isForm 52 = .ok (.istore_n 2, 1) := by decide +kernel
theorem dX6_isForm_53 : decode cX6_isForm 53 = .ok (.goto 59, 3) := by decide +kernel
theorem dX6_isForm_56 : decode cX6_isForm 56 = .ok (.iload_n 1, 1) := by decide +kernel
theorem dX6_isForm_57 : decode cX6_isForm 57 = .ok (.iconst 5, 1) := by decide +kernel
theorem dX6_isForm_58 : decode cX6_isForm 58 = .ok (.if_icmp .ge 44, 3) := by decide +kernel
theorem dX6_isForm_61 : decode cX6_isForm 61 = .ok (.aload_n 0, 1) := by decide +kernel
theorem dX6_isForm_62 : decode cX6_isForm 62 = .ok (.iconst 0, 1) := by decide +kernel
theorem dX6_isForm_63 : decode cX6_isForm 63 = .ok (.invokevirtual 152, 3) := by decide +kernel
theorem dX6_isForm_66 : decode cX6_isForm 66 = .ok (.ifCond .eq 31, 3) := by decide +kernel
theorem dX6_isForm_69 : decode cX6_isForm 69 = .ok (.iload_n 1, 1) := by decide +kernel
theorem dX6_isForm_70 : decode cX6_isForm 70 = .ok (.iconst 3, 1) := by decide +kernel
theorem dX6_isForm_71 : decode cX6_isForm 71 = .ok (.if_icmp .ne 14, 3) := by decide +kernel
theorem dX6_isForm_74 : decode cX6_isForm 74 = .ok (.aload_n 0, 1) := by decide +kernel
theorem dX6_isForm_75 : decode cX6_isForm 75 = .ok (.iconst 1, 1) := by decide +kernel
theorem dX6_isForm_76 : decode cX6_isForm 76 = .ok (.invokevirtual 155, 3) := by decide +kernel
theorem dX6_isForm_79 : decode cX6_isForm 79 = .ok (.ifCond .eq 18, 3) := by decide +kernel
theorem dX6_isForm_82 : decode cX6_isForm 82 = .ok (.goto 11, 3) := by decide +kernel
theorem dX6_isForm_85 : decode cX6_isForm 85 = .ok (.aload_n 0, 1) := by decide +kernel
theorem dX6_isForm_86 : decode cX6_isForm 86 = .ok (.iconst 1, 1) := by decide +kernel
theorem dX6_isForm_87 : decode cX6_isForm 87 = .ok (.invokevirtual 152, 3) := by decide +kernel
theorem dX6_isForm_90 : decode cX6_isForm 90 = .ok (.ifCond .eq 7, 3) := by decide +kernel
theorem dX6_isForm_93 : decode cX6_isForm 93 = .ok (.iconst 1, 1) := by decide +kernel
theorem dX6_isForm_94 : decode cX6_isForm 94 = .ok (.goto 4, 3) := by decide +kernel
theorem dX6_isForm_97 : decode cX6_isForm 97 = .ok (.iconst 0, 1) := by decide +kernel
theorem dX6_isForm_98 : decode cX6_isForm 98 = .ok (.istore_n 2, 1) := by decide +kernel
theorem dX6_isForm_99 : decode cX6_isForm 99 = .ok (.goto 13, 3) := by decide +kernel
theorem dX6_isForm_102 : decode cX6_isForm 102 = .ok (.iload_n 2, 1) := by decide +kernel
theorem dX6_isForm_103 : decode cX6_isForm 103 = .ok (.ifCond .ne 9, 3) := by decide +kernel
theorem dX6_isForm_106 : decode cX6_isForm 106 = .ok (.aload_n 0, 1) := by decide +kernel
theorem dX6_isForm_107 : decode cX6_isForm 107 = .ok (.iconst 0, 1) := by decide +kernel
theorem dX6_isForm_108 : decode cX6_isForm 108 = .ok (.invokevirtual 155, 3) := by decide +kernel
theorem dX6_isForm_111 : decode cX6_isForm 111 = .ok (.istore_n 2, 1) := by decide +kernel
theorem dX6_isForm_112 : decode cX6_isForm 112 = .ok (.iload_n 2, 1) := by decide +kernel
theorem dX6_isForm_113 : decode cX6_isForm 113 = .ok (.ifCond .eq 16, 3) := by decide +kernel
theorem dX6_isForm_116 : decode cX6_isForm 116 = .ok (.aload_n 0, 1) := by decide +kernel
theorem dX6_isForm_117 : decode cX6_isForm 117 = .ok (.bipush 59, 2) := by decide +kernel
theorem dX6_isForm_119 : decode cX6_isForm 119 = .ok (.invokevirtual 149, 3) := by decide +kernel
theorem dX6_isForm_122 : decode cX6_isForm 122 = .ok (.ifCond .eq 7, 3) := by decide +kernel
theorem dX6_isForm_125 : decode cX6_isForm 125 = .ok (.iconst 1, 1) := by decide +kernel
theorem dX6_isForm_126 : decode cX6_isForm 126 = .ok (.goto 4, 3) := by decide +kernel
theorem dX6_isForm_129 : decode cX6_isForm 129 = .ok (.iconst 0, 1) := by decide +kernel
theorem dX6_isForm_130 : decode cX6_isForm 130 = .ok (.ireturn, 1) := by decide +kernel
theorem dX6_does_0 : decode cX6_does 0 = .ok (.iload_n 1, 1) := by decide +kernel
theorem dX6_does_1 : decode cX6_does 1 = .ok (.tableswitch 105 3 8 #[39, 56, 73, 84, 89, 94], 39) := by decide +kernel
theorem dX6_does_40 : decode cX6_does 40 = .ok (.aload_n 0, 1) := by decide +kernel
theorem dX6_does_41 : decode cX6_does 41 = .ok (.aload_n 0, 1) := by decide +kernel
theorem dX6_does_42 : decode cX6_does 42 = .ok (.getfield 28, 3) := by decide +kernel
theorem dX6_does_45 : decode cX6_does 45 = .ok (.iconst 0, 1) := by decide +kernel
theorem dX6_does_46 : decode cX6_does 46 = .ok (.iaload, 1) := by decide +kernel
theorem dX6_does_47 : decode cX6_does 47 = .ok (.aload_n 0, 1) := by decide +kernel
theorem dX6_does_48 : decode cX6_does 48 = .ok (.getfield 28, 3) := by decide +kernel
theorem dX6_does_51 : decode cX6_does 51 = .ok (.iconst 1, 1) := by decide +kernel
theorem dX6_does_52 : decode cX6_does 52 = .ok (.iaload, 1) := by decide +kernel
theorem dX6_does_53 : decode cX6_does 53 = .ok (.invokevirtual 158, 3) := by decide +kernel
theorem dX6_does_56 : decode cX6_does 56 = .ok (.ireturn, 1) := by decide +kernel
theorem dX6_does_57 : decode cX6_does 57 = .ok (.aload_n 0, 1) := by decide +kernel
theorem dX6_does_58 : decode cX6_does 58 = .ok (.aload_n 0, 1) := by decide +kernel
theorem dX6_does_59 : decode cX6_does 59 = .ok (.getfield 28, 3) := by decide +kernel
theorem dX6_does_62 : decode cX6_does 62 = .ok (.iconst 0, 1) := by decide +kernel
theorem dX6_does_63 : decode cX6_does 63 = .ok (.iaload, 1) := by decide +kernel
theorem dX6_does_64 : decode cX6_does 64 = .ok (.aload_n 0, 1) := by decide +kernel
theorem dX6_does_65 : decode cX6_does 65 = .ok (.getfield 28, 3) := by decide +kernel
theorem dX6_does_68 : decode cX6_does 68 = .ok (.iconst 1, 1) := by decide +kernel
theorem dX6_does_69 : decode cX6_does 69 = .ok (.iaload, 1) := by decide +kernel
theorem dX6_does_70 : decode cX6_does 70 = .ok (.invokevirtual 161, 3) := by decide +kernel
theorem dX6_does_73 : decode cX6_does 73 = .ok (.ireturn, 1) := by decide +kernel
theorem dX6_does_74 : decode cX6_does 74 = .ok (.aload_n 0, 1) := by decide +kernel
theorem dX6_does_75 : decode cX6_does 75 = .ok (.aload_n 0, 1) := by decide +kernel
theorem dX6_does_76 : decode cX6_does 76 = .ok (.getfield 28, 3) := by decide +kernel
theorem dX6_does_79 : decode cX6_does 79 = .ok (.iconst 0, 1) := by decide +kernel
theorem dX6_does_80 : decode cX6_does 80 = .ok (.iaload, 1) := by decide +kernel
theorem dX6_does_81 : decode cX6_does 81 = .ok (.invokevirtual 164, 3) := by decide +kernel
theorem dX6_does_84 : decode cX6_does 84 = .ok (.ireturn, 1) := by decide +kernel
theorem dX6_does_85 : decode cX6_does 85 = .ok (.aload_n 0, 1) := by decide +kernel
theorem dX6_does_86 : decode cX6_does 86 = .ok (.invokevirtual 167, 3) := by decide +kernel
theorem dX6_does_89 : decode cX6_does 89 = .ok (.ireturn, 1) := by decide +kernel
theorem dX6_does_90 : decode cX6_does 90 = .ok (.aload_n 0, 1) := by decide +kernel
theorem dX6_does_91 : decode cX6_does 91 = .ok (.invokevirtual 171, 3) := by decide +kernel
theorem dX6_does_94 : decode cX6_does 94 = .ok (.ireturn, 1) := by decide +kernel
theorem dX6_does_95 : decode cX6_does 95 = .ok (.aload_n 0, 1) := by decide +kernel
theorem dX6_does_96 : decode cX6_does 96 = .ok (.aload_n 0, 1) := by decide +kernel
theorem dX6_does_97 : decode cX6_does 97 = .ok (.getfield 28, 3) := by decide +kernel
theorem dX6_does_100 : decode cX6_does 100 = .ok (.iconst 0, 1) := by decide +kernel
theorem dX6_does_101 : decode cX6_does 101 = .ok (.iaload, 1) := by decide +kernel
theorem dX6_does_102 : decode cX6_does 102 = .ok (.invokevirtual 174, 3) := by decide +kernel
theorem dX6_does_105 : decode cX6_does 105 = .ok (.ireturn, 1) := by decide +kernel
theorem dX6_does_106 : decode cX6_does 106 = .ok (.aload_n 0, 1) := by decide +kernel
theorem dX6_does_107 : decode cX6_does 107 = .ok (.iload_n 1, 1) := by decide +kernel
theorem dX6_does_108 : decode cX6_does 108 = .ok (.aload_n 0, 1) := by decide +kernel
theorem dX6_does_109 : decode cX6_does 109 = .ok (.getfield 28, 3) := by decide +kernel
theorem dX6_does_112 : decode cX6_does 112 = .ok (.iconst 0, 1) := by decide +kernel
theorem dX6_does_113 : decode cX6_does 113 = .ok (.iaload, 1) := by decide +kernel
theorem dX6_does_114 : decode cX6_does 114 = .ok (.aload_n 0, 1) := by decide +kernel
theorem dX6_does_115 : decode cX6_does 115 = .ok (.getfield 28, 3) := by decide +kernel
theorem dX6_does_118 : decode cX6_does 118 = .ok (.iconst 1, 1) := by decide +kernel
theorem dX6_does_119 : decode cX6_does 119 = .ok (.iaload, 1) := by decide +kernel
theorem dX6_does_120 : decode cX6_does 120 = .ok (.aload_n 0, 1) := by decide +kernel
theorem dX6_does_121 : decode cX6_does 121 = .ok (.getfield 28, 3) := by decide +kernel
theorem dX6_does_124 : decode cX6_does 124 = .ok (.iconst 2, 1) := by decide +kernel
theorem dX6_does_125 : decode cX6_does 125 = .ok (.iaload, 1) := by decide +kernel
theorem dX6_does_126 : decode cX6_does 126 = .ok (.invokevirtual 177, 3) := by decide +kernel
theorem dX6_does_129 : decode cX6_does 129 = .ok (.ireturn, 1) := by decide +kernel
theorem dX6_plays_0 : decode cX6_plays 0 = .ok (.aload_n 0, 1) := by decide +kernel
theorem dX6_plays_1 : decode cX6_plays 1 = .ok (.iconst 1, 1) := by decide +kernel
theorem dX6_plays_2 : decode cX6_plays 2 = .ok (.putfield 35, 3) := by decide +kernel
theorem dX6_plays_5 : decode cX6_plays 5 = .ok (.aload_n 0, 1) := by decide +kernel
theorem dX6_plays_6 : decode cX6_plays 6 = .ok (.iconst 0, 1) := by decide +kernel
theorem dX6_plays_7 : decode cX6_plays 7 = .ok (.putfield 138, 3) := by decide +kernel
theorem dX6_plays_10 : decode cX6_plays 10 = .ok (.aload_n 0, 1) := by decide +kernel
theorem dX6_plays_11 : decode cX6_plays 11 = .ok (.iconst 0, 1) := by decide +kernel
theorem dX6_plays_12 : decode cX6_plays 12 = .ok (.putfield 181, 3) := by decide +kernel
theorem dX6_plays_15 : decode cX6_plays 15 = .ok (.aload_n 0, 1) := by decide +kernel
theorem dX6_plays_16 : decode cX6_plays 16 = .ok (.iconst 0, 1) := by decide +kernel
theorem dX6_plays_17 : decode cX6_plays 17 = .ok (.putfield 184, 3) := by decide +kernel
theorem dX6_plays_20 : decode cX6_plays 20 = .ok (.iconst 0, 1) := by decide +kernel
theorem dX6_plays_21 : decode cX6_plays 21 = .ok (.istore_n 1, 1) := by decide +kernel
theorem dX6_plays_22 : decode cX6_plays 22 = .ok (.aload_n 0, 1) := by decide +kernel
theorem dX6_plays_23 : decode cX6_plays 23 = .ok (.getfield 138, 3) := by decide +kernel
theorem dX6_plays_26 : decode cX6_plays 26 = .ok (.aload_n 0, 1) := by decide +kernel
theorem dX6_plays_27 : decode cX6_plays 27 = .ok (.getfield 135, 3) := by decide +kernel
theorem dX6_plays_30 : decode cX6_plays 30 = .ok (.if_icmp .ge 94, 3) := by decide +kernel
theorem dX6_plays_33 : decode cX6_plays 33 = .ok (.aload_n 0, 1) := by decide +kernel
theorem dX6_plays_34 : decode cX6_plays 34 = .ok (.getfield 184, 3) := by decide +kernel
theorem dX6_plays_37 : decode cX6_plays 37 = .ok (.ifCond .ne 87, 3) := by decide +kernel
theorem dX6_plays_40 : decode cX6_plays 40 = .ok (.aload_n 0, 1) := by decide +kernel
theorem dX6_plays_41 : decode cX6_plays 41 = .ok (.getfield 138, 3) := by decide +kernel
theorem dX6_plays_44 : decode cX6_plays 44 = .ok (.istore_n 1, 1) := by decide +kernel
theorem dX6_plays_45 : decode cX6_plays 45 = .ok (.aload_n 0, 1) := by decide +kernel
theorem dX6_plays_46 : decode cX6_plays 46 = .ok (.bipush 97, 2) := by decide +kernel
theorem dX6_plays_48 : decode cX6_plays 48 = .ok (.bipush 122, 2) := by decide +kernel
theorem dX6_plays_50 : decode cX6_plays 50 = .ok (.invokevirtual 145, 3) := by decide +kernel
theorem dX6_plays_53 : decode cX6_plays 53 = .ok (.ifCond .eq 16, 3) := by decide +kernel
theorem dX6_plays_56 : decode cX6_plays 56 = .ok (.aload_n 0, 1) := by decide +kernel
theorem dX6_plays_57 : decode cX6_plays 57 = .ok (.dup, 1) := by decide +kernel
theorem dX6_plays_58 : decode cX6_plays 58 = .ok (.getfield 138, 3) := by decide +kernel
theorem dX6_plays_61 : decode cX6_plays 61 = .ok (.iconst 1, 1) := by decide +kernel
theorem dX6_plays_62 : decode cX6_plays 62 = .ok (.iadd, 1) := by decide +kernel
theorem dX6_plays_63 : decode cX6_plays 63 = .ok (.putfield 138, 3) := by decide +kernel
theorem dX6_plays_66 : decode cX6_plays 66 = .ok (.goto (-21), 3) := by decide +kernel
theorem dX6_plays_69 : decode cX6_plays 69 = .ok (.aload_n 0, 1) := by decide +kernel
theorem dX6_plays_70 : decode cX6_plays 70 = .ok (.iload_n 1, 1) := by decide +kernel
theorem dX6_plays_71 : decode cX6_plays 71 = .ok (.invokevirtual 187, 3) := by decide +kernel
theorem dX6_plays_74 : decode cX6_plays 74 = .ok (.istore_n 2, 1) := by decide +kernel
theorem dX6_plays_75 : decode cX6_plays 75 = .ok (.iload_n 2, 1) := by decide +kernel
theorem dX6_plays_76 : decode cX6_plays 76 = .ok (.ifCond .lt 11, 3) := by decide +kernel
theorem dX6_plays_79 : decode cX6_plays 79 = .ok (.aload_n 0, 1) := by decide +kernel
theorem dX6_plays_80 : decode cX6_plays 80 = .ok (.iload_n 2, 1) := by decide +kernel
theorem dX6_plays_81 : decode cX6_plays 81 = .ok (.invokevirtual 190, 3) := by decide +kernel
theorem dX6_plays_84 : decode cX6_plays 84 = .ok (.ifCond .ne 8, 3) := by decide +kernel
theorem dX6_plays_87 : decode cX6_plays 87 = .ok (.bipush (-4), 2) := by decide +kernel
theorem dX6_plays_89 : decode cX6_plays 89 = .ok (.goto 8, 3) := by decide +kernel
theorem dX6_plays_92 : decode cX6_plays 92 = .ok (.aload_n 0, 1) := by decide +kernel
theorem dX6_plays_93 : decode cX6_plays 93 = .ok (.iload_n 2, 1) := by decide +kernel
theorem dX6_plays_94 : decode cX6_plays 94 = .ok (.invokevirtual 193, 3) := by decide +kernel
theorem dX6_plays_97 : decode cX6_plays 97 = .ok (.istore_n 3, 1) := by decide +kernel
theorem dX6_plays_98 : decode cX6_plays 98 = .ok (.aload_n 0, 1) := by decide +kernel
theorem dX6_plays_99 : decode cX6_plays 99 = .ok (.iload_n 3, 1) := by decide +kernel
theorem dX6_plays_100 : decode cX6_plays 100 = .ok (.ifCond .ge 7, 3) := by decide +kernel
theorem dX6_plays_103 : decode cX6_plays 103 = .ok (.iload_n 3, 1) := by decide +kernel
theorem dX6_plays_104 : decode cX6_plays 104 = .ok (.goto 4, 3) := by decide +kernel
theorem dX6_plays_107 : decode cX6_plays 107 = .ok (.iconst 0, 1) := by decide +kernel
theorem dX6_plays_108 : decode cX6_plays 108 = .ok (.putfield 184, 3) := by decide +kernel
theorem dX6_plays_111 : decode cX6_plays 111 = .ok (.aload_n 0, 1) := by decide +kernel
theorem dX6_plays_112 : decode cX6_plays 112 = .ok (.dup, 1) := by decide +kernel
theorem dX6_plays_113 : decode cX6_plays 113 = .ok (.getfield 181, 3) := by decide +kernel
theorem dX6_plays_116 : decode cX6_plays 116 = .ok (.iconst 1, 1) := by decide +kernel
theorem dX6_plays_117 : decode cX6_plays 117 = .ok (.iadd, 1) := by decide +kernel
theorem dX6_plays_118 : decode cX6_plays 118 = .ok (.putfield 181, 3) := by decide +kernel
theorem dX6_plays_121 : decode cX6_plays 121 = .ok (.goto (-99), 3) := by decide +kernel
theorem dX6_plays_124 : decode cX6_plays 124 = .ok (.aload_n 0, 1) := by decide +kernel
theorem dX6_plays_125 : decode cX6_plays 125 = .ok (.iconst 0, 1) := by decide +kernel
theorem dX6_plays_126 : decode cX6_plays 126 = .ok (.putfield 35, 3) := by decide +kernel
theorem dX6_plays_129 : decode cX6_plays 129 = .ok (.aload_n 0, 1) := by decide +kernel
theorem dX6_plays_130 : decode cX6_plays 130 = .ok (.getfield 184, 3) := by decide +kernel
theorem dX6_plays_133 : decode cX6_plays 133 = .ok (.ifCond .ne 8, 3) := by decide +kernel
theorem dX6_plays_136 : decode cX6_plays 136 = .ok (.bipush (-4), 2) := by decide +kernel
theorem dX6_plays_138 : decode cX6_plays 138 = .ok (.goto 4, 3) := by decide +kernel
theorem dX6_plays_141 : decode cX6_plays 141 = .ok (.iload_n 1, 1) := by decide +kernel
theorem dX6_plays_142 : decode cX6_plays 142 = .ok (.ireturn, 1) := by decide +kernel
theorem dX6_fault_0 : decode cX6_fault 0 = .ok (.iload_n 1, 1) := by decide +kernel
theorem dX6_fault_1 : decode cX6_fault 1 = .ok (.iconst 0, 1) := by decide +kernel
theorem dX6_fault_2 : decode cX6_fault 2 = .ok (.iconst 2, 1) := by decide +kernel
theorem dX6_fault_3 : decode cX6_fault 3 = .ok (.invokestatic 43, 3) := by decide +kernel
theorem dX6_fault_6 : decode cX6_fault 6 = .ok (.ifCond .ne 5, 3) := by decide +kernel
theorem dX6_fault_9 : decode cX6_fault 9 = .ok (.iconst (-1), 1) := by decide +kernel
theorem dX6_fault_10 : decode cX6_fault 10 = .ok (.ireturn, 1) := by decide +kernel
theorem dX6_fault_11 : decode cX6_fault 11 = .ok (.aload_n 0, 1) := by decide +kernel
theorem dX6_fault_12 : decode cX6_fault 12 = .ok (.getfield 7, 3) := by decide +kernel
theorem dX6_fault_15 : decode cX6_fault 15 = .ok (.aload_n 0, 1) := by decide +kernel
theorem dX6_fault_16 : decode cX6_fault 16 = .ok (.getfield 16, 3) := by decide +kernel
theorem dX6_fault_19 : decode cX6_fault 19 = .ok (.invokestatic 88, 3) := by decide +kernel
theorem dX6_fault_22 : decode cX6_fault 22 = .ok (.aload_n 0, 1) := by decide +kernel
theorem dX6_fault_23 : decode cX6_fault 23 = .ok (.invokevirtual 196, 3) := by decide +kernel
theorem dX6_fault_26 : decode cX6_fault 26 = .ok (.istore_n 2, 1) := by decide +kernel
theorem dX6_fault_27 : decode cX6_fault 27 = .ok (.aload_n 0, 1) := by decide +kernel
theorem dX6_fault_28 : decode cX6_fault 28 = .ok (.getfield 16, 3) := by decide +kernel
theorem dX6_fault_31 : decode cX6_fault 31 = .ok (.aload_n 0, 1) := by decide +kernel
theorem dX6_fault_32 : decode cX6_fault 32 = .ok (.getfield 7, 3) := by decide +kernel
theorem dX6_fault_35 : decode cX6_fault 35 = .ok (.invokestatic 88, 3) := by decide +kernel
theorem dX6_fault_38 : decode cX6_fault 38 = .ok (.iload_n 2, 1) := by decide +kernel
theorem dX6_fault_39 : decode cX6_fault 39 = .ok (.bipush (-4), 2) := by decide +kernel
theorem dX6_fault_41 : decode cX6_fault 41 = .ok (.if_icmp .eq 7, 3) := by decide +kernel
theorem dX6_fault_44 : decode cX6_fault 44 = .ok (.iload_n 1, 1) := by decide +kernel
theorem dX6_fault_45 : decode cX6_fault 45 = .ok (.ifCond .ne 7, 3) := by decide +kernel
theorem dX6_fault_48 : decode cX6_fault 48 = .ok (.iload_n 2, 1) := by decide +kernel
theorem dX6_fault_49 : decode cX6_fault 49 = .ok (.goto 29, 3) := by decide +kernel
theorem dX6_fault_52 : decode cX6_fault 52 = .ok (.iload_n 1, 1) := by decide +kernel
theorem dX6_fault_53 : decode cX6_fault 53 = .ok (.iconst 2, 1) := by decide +kernel
theorem dX6_fault_54 : decode cX6_fault 54 = .ok (.if_icmp .ne 10, 3) := by decide +kernel
theorem dX6_fault_57 : decode cX6_fault 57 = .ok (.aload_n 0, 1) := by decide +kernel
theorem dX6_fault_58 : decode cX6_fault 58 = .ok (.getfield 184, 3) := by decide +kernel
theorem dX6_fault_61 : decode cX6_fault 61 = .ok (.goto 17, 3) := by decide +kernel
theorem dX6_fault_64 : decode cX6_fault 64 = .ok (.aload_n 0, 1) := by decide +kernel
theorem dX6_fault_65 : decode cX6_fault 65 = .ok (.getfield 184, 3) := by decide +kernel
theorem dX6_fault_68 : decode cX6_fault 68 = .ok (.bipush (-4), 2) := by decide +kernel
theorem dX6_fault_70 : decode cX6_fault 70 = .ok (.if_icmp .ne 7, 3) := by decide +kernel
theorem dX6_fault_73 : decode cX6_fault 73 = .ok (.iconst 1, 1) := by decide +kernel
theorem dX6_fault_74 : decode cX6_fault 74 = .ok (.goto 4, 3) := by decide +kernel
theorem dX6_fault_77 : decode cX6_fault 77 = .ok (.iconst 2, 1) := by decide +kernel
theorem dX6_fault_78 : decode cX6_fault 78 = .ok (.ireturn, 1) := by decide +kernel
theorem dX6_play_0 : decode cX6_play 0 = .ok (.aload_n 0, 1) := by decide +kernel
theorem dX6_play_1 : decode cX6_play 1 = .ok (.getfield 7, 3) := by decide +kernel
theorem dX6_play_4 : decode cX6_play 4 = .ok (.aload_n 0, 1) := by decide +kernel
theorem dX6_play_5 : decode cX6_play 5 = .ok (.getfield 16, 3) := by decide +kernel
theorem dX6_play_8 : decode cX6_play 8 = .ok (.invokestatic 88, 3) := by decide +kernel
theorem dX6_play_11 : decode cX6_play 11 = .ok (.aload_n 0, 1) := by decide +kernel
theorem dX6_play_12 : decode cX6_play 12 = .ok (.invokevirtual 196, 3) := by decide +kernel
theorem dX6_play_15 : decode cX6_play 15 = .ok (.istore_n 1, 1) := by decide +kernel
theorem dX6_play_16 : decode cX6_play 16 = .ok (.aload_n 0, 1) := by decide +kernel
theorem dX6_play_17 : decode cX6_play 17 = .ok (.getfield 16, 3) := by decide +kernel
theorem dX6_play_20 : decode cX6_play 20 = .ok (.aload_n 0, 1) := by decide +kernel
theorem dX6_play_21 : decode cX6_play 21 = .ok (.getfield 7, 3) := by decide +kernel
theorem dX6_play_24 : decode cX6_play 24 = .ok (.invokestatic 88, 3) := by decide +kernel
theorem dX6_play_27 : decode cX6_play 27 = .ok (.iload_n 1, 1) := by decide +kernel
theorem dX6_play_28 : decode cX6_play 28 = .ok (.bipush (-4), 2) := by decide +kernel
theorem dX6_play_30 : decode cX6_play 30 = .ok (.if_icmp .eq 6, 3) := by decide +kernel
theorem dX6_play_33 : decode cX6_play 33 = .ok (.bipush (-2), 2) := by decide +kernel
theorem dX6_play_35 : decode cX6_play 35 = .ok (.ireturn, 1) := by decide +kernel
theorem dX6_play_36 : decode cX6_play 36 = .ok (.aload_n 0, 1) := by decide +kernel
theorem dX6_play_37 : decode cX6_play 37 = .ok (.aload_n 0, 1) := by decide +kernel
theorem dX6_play_38 : decode cX6_play 38 = .ok (.getfield 7, 3) := by decide +kernel
theorem dX6_play_41 : decode cX6_play 41 = .ok (.invokevirtual 81, 3) := by decide +kernel
theorem dX6_play_44 : decode cX6_play 44 = .ok (.aload_n 0, 1) := by decide +kernel
theorem dX6_play_45 : decode cX6_play 45 = .ok (.invokevirtual 196, 3) := by decide +kernel
theorem dX6_play_48 : decode cX6_play 48 = .ok (.bipush (-4), 2) := by decide +kernel
theorem dX6_play_50 : decode cX6_play 50 = .ok (.if_icmp .ne 10, 3) := by decide +kernel
theorem dX6_play_53 : decode cX6_play 53 = .ok (.aload_n 0, 1) := by decide +kernel
theorem dX6_play_54 : decode cX6_play 54 = .ok (.getfield 181, 3) := by decide +kernel
theorem dX6_play_57 : decode cX6_play 57 = .ok (.goto 5, 3) := by decide +kernel
theorem dX6_play_60 : decode cX6_play 60 = .ok (.bipush (-4), 2) := by decide +kernel
theorem dX6_play_62 : decode cX6_play 62 = .ok (.ireturn, 1) := by decide +kernel
end
section
/-! ===== the pure memory: cells by logical numbers, whole numbers as Int; what the machine's heap holds of it ===== -/
abbrev mV : Type := Int ⊕ Option Nat
abbrev mM : Type := List (Nat × Nat) × (Nat → Int → Int) × (Nat → Int → Option Nat)
/-- a method: its name, bytes, locals, answer; the cells and slots that it makes -/
abbrev mD : Type := MethodName × ByteArray × Nat × Option FieldType × Nat × Nat
def mI (x : Int) : Prop := -2147483648 ≤ x ∧ x ≤ 2147483647
def mc_v (al : Nat → Nat) (v : mV) : Value := match v with
  | .inl x => .int (Int32.ofInt x)
  | .inr r => va_rf (r.map al)
def okR (n : Nat) (r : Option Nat) : Prop := ∀ a, r = some a → a < n ∨ 1000 ≤ a
def okV (n : Nat) (v : mV) : Prop := match v with
  | .inl x => mI x
  | .inr r => okR n r
def okM (M : mM) : Prop := ∀ (a : Nat) (i : Int), mI (M.2.1 a i) ∧ okR M.1.length (M.2.2 a i)
def mTy (kd : Nat) : Nat → FieldType := match kd with
  | 0 => tyX0
  | 1 => tyX1
  | 2 => tyX2
  | 3 => tyX3
  | 4 => tyX4
  | 5 => tyX5
  | _ => tyX6
def mTx (kd : Nat) : u_T := match kd with
  | 0 => TX0
  | 1 => TX1
  | 2 => TX2
  | 3 => TX3
  | 4 => TX4
  | 5 => TX5
  | _ => TX6
def mRx (kd : Nat) : String := match kd with
  | 0 => RX0
  | 1 => RX1
  | 2 => RX2
  | 3 => RX3
  | 4 => RX4
  | 5 => RX5
  | _ => RX6
def mNx (kd : Nat) : Nat := match kd with
  | 0 => 2
  | 1 => 6
  | 2 => 12
  | 3 => 4
  | 4 => 3
  | 5 => 8
  | _ => 13
def tyRef (t : FieldType) : Bool := match t with
  | .object _ => true
  | .array _ => true
  | _ => false
def mRef (kd j : Nat) : Bool := tyRef (mTy kd j)
def mFld (al : Nat → Nat) (M : mM) (kd a j : Nat) : Value := if mRef kd j = true then va_rf ((M.2.2 a j).map al) else .int (Int32.ofInt (M.2.1 a j))
def mE (D : va_G) (al : Nat → Nat) (M : mM) (kd n a : Nat) : va_E :=
  if kd < 7 then .inr (kd, (List.range n).map (mFld al M kd a))
  else if kd < 12 then .inl (D.1 kd, n, .inl (fun j => Int32.ofInt (M.2.1 a j)))
  else .inl (D.1 kd, n, .inr (.inr (.inr (.inr (fun j => (M.2.2 a j).map al)))))
def mCell (D : va_G) (al : Nat → Nat) (M : mM) (a : Nat) : va_E := match M.1[a]? with
  | some q => mE D al M q.1 q.2 a
  | none => .inr (0, [])
def mWs (D : va_G) (al : Nat → Nat) (M : mM) : va_W := (List.range M.1.length).map (fun a => (al a, mCell D al M a))
def mTys (D : va_G) : List (ClassId × FieldType) := [(D.1 10, .int), (D.1 11, .char), (D.1 12, .object RX0), (D.1 13, .object RX2)]
def fset {β : Type} (f : Int → β) (i : Int) (v : β) : Int → β := fun j => if j = i then v else f j
def mUp {β : Type} (F : Nat → Int → β) (a : Nat) (i : Int) (v : β) : Nat → Int → β := fun b => if b = a then fset (F a) i v else F b
theorem mUp_at {β : Type} (F : Nat → Int → β) (a : Nat) (i : Int) (v : β) : mUp F a i v a = fset (F a) i v := by simp [mUp]
theorem mUp_ne {β : Type} (F : Nat → Int → β) {a b : Nat} (i : Int) (v : β) (h : b ≠ a) : mUp F a i v b = F b := by simp [mUp, h]
theorem fset_at {β : Type} (f : Int → β) (i : Int) (v : β) : fset f i v i = v := by simp [fset]
theorem fset_ne {β : Type} (f : Int → β) {i j : Int} (v : β) (h : j ≠ i) : fset f i v j = f j := by simp [fset, h]
/-- numbers -/
theorem mI_toInt {x : Int} (h : mI x) : (Int32.ofInt x).toInt = x := Int32.toInt_ofInt_of_le (by have := h.1; omega) (by have := h.2; omega)
theorem mI_nat {x : Int} (h : mI x) : (Int32.ofInt x).toNatClampNeg = x.toNat := by
  show (Int32.ofInt x).toInt.toNat = x.toNat
  rw [mI_toInt h]
theorem mI_lt {x y : Int} (hx : mI x) (hy : mI y) : Int32.ofInt x < Int32.ofInt y ↔ x < y := by rw [Int32.lt_iff_toInt_lt, mI_toInt hx, mI_toInt hy]
theorem mI_le {x y : Int} (hx : mI x) (hy : mI y) : Int32.ofInt x ≤ Int32.ofInt y ↔ x ≤ y := by rw [Int32.le_iff_toInt_le, mI_toInt hx, mI_toInt hy]
theorem mI_eq {x y : Int} (hx : mI x) (hy : mI y) : Int32.ofInt x = Int32.ofInt y ↔ x = y := by
  constructor
  · intro h
    have h1 := congrArg Int32.toInt h
    rwa [mI_toInt hx, mI_toInt hy] at h1
  · intro h; rw [h]
theorem mI_of (x : Int32) : mI x.toInt := ⟨by have := x.le_toInt; omega, by have := x.toInt_lt; omega⟩
theorem mI_0 : mI 0 := ⟨by decide, by decide⟩
theorem mI_in {i : Int} {n : Nat} (hi : mI i) (h0 : 0 ≤ i) (h1 : i < n) : vp_in (Int32.ofInt i) n := by
  unfold vp_in
  rw [mI_nat hi]
  rintro (h | h)
  · have h2 := (mI_lt hi mI_0).mp h
    omega
  · omega
/-- the list of the world's cells: its places -/
theorem mWs_get {D : va_G} {al : Nat → Nat} {M : mM} {a : Nat} {q : Nat × Nat} (h : M.1[a]? = some q) : (mWs D al M)[a]? = some (al a, mE D al M q.1 q.2 a) := by
  obtain ⟨hl, hg⟩ := List.getElem?_eq_some_iff.mp h
  simp [mWs, hl, mCell, hg]
theorem mWs_len {D : va_G} {al : Nat → Nat} {M : mM} : (mWs D al M).length = M.1.length := by simp [mWs]
theorem mWs_set {D : va_G} {al : Nat → Nat} {M M' : mM} {a : Nat} {e : va_E} (hl : M'.1 = M.1) (hne : ∀ b, b ≠ a → mCell D al M' b = mCell D al M b) (he : mCell D al M' a = e) : (mWs D al M).set a (al a, e) = mWs D al M' := by
  apply List.ext_getElem?
  intro i
  rw [List.getElem?_set, mWs_len]
  by_cases hi : a = i
  · subst hi
    rw [if_pos rfl]
    by_cases ha : a < M.1.length
    · rw [if_pos ha]
      simp [mWs, hl, ha, he]
    · rw [if_neg ha]
      symm
      apply List.getElem?_eq_none
      rw [mWs_len, hl]; omega
  · rw [if_neg hi]
    simp only [mWs, List.getElem?_map, hl]
    by_cases ha : i < M.1.length
    · simp [ha, hne i (fun h => hi h.symm)]
    · simp [ha]
theorem mc_congr {al al' : Nat → Nat} {n : Nat} (h : ∀ a, a < n ∨ 1000 ≤ a → al' a = al a) {r : Option Nat} (hr : okR n r) : r.map al' = r.map al := by
  cases r with
  | none => rfl
  | some a => simp [h a (hr a rfl)]
theorem mc_v_congr {al al' : Nat → Nat} {n : Nat} (h : ∀ a, a < n ∨ 1000 ≤ a → al' a = al a) {v : mV} (hv : okV n v) : mc_v al' v = mc_v al v := by
  cases v with
  | inl x => rfl
  | inr r => simp [mc_v, mc_congr h hv]
theorem mE_congr {D : va_G} {al al' : Nat → Nat} {M : mM} {n0 : Nat} (h : ∀ a, a < n0 ∨ 1000 ≤ a → al' a = al a) {a : Nat} (hM : ∀ i : Int, okR n0 (M.2.2 a i)) (kd n : Nat) : mE D al' M kd n a = mE D al M kd n a := by
  unfold mE
  have h1 : mFld al' M kd a = mFld al M kd a := by
    funext j
    unfold mFld
    rw [mc_congr h (hM j)]
  have h2 : (fun j : Nat => (M.2.2 a (j : Int)).map al') = fun j : Nat => (M.2.2 a (j : Int)).map al := by
    funext j
    rw [mc_congr h (hM j)]
  rw [h1, h2]
/-- behind 'new': one cell more -/
theorem mWs_push {D : va_G} {al : Nat → Nat} {M M' : mM} {q : Nat} {kn : Nat × Nat} {e : va_E} (hal : M.1.length < 1000) (hok : okM M) (hl : M'.1 = M.1 ++ [kn]) (hI : ∀ b, b < M.1.length → M'.2.1 b = M.2.1 b ∧ M'.2.2 b = M.2.2 b)
    (he : mE D (fun a => if a = M.1.length then q else al a) M' kn.1 kn.2 M.1.length = e) : mWs D al M ++ [(q, e)] = mWs D (fun a => if a = M.1.length then q else al a) M' := by
  apply List.ext_getElem?
  intro i
  rcases Nat.lt_trichotomy i M.1.length with h | h | h
  · rw [List.getElem?_append_left (by rw [mWs_len]; exact h)]
    have h' : M'.1[i]? = M.1[i]? := by rw [hl, List.getElem?_append_left h]
    obtain ⟨k, hk⟩ : ∃ k, M.1[i]? = some k := ⟨_, List.getElem?_eq_getElem h⟩
    rw [mWs_get hk, mWs_get (h'.trans hk)]
    have hne : i ≠ M.1.length := by omega
    simp only [hne, if_false]
    congr 2
    have e1 : mE D (fun a => if a = M.1.length then q else al a) M' k.1 k.2 i = mE D (fun a => if a = M.1.length then q else al a) M k.1 k.2 i := by
      have hf : mFld (fun a => if a = M.1.length then q else al a) M' k.1 i = mFld (fun a => if a = M.1.length then q else al a) M k.1 i := by
        funext j
        unfold mFld
        rw [(hI i h).1, (hI i h).2]
      unfold mE
      rw [hf, (hI i h).1, (hI i h).2]
    rw [e1]
    symm
    refine mE_congr (n0 := M.1.length) ?_ (fun j => (hok i j).2) _ _
    intro a ha
    have : a ≠ M.1.length := by omega
    simp [this]
  · subst h
    rw [List.getElem?_append_right (by rw [mWs_len]; exact Nat.le_refl _), mWs_len]
    have h' : M'.1[M.1.length]? = some kn := by rw [hl]; simp
    rw [mWs_get h']
    simp [he]
  · rw [List.getElem?_eq_none (by rw [List.length_append, mWs_len]; simp; omega), List.getElem?_eq_none (by rw [mWs_len, hl, List.length_append]; simp; omega)]
end
section
/-! ===== WP: a calculus of weakest preconditions over the pure memory, sound over the machine ===== -/
def mTb : List Cond := lw_tbl.filter goodWord
/-- a word of the tables, by its place -/
theorem mTb_in {i : Nat} {w : Cond} (h : tables_1[i]? = some w) (hg : goodWord w = true) : w ∈ mTb := List.mem_filter.mpr ⟨List.mem_append_right _ (List.mem_of_getElem? h), hg⟩
def mRm (k : Nat) (d : mD) : Room := { frames := k, cells := d.2.2.2.2.1, slots := d.2.2.2.2.2, locals := 40 * k }
def mWd (d : mD) : List Cond := .code d.1 d.2.1 d.2.2.1 d.2.2.2.1 :: mTb
def mAgr (n : Nat) (al al0 : Nat → Nat) : Prop := ∀ a, a < n ∨ 1000 ≤ a → al a = al0 a
def mNest : List (String × Nat × MethodName × String) := [(RX2, 46, yX4_init, RX5), (RX2, 53, yX1_init, RX5), (RX5, 29, yX3_init, RX5), (RX2, 97, yX5_within, RX5), (RX2, 107, yX5_isName, RX5), (RX3, 71, yX5_within, RX5)]
def sIdx : List Nat := [34, 36, 38, 40, 42, 44, 46, 48, 50]
def sTx : List String := ["add @ @ @;", "sub @ @ @;", "mul @ @ @;", "put @ #;", "copy @ @;", "tick #;", "mark;", "keep;", "back #;"]
def sLen : List Nat := sTx.map String.length
def sByt : List (List Int32) := sTx.map (fun t => t.toList.map (fun ch => Int32.ofNat ch.toNat))
/-- what of the machine no cell of the world says: links between nest mates, the texts, two statics -/
def mExt (al : Nat → Nat) (A : Nat → Prop) (U : State) (H : Heap) : Prop :=
  (∀ q ∈ mNest, va_Nw (.methodLinkNest q.1 q.2.1 q.2.2.1 q.2.2.2) U) ∧
  (∀ i, i < 9 → vk_R RX3 (sIdx.getD i 0) (sTx.getD i "") (al (1000 + i)) U) ∧
  vk_S 9 sLen sByt (fun i => al (1000 + i)) (fun i => al (1100 + i)) A U H ∧
  va_Z "java/lang/String" "COMPACT_STRINGS" "Z" (.int 1) A U H ∧
  va_Z "jdk/internal/util/Preconditions" "SIOOBE_FORMATTER" "Ljava/util/function/BiFunction;" (.ref (al 1200)) A U H ∧ va_AO RX0 U ∧ va_AO RX2 U
theorem mExt.kept {al : Nat → Nat} {A : Nat → Prop} {U : State} {H H1 : Heap} (h : mExt al A U H) (hq : ∀ a : Nat, a < H.size → ¬ A a → H1[a]? = H[a]?) : mExt al A U H1 :=
  ⟨h.1, h.2.1, h.2.2.1.kept hq, h.2.2.2.1.kept hq, h.2.2.2.2.1.kept hq, h.2.2.2.2.2⟩
theorem mExt.narrow {al : Nat → Nat} {A B : Nat → Prop} {U : State} {H : Heap} (h : mExt al A U H) (hAB : ∀ q, B q → A q) : mExt al B U H :=
  ⟨h.1, h.2.1, h.2.2.1.narrow hAB, h.2.2.2.1.narrow hAB, h.2.2.2.2.1.narrow hAB, h.2.2.2.2.2⟩
theorem mExt.warm {al : Nat → Nat} {A : Nat → Prop} {s U : State} {H : Heap} (hW : s.WarmedH U.vm) (h : mExt al A s H) : mExt al A U H :=
  ⟨fun q hq => va_Nw.warmM hW (h.1 q hq), fun i hi => (h.2.1 i hi).warm hW, h.2.2.1.moved hW.alike, h.2.2.2.1.moved hW.alike, h.2.2.2.2.1.moved hW.alike, h.2.2.2.2.2.1.moved hW.alike, h.2.2.2.2.2.2.moved hW.alike⟩
theorem mExt.same {al : Nat → Nat} {A : Nat → Prop} {s U : State} {H : Heap} (hv : U.vm = s.vm) (h : mExt al A s H) : mExt al A U H :=
  ⟨fun q hq => (h.1 q hq).same rfl hv.symm, fun i hi => (h.2.1 i hi).same hv, h.2.2.1.moved (by rw [hv]; exact Vm.Alike.refl _), h.2.2.2.1.moved (by rw [hv]; exact Vm.Alike.refl _), h.2.2.2.2.1.moved (by rw [hv]; exact Vm.Alike.refl _), h.2.2.2.2.2.1.moved (by rw [hv]; exact Vm.Alike.refl _), h.2.2.2.2.2.2.moved (by rw [hv]; exact Vm.Alike.refl _)⟩
theorem mExt.agr {al al0 : Nat → Nat} {A : Nat → Prop} {U : State} {H : Heap} (ha : ∀ a, 1000 ≤ a → al a = al0 a) (h : mExt al0 A U H) : mExt al A U H := by
  obtain ⟨h1, h2, h3, h4, h5, h6⟩ := h
  have e1 : (fun i => al (1000 + i)) = fun i => al0 (1000 + i) := funext fun i => ha _ (by omega)
  have e2 : (fun i => al (1100 + i)) = fun i => al0 (1100 + i) := funext fun i => ha _ (by omega)
  exact ⟨h1, fun i hi => by rw [ha (1000 + i) (by omega)]; exact h2 i hi, by rw [e1, e2]; exact h3, h4, by rw [ha 1200 (by omega)]; exact h5, h6⟩
/-- the world in the heap -/
def mWld (D : va_G) (al : Nat → Nat) (M : mM) (A : Nat → Prop) (H0 H : Heap) (locs : List Loc) : Prop := va_P D vwCl (mWs D al M) H ∧ va_D A (mWs D al M) ∧ va_S A H0 H locs ∧ okM M ∧ M.1.length < 1000
/-- the machine, where a method stands -/
def mCx (k : Nat) (d : mD) (p : Program) (R : Room) (s : State) (m : MethodId) (meth : Method) (c : Code) (D : va_G) (al0 : Nat → Nat) (A : Nat → Prop) : Prop :=
  p.tables.exec = Jvm.exec ∧ c.code = d.2.1 ∧ meth.sig.returnType = d.2.2.2.1 ∧ c.maxLocals = d.2.2.1 ∧ s.vm.findClass d.1.cls = some m.cls ∧ (∀ w ∈ mTb, w.before #[] s = true) ∧ meth.name = d.1.name ∧ va_K D vwCl (mTys D) s ∧ mExt al0 A s s.heap ∧ (∀ q, s.heap.size ≤ q → A q) ∧ k ≤ R.frames ∧ 40 * k ≤ R.locals ∧ d.2.2.2.2.1 ≤ R.cells ∧ d.2.2.2.2.2 ≤ R.slots
/-- the law's script, which nobody writes -/
def mScr (S : Option (Nat × (Nat → Int))) (al0 : Nat → Nat) (s : State) (A : Nat → Prop) : Prop := match S with
  | none => True
  | some q => va_X (al0 2000) q.1 (fun j => Int32.ofInt (q.2 j)) s s.heap ∧ al0 2000 < s.heap.size ∧ ¬ A (al0 2000) ∧ ∀ j, mI (q.2 j)
/-- an instruction that returns r stands at pc -/
def mRt (d : mD) (pc : Nat) (r : Option mV) : Prop := match r with
  | none => decode d.2.1 pc = .ok (.return_, 1) ∧ d.2.2.2.1 = none
  | some (.inl v) => decode d.2.1 pc = .ok (.ireturn, 1) ∧ ∃ ty, d.2.2.2.1 = some ty ∧ narrow ty (.int (Int32.ofInt v)) = .int (Int32.ofInt v)
  | some (.inr _) => decode d.2.1 pc = .ok (.areturn, 1) ∧ ∃ rt, d.2.2.2.1 = some rt ∧ ((∃ n, rt = .object n) ∨ ∃ t, rt = .array t)
def mRO (n : Nat) (r : Option mV) : Prop := ∀ v, r = some v → okV n v
def mSts (al : Nat → Nat) (st : List mV) : List Value := st.map (mc_v al)
def mLvs (al : Nat → Nat) (lv : List (Nat × mV)) : List (Nat × Value) := lv.map (fun q => (q.1, mc_v al q.2))
def WP (k : Nat) (d : mD) (S : Option (Nat × (Nat → Int))) (u : Nat × Nat) (Q : Option mV → mM → Prop) (pc : Nat) (lv : List (Nat × mV)) (st : List mV) (M : mM) : Prop :=
  ∀ (p : Program) (l : Launch) (e : Env) (R : Room) (s : State) (m : MethodId) (args : Array Value) (below : List Frame) (meth : Method) (c : Code) (D : va_G) (al0 : Nat → Nat) (n0 : Nat) (A : Nat → Prop) (QS : State → Prop),
    mCx k d p R s m meth c D al0 A → mScr S al0 s A →
    (∀ (r : Option mV) (M' : mM) (al' : Nat → Nat) (H' : Heap) (locs' : List Loc) (u1 u2 : Nat) (ls' : Array Slot) (pc' : Nat), Q r M' → mAgr n0 al' al0 → n0 ≤ M'.1.length → mWld D al' M' A s.heap H' locs' → mRO M'.1.length r → u1 ≤ d.2.2.2.2.1 → u2 ≤ d.2.2.2.2.2 → mRt d pc' r → W p l e R s m args below meth c H' locs' u1 u2 QS (F0 m pc' ls' (mSts al' r.toList))) →
    ∀ (al : Nat → Nat) (H : Heap) (locs : List Loc) (ls : Array Slot), mAgr n0 al al0 → n0 ≤ M.1.length → mWld D al M A s.heap H locs → (∀ v ∈ st, okV M.1.length v) → (∀ q ∈ lv, okV M.1.length q.2) → lv_has ls d.2.2.1 (mLvs al lv) →
      W p l e R s m args below meth c H locs u.1 u.2 QS (F0 m pc ls (mSts al st))
/-- looking up a local; storing into one (the list stays in order) -/
def mLk : List (Nat × mV) → Nat → Option mV
  | [], _ => none
  | q :: t, i => bif Nat.beq q.1 i then some q.2 else mLk t i
def mPut : List (Nat × mV) → Nat → mV → List (Nat × mV)
  | [], i, v => [(i, v)]
  | q :: t, i, v => bif Nat.beq q.1 i then (i, v) :: t else bif Nat.ble i q.1 then (i, v) :: q :: t else q :: mPut t i v
theorem mLk_mem {lv : List (Nat × mV)} {i : Nat} {v : mV} (h : mLk lv i = some v) : (i, v) ∈ lv := by
  induction lv with
  | nil => cases h
  | cons q t ih =>
    unfold mLk at h
    cases hb : Nat.beq q.1 i with
    | true =>
      rw [hb] at h
      have e1 : q.1 = i := Nat.eq_of_beq_eq_true hb
      have e2 : q.2 = v := Option.some.inj h
      rw [← e1, ← e2]
      exact List.mem_cons_self
    | false =>
      rw [hb] at h
      exact List.mem_cons_of_mem _ (ih h)
/-- the list is in order: no number twice, the smaller ahead -/
theorem mPut_mem {lv : List (Nat × mV)} {i : Nat} {v : mV} {q : Nat × mV} (h : q ∈ mPut lv i v) : q = (i, v) ∨ q ∈ lv := by
  induction lv with
  | nil =>
    left
    simpa [mPut] using h
  | cons x t ih =>
    unfold mPut at h
    cases hb : Nat.beq x.1 i with
    | true =>
      rw [hb] at h
      rcases List.mem_cons.mp h with h | h
      · exact Or.inl h
      · exact Or.inr (List.mem_cons_of_mem _ h)
    | false =>
      rw [hb] at h
      cases hc : Nat.ble i x.1 with
      | true =>
        rw [hc] at h
        rcases List.mem_cons.mp h with h | h
        · exact Or.inl h
        · exact Or.inr h
      | false =>
        rw [hc] at h
        rcases List.mem_cons.mp h with h | h
        · exact Or.inr (by rw [h]; exact List.mem_cons_self)
        · rcases ih h with h | h
          · exact Or.inl h
          · exact Or.inr (List.mem_cons_of_mem _ h)
/-- keys rise: what a put leaves has no other value at its place -/
def mAsc : List (Nat × mV) → Bool
  | [] => true
  | q :: t => t.all (fun x => Nat.blt q.1 x.1) && mAsc t
theorem mPut_key {lv : List (Nat × mV)} (ha : mAsc lv = true) {i : Nat} {v : mV} {q : Nat × mV} (h : q ∈ mPut lv i v) : q = (i, v) ∨ (q ∈ lv ∧ q.1 ≠ i) := by
  induction lv with
  | nil =>
    left
    simpa [mPut] using h
  | cons x t ih =>
    simp only [mAsc, Bool.and_eq_true, List.all_eq_true, Nat.blt_eq] at ha
    unfold mPut at h
    cases hb : Nat.beq x.1 i with
    | true =>
      rw [hb] at h
      have e1 : x.1 = i := Nat.eq_of_beq_eq_true hb
      rcases List.mem_cons.mp h with h | h
      · exact Or.inl h
      · have h1 := ha.1 q h
        exact Or.inr ⟨List.mem_cons_of_mem _ h, by omega⟩
    | false =>
      have hx : x.1 ≠ i := by
        intro e1
        rw [e1] at hb
        simp at hb
      rw [hb] at h
      cases hc : Nat.ble i x.1 with
      | true =>
        rw [hc] at h
        have hle : i ≤ x.1 := Nat.le_of_ble_eq_true hc
        rcases List.mem_cons.mp h with h | h
        · exact Or.inl h
        · rcases List.mem_cons.mp h with h1 | h1
          · exact Or.inr ⟨by rw [h1]; exact List.mem_cons_self, by rw [h1]; exact hx⟩
          · have h2 := ha.1 q h1
            exact Or.inr ⟨List.mem_cons_of_mem _ h1, by omega⟩
      | false =>
        rw [hc] at h
        rcases List.mem_cons.mp h with h | h
        · exact Or.inr ⟨by rw [h]; exact List.mem_cons_self, by rw [h]; exact hx⟩
        · rcases ih ha.2 h with h | h
          · exact Or.inl h
          · exact Or.inr ⟨List.mem_cons_of_mem _ h.1, h.2⟩
theorem mc_cat (al : Nat → Nat) (v : mV) : (mc_v al v).category = 1 := by
  rcases v with x | (_ | a) <;> rfl
theorem mLv_at {al : Nat → Nat} {ls : Array Slot} {n : Nat} {lv : List (Nat × mV)} (h : lv_has ls n (mLvs al lv)) {i : Nat} {v : mV} (hv : mLk lv i = some v) : ls[i]? = some (.val (mc_v al v)) :=
  h.2.2 (i, mc_v al v) (List.mem_map.mpr ⟨(i, v), mLk_mem hv, rfl⟩)
theorem mLv_put {al : Nat → Nat} {ls : Array Slot} {n i : Nat} {lv : List (Nat × mV)} {v : mV} (ha : mAsc lv = true) (h : lv_has ls n ((i, mc_v al v) :: (mLvs al lv).filter (fun q => !(q.1 == i) && !(q.1 + 1 == i && q.2.category == 2)))) : lv_has ls n (mLvs al (mPut lv i v)) := by
  refine ⟨h.1, h.2.1, fun q hq => ?_⟩
  obtain ⟨x, hx, rfl⟩ := List.mem_map.mp hq
  rcases mPut_key ha hx with rfl | ⟨hm, hne⟩
  · exact h.2.2 _ List.mem_cons_self
  · refine h.2.2 _ (List.mem_cons_of_mem _ (List.mem_filter.mpr ⟨List.mem_map.mpr ⟨x, hm, rfl⟩, ?_⟩))
    simp [hne, mc_cat]
theorem mPut_ok {n : Nat} {lv : List (Nat × mV)} {i : Nat} {v : mV} (hl : ∀ q ∈ lv, okV n q.2) (hv : okV n v) : ∀ q ∈ mPut lv i v, okV n q.2 := fun q hq => by
  rcases mPut_mem hq with rfl | h
  · exact hv
  · exact hl q h
theorem ok_push {n : Nat} {st : List mV} {v : mV} (hv : okV n v) (h : ∀ x ∈ st, okV n x) : ∀ x ∈ v :: st, okV n x := fun x hx => by
  rcases List.mem_cons.mp hx with rfl | hx
  · exact hv
  · exact h x hx
theorem ok_tl {n : Nat} {st : List mV} {v : mV} (h : ∀ x ∈ v :: st, okV n x) : ∀ x ∈ st, okV n x := fun x hx => h x (List.mem_cons_of_mem _ hx)
theorem ok_hd {n : Nat} {st : List mV} {v : mV} (h : ∀ x ∈ v :: st, okV n x) : okV n v := h v List.mem_cons_self
theorem mB {w : Cond} {s : State} {args : Array Value} (h : w.before #[] s = true) (hg : w.onTables = true := by rfl) : w.before args s = true := va_tabs hg rfl h
theorem i2c_id {x : Int} (h0 : 0 ≤ x) (h1 : x < 65536) : ((Int32.ofInt x).toUInt32 % 65536).toInt32 = Int32.ofInt x := by
  obtain ⟨n, rfl⟩ : ∃ n : Nat, x = n := ⟨x.toNat, by omega⟩
  apply Int32.toInt_inj.mp
  have hn : n < 65536 := by omega
  rw [Int32.ofInt_eq_ofNat]
  have h2 : (Int32.ofNat n).toUInt32 = UInt32.ofNat n := rfl
  rw [h2]
  have h3 : UInt32.ofNat n % 65536 = UInt32.ofNat n := by
    apply UInt32.toNat_inj.mp
    simp [UInt32.toNat_ofNat']
    omega
  rw [h3]
  rfl
section ROWS
variable {k : Nat} {d : mD} {S : Option (Nat × (Nat → Int))} {u : Nat × Nat} {Q : Option mV → mM → Prop} {pc : Nat} {lv : List (Nat × mV)} {st : List mV} {M : mM}
/-- the answers may be weakened; locals may be forgotten -/
theorem WP.mono {Q' : Option mV → mM → Prop} (h : WP k d S u Q pc lv st M) (hq : ∀ r M', Q r M' → Q' r M') : WP k d S u Q' pc lv st M :=
  fun p l e R s m args below meth c D al0 n0 A QS C hS hret => h p l e R s m args below meth c D al0 n0 A QS C hS (fun r M' al' H' locs' u1 u2 ls' pc' hQ => hret r M' al' H' locs' u1 u2 ls' pc' (hq r M' hQ))
theorem WP.drop {lv' : List (Nat × mV)} (h : WP k d S u Q pc lv' st M) (hs : ∀ q ∈ lv', q ∈ lv) : WP k d S u Q pc lv st M :=
  fun p l e R s m args below meth c D al0 n0 A QS C hS hret al H locs ls hag hn hW hst hlv hl => h p l e R s m args below meth c D al0 n0 A QS C hS hret al H locs ls hag hn hW hst (fun q hq => hlv q (hs q hq))
    ⟨hl.1, hl.2.1, fun q hq => by
      obtain ⟨x, hx, rfl⟩ := List.mem_map.mp hq
      exact hl.2.2 _ (List.mem_map.mpr ⟨x, hs x hx, rfl⟩)⟩
def mPick (l : List (Nat × mV)) (ks : List Nat) : List (Nat × mV) := ks.filterMap (fun k => l[k]?)
theorem WP.pick {lv' : List (Nat × mV)} (ks : List Nat) (hs : mPick lv ks = lv') (h : WP k d S u Q pc lv' st M) : WP k d S u Q pc lv st M :=
  h.drop (fun q hq => by
    rw [← hs] at hq
    obtain ⟨i, -, hi⟩ := List.mem_filterMap.mp hq
    exact List.mem_of_getElem? hi)
theorem r_iconst {n : Int} (hd : decode d.2.1 pc = .ok (.iconst n, 1)) 
    (kk : WP k d S u Q (pc + 1) lv (.inl n :: st) M) (hi : mI n := by (unfold mI; decide)) : WP k d S u Q pc lv st M := by
  intro p l e R s m args below meth c D al0 n0 A QS C hS hret al H locs ls hag hn hW hst hlv hl
  have hx := C.1
  have hb := C.2.1
  exact lv_iconst hx hb hd rfl (kk p l e R s m args below meth c D al0 n0 A QS C hS hret al H locs ls hag hn hW (ok_push hi hst) hlv hl)
theorem r_bipush {n : Int} (hd : decode d.2.1 pc = .ok (.bipush n, 2)) 
    (kk : WP k d S u Q (pc + 2) lv (.inl n :: st) M) (hv : (Int8.ofInt n).toInt32 = Int32.ofInt n := by decide) (hi : mI n := by (unfold mI; decide)) : WP k d S u Q pc lv st M := by
  intro p l e R s m args below meth c D al0 n0 A QS C hS hret al H locs ls hag hn hW hst hlv hl
  have hx := C.1
  have hb := C.2.1
  exact lv_bipush hx hb hd hv (kk p l e R s m args below meth c D al0 n0 A QS C hS hret al H locs ls hag hn hW (ok_push hi hst) hlv hl)
theorem r_sipush {n : Int} (hd : decode d.2.1 pc = .ok (.sipush n, 3)) 
    (kk : WP k d S u Q (pc + 3) lv (.inl n :: st) M) (hv : (Int16.ofInt n).toInt32 = Int32.ofInt n := by decide) (hi : mI n := by (unfold mI; decide)) : WP k d S u Q pc lv st M := by
  intro p l e R s m args below meth c D al0 n0 A QS C hS hret al H locs ls hag hn hW hst hlv hl
  have hx := C.1
  have hb := C.2.1
  exact lv_sipush hx hb hd hv (kk p l e R s m args below meth c D al0 n0 A QS C hS hret al H locs ls hag hn hW (ok_push hi hst) hlv hl)
theorem r_ldc {i : Nat} {n : Int} (hw : Cond.constant d.1.cls i (Int32.ofInt n) ∈ mTb) (hd : decode d.2.1 pc = .ok (.ldc i, 2)) 
    (kk : WP k d S u Q (pc + 2) lv (.inl n :: st) M) (hi : mI n := by (unfold mI; decide)) : WP k d S u Q pc lv st M := by
  intro p l e R s m args below meth c D al0 n0 A QS C hS hret al H locs ls hag hn hW hst hlv hl
  have hx := C.1
  have hb := C.2.1
  exact lv_ldc hx hb C.2.2.2.2.1 (mB (C.2.2.2.2.2.1 _ hw)) hd (kk p l e R s m args below meth c D al0 n0 A QS C hS hret al H locs ls hag hn hW (ok_push hi hst) hlv hl)
theorem r_ldcw {i : Nat} {n : Int} (hw : Cond.constant d.1.cls i (Int32.ofInt n) ∈ mTb) (hd : decode d.2.1 pc = .ok (.ldc_w i, 3)) 
    (kk : WP k d S u Q (pc + 3) lv (.inl n :: st) M) (hi : mI n := by (unfold mI; decide)) : WP k d S u Q pc lv st M := by
  intro p l e R s m args below meth c D al0 n0 A QS C hS hret al H locs ls hag hn hW hst hlv hl
  have hx := C.1
  have hb := C.2.1
  exact lv_ldcw hx hb C.2.2.2.2.1 (mB (C.2.2.2.2.2.1 _ hw)) hd (kk p l e R s m args below meth c D al0 n0 A QS C hS hret al H locs ls hag hn hW (ok_push hi hst) hlv hl)
theorem r_iload_n {kx : Fin 4} {i : Nat} {v : Int} (hd : decode d.2.1 pc = .ok (.iload_n kx, 1)) (hi : (kx : Nat) = i) (hv : mLk lv i = some (.inl v))
    (kk : WP k d S u Q (pc + 1) lv (.inl v :: st) M) : WP k d S u Q pc lv st M := by
  intro p l e R s m args below meth c D al0 n0 A QS C hS hret al H locs ls hag hn hW hst hlv hl
  have hx := C.1
  have hb := C.2.1
  exact lv_iload_n hx hb hd hi (mLv_at hl hv) (kk p l e R s m args below meth c D al0 n0 A QS C hS hret al H locs ls hag hn hW (ok_push (hlv _ (mLk_mem hv)) hst) hlv hl)
theorem r_iload {i : Nat} {v : Int} (hd : decode d.2.1 pc = .ok (.iload i, 2))  (hv : mLk lv i = some (.inl v))
    (kk : WP k d S u Q (pc + 2) lv (.inl v :: st) M) : WP k d S u Q pc lv st M := by
  intro p l e R s m args below meth c D al0 n0 A QS C hS hret al H locs ls hag hn hW hst hlv hl
  have hx := C.1
  have hb := C.2.1
  exact lv_iload hx hb hd (mLv_at hl hv) (kk p l e R s m args below meth c D al0 n0 A QS C hS hret al H locs ls hag hn hW (ok_push (hlv _ (mLk_mem hv)) hst) hlv hl)
theorem r_aload_n {kx : Fin 4} {i : Nat} {v : Nat} (hd : decode d.2.1 pc = .ok (.aload_n kx, 1)) (hi : (kx : Nat) = i) (hv : mLk lv i = some (.inr (some v)))
    (kk : WP k d S u Q (pc + 1) lv (.inr (some v) :: st) M) : WP k d S u Q pc lv st M := by
  intro p l e R s m args below meth c D al0 n0 A QS C hS hret al H locs ls hag hn hW hst hlv hl
  have hx := C.1
  have hb := C.2.1
  exact lv_aload_n hx hb hd hi (mLv_at hl hv) (kk p l e R s m args below meth c D al0 n0 A QS C hS hret al H locs ls hag hn hW (ok_push (hlv _ (mLk_mem hv)) hst) hlv hl)
theorem r_aload {i : Nat} {v : Nat} (hd : decode d.2.1 pc = .ok (.aload i, 2))  (hv : mLk lv i = some (.inr (some v)))
    (kk : WP k d S u Q (pc + 2) lv (.inr (some v) :: st) M) : WP k d S u Q pc lv st M := by
  intro p l e R s m args below meth c D al0 n0 A QS C hS hret al H locs ls hag hn hW hst hlv hl
  have hx := C.1
  have hb := C.2.1
  exact lv_aload hx hb hd (mLv_at hl hv) (kk p l e R s m args below meth c D al0 n0 A QS C hS hret al H locs ls hag hn hW (ok_push (hlv _ (mLk_mem hv)) hst) hlv hl)
theorem r_istore_n {kx : Fin 4} {i : Nat} {v : Int} {lv' : List (Nat × mV)} (hd : decode d.2.1 pc = .ok (.istore_n kx, 1)) (hi : (kx : Nat) = i) (hn9 : i < d.2.2.1) (ha : mAsc lv = true) (hp : mPut lv i (.inl v) = lv')
    (kk : WP k d S u Q (pc + 1) lv' st M) : WP k d S u Q pc lv (.inl v :: st) M := by
  intro p l e R s m args below meth c D al0 n0 A QS C hS hret al H locs ls hag hn hW hst hlv hl
  have hx := C.1
  have hb := C.2.1
  subst hp
  exact lv_istore_n hx hb hd hi hl hn9 rfl (fun ls' hl' => kk p l e R s m args below meth c D al0 n0 A QS C hS hret al H locs ls' hag hn hW (ok_tl hst) (mPut_ok hlv (ok_hd hst)) (mLv_put ha hl'))
theorem r_istore {i : Nat} {v : Int} {lv' : List (Nat × mV)} (hd : decode d.2.1 pc = .ok (.istore i, 2))  (hn9 : i < d.2.2.1) (ha : mAsc lv = true) (hp : mPut lv i (.inl v) = lv')
    (kk : WP k d S u Q (pc + 2) lv' st M) : WP k d S u Q pc lv (.inl v :: st) M := by
  intro p l e R s m args below meth c D al0 n0 A QS C hS hret al H locs ls hag hn hW hst hlv hl
  have hx := C.1
  have hb := C.2.1
  subst hp
  exact lv_istore hx hb hd hl hn9 rfl (fun ls' hl' => kk p l e R s m args below meth c D al0 n0 A QS C hS hret al H locs ls' hag hn hW (ok_tl hst) (mPut_ok hlv (ok_hd hst)) (mLv_put ha hl'))
theorem r_astore_n {kx : Fin 4} {i : Nat} {v : Nat} {lv' : List (Nat × mV)} (hd : decode d.2.1 pc = .ok (.astore_n kx, 1)) (hi : (kx : Nat) = i) (hn9 : i < d.2.2.1) (ha : mAsc lv = true) (hp : mPut lv i (.inr (some v)) = lv')
    (kk : WP k d S u Q (pc + 1) lv' st M) : WP k d S u Q pc lv (.inr (some v) :: st) M := by
  intro p l e R s m args below meth c D al0 n0 A QS C hS hret al H locs ls hag hn hW hst hlv hl
  have hx := C.1
  have hb := C.2.1
  subst hp
  exact lv_astore_n hx hb hd hi hl hn9 rfl (fun ls' hl' => kk p l e R s m args below meth c D al0 n0 A QS C hS hret al H locs ls' hag hn hW (ok_tl hst) (mPut_ok hlv (ok_hd hst)) (mLv_put ha hl'))
theorem r_astore {i : Nat} {v : Nat} {lv' : List (Nat × mV)} (hd : decode d.2.1 pc = .ok (.astore i, 2))  (hn9 : i < d.2.2.1) (ha : mAsc lv = true) (hp : mPut lv i (.inr (some v)) = lv')
    (kk : WP k d S u Q (pc + 2) lv' st M) : WP k d S u Q pc lv (.inr (some v) :: st) M := by
  intro p l e R s m args below meth c D al0 n0 A QS C hS hret al H locs ls hag hn hW hst hlv hl
  have hx := C.1
  have hb := C.2.1
  subst hp
  exact lv_astore hx hb hd hl hn9 rfl (fun ls' hl' => kk p l e R s m args below meth c D al0 n0 A QS C hS hret al H locs ls' hag hn hW (ok_tl hst) (mPut_ok hlv (ok_hd hst)) (mLv_put ha hl'))
theorem r_iinc {i : Nat} {n v y : Int} {lv' : List (Nat × mV)} (hd : decode d.2.1 pc = .ok (.iinc i n, 3)) (hv : mLk lv i = some (.inl v)) (hn9 : i < d.2.2.1) (ha : mAsc lv = true) (hy : v + n = y) (hp : mPut lv i (.inl y) = lv')
    (kk : WP k d S u Q (pc + 3) lv' st M) (hi : mI y := by (unfold mI; omega)) : WP k d S u Q pc lv st M := by
  intro p l e R s m args below meth c D al0 n0 A QS C hS hret al H locs ls hag hn hW hst hlv hl
  have hx := C.1
  have hb := C.2.1
  subst hp
  obtain ⟨j, hj⟩ := List.mem_iff_getElem?.mp (List.mem_map.mpr ⟨(i, .inl v), mLk_mem hv, rfl⟩ : ((i, mc_v al (.inl v)) : Nat × Value) ∈ mLvs al lv)
  refine lv_iinc hx hb hd hl hj (by rw [← Int32.ofInt_add, hy]) hn9 rfl (fun ls' hl' => ?_)
  exact kk p l e R s m args below meth c D al0 n0 A QS C hS hret al H locs ls' hag hn hW hst (mPut_ok hlv hi) (mLv_put (v := .inl y) ha hl')
theorem r_iadd {x y : Int} (hd : decode d.2.1 pc = .ok (.iadd, 1))
    (kk : WP k d S u Q (pc + 1) lv (.inl (x + y) :: st) M) (hi : mI (x + y) := by (unfold mI; omega)) : WP k d S u Q pc lv (.inl y :: .inl x :: st) M := by
  intro p l e R s m args below meth c D al0 n0 A QS C hS hret al H locs ls hag hn hW hst hlv hl
  have hx := C.1
  have hb := C.2.1
  refine lv_iadd hx hb hd ?_
  have h9 := kk p l e R s m args below meth c D al0 n0 A QS C hS hret al H locs ls hag hn hW (ok_push hi (ok_tl (ok_tl hst))) hlv hl
  simp only [mSts, List.map, mc_v, Int32.ofInt_add] at h9
  exact h9
theorem r_isub {x y : Int} (hd : decode d.2.1 pc = .ok (.isub, 1))
    (kk : WP k d S u Q (pc + 1) lv (.inl (x - y) :: st) M) (hi : mI (x - y) := by (unfold mI; omega)) : WP k d S u Q pc lv (.inl y :: .inl x :: st) M := by
  intro p l e R s m args below meth c D al0 n0 A QS C hS hret al H locs ls hag hn hW hst hlv hl
  have hx := C.1
  have hb := C.2.1
  refine lv_isub hx hb hd ?_
  have h9 := kk p l e R s m args below meth c D al0 n0 A QS C hS hret al H locs ls hag hn hW (ok_push hi (ok_tl (ok_tl hst))) hlv hl
  simp only [mSts, List.map, mc_v, Int32.ofInt_sub] at h9
  exact h9
theorem r_imul {x y : Int} (hd : decode d.2.1 pc = .ok (.imul, 1))
    (kk : WP k d S u Q (pc + 1) lv (.inl (x * y) :: st) M) (hi : mI (x * y) := by (unfold mI; omega)) : WP k d S u Q pc lv (.inl y :: .inl x :: st) M := by
  intro p l e R s m args below meth c D al0 n0 A QS C hS hret al H locs ls hag hn hW hst hlv hl
  have hx := C.1
  have hb := C.2.1
  refine lv_imul hx hb hd ?_
  have h9 := kk p l e R s m args below meth c D al0 n0 A QS C hS hret al H locs ls hag hn hW (ok_push hi (ok_tl (ok_tl hst))) hlv hl
  simp only [mSts, List.map, mc_v, Int32.ofInt_mul] at h9
  exact h9
theorem mI_ofInt (x : Int32) : Int32.ofInt x.toInt = x := Int32.ofInt_toInt x
def bAnd (x y : Int) : Int := (Int32.ofInt x &&& Int32.ofInt y).toInt
theorem r_iand {x y : Int} (hd : decode d.2.1 pc = .ok (.iand, 1))
    (kk : WP k d S u Q (pc + 1) lv (.inl (bAnd x y) :: st) M) : WP k d S u Q pc lv (.inl y :: .inl x :: st) M := by
  intro p l e R s m args below meth c D al0 n0 A QS C hS hret al H locs ls hag hn hW hst hlv hl
  have hx := C.1
  have hb := C.2.1
  refine lv_iand hx hb hd ?_
  have h9 := kk p l e R s m args below meth c D al0 n0 A QS C hS hret al H locs ls hag hn hW (ok_push (mI_of _) (ok_tl (ok_tl hst))) hlv hl
  simp only [mSts, List.map, mc_v, bAnd, mI_ofInt] at h9
  exact h9
def bOr (x y : Int) : Int := (Int32.ofInt x ||| Int32.ofInt y).toInt
theorem r_ior {x y : Int} (hd : decode d.2.1 pc = .ok (.ior, 1))
    (kk : WP k d S u Q (pc + 1) lv (.inl (bOr x y) :: st) M) : WP k d S u Q pc lv (.inl y :: .inl x :: st) M := by
  intro p l e R s m args below meth c D al0 n0 A QS C hS hret al H locs ls hag hn hW hst hlv hl
  have hx := C.1
  have hb := C.2.1
  refine lv_ior hx hb hd ?_
  have h9 := kk p l e R s m args below meth c D al0 n0 A QS C hS hret al H locs ls hag hn hW (ok_push (mI_of _) (ok_tl (ok_tl hst))) hlv hl
  simp only [mSts, List.map, mc_v, bOr, mI_ofInt] at h9
  exact h9
def bXor (x y : Int) : Int := (Int32.ofInt x ^^^ Int32.ofInt y).toInt
theorem r_ixor {x y : Int} (hd : decode d.2.1 pc = .ok (.ixor, 1))
    (kk : WP k d S u Q (pc + 1) lv (.inl (bXor x y) :: st) M) : WP k d S u Q pc lv (.inl y :: .inl x :: st) M := by
  intro p l e R s m args below meth c D al0 n0 A QS C hS hret al H locs ls hag hn hW hst hlv hl
  have hx := C.1
  have hb := C.2.1
  refine lv_ixor hx hb hd ?_
  have h9 := kk p l e R s m args below meth c D al0 n0 A QS C hS hret al H locs ls hag hn hW (ok_push (mI_of _) (ok_tl (ok_tl hst))) hlv hl
  simp only [mSts, List.map, mc_v, bXor, mI_ofInt] at h9
  exact h9
def bShl (x y : Int) : Int := (Int32.ofInt x <<< (Int32.ofInt y &&& 31)).toInt
theorem r_ishl {x y : Int} (hd : decode d.2.1 pc = .ok (.ishl, 1))
    (kk : WP k d S u Q (pc + 1) lv (.inl (bShl x y) :: st) M) : WP k d S u Q pc lv (.inl y :: .inl x :: st) M := by
  intro p l e R s m args below meth c D al0 n0 A QS C hS hret al H locs ls hag hn hW hst hlv hl
  have hx := C.1
  have hb := C.2.1
  refine lv_ishl hx hb hd ?_
  have h9 := kk p l e R s m args below meth c D al0 n0 A QS C hS hret al H locs ls hag hn hW (ok_push (mI_of _) (ok_tl (ok_tl hst))) hlv hl
  simp only [mSts, List.map, mc_v, bShl, mI_ofInt] at h9
  exact h9
def bShr (x y : Int) : Int := (Int32.ofInt x >>> (Int32.ofInt y &&& 31)).toInt
theorem r_ishr {x y : Int} (hd : decode d.2.1 pc = .ok (.ishr, 1))
    (kk : WP k d S u Q (pc + 1) lv (.inl (bShr x y) :: st) M) : WP k d S u Q pc lv (.inl y :: .inl x :: st) M := by
  intro p l e R s m args below meth c D al0 n0 A QS C hS hret al H locs ls hag hn hW hst hlv hl
  have hx := C.1
  have hb := C.2.1
  refine lv_ishr hx hb hd ?_
  have h9 := kk p l e R s m args below meth c D al0 n0 A QS C hS hret al H locs ls hag hn hW (ok_push (mI_of _) (ok_tl (ok_tl hst))) hlv hl
  simp only [mSts, List.map, mc_v, bShr, mI_ofInt] at h9
  exact h9
def bUshr (x y : Int) : Int := (((Int32.ofInt x).toUInt32 >>> ((Int32.ofInt y).toUInt32 &&& Int32.toUInt32 31)).toInt32).toInt
theorem r_iushr {x y : Int} (hd : decode d.2.1 pc = .ok (.iushr, 1))
    (kk : WP k d S u Q (pc + 1) lv (.inl (bUshr x y) :: st) M) : WP k d S u Q pc lv (.inl y :: .inl x :: st) M := by
  intro p l e R s m args below meth c D al0 n0 A QS C hS hret al H locs ls hag hn hW hst hlv hl
  have hx := C.1
  have hb := C.2.1
  refine lv_iushr hx hb hd rfl ?_
  have h9 := kk p l e R s m args below meth c D al0 n0 A QS C hS hret al H locs ls hag hn hW (ok_push (mI_of _) (ok_tl (ok_tl hst))) hlv hl
  simp only [mSts, List.map, mc_v, bUshr, mI_ofInt] at h9
  exact h9
theorem r_irem {x y : Int} (hd : decode d.2.1 pc = .ok (.irem, 1)) (hne : y ≠ 0)
    (kk : WP k d S u Q (pc + 1) lv (.inl (x.tmod y) :: st) M) : WP k d S u Q pc lv (.inl y :: .inl x :: st) M := by
  intro p l e R s m args below meth c D al0 n0 A QS C hS hret al H locs ls hag hn hW hst hlv hl
  have hx := C.1
  have hb := C.2.1
  have hy : mI y := ok_hd hst
  have hx9 : mI x := ok_hd (ok_tl hst)
  have hr : (Int32.ofInt x - Int32.ofInt x / Int32.ofInt y * Int32.ofInt y).toInt = x.tmod y := by rw [rem_toInt, mI_toInt hx9, mI_toInt hy]
  refine lv_irem hx hb hd (fun h => hne ((mI_eq hy mI_0).mp h)) ?_
  have hm : mI (x.tmod y) := by rw [← hr]; exact mI_of _
  have h9 := kk p l e R s m args below meth c D al0 n0 A QS C hS hret al H locs ls hag hn hW (ok_push hm (ok_tl (ok_tl hst))) hlv hl
  have e9 : Int32.ofInt (x.tmod y) = Int32.ofInt x - Int32.ofInt x / Int32.ofInt y * Int32.ofInt y := by rw [← hr, mI_ofInt]
  simp only [mSts, List.map, mc_v, e9] at h9
  exact h9
theorem r_i2c {x : Int} (hd : decode d.2.1 pc = .ok (.i2c, 1)) (h0 : 0 ≤ x) (h1 : x < 65536)
    (kk : WP k d S u Q (pc + 1) lv (.inl x :: st) M) : WP k d S u Q pc lv (.inl x :: st) M := by
  intro p l e R s m args below meth c D al0 n0 A QS C hS hret al H locs ls hag hn hW hst hlv hl
  have hx := C.1
  have hb := C.2.1
  exact lv_i2c hx hb hd (i2c_id h0 h1) (kk p l e R s m args below meth c D al0 n0 A QS C hS hret al H locs ls hag hn hW hst hlv hl)
theorem r_dup {v : mV} (hd : decode d.2.1 pc = .ok (.dup, 1))
    (kk : WP k d S u Q (pc + 1) lv (v :: v :: st) M) : WP k d S u Q pc lv (v :: st) M := by
  intro p l e R s m args below meth c D al0 n0 A QS C hS hret al H locs ls hag hn hW hst hlv hl
  have hx := C.1
  have hb := C.2.1
  exact lv_dup hx hb hd (mc_cat _ _) (kk p l e R s m args below meth c D al0 n0 A QS C hS hret al H locs ls hag hn hW (ok_push (ok_hd hst) hst) hlv hl)
theorem r_dup2 {v v2 : mV} (hd : decode d.2.1 pc = .ok (.dup2, 1))
    (kk : WP k d S u Q (pc + 1) lv (v :: v2 :: v :: v2 :: st) M) : WP k d S u Q pc lv (v :: v2 :: st) M := by
  intro p l e R s m args below meth c D al0 n0 A QS C hS hret al H locs ls hag hn hW hst hlv hl
  have hx := C.1
  have hb := C.2.1
  exact lv_dup2_11 hx hb hd (mc_cat _ _) (mc_cat _ _) (kk p l e R s m args below meth c D al0 n0 A QS C hS hret al H locs ls hag hn hW (ok_push (ok_hd hst) (ok_push (ok_hd (ok_tl hst)) hst)) hlv hl)
theorem r_pop {v : mV} (hd : decode d.2.1 pc = .ok (.pop, 1))
    (kk : WP k d S u Q (pc + 1) lv (st) M) : WP k d S u Q pc lv (v :: st) M := by
  intro p l e R s m args below meth c D al0 n0 A QS C hS hret al H locs ls hag hn hW hst hlv hl
  have hx := C.1
  have hb := C.2.1
  exact lv_pop hx hb hd (mc_cat _ _) (kk p l e R s m args below meth c D al0 n0 A QS C hS hret al H locs ls hag hn hW (ok_tl hst) hlv hl)
theorem r_if_eq {x : Int} {off : Int} {tgt : Nat} (hd : decode d.2.1 pc = .ok (.ifCond .eq off, 3)) (ht : (pc : Int) + off = (tgt : Int))
    (kt : x = 0 → WP k d S u Q tgt lv st M) (kf : ¬ (x = 0) → WP k d S u Q (pc + 3) lv st M) : WP k d S u Q pc lv (.inl x :: st) M := by
  intro p l e R s m args below meth c D al0 n0 A QS C hS hret al H locs ls hag hn hW hst hlv hl
  have hx := C.1
  have hb := C.2.1
  have h5 : mI x := ok_hd hst
  refine lv_if_eq hx hb hd ht (fun h => kt ((mI_eq h5 mI_0).mp h) p l e R s m args below meth c D al0 n0 A QS C hS hret al H locs ls hag hn hW (ok_tl hst) hlv hl) (fun h => kf (fun q => h ((mI_eq h5 mI_0).mpr q)) p l e R s m args below meth c D al0 n0 A QS C hS hret al H locs ls hag hn hW (ok_tl hst) hlv hl)
theorem r_if_ne {x : Int} {off : Int} {tgt : Nat} (hd : decode d.2.1 pc = .ok (.ifCond .ne off, 3)) (ht : (pc : Int) + off = (tgt : Int))
    (kt : ¬ x = 0 → WP k d S u Q tgt lv st M) (kf : x = 0 → WP k d S u Q (pc + 3) lv st M) : WP k d S u Q pc lv (.inl x :: st) M := by
  intro p l e R s m args below meth c D al0 n0 A QS C hS hret al H locs ls hag hn hW hst hlv hl
  have hx := C.1
  have hb := C.2.1
  have h5 : mI x := ok_hd hst
  refine lv_if_ne hx hb hd ht (fun h => kt (fun q => h ((mI_eq h5 mI_0).mpr q)) p l e R s m args below meth c D al0 n0 A QS C hS hret al H locs ls hag hn hW (ok_tl hst) hlv hl) (fun h => kf ((mI_eq h5 mI_0).mp h) p l e R s m args below meth c D al0 n0 A QS C hS hret al H locs ls hag hn hW (ok_tl hst) hlv hl)
theorem r_if_lt {x : Int} {off : Int} {tgt : Nat} (hd : decode d.2.1 pc = .ok (.ifCond .lt off, 3)) (ht : (pc : Int) + off = (tgt : Int))
    (kt : x < 0 → WP k d S u Q tgt lv st M) (kf : ¬ (x < 0) → WP k d S u Q (pc + 3) lv st M) : WP k d S u Q pc lv (.inl x :: st) M := by
  intro p l e R s m args below meth c D al0 n0 A QS C hS hret al H locs ls hag hn hW hst hlv hl
  have hx := C.1
  have hb := C.2.1
  have h5 : mI x := ok_hd hst
  refine lv_if_lt hx hb hd ht (fun h => kt ((mI_lt h5 mI_0).mp h) p l e R s m args below meth c D al0 n0 A QS C hS hret al H locs ls hag hn hW (ok_tl hst) hlv hl) (fun h => kf (fun q => h ((mI_lt h5 mI_0).mpr q)) p l e R s m args below meth c D al0 n0 A QS C hS hret al H locs ls hag hn hW (ok_tl hst) hlv hl)
theorem r_if_ge {x : Int} {off : Int} {tgt : Nat} (hd : decode d.2.1 pc = .ok (.ifCond .ge off, 3)) (ht : (pc : Int) + off = (tgt : Int))
    (kt : 0 ≤ x → WP k d S u Q tgt lv st M) (kf : ¬ (0 ≤ x) → WP k d S u Q (pc + 3) lv st M) : WP k d S u Q pc lv (.inl x :: st) M := by
  intro p l e R s m args below meth c D al0 n0 A QS C hS hret al H locs ls hag hn hW hst hlv hl
  have hx := C.1
  have hb := C.2.1
  have h5 : mI x := ok_hd hst
  refine lv_if_ge hx hb hd ht (fun h => kt ((mI_le mI_0 h5).mp h) p l e R s m args below meth c D al0 n0 A QS C hS hret al H locs ls hag hn hW (ok_tl hst) hlv hl) (fun h => kf (fun q => h ((mI_le mI_0 h5).mpr q)) p l e R s m args below meth c D al0 n0 A QS C hS hret al H locs ls hag hn hW (ok_tl hst) hlv hl)
theorem r_if_gt {x : Int} {off : Int} {tgt : Nat} (hd : decode d.2.1 pc = .ok (.ifCond .gt off, 3)) (ht : (pc : Int) + off = (tgt : Int))
    (kt : 0 < x → WP k d S u Q tgt lv st M) (kf : ¬ (0 < x) → WP k d S u Q (pc + 3) lv st M) : WP k d S u Q pc lv (.inl x :: st) M := by
  intro p l e R s m args below meth c D al0 n0 A QS C hS hret al H locs ls hag hn hW hst hlv hl
  have hx := C.1
  have hb := C.2.1
  have h5 : mI x := ok_hd hst
  refine lv_if_gt hx hb hd ht (fun h => kt ((mI_lt mI_0 h5).mp h) p l e R s m args below meth c D al0 n0 A QS C hS hret al H locs ls hag hn hW (ok_tl hst) hlv hl) (fun h => kf (fun q => h ((mI_lt mI_0 h5).mpr q)) p l e R s m args below meth c D al0 n0 A QS C hS hret al H locs ls hag hn hW (ok_tl hst) hlv hl)
theorem r_if_le {x : Int} {off : Int} {tgt : Nat} (hd : decode d.2.1 pc = .ok (.ifCond .le off, 3)) (ht : (pc : Int) + off = (tgt : Int))
    (kt : x ≤ 0 → WP k d S u Q tgt lv st M) (kf : ¬ (x ≤ 0) → WP k d S u Q (pc + 3) lv st M) : WP k d S u Q pc lv (.inl x :: st) M := by
  intro p l e R s m args below meth c D al0 n0 A QS C hS hret al H locs ls hag hn hW hst hlv hl
  have hx := C.1
  have hb := C.2.1
  have h5 : mI x := ok_hd hst
  refine lv_if_le hx hb hd ht (fun h => kt ((mI_le h5 mI_0).mp h) p l e R s m args below meth c D al0 n0 A QS C hS hret al H locs ls hag hn hW (ok_tl hst) hlv hl) (fun h => kf (fun q => h ((mI_le h5 mI_0).mpr q)) p l e R s m args below meth c D al0 n0 A QS C hS hret al H locs ls hag hn hW (ok_tl hst) hlv hl)
theorem r_icmp_eq {x y : Int} {off : Int} {tgt : Nat} (hd : decode d.2.1 pc = .ok (.if_icmp .eq off, 3)) (ht : (pc : Int) + off = (tgt : Int))
    (kt : x = y → WP k d S u Q tgt lv st M) (kf : ¬ (x = y) → WP k d S u Q (pc + 3) lv st M) : WP k d S u Q pc lv (.inl y :: .inl x :: st) M := by
  intro p l e R s m args below meth c D al0 n0 A QS C hS hret al H locs ls hag hn hW hst hlv hl
  have hx := C.1
  have hb := C.2.1
  have h5 : mI x := ok_hd (ok_tl hst)
  have h6 : mI y := ok_hd hst
  refine lv_icmp_eq hx hb hd ht (fun h => kt ((mI_eq h5 h6).mp h) p l e R s m args below meth c D al0 n0 A QS C hS hret al H locs ls hag hn hW (ok_tl (ok_tl hst)) hlv hl) (fun h => kf (fun q => h ((mI_eq h5 h6).mpr q)) p l e R s m args below meth c D al0 n0 A QS C hS hret al H locs ls hag hn hW (ok_tl (ok_tl hst)) hlv hl)
theorem r_icmp_ne {x y : Int} {off : Int} {tgt : Nat} (hd : decode d.2.1 pc = .ok (.if_icmp .ne off, 3)) (ht : (pc : Int) + off = (tgt : Int))
    (kt : ¬ x = y → WP k d S u Q tgt lv st M) (kf : x = y → WP k d S u Q (pc + 3) lv st M) : WP k d S u Q pc lv (.inl y :: .inl x :: st) M := by
  intro p l e R s m args below meth c D al0 n0 A QS C hS hret al H locs ls hag hn hW hst hlv hl
  have hx := C.1
  have hb := C.2.1
  have h5 : mI x := ok_hd (ok_tl hst)
  have h6 : mI y := ok_hd hst
  refine lv_icmp_ne hx hb hd ht (fun h => kt (fun q => h ((mI_eq h5 h6).mpr q)) p l e R s m args below meth c D al0 n0 A QS C hS hret al H locs ls hag hn hW (ok_tl (ok_tl hst)) hlv hl) (fun h => kf ((mI_eq h5 h6).mp h) p l e R s m args below meth c D al0 n0 A QS C hS hret al H locs ls hag hn hW (ok_tl (ok_tl hst)) hlv hl)
theorem r_icmp_lt {x y : Int} {off : Int} {tgt : Nat} (hd : decode d.2.1 pc = .ok (.if_icmp .lt off, 3)) (ht : (pc : Int) + off = (tgt : Int))
    (kt : x < y → WP k d S u Q tgt lv st M) (kf : ¬ (x < y) → WP k d S u Q (pc + 3) lv st M) : WP k d S u Q pc lv (.inl y :: .inl x :: st) M := by
  intro p l e R s m args below meth c D al0 n0 A QS C hS hret al H locs ls hag hn hW hst hlv hl
  have hx := C.1
  have hb := C.2.1
  have h5 : mI x := ok_hd (ok_tl hst)
  have h6 : mI y := ok_hd hst
  refine lv_icmp_lt hx hb hd ht (fun h => kt ((mI_lt h5 h6).mp h) p l e R s m args below meth c D al0 n0 A QS C hS hret al H locs ls hag hn hW (ok_tl (ok_tl hst)) hlv hl) (fun h => kf (fun q => h ((mI_lt h5 h6).mpr q)) p l e R s m args below meth c D al0 n0 A QS C hS hret al H locs ls hag hn hW (ok_tl (ok_tl hst)) hlv hl)
theorem r_icmp_ge {x y : Int} {off : Int} {tgt : Nat} (hd : decode d.2.1 pc = .ok (.if_icmp .ge off, 3)) (ht : (pc : Int) + off = (tgt : Int))
    (kt : y ≤ x → WP k d S u Q tgt lv st M) (kf : ¬ (y ≤ x) → WP k d S u Q (pc + 3) lv st M) : WP k d S u Q pc lv (.inl y :: .inl x :: st) M := by
  intro p l e R s m args below meth c D al0 n0 A QS C hS hret al H locs ls hag hn hW hst hlv hl
  have hx := C.1
  have hb := C.2.1
  have h5 : mI x := ok_hd (ok_tl hst)
  have h6 : mI y := ok_hd hst
  refine lv_icmp_ge hx hb hd ht (fun h => kt ((mI_le h6 h5).mp h) p l e R s m args below meth c D al0 n0 A QS C hS hret al H locs ls hag hn hW (ok_tl (ok_tl hst)) hlv hl) (fun h => kf (fun q => h ((mI_le h6 h5).mpr q)) p l e R s m args below meth c D al0 n0 A QS C hS hret al H locs ls hag hn hW (ok_tl (ok_tl hst)) hlv hl)
theorem r_icmp_gt {x y : Int} {off : Int} {tgt : Nat} (hd : decode d.2.1 pc = .ok (.if_icmp .gt off, 3)) (ht : (pc : Int) + off = (tgt : Int))
    (kt : y < x → WP k d S u Q tgt lv st M) (kf : ¬ (y < x) → WP k d S u Q (pc + 3) lv st M) : WP k d S u Q pc lv (.inl y :: .inl x :: st) M := by
  intro p l e R s m args below meth c D al0 n0 A QS C hS hret al H locs ls hag hn hW hst hlv hl
  have hx := C.1
  have hb := C.2.1
  have h5 : mI x := ok_hd (ok_tl hst)
  have h6 : mI y := ok_hd hst
  refine lv_icmp_gt hx hb hd ht (fun h => kt ((mI_lt h6 h5).mp h) p l e R s m args below meth c D al0 n0 A QS C hS hret al H locs ls hag hn hW (ok_tl (ok_tl hst)) hlv hl) (fun h => kf (fun q => h ((mI_lt h6 h5).mpr q)) p l e R s m args below meth c D al0 n0 A QS C hS hret al H locs ls hag hn hW (ok_tl (ok_tl hst)) hlv hl)
theorem r_icmp_le {x y : Int} {off : Int} {tgt : Nat} (hd : decode d.2.1 pc = .ok (.if_icmp .le off, 3)) (ht : (pc : Int) + off = (tgt : Int))
    (kt : x ≤ y → WP k d S u Q tgt lv st M) (kf : ¬ (x ≤ y) → WP k d S u Q (pc + 3) lv st M) : WP k d S u Q pc lv (.inl y :: .inl x :: st) M := by
  intro p l e R s m args below meth c D al0 n0 A QS C hS hret al H locs ls hag hn hW hst hlv hl
  have hx := C.1
  have hb := C.2.1
  have h5 : mI x := ok_hd (ok_tl hst)
  have h6 : mI y := ok_hd hst
  refine lv_icmp_le hx hb hd ht (fun h => kt ((mI_le h5 h6).mp h) p l e R s m args below meth c D al0 n0 A QS C hS hret al H locs ls hag hn hW (ok_tl (ok_tl hst)) hlv hl) (fun h => kf (fun q => h ((mI_le h5 h6).mpr q)) p l e R s m args below meth c D al0 n0 A QS C hS hret al H locs ls hag hn hW (ok_tl (ok_tl hst)) hlv hl)
theorem r_goto {off : Int} {tgt : Nat} (hd : decode d.2.1 pc = .ok (.goto off, 3)) (ht : (pc : Int) + off = (tgt : Int))
    (kk : WP k d S u Q tgt lv st M) : WP k d S u Q pc lv st M := by
  intro p l e R s m args below meth c D al0 n0 A QS C hS hret al H locs ls hag hn hW hst hlv hl
  have hx := C.1
  have hb := C.2.1
  exact lv_goto hx hb hd ht (kk p l e R s m args below meth c D al0 n0 A QS C hS hret al H locs ls hag hn hW hst hlv hl)
theorem r_tableIn {dflt lo hi : Int} {offs : Array Int} {len : Nat} {x off : Int} {tgt : Nat} (hd : decode d.2.1 pc = .ok (.tableswitch dflt lo hi offs, len)) (h1 : ¬ x < lo) (h2 : ¬ hi < x) (ho : offs[(x - lo).toNat]? = some off) (ht : (pc : Int) + off = (tgt : Int))
    (kk : WP k d S u Q tgt lv st M) : WP k d S u Q pc lv (.inl x :: st) M := by
  intro p l e R s m args below meth c D al0 n0 A QS C hS hret al H locs ls hag hn hW hst hlv hl
  have hx := C.1
  have hb := C.2.1
  have h5 : mI x := ok_hd hst
  exact lv_tableIn hx hb hd (by rw [mI_toInt h5]; exact h1) (by rw [mI_toInt h5]; exact h2) (by rw [mI_toInt h5]; exact ho) ht (kk p l e R s m args below meth c D al0 n0 A QS C hS hret al H locs ls hag hn hW (ok_tl hst) hlv hl)
theorem r_tableOut {dflt lo hi : Int} {offs : Array Int} {len : Nat} {x : Int} {tgt : Nat} (hd : decode d.2.1 pc = .ok (.tableswitch dflt lo hi offs, len)) (h1 : x < lo ∨ hi < x) (ht : (pc : Int) + dflt = (tgt : Int))
    (kk : WP k d S u Q tgt lv st M) : WP k d S u Q pc lv (.inl x :: st) M := by
  intro p l e R s m args below meth c D al0 n0 A QS C hS hret al H locs ls hag hn hW hst hlv hl
  have hx := C.1
  have hb := C.2.1
  have h5 : mI x := ok_hd hst
  exact lv_tableOut hx hb hd (by rw [mI_toInt h5]; exact h1) ht (kk p l e R s m args below meth c D al0 n0 A QS C hS hret al H locs ls hag hn hW (ok_tl hst) hlv hl)
theorem r_lookup {dflt : Int} {ps : Array (Int × Int)} {len : Nat} {x off : Int} {tgt : Nat} (hd : decode d.2.1 pc = .ok (.lookupswitch dflt ps, len)) (hp : (ps.toList.zip (ps.toList.drop 1)).all (fun (a, next) => a.1 < next.1) = true) (ho : Op.lookupswitch.offset ps.toList dflt x = off) (ht : (pc : Int) + off = (tgt : Int))
    (kk : WP k d S u Q tgt lv st M) : WP k d S u Q pc lv (.inl x :: st) M := by
  intro p l e R s m args below meth c D al0 n0 A QS C hS hret al H locs ls hag hn hW hst hlv hl
  have hx := C.1
  have hb := C.2.1
  have h5 : mI x := ok_hd hst
  exact lv_lookup hx hb hd hp (by rw [mI_toInt h5]; exact ho) ht (kk p l e R s m args below meth c D al0 n0 A QS C hS hret al H locs ls hag hn hW (ok_tl hst) hlv hl)
end ROWS
end
section
/-! ===== rows of the memory: fields, arrays, new cells, texts, statics, the script, returns ===== -/
theorem mTb_of (ws : List Cond) (ps : List Nat) (hp : ws = ps.filterMap (fun i => tables_1[i]?)) (h : ws.all goodWord = true) : ∀ w ∈ ws, w ∈ mTb := by
  intro w hw
  have h1 := List.all_eq_true.mp h w hw
  rw [hp] at hw
  obtain ⟨i, -, hi⟩ := List.mem_filterMap.mp hw
  exact mTb_in hi h1
set_option maxRecDepth 20000 in
theorem mU0 : ∀ w ∈ u_ws RX0 TX0 2, w ∈ mTb := mTb_of _ [38, 40] rfl rfl
set_option maxRecDepth 20000 in
theorem mU1 : ∀ w ∈ u_ws RX1 TX1 6, w ∈ mTb := mTb_of _ [80, 82, 84, 86, 88, 90] rfl rfl
set_option maxRecDepth 20000 in
theorem mU2 : ∀ w ∈ u_ws RX2 TX2 12, w ∈ mTb := mTb_of _ [107, 109, 111, 113, 115, 117, 119, 121, 123, 125, 127, 129] rfl rfl
set_option maxRecDepth 20000 in
theorem mU3 : ∀ w ∈ u_ws RX3 TX3 4, w ∈ mTb := mTb_of _ [146, 148, 150, 152] rfl rfl
set_option maxRecDepth 20000 in
theorem mU4 : ∀ w ∈ u_ws RX4 TX4 3, w ∈ mTb := mTb_of _ [55, 57, 59] rfl rfl
set_option maxRecDepth 20000 in
theorem mU5 : ∀ w ∈ u_ws RX5 TX5 8, w ∈ mTb := mTb_of _ [164, 166, 168, 170, 172, 174, 176, 178] rfl rfl
set_option maxRecDepth 20000 in
theorem mU6 : ∀ w ∈ u_ws RX6 TX6 13, w ∈ mTb := mTb_of _ [638, 640, 642, 644, 646, 648, 650, 652, 654, 656, 658, 660, 662] rfl rfl
theorem mU {kd : Nat} (h : kd < 7) : ∀ w ∈ u_ws (mRx kd) (mTx kd) (mNx kd), w ∈ mTb := by
  match kd, h with
  | 0, _ => exact mU0
  | 1, _ => exact mU1
  | 2, _ => exact mU2
  | 3, _ => exact mU3
  | 4, _ => exact mU4
  | 5, _ => exact mU5
  | 6, _ => exact mU6
theorem mCl {kd : Nat} (h : kd < 7) : vwCl[kd]? = some (mRx kd, mTx kd, mNx kd) := by
  match kd, h with
  | 0, _ => rfl
  | 1, _ => rfl
  | 2, _ => rfl
  | 3, _ => rfl
  | 4, _ => rfl
  | 5, _ => rfl
  | 6, _ => rfl
theorem mTyOk {kd : Nat} (h : kd < 7) : ∀ k, k < mNx kd → parseFieldDescriptor (mTx kd k).2.2.1 = some (mTy kd k) := by
  match kd, h with
  | 0, _ => exact tyX0_ok
  | 1, _ => exact tyX1_ok
  | 2, _ => exact tyX2_ok
  | 3, _ => exact tyX3_ok
  | 4, _ => exact tyX4_ok
  | 5, _ => exact tyX5_ok
  | 6, _ => exact tyX6_ok
theorem mNm {kd : Nat} (h : kd < 7) : ∀ a, a < mNx kd → ∀ b, b < mNx kd → a ≠ b → (mTx kd a).2.1 ≠ (mTx kd b).2.1 := by
  match kd, h with
  | 0, _ => exact nmX0
  | 1, _ => exact nmX1
  | 2, _ => exact nmX2
  | 3, _ => exact nmX3
  | 4, _ => exact nmX4
  | 5, _ => exact nmX5
  | 6, _ => exact nmX6
theorem okM_upI {M : mM} (h : okM M) {x : Int} (hx : mI x) (a : Nat) (i : Int) : okM (M.1, mUp M.2.1 a i x, M.2.2) := by
  intro b j
  refine ⟨?_, (h b j).2⟩
  show mI (mUp M.2.1 a i x b j)
  unfold mUp fset
  by_cases hb : b = a
  · rw [if_pos hb]
    by_cases hj : j = i
    · simp only [hj, if_true]; exact hx
    · simp only [hj, if_false]; exact (h a j).1
  · rw [if_neg hb]; exact (h b j).1
theorem okM_upR {M : mM} (h : okM M) {r : Option Nat} (hr : okR M.1.length r) (a : Nat) (i : Int) : okM (M.1, M.2.1, mUp M.2.2 a i r) := by
  intro b j
  refine ⟨(h b j).1, ?_⟩
  show okR M.1.length (mUp M.2.2 a i r b j)
  unfold mUp fset
  by_cases hb : b = a
  · rw [if_pos hb]
    by_cases hj : j = i
    · simp only [hj, if_true]; exact hr
    · simp only [hj, if_false]; exact (h a j).2
  · rw [if_neg hb]; exact (h b j).2
theorem mE_obj {D : va_G} {al : Nat → Nat} {M : mM} {kd n a : Nat} (h : kd < 7) : mE D al M kd n a = .inr (kd, (List.range n).map (mFld al M kd a)) := by unfold mE; rw [if_pos h]
theorem mE_int {D : va_G} {al : Nat → Nat} {M : mM} {kd n a : Nat} (h : 7 ≤ kd) (h2 : kd < 12) : mE D al M kd n a = .inl (D.1 kd, n, .inl (fun j => Int32.ofInt (M.2.1 a j))) := by unfold mE; rw [if_neg (by omega), if_pos h2]
theorem mE_ref {D : va_G} {al : Nat → Nat} {M : mM} {kd n a : Nat} (h : 12 ≤ kd) : mE D al M kd n a = .inl (D.1 kd, n, .inr (.inr (.inr (.inr (fun j => (M.2.2 a j).map al))))) := by unfold mE; rw [if_neg (by omega), if_neg (by omega)]
theorem mRange_set {f g : Nat → Value} {n j : Nat} {v : Value} (h : ∀ i, g i = if i = j then v else f i) : ((List.range n).map f).set j v = (List.range n).map g := by
  apply List.ext_getElem?
  intro i
  rw [List.getElem?_set]
  by_cases hi : j = i
  · subst hi
    rw [if_pos rfl]
    by_cases hj : j < n
    · simp [hj, h]
    · simp [hj]
  · rw [if_neg hi]
    by_cases hj : i < n
    · simp [hj, h, show ¬ i = j from fun e => hi e.symm]
    · simp [hj]
/-- a store into a cell: the world behind it -/
theorem mWld_set {D : va_G} {al : Nat → Nat} {M M' : mM} {A : Nat → Prop} {H0 H1 : Heap} {locs1 : List Loc} {a : Nat} {kn : Nat × Nat} {e : va_E} (ha : M.1[a]? = some kn) (hl : M'.1 = M.1) (hI : ∀ b, b ≠ a → M'.2.1 b = M.2.1 b ∧ M'.2.2 b = M.2.2 b) (he : mE D al M' kn.1 kn.2 a = e) (hok : okM M') (hlen : M.1.length < 1000)
    (hP : va_P D vwCl ((mWs D al M).set a (al a, e)) H1) (hD : va_D A ((mWs D al M).set a (al a, e))) (hS : va_S A H0 H1 locs1) : mWld D al M' A H0 H1 locs1 := by
  have hs : (mWs D al M).set a (al a, e) = mWs D al M' := by
    refine mWs_set hl (fun b hb => ?_) ?_
    · unfold mCell
      rw [hl]
      cases hq : M.1[b]? with
      | none => rfl
      | some q =>
        have hf : mFld al M' q.1 b = mFld al M q.1 b := by
          funext j
          unfold mFld
          rw [(hI b hb).1, (hI b hb).2]
        show mE D al M' q.1 q.2 b = mE D al M q.1 q.2 b
        unfold mE
        rw [hf, (hI b hb).1, (hI b hb).2]
    · unfold mCell
      rw [hl, ha]
      exact he
  rw [hs] at hP hD
  exact ⟨hP, hD, hS, hok, by rw [hl]; exact hlen⟩
theorem mB2 {w : Cond} {s : State} {args args0 : Array Value} (h : w.before args0 s = true) (hw : w ∈ mTb) : w.before args s = true := by
  rcases good_of_word (List.mem_filter.mp hw).2 with hg | ⟨ty, rfl⟩
  · simp only [Bool.and_eq_true] at hg
    exact va_tabs hg.1 rfl h
  · exact h
theorem nar_char {x : Int} (h0 : 0 ≤ x) (h1 : x < 65536) : (Int32.ofInt x).toUInt32.toUInt16.toUInt32.toInt32 = Int32.ofInt x := by
  obtain ⟨n, rfl⟩ : ∃ n : Nat, x = n := ⟨x.toNat, by omega⟩
  have hn : n < 65536 := by omega
  rw [Int32.ofInt_eq_ofNat]
  have h2 : (Int32.ofNat n).toUInt32.toUInt16.toUInt32 = UInt32.ofNat n := by
    apply UInt32.toNat_inj.mp
    show (UInt32.ofNat n).toUInt16.toUInt32.toNat = (UInt32.ofNat n).toNat
    simp [UInt32.toNat_ofNat']
    omega
  rw [h2]
  rfl
theorem upd_at (f : Nat → Int32) (i : Nat) (v : Int32) : upd f i v i = v := by simp [upd]
theorem upd_ne (f : Nat → Int32) {i j : Nat} (v : Int32) (h : j ≠ i) : upd f i v j = f j := by simp [upd, h]
section ROWS2
variable {k : Nat} {d : mD} {S : Option (Nat × (Nat → Int))} {u : Nat × Nat} {Q : Option mV → mM → Prop} {pc : Nat} {lv : List (Nat × mV)} {st : List mV} {M : mM}
theorem r_getI {a kd j idx : Nat} (hd : decode d.2.1 pc = .ok (.getfield idx, 3)) (hw : Cond.fieldLink d.1.cls idx (mTx kd j).1 (mTx kd j).2.1 (mTx kd j).2.2.1 ∈ mTb) (ha : M.1[a]? = some (kd, mNx kd)) (hk : kd < 7) (hj : j < mNx kd) (hr : mRef kd j = false)
    (kk : WP k d S u Q (pc + 3) lv (.inl (M.2.1 a j) :: st) M) : WP k d S u Q pc lv (.inr (some a) :: st) M := by
  intro p l e R s m args below meth c D al0 n0 A QS C hS hret al H locs ls hag hn hW hst hlv hl
  have hx := C.1
  have hb := C.2.1
  have hts : ∀ w ∈ mTb, w.before args s = true := fun w hw => mB2 (C.2.2.2.2.2.1 w hw) hw
  have hown := C.2.2.2.2.1
  have hK := C.2.2.2.2.2.2.2.1
  obtain ⟨hP, hD, hVS, hok, hlen⟩ := hW
  have he := mWs_get (D := D) (al := al) ha
  rw [mE_obj hk] at he
  have hv : mFld al M kd a j = mc_v al (.inl (M.2.1 a j)) := by unfold mFld; rw [hr]; simp [mc_v]
  refine va_get (C := mRx kd) (T := mTx kd) (N := mNx kd) (ref := (mTx kd j).1) hx hb hts (mU hk) hown hK hP a he (mCl hk) j hj (hts _ hw) (fun x h => h) (v := mc_v al (.inl (M.2.1 a j))) (by simp [hj, hv]) hd ?_
  exact kk p l e R s m args below meth c D al0 n0 A QS C hS hret al H locs ls hag hn ⟨hP, hD, hVS, hok, hlen⟩ (ok_push (hok a j).1 (ok_tl hst)) hlv hl
theorem r_getR {a kd j idx : Nat} (hd : decode d.2.1 pc = .ok (.getfield idx, 3)) (hw : Cond.fieldLink d.1.cls idx (mTx kd j).1 (mTx kd j).2.1 (mTx kd j).2.2.1 ∈ mTb) (ha : M.1[a]? = some (kd, mNx kd)) (hk : kd < 7) (hj : j < mNx kd) (hr : mRef kd j = true)
    (kk : WP k d S u Q (pc + 3) lv (.inr (M.2.2 a j) :: st) M) : WP k d S u Q pc lv (.inr (some a) :: st) M := by
  intro p l e R s m args below meth c D al0 n0 A QS C hS hret al H locs ls hag hn hW hst hlv hl
  have hx := C.1
  have hb := C.2.1
  have hts : ∀ w ∈ mTb, w.before args s = true := fun w hw => mB2 (C.2.2.2.2.2.1 w hw) hw
  have hown := C.2.2.2.2.1
  have hK := C.2.2.2.2.2.2.2.1
  obtain ⟨hP, hD, hVS, hok, hlen⟩ := hW
  have he := mWs_get (D := D) (al := al) ha
  rw [mE_obj hk] at he
  have hv : mFld al M kd a j = mc_v al (.inr (M.2.2 a j)) := by unfold mFld; rw [hr]; simp [mc_v]
  refine va_get (C := mRx kd) (T := mTx kd) (N := mNx kd) (ref := (mTx kd j).1) hx hb hts (mU hk) hown hK hP a he (mCl hk) j hj (hts _ hw) (fun x h => h) (v := mc_v al (.inr (M.2.2 a j))) (by simp [hj, hv]) hd ?_
  exact kk p l e R s m args below meth c D al0 n0 A QS C hS hret al H locs ls hag hn ⟨hP, hD, hVS, hok, hlen⟩ (ok_push (hok a j).2 (ok_tl hst)) hlv hl
theorem narrow_ref {ty : FieldType} {v : Value} (h : fits ty v = true) (hr : tyRef ty = true) : narrow ty v = v := by
  cases ty <;> first | (cases hr; done) | (cases v <;> first | rfl | (cases h; done))
theorem r_putI {a kd j idx : Nat} {x : Int} (hd : decode d.2.1 pc = .ok (.putfield idx, 3)) (hw : Cond.fieldLink d.1.cls idx (mTx kd j).1 (mTx kd j).2.1 (mTx kd j).2.2.1 ∈ mTb) (ha : M.1[a]? = some (kd, mNx kd)) (hk : kd < 7) (hj : j < mNx kd) (hr : mRef kd j = false) (hf : (mTx kd j).2.2.2 = false) (hty : mTy kd j = .int ∨ (mTy kd j = .boolean ∧ (x = 0 ∨ x = 1)))
    (kk : WP k d S u Q (pc + 3) lv st (M.1, mUp M.2.1 a j x, M.2.2)) : WP k d S u Q pc lv (.inl x :: .inr (some a) :: st) M := by
  intro p l e R s m args below meth c D al0 n0 A QS C hS hret al H locs ls hag hn hW hst hlv hl
  have hx := C.1
  have hb := C.2.1
  have hts : ∀ w ∈ mTb, w.before args s = true := fun w hw => mB2 (C.2.2.2.2.2.1 w hw) hw
  have hown := C.2.2.2.2.1
  have hK := C.2.2.2.2.2.2.2.1
  obtain ⟨hP, hD, hVS, hok, hlen⟩ := hW
  have he := mWs_get (D := D) (al := al) ha
  rw [mE_obj hk] at he
  have hv := ok_hd hst
  have hnf : narrow (mTy kd j) (.int (Int32.ofInt x)) = .int (Int32.ofInt x) ∧ fits (mTy kd j) (.int (Int32.ofInt x)) = true := by
    rcases hty with h | ⟨h, rfl | rfl⟩ <;> rw [h] <;> exact ⟨rfl, rfl⟩
  refine va_put (C := mRx kd) (T := mTx kd) (N := mNx kd) (ref := (mTx kd j).1) hx hb hts (mU hk) (mTy kd) (mTyOk hk) (mNm hk) hown hK hP hD hVS a he (mCl hk) j hj (hts _ hw) (fun x h => h) hf (mTyOk hk j hj) (v := .int (Int32.ofInt x)) hnf.1 hnf.2 (by simp [hj]) hd (fun H1 locs1 hP1 hD1 hS1 => ?_)
  refine kk p l e R s m args below meth c D al0 n0 A QS C hS hret al H1 locs1 ls hag hn (mWld_set (M' := (M.1, mUp M.2.1 a j x, M.2.2)) ha rfl (fun b hb2 => ?_) ?_ (okM_upI hok hv a j) hlen hP1 hD1 hS1) (ok_tl (ok_tl hst)) hlv hl
  · exact ⟨mUp_ne _ _ _ hb2, rfl⟩
  · rw [mE_obj hk, ← mRange_set (f := mFld al M kd a) (j := j) (v := .int (Int32.ofInt x))]
    intro i
    unfold mFld
    by_cases hij : i = j
    · subst hij
      rw [if_pos rfl, hr]
      simp [mUp_at, fset_at]
    · rw [if_neg hij]
      simp only [mUp_at]
      rw [fset_ne _ _ (by omega)]
theorem r_putR {a kd j idx : Nat} {r : Option Nat} (hd : decode d.2.1 pc = .ok (.putfield idx, 3)) (hw : Cond.fieldLink d.1.cls idx (mTx kd j).1 (mTx kd j).2.1 (mTx kd j).2.2.1 ∈ mTb) (ha : M.1[a]? = some (kd, mNx kd)) (hk : kd < 7) (hj : j < mNx kd) (hr : mRef kd j = true) (hf : (mTx kd j).2.2.2 = false)
    (kk : WP k d S u Q (pc + 3) lv st (M.1, M.2.1, mUp M.2.2 a j r)) : WP k d S u Q pc lv (.inr r :: .inr (some a) :: st) M := by
  intro p l e R s m args below meth c D al0 n0 A QS C hS hret al H locs ls hag hn hW hst hlv hl
  have hx := C.1
  have hb := C.2.1
  have hts : ∀ w ∈ mTb, w.before args s = true := fun w hw => mB2 (C.2.2.2.2.2.1 w hw) hw
  have hown := C.2.2.2.2.1
  have hK := C.2.2.2.2.2.2.2.1
  obtain ⟨hP, hD, hVS, hok, hlen⟩ := hW
  have he := mWs_get (D := D) (al := al) ha
  rw [mE_obj hk] at he
  have hv := ok_hd hst
  have hnf : narrow (mTy kd j) (va_rf (r.map al)) = va_rf (r.map al) ∧ fits (mTy kd j) (va_rf (r.map al)) = true := by
    have h2 : fits (mTy kd j) (va_rf (r.map al)) = true := by
      unfold mRef at hr
      generalize mTy kd j = ty at hr
      cases ty <;> first | (cases hr; done) | (cases r <;> rfl)
    exact ⟨narrow_ref h2 hr, h2⟩
  refine va_put (C := mRx kd) (T := mTx kd) (N := mNx kd) (ref := (mTx kd j).1) hx hb hts (mU hk) (mTy kd) (mTyOk hk) (mNm hk) hown hK hP hD hVS a he (mCl hk) j hj (hts _ hw) (fun x h => h) hf (mTyOk hk j hj) (v := va_rf (r.map al)) hnf.1 hnf.2 (by simp [hj]) hd (fun H1 locs1 hP1 hD1 hS1 => ?_)
  refine kk p l e R s m args below meth c D al0 n0 A QS C hS hret al H1 locs1 ls hag hn (mWld_set (M' := (M.1, M.2.1, mUp M.2.2 a j r)) ha rfl (fun b hb2 => ?_) ?_ (okM_upR hok hv a j) hlen hP1 hD1 hS1) (ok_tl (ok_tl hst)) hlv hl
  · exact ⟨rfl, mUp_ne _ _ _ hb2⟩
  · rw [mE_obj hk, ← mRange_set (f := mFld al M kd a) (j := j) (v := va_rf (r.map al))]
    intro i
    unfold mFld
    by_cases hij : i = j
    · subst hij
      rw [if_pos rfl, hr]
      simp [mUp_at, fset_at]
    · rw [if_neg hij]
      simp only [mUp_at]
      rw [fset_ne _ _ (by omega)]
theorem r_putIF {a kd j idx : Nat} {x : Int} (hd : decode d.2.1 pc = .ok (.putfield idx, 3)) (hw : Cond.fieldLink d.1.cls idx (mTx kd j).1 (mTx kd j).2.1 (mTx kd j).2.2.1 ∈ mTb) (ha : M.1[a]? = some (kd, mNx kd)) (hk : kd < 7) (hj : j < mNx kd) (hr : mRef kd j = false) (hf : (mTx kd j).2.2.2 = true) (hin : d.1.name = "<init>") (hdc : (mTx kd j).1 = d.1.cls) (hty : mTy kd j = .int ∨ (mTy kd j = .boolean ∧ (x = 0 ∨ x = 1)))
    (kk : WP k d S u Q (pc + 3) lv st (M.1, mUp M.2.1 a j x, M.2.2)) : WP k d S u Q pc lv (.inl x :: .inr (some a) :: st) M := by
  intro p l e R s m args below meth c D al0 n0 A QS C hS hret al H locs ls hag hn hW hst hlv hl
  have hx := C.1
  have hb := C.2.1
  have hts : ∀ w ∈ mTb, w.before args s = true := fun w hw => mB2 (C.2.2.2.2.2.1 w hw) hw
  have hown := C.2.2.2.2.1
  have hK := C.2.2.2.2.2.2.2.1
  obtain ⟨hP, hD, hVS, hok, hlen⟩ := hW
  have he := mWs_get (D := D) (al := al) ha
  rw [mE_obj hk] at he
  have hv := ok_hd hst
  have hnf : narrow (mTy kd j) (.int (Int32.ofInt x)) = .int (Int32.ofInt x) ∧ fits (mTy kd j) (.int (Int32.ofInt x)) = true := by
    rcases hty with h | ⟨h, rfl | rfl⟩ <;> rw [h] <;> exact ⟨rfl, rfl⟩
  refine va_putF (C := mRx kd) (T := mTx kd) (N := mNx kd) (ref := (mTx kd j).1) hx hb hts (mU hk) (mTy kd) (mTyOk hk) (mNm hk) hown hK hP hD hVS a he (mCl hk) j hj (hts _ hw) (fun x h => h) hf (by rw [C.2.2.2.2.2.2.1]; exact hin) hdc (mTyOk hk j hj) (v := .int (Int32.ofInt x)) hnf.1 hnf.2 (by simp [hj]) hd (fun H1 locs1 hP1 hD1 hS1 => ?_)
  refine kk p l e R s m args below meth c D al0 n0 A QS C hS hret al H1 locs1 ls hag hn (mWld_set (M' := (M.1, mUp M.2.1 a j x, M.2.2)) ha rfl (fun b hb2 => ?_) ?_ (okM_upI hok hv a j) hlen hP1 hD1 hS1) (ok_tl (ok_tl hst)) hlv hl
  · exact ⟨mUp_ne _ _ _ hb2, rfl⟩
  · rw [mE_obj hk, ← mRange_set (f := mFld al M kd a) (j := j) (v := .int (Int32.ofInt x))]
    intro i
    unfold mFld
    by_cases hij : i = j
    · subst hij
      rw [if_pos rfl, hr]
      simp [mUp_at, fset_at]
    · rw [if_neg hij]
      simp only [mUp_at]
      rw [fset_ne _ _ (by omega)]
theorem r_putRF {a kd j idx : Nat} {r : Option Nat} (hd : decode d.2.1 pc = .ok (.putfield idx, 3)) (hw : Cond.fieldLink d.1.cls idx (mTx kd j).1 (mTx kd j).2.1 (mTx kd j).2.2.1 ∈ mTb) (ha : M.1[a]? = some (kd, mNx kd)) (hk : kd < 7) (hj : j < mNx kd) (hr : mRef kd j = true) (hf : (mTx kd j).2.2.2 = true) (hin : d.1.name = "<init>") (hdc : (mTx kd j).1 = d.1.cls)
    (kk : WP k d S u Q (pc + 3) lv st (M.1, M.2.1, mUp M.2.2 a j r)) : WP k d S u Q pc lv (.inr r :: .inr (some a) :: st) M := by
  intro p l e R s m args below meth c D al0 n0 A QS C hS hret al H locs ls hag hn hW hst hlv hl
  have hx := C.1
  have hb := C.2.1
  have hts : ∀ w ∈ mTb, w.before args s = true := fun w hw => mB2 (C.2.2.2.2.2.1 w hw) hw
  have hown := C.2.2.2.2.1
  have hK := C.2.2.2.2.2.2.2.1
  obtain ⟨hP, hD, hVS, hok, hlen⟩ := hW
  have he := mWs_get (D := D) (al := al) ha
  rw [mE_obj hk] at he
  have hv := ok_hd hst
  have hnf : narrow (mTy kd j) (va_rf (r.map al)) = va_rf (r.map al) ∧ fits (mTy kd j) (va_rf (r.map al)) = true := by
    have h2 : fits (mTy kd j) (va_rf (r.map al)) = true := by
      unfold mRef at hr
      generalize mTy kd j = ty at hr
      cases ty <;> first | (cases hr; done) | (cases r <;> rfl)
    exact ⟨narrow_ref h2 hr, h2⟩
  refine va_putF (C := mRx kd) (T := mTx kd) (N := mNx kd) (ref := (mTx kd j).1) hx hb hts (mU hk) (mTy kd) (mTyOk hk) (mNm hk) hown hK hP hD hVS a he (mCl hk) j hj (hts _ hw) (fun x h => h) hf (by rw [C.2.2.2.2.2.2.1]; exact hin) hdc (mTyOk hk j hj) (v := va_rf (r.map al)) hnf.1 hnf.2 (by simp [hj]) hd (fun H1 locs1 hP1 hD1 hS1 => ?_)
  refine kk p l e R s m args below meth c D al0 n0 A QS C hS hret al H1 locs1 ls hag hn (mWld_set (M' := (M.1, M.2.1, mUp M.2.2 a j r)) ha rfl (fun b hb2 => ?_) ?_ (okM_upR hok hv a j) hlen hP1 hD1 hS1) (ok_tl (ok_tl hst)) hlv hl
  · exact ⟨rfl, mUp_ne _ _ _ hb2⟩
  · rw [mE_obj hk, ← mRange_set (f := mFld al M kd a) (j := j) (v := va_rf (r.map al))]
    intro i
    unfold mFld
    by_cases hij : i = j
    · subst hij
      rw [if_pos rfl, hr]
      simp [mUp_at, fset_at]
    · rw [if_neg hij]
      simp only [mUp_at]
      rw [fset_ne _ _ (by omega)]
theorem r_iald {a n : Nat} {i : Int} (hd : decode d.2.1 pc = .ok (.iaload, 1)) (ha : M.1[a]? = some (10, n)) (h0 : 0 ≤ i) (h1 : i < (n : Int))
    (kk : WP k d S u Q (pc + 1) lv (.inl (M.2.1 a i) :: st) M) : WP k d S u Q pc lv (.inl i :: .inr (some a) :: st) M := by
  intro p l e R s m args below meth c D al0 n0 A QS C hS hret al H locs ls hag hn hW hst hlv hl
  have hx := C.1
  have hb := C.2.1
  have hts : ∀ w ∈ mTb, w.before args s = true := fun w hw => mB2 (C.2.2.2.2.2.1 w hw) hw
  have hown := C.2.2.2.2.1
  have hK := C.2.2.2.2.2.2.2.1
  obtain ⟨hP, hD, hVS, hok, hlen⟩ := hW
  have he : (mWs D al M)[a]? = some (al a, mE D al M 10 n a) := mWs_get ha
  rw [mE_int (by decide) (by decide)] at he
  have hi : mI i := ok_hd hst
  refine va_iald hx hb hK hP a 0 he rfl (mI_in hi h0 h1) hd ?_
  have h9 := kk p l e R s m args below meth c D al0 n0 A QS C hS hret al H locs ls hag hn ⟨hP, hD, hVS, hok, hlen⟩ (ok_push (v := .inl (M.2.1 a i)) (hok a i).1 (ok_tl (ok_tl hst))) hlv hl
  rw [mI_nat hi]
  have e9 : ((i.toNat : Nat) : Int) = i := by omega
  rw [e9]
  exact h9
theorem r_cald {a n : Nat} {i : Int} (hd : decode d.2.1 pc = .ok (.caload, 1)) (ha : M.1[a]? = some (11, n)) (h0 : 0 ≤ i) (h1 : i < (n : Int))
    (kk : WP k d S u Q (pc + 1) lv (.inl (M.2.1 a i) :: st) M) : WP k d S u Q pc lv (.inl i :: .inr (some a) :: st) M := by
  intro p l e R s m args below meth c D al0 n0 A QS C hS hret al H locs ls hag hn hW hst hlv hl
  have hx := C.1
  have hb := C.2.1
  have hts : ∀ w ∈ mTb, w.before args s = true := fun w hw => mB2 (C.2.2.2.2.2.1 w hw) hw
  have hown := C.2.2.2.2.1
  have hK := C.2.2.2.2.2.2.2.1
  obtain ⟨hP, hD, hVS, hok, hlen⟩ := hW
  have he : (mWs D al M)[a]? = some (al a, mE D al M 11 n a) := mWs_get ha
  rw [mE_int (by decide) (by decide)] at he
  have hi : mI i := ok_hd hst
  refine va_cald hx hb hK hP a 1 he rfl (mI_in hi h0 h1) hd ?_
  have h9 := kk p l e R s m args below meth c D al0 n0 A QS C hS hret al H locs ls hag hn ⟨hP, hD, hVS, hok, hlen⟩ (ok_push (v := .inl (M.2.1 a i)) (hok a i).1 (ok_tl (ok_tl hst))) hlv hl
  rw [mI_nat hi]
  have e9 : ((i.toNat : Nat) : Int) = i := by omega
  rw [e9]
  exact h9
theorem r_iast {a n : Nat} {i x : Int} (hd : decode d.2.1 pc = .ok (.iastore, 1)) (ha : M.1[a]? = some (10, n)) (h0 : 0 ≤ i) (h1 : i < (n : Int))
    (kk : WP k d S u Q (pc + 1) lv st (M.1, mUp M.2.1 a i x, M.2.2)) : WP k d S u Q pc lv (.inl x :: .inl i :: .inr (some a) :: st) M := by
  intro p l e R s m args below meth c D al0 n0 A QS C hS hret al H locs ls hag hn hW hst hlv hl
  have hx := C.1
  have hb := C.2.1
  have hts : ∀ w ∈ mTb, w.before args s = true := fun w hw => mB2 (C.2.2.2.2.2.1 w hw) hw
  have hown := C.2.2.2.2.1
  have hK := C.2.2.2.2.2.2.2.1
  obtain ⟨hP, hD, hVS, hok, hlen⟩ := hW
  have he : (mWs D al M)[a]? = some (al a, mE D al M 10 n a) := mWs_get ha
  rw [mE_int (by decide) (by decide)] at he
  have hi : mI i := ok_hd (ok_tl hst)
  have hxv : mI x := ok_hd hst
  refine va_iast hx hb hK hP hD hVS a 0 he rfl (mI_in hi h0 h1) hd (fun H1 locs1 hP1 hD1 hS1 => ?_)
  refine kk p l e R s m args below meth c D al0 n0 A QS C hS hret al H1 locs1 ls hag hn (mWld_set (M' := (M.1, mUp M.2.1 a i x, M.2.2)) ha rfl (fun b hb2 => ⟨mUp_ne _ _ _ hb2, rfl⟩) ?_ (okM_upI hok hxv a i) hlen hP1 hD1 hS1) (ok_tl (ok_tl (ok_tl hst))) hlv hl
  show mE D al (M.1, mUp M.2.1 a i x, M.2.2) 10 n a = _
  rw [mE_int (by decide) (by decide)]
  congr 4
  funext q
  rw [mI_nat hi]
  simp only [mUp_at]
  by_cases hq : q = i.toNat
  · subst hq
    have e9 : ((i.toNat : Nat) : Int) = i := by omega
    rw [e9, fset_at, upd_at]
  · rw [fset_ne _ _ (by omega), upd_ne _ _ hq]
theorem r_cast {a n : Nat} {i x : Int} (hd : decode d.2.1 pc = .ok (.castore, 1)) (ha : M.1[a]? = some (11, n)) (h0 : 0 ≤ i) (h1 : i < (n : Int)) (hc : 0 ≤ x ∧ x < 65536)
    (kk : WP k d S u Q (pc + 1) lv st (M.1, mUp M.2.1 a i x, M.2.2)) : WP k d S u Q pc lv (.inl x :: .inl i :: .inr (some a) :: st) M := by
  intro p l e R s m args below meth c D al0 n0 A QS C hS hret al H locs ls hag hn hW hst hlv hl
  have hx := C.1
  have hb := C.2.1
  have hts : ∀ w ∈ mTb, w.before args s = true := fun w hw => mB2 (C.2.2.2.2.2.1 w hw) hw
  have hown := C.2.2.2.2.1
  have hK := C.2.2.2.2.2.2.2.1
  obtain ⟨hP, hD, hVS, hok, hlen⟩ := hW
  have he : (mWs D al M)[a]? = some (al a, mE D al M 11 n a) := mWs_get ha
  rw [mE_int (by decide) (by decide)] at he
  have hi : mI i := ok_hd (ok_tl hst)
  have hxv : mI x := ok_hd hst
  have e7 : vp_nar .char (Int32.ofInt x) = Int32.ofInt x := by
    rw [vp_nar_char]
    exact nar_char hc.1 hc.2
  refine va_cast hx hb hK hP hD hVS a 1 he rfl (mI_in hi h0 h1) hd (fun H1 locs1 hP1 hD1 hS1 => ?_)
  refine kk p l e R s m args below meth c D al0 n0 A QS C hS hret al H1 locs1 ls hag hn (mWld_set (M' := (M.1, mUp M.2.1 a i x, M.2.2)) ha rfl (fun b hb2 => ⟨mUp_ne _ _ _ hb2, rfl⟩) ?_ (okM_upI hok hxv a i) hlen hP1 hD1 hS1) (ok_tl (ok_tl (ok_tl hst))) hlv hl
  show mE D al (M.1, mUp M.2.1 a i x, M.2.2) 11 n a = _
  rw [mE_int (by decide) (by decide)]
  congr 4
  funext q
  rw [mI_nat hi]
  simp only [mUp_at, e7]
  by_cases hq : q = i.toNat
  · subst hq
    have e9 : ((i.toNat : Nat) : Int) = i := by omega
    rw [e9, fset_at, upd_at]
  · rw [fset_ne _ _ (by omega), upd_ne _ _ hq]
theorem r_aald12 {a n : Nat} {i : Int} (hd : decode d.2.1 pc = .ok (.aaload, 1)) (ha : M.1[a]? = some (12, n)) (h0 : 0 ≤ i) (h1 : i < (n : Int))
    (kk : WP k d S u Q (pc + 1) lv (.inr (M.2.2 a i) :: st) M) : WP k d S u Q pc lv (.inl i :: .inr (some a) :: st) M := by
  intro p l e R s m args below meth c D al0 n0 A QS C hS hret al H locs ls hag hn hW hst hlv hl
  have hx := C.1
  have hb := C.2.1
  have hts : ∀ w ∈ mTb, w.before args s = true := fun w hw => mB2 (C.2.2.2.2.2.1 w hw) hw
  have hown := C.2.2.2.2.1
  have hK := C.2.2.2.2.2.2.2.1
  obtain ⟨hP, hD, hVS, hok, hlen⟩ := hW
  have he : (mWs D al M)[a]? = some (al a, mE D al M 12 n a) := mWs_get ha
  rw [mE_ref (by decide)] at he
  have hi : mI i := ok_hd hst
  refine va_aldq hx hb hK hP a 2 he rfl (mI_in hi h0 h1) hd ?_
  have h9 := kk p l e R s m args below meth c D al0 n0 A QS C hS hret al H locs ls hag hn ⟨hP, hD, hVS, hok, hlen⟩ (ok_push (v := .inr (M.2.2 a i)) (hok a i).2 (ok_tl (ok_tl hst))) hlv hl
  rw [mI_nat hi]
  have e9 : ((i.toNat : Nat) : Int) = i := by omega
  rw [e9]
  exact h9
theorem r_aast12 {a n x : Nat} {i : Int} (hd : decode d.2.1 pc = .ok (.aastore, 1)) (ha : M.1[a]? = some (12, n)) (h0 : 0 ≤ i) (h1 : i < (n : Int)) (hxc : M.1[x]? = some (0, mNx 0))
    (kk : WP k d S u Q (pc + 1) lv st (M.1, M.2.1, mUp M.2.2 a i (some x))) : WP k d S u Q pc lv (.inr (some x) :: .inl i :: .inr (some a) :: st) M := by
  intro p l e R s m args below meth c D al0 n0 A QS C hS hret al H locs ls hag hn hW hst hlv hl
  have hx := C.1
  have hb := C.2.1
  have hts : ∀ w ∈ mTb, w.before args s = true := fun w hw => mB2 (C.2.2.2.2.2.1 w hw) hw
  have hown := C.2.2.2.2.1
  have hK := C.2.2.2.2.2.2.2.1
  obtain ⟨hP, hD, hVS, hok, hlen⟩ := hW
  have he : (mWs D al M)[a]? = some (al a, mE D al M 12 n a) := mWs_get ha
  rw [mE_ref (by decide)] at he
  have hex : (mWs D al M)[x]? = some (al x, mE D al M 0 (mNx 0) x) := mWs_get hxc
  rw [mE_obj (by decide)] at hex
  have hi : mI i := ok_hd (ok_tl hst)
  have hxv : okR M.1.length (some x) := ok_hd hst
  refine va_astq hx hb hK hP hD hVS a 2 x 0 he rfl hex (mCl (by decide)) (mI_in hi h0 h1) hd (fun H1 locs1 hP1 hD1 hS1 => ?_)
  refine kk p l e R s m args below meth c D al0 n0 A QS C hS hret al H1 locs1 ls hag hn (mWld_set (M' := (M.1, M.2.1, mUp M.2.2 a i (some x))) ha rfl (fun b hb2 => ⟨rfl, mUp_ne _ _ _ hb2⟩) ?_ (okM_upR hok hxv a i) hlen hP1 hD1 hS1) (ok_tl (ok_tl (ok_tl hst))) hlv hl
  show mE D al (M.1, M.2.1, mUp M.2.2 a i (some x)) 12 n a = _
  rw [mE_ref (by decide)]
  congr 7
  funext q
  rw [mI_nat hi]
  simp only [mUp_at, va_up]
  by_cases hq : q = i.toNat
  · subst hq
    have e9 : ((i.toNat : Nat) : Int) = i := by omega
    rw [e9, fset_at, if_pos rfl]
    rfl
  · rw [fset_ne _ _ (by omega), if_neg hq]
theorem r_aald13 {a n : Nat} {i : Int} (hd : decode d.2.1 pc = .ok (.aaload, 1)) (ha : M.1[a]? = some (13, n)) (h0 : 0 ≤ i) (h1 : i < (n : Int))
    (kk : WP k d S u Q (pc + 1) lv (.inr (M.2.2 a i) :: st) M) : WP k d S u Q pc lv (.inl i :: .inr (some a) :: st) M := by
  intro p l e R s m args below meth c D al0 n0 A QS C hS hret al H locs ls hag hn hW hst hlv hl
  have hx := C.1
  have hb := C.2.1
  have hts : ∀ w ∈ mTb, w.before args s = true := fun w hw => mB2 (C.2.2.2.2.2.1 w hw) hw
  have hown := C.2.2.2.2.1
  have hK := C.2.2.2.2.2.2.2.1
  obtain ⟨hP, hD, hVS, hok, hlen⟩ := hW
  have he : (mWs D al M)[a]? = some (al a, mE D al M 13 n a) := mWs_get ha
  rw [mE_ref (by decide)] at he
  have hi : mI i := ok_hd hst
  refine va_aldq hx hb hK hP a 3 he rfl (mI_in hi h0 h1) hd ?_
  have h9 := kk p l e R s m args below meth c D al0 n0 A QS C hS hret al H locs ls hag hn ⟨hP, hD, hVS, hok, hlen⟩ (ok_push (v := .inr (M.2.2 a i)) (hok a i).2 (ok_tl (ok_tl hst))) hlv hl
  rw [mI_nat hi]
  have e9 : ((i.toNat : Nat) : Int) = i := by omega
  rw [e9]
  exact h9
theorem r_aast13 {a n x : Nat} {i : Int} (hd : decode d.2.1 pc = .ok (.aastore, 1)) (ha : M.1[a]? = some (13, n)) (h0 : 0 ≤ i) (h1 : i < (n : Int)) (hxc : M.1[x]? = some (2, mNx 2))
    (kk : WP k d S u Q (pc + 1) lv st (M.1, M.2.1, mUp M.2.2 a i (some x))) : WP k d S u Q pc lv (.inr (some x) :: .inl i :: .inr (some a) :: st) M := by
  intro p l e R s m args below meth c D al0 n0 A QS C hS hret al H locs ls hag hn hW hst hlv hl
  have hx := C.1
  have hb := C.2.1
  have hts : ∀ w ∈ mTb, w.before args s = true := fun w hw => mB2 (C.2.2.2.2.2.1 w hw) hw
  have hown := C.2.2.2.2.1
  have hK := C.2.2.2.2.2.2.2.1
  obtain ⟨hP, hD, hVS, hok, hlen⟩ := hW
  have he : (mWs D al M)[a]? = some (al a, mE D al M 13 n a) := mWs_get ha
  rw [mE_ref (by decide)] at he
  have hex : (mWs D al M)[x]? = some (al x, mE D al M 2 (mNx 2) x) := mWs_get hxc
  rw [mE_obj (by decide)] at hex
  have hi : mI i := ok_hd (ok_tl hst)
  have hxv : okR M.1.length (some x) := ok_hd hst
  refine va_astq hx hb hK hP hD hVS a 3 x 2 he rfl hex (mCl (by decide)) (mI_in hi h0 h1) hd (fun H1 locs1 hP1 hD1 hS1 => ?_)
  refine kk p l e R s m args below meth c D al0 n0 A QS C hS hret al H1 locs1 ls hag hn (mWld_set (M' := (M.1, M.2.1, mUp M.2.2 a i (some x))) ha rfl (fun b hb2 => ⟨rfl, mUp_ne _ _ _ hb2⟩) ?_ (okM_upR hok hxv a i) hlen hP1 hD1 hS1) (ok_tl (ok_tl (ok_tl hst))) hlv hl
  show mE D al (M.1, M.2.1, mUp M.2.2 a i (some x)) 13 n a = _
  rw [mE_ref (by decide)]
  congr 7
  funext q
  rw [mI_nat hi]
  simp only [mUp_at, va_up]
  by_cases hq : q = i.toNat
  · subst hq
    have e9 : ((i.toNat : Nat) : Int) = i := by omega
    rw [e9, fset_at, if_pos rfl]
    rfl
  · rw [fset_ne _ _ (by omega), if_neg hq]
end ROWS2
end
section
/-! ===== new cells, texts, statics, the script, returns ===== -/
def mClr {β : Type} (F : Nat → Int → β) (a : Nat) (v : β) : Nat → Int → β := fun b => if b = a then fun _ => v else F b
def mNew (M : mM) (kd n : Nat) : mM := (M.1 ++ [(kd, n)], mClr M.2.1 M.1.length 0, mClr M.2.2 M.1.length none)
def mExtA (al : Nat → Nat) (n q : Nat) : Nat → Nat := fun a => if a = n then q else al a
theorem mDef {kd : Nat} (h : kd < 7) : ∀ j, j < mNx kd → defaultValue (mTy kd j) = if mRef kd j = true then .null else .int 0 := by
  match kd, h with
  | 0, _ => decide +kernel
  | 1, _ => decide +kernel
  | 2, _ => decide +kernel
  | 3, _ => decide +kernel
  | 4, _ => decide +kernel
  | 5, _ => decide +kernel
  | 6, _ => decide +kernel
theorem okR_le {n n' : Nat} (h : n ≤ n') {r : Option Nat} (hr : okR n r) : okR n' r := fun a ha => by
  rcases hr a ha with q | q
  · exact Or.inl (by omega)
  · exact Or.inr q
theorem okV_le {n n' : Nat} (h : n ≤ n') {v : mV} (hv : okV n v) : okV n' v := by
  cases v with
  | inl x => exact hv
  | inr r => exact okR_le h hv
theorem okM_new {M : mM} (h : okM M) (kd n : Nat) : okM (mNew M kd n) := by
  intro b j
  have hle : M.1.length ≤ (mNew M kd n).1.length := by simp [mNew]
  unfold mNew mClr
  dsimp only
  by_cases hb : b = M.1.length
  · rw [if_pos hb, if_pos hb]
    exact ⟨mI_0, fun a ha => by cases ha⟩
  · rw [if_neg hb, if_neg hb]
    exact ⟨(h b j).1, okR_le hle (h b j).2⟩
theorem mSts_congr {n : Nat} {al al' : Nat → Nat} (h : ∀ a, a < n ∨ 1000 ≤ a → al' a = al a) {st : List mV} (hst : ∀ v ∈ st, okV n v) : mSts al' st = mSts al st :=
  List.map_congr_left fun v hv => mc_v_congr h (hst v hv)
theorem mLvs_congr {n : Nat} {al al' : Nat → Nat} (h : ∀ a, a < n ∨ 1000 ≤ a → al' a = al a) {lv : List (Nat × mV)} (hlv : ∀ q ∈ lv, okV n q.2) : mLvs al' lv = mLvs al lv :=
  List.map_congr_left fun q hq => by rw [mc_v_congr h (hlv q hq)]
theorem mExtA_agr {al : Nat → Nat} {n q : Nat} (hn : n < 1000) : ∀ a, a < n ∨ 1000 ≤ a → mExtA al n q a = al a := fun a ha => by
  unfold mExtA
  rw [if_neg (by omega)]
/-- the world behind a new cell -/
theorem mWld_new {D : va_G} {al : Nat → Nat} {M : mM} {A : Nat → Prop} {H0 H1 : Heap} {locs1 : List Loc} {kd n q : Nat} {e : va_E} (hok : okM M) (hlen : M.1.length + 1 < 1000) (he : mE D (mExtA al M.1.length q) (mNew M kd n) kd n M.1.length = e)
    (hP : va_P D vwCl (mWs D al M ++ [(q, e)]) H1) (hD : va_D A (mWs D al M ++ [(q, e)])) (hS : va_S A H0 H1 locs1) : mWld D (mExtA al M.1.length q) (mNew M kd n) A H0 H1 locs1 := by
  have hs : mWs D al M ++ [(q, e)] = mWs D (mExtA al M.1.length q) (mNew M kd n) := by
    refine mWs_push (kn := (kd, n)) (by omega) hok rfl (fun b hb => ?_) he
    unfold mNew mClr
    dsimp only
    rw [if_neg (by omega), if_neg (by omega)]
    exact ⟨rfl, rfl⟩
  rw [hs] at hP hD
  exact ⟨hP, hD, hS, okM_new hok kd n, by simp [mNew]; omega⟩
theorem mAgr_ext {n0 n q : Nat} {al al0 : Nat → Nat} (h : mAgr n0 al al0) (hn : n0 ≤ n) (hl : n < 1000) : mAgr n0 (mExtA al n q) al0 := fun a ha => by
  rw [mExtA_agr hl a (by omega)]
  exact h a ha
theorem mTy_arr {D : va_G} {s : State} {cA : ClassId} {ty : FieldType} {i : Nat} {cB : ClassId} (hK : va_K D vwCl (mTys D) s) (hi : (mTys D)[i]? = some (cB, ty)) (hK2 : va_K D vwCl (mTys D ++ [(cA, ty)]) s) : cA = cB := by
  have h1 := (hK.2 i _ hi).2
  have h2 := (hK2.2 4 (cA, ty) rfl).2
  cases ty with
  | object C =>
    obtain ⟨_, _, -, -, -, q1⟩ := h1
    obtain ⟨_, _, -, -, -, q2⟩ := h2
    exact Option.some.inj (q2.symm.trans q1)
  | _ => exact Option.some.inj (h2.symm.trans h1)
theorem nb_int {N : Nat} (h : N < 1000) : N * componentBytes .int ≤ 536870912 := by
  have e : componentBytes .int = 4 := rfl
  rw [e]; omega
theorem nb_char {N : Nat} (h : N < 1000) : N * componentBytes .char ≤ 536870912 := by
  have e : componentBytes .char = 2 := rfl
  rw [e]; omega
theorem mCat (al : Nat → Nat) (st : List mV) : ((mSts al st).map fun v => v.category).sum = st.length := by
  induction st with
  | nil => rfl
  | cons v t ih =>
    show ((mc_v al v).category :: (mSts al t).map fun v => v.category).sum = t.length + 1
    rw [List.sum_cons, ih, mc_cat]; omega
theorem sLen_le : ∀ i, i < 9 → sLen.getD i 0 ≤ 10 := by decide +kernel
section ROWS3
variable {k : Nat} {d : mD} {S : Option (Nat × (Nat → Int))} {u : Nat × Nat} {Q : Option mV → mM → Prop} {pc : Nat} {lv : List (Nat × mV)} {st : List mV} {M : mM}
theorem r_new {kd idx : Nat} (hd : decode d.2.1 pc = .ok (.new idx, 3)) (hcl : Cond.classLink d.1.cls idx (mRx kd) ∈ mTb) (hins : Cond.instantiable (mRx kd) (mNx kd) ∈ mTb) (hini : Cond.initialized (mRx kd) ∈ mTb) (hk : kd < 7) (hsz : M.1.length + 1 < 1000) (hu1 : u.1 + 1 ≤ d.2.2.2.2.1) (hu2 : u.2 + mNx kd ≤ d.2.2.2.2.2)
    (kk : WP k d S (u.1 + 1, u.2 + mNx kd) Q (pc + 3) lv (.inr (some M.1.length) :: st) (mNew M kd (mNx kd))) : WP k d S u Q pc lv st M := by
  intro p l e R s m args below meth c D al0 n0 A QS C hS hret al H locs ls hag hn hW hst hlv hl
  have hx := C.1
  have hb := C.2.1
  have hts : ∀ w ∈ mTb, w.before args s = true := fun w hw => mB2 (C.2.2.2.2.2.1 w hw) hw
  have hown := C.2.2.2.2.1
  have hK := C.2.2.2.2.2.2.2.1
  have hA := C.2.2.2.2.2.2.2.2.2.1
  have hE := C.2.2.2.2.2.2.2.2.1
  obtain ⟨hP, hD, hVS, hok, hlen⟩ := hW
  have hR := C.2.2.2.2.2.2.2.2.2.2.2.2
  refine va_new (C := mRx kd) (T := mTx kd) (N := mNx kd) hx hb hts (mU hk) (mTy kd) (mTyOk hk) hown (hts _ hcl) (hts _ hins) (hts _ hini) hK hP hD hVS hA (mCl hk) (fs := (List.range (mNx kd)).map (fun j => if mRef kd j = true then .null else .int 0)) (fun j hj => ?_) (by omega) (by omega) hd (fun q H1 hP1 hD1 hS1 => ?_)
  · rw [mDef hk j hj]
    simp [vp_V, List.getD, hj]
  · have hW1 := mWld_new (kd := kd) (n := mNx kd) (q := q) hok hsz (by
      rw [mE_obj hk]
      congr 3
      funext j
      simp only [mFld, mNew, mClr, if_true]
      rfl) hP1 hD1 hS1
    have hc := mExtA_agr (al := al) (q := q) hlen
    have h9 := kk p l e R s m args below meth c D al0 n0 A QS C hS hret (mExtA al M.1.length q) H1 locs ls (mAgr_ext hag hn hlen) (by simp [mNew]; omega) hW1 (ok_push (v := .inr (some M.1.length)) (fun a ha => Or.inl (by cases ha; simp [mNew])) (fun v hv => okV_le (by simp [mNew]) (hst v hv))) (fun q hq => okV_le (by simp [mNew]) (hlv q hq)) (by rw [mLvs_congr hc hlv]; exact hl)
    have e9 : mSts (mExtA al M.1.length q) (.inr (some M.1.length) :: st) = .ref q :: mSts al st := by
      show mc_v _ _ :: mSts _ st = _
      rw [mSts_congr hc hst]
      simp [mc_v, mExtA, va_rf]
    rw [e9] at h9
    exact h9
theorem r_newI {n : Int} {N : Nat} (hd : decode d.2.1 pc = .ok (.newarray .int, 2)) (hw : Cond.arrayClass .int ∈ mTb) (hN : n = (N : Int)) (hN2 : N < 1000) (hsz : M.1.length + 1 < 1000) (hu1 : u.1 + 1 ≤ d.2.2.2.2.1) (hu2 : u.2 + N ≤ d.2.2.2.2.2)
    (kk : WP k d S (u.1 + 1, u.2 + N) Q (pc + 2) lv (.inr (some M.1.length) :: st) (mNew M 10 N)) : WP k d S u Q pc lv (.inl n :: st) M := by
  intro p l e R s m args below meth c D al0 n0 A QS C hS hret al H locs ls hag hn hW hst hlv hl
  have hx := C.1
  have hb := C.2.1
  have hts : ∀ w ∈ mTb, w.before args s = true := fun w hw => mB2 (C.2.2.2.2.2.1 w hw) hw
  have hown := C.2.2.2.2.1
  have hK := C.2.2.2.2.2.2.2.1
  have hA := C.2.2.2.2.2.2.2.2.2.1
  have hE := C.2.2.2.2.2.2.2.2.1
  obtain ⟨hP, hD, hVS, hok, hlen⟩ := hW
  have hR := C.2.2.2.2.2.2.2.2.2.2.2.2
  have hi : mI n := ok_hd hst
  have hst := ok_tl hst
  refine va_newa (atype := .int) hx hb (hts _ hw) (ty := .int) rfl hK hP hD hVS hA (a0 := (N, .inl (fun _ => 0))) (fun cA => rfl) (by intro h; have := (mI_lt hi mI_0).mp h; omega) (by rw [mI_nat hi, hN]; omega) (nb_int hN2) (by omega) (by omega) hd (fun q cA H1 hK1 hP1 hD1 hS1 => ?_)
  have hcA : cA = D.1 10 := mTy_arr (i := 0) hK rfl hK1
  subst hcA
  have hW1 := mWld_new (kd := 10) (n := N) (q := q) hok hsz (by
      rw [mE_int (by decide) (by decide)]
      simp only [mNew, mClr, if_true]
      rfl) hP1 hD1 hS1
  have hc := mExtA_agr (al := al) (q := q) hlen
  have h9 := kk p l e R s m args below meth c D al0 n0 A QS C hS hret (mExtA al M.1.length q) H1 locs ls (mAgr_ext hag hn hlen) (by simp [mNew]; omega) hW1 (ok_push (v := .inr (some M.1.length)) (fun a ha => Or.inl (by cases ha; simp [mNew])) (fun v hv => okV_le (by simp [mNew]) (hst v hv))) (fun q hq => okV_le (by simp [mNew]) (hlv q hq)) (by rw [mLvs_congr hc hlv]; exact hl)
  have e9 : mSts (mExtA al M.1.length q) (.inr (some M.1.length) :: st) = .ref q :: mSts al st := by
    show mc_v _ _ :: mSts _ st = _
    rw [mSts_congr hc hst]
    simp [mc_v, mExtA, va_rf]
  rw [e9] at h9
  exact h9
theorem r_newC {n : Int} {N : Nat} (hd : decode d.2.1 pc = .ok (.newarray .char, 2)) (hw : Cond.arrayClass .char ∈ mTb) (hN : n = (N : Int)) (hN2 : N < 1000) (hsz : M.1.length + 1 < 1000) (hu1 : u.1 + 1 ≤ d.2.2.2.2.1) (hu2 : u.2 + N ≤ d.2.2.2.2.2)
    (kk : WP k d S (u.1 + 1, u.2 + N) Q (pc + 2) lv (.inr (some M.1.length) :: st) (mNew M 11 N)) : WP k d S u Q pc lv (.inl n :: st) M := by
  intro p l e R s m args below meth c D al0 n0 A QS C hS hret al H locs ls hag hn hW hst hlv hl
  have hx := C.1
  have hb := C.2.1
  have hts : ∀ w ∈ mTb, w.before args s = true := fun w hw => mB2 (C.2.2.2.2.2.1 w hw) hw
  have hown := C.2.2.2.2.1
  have hK := C.2.2.2.2.2.2.2.1
  have hA := C.2.2.2.2.2.2.2.2.2.1
  have hE := C.2.2.2.2.2.2.2.2.1
  obtain ⟨hP, hD, hVS, hok, hlen⟩ := hW
  have hR := C.2.2.2.2.2.2.2.2.2.2.2.2
  have hi : mI n := ok_hd hst
  have hst := ok_tl hst
  refine va_newa (atype := .char) hx hb (hts _ hw) (ty := .char) rfl hK hP hD hVS hA (a0 := (N, .inl (fun _ => 0))) (fun cA => rfl) (by intro h; have := (mI_lt hi mI_0).mp h; omega) (by rw [mI_nat hi, hN]; omega) (nb_char hN2) (by omega) (by omega) hd (fun q cA H1 hK1 hP1 hD1 hS1 => ?_)
  have hcA : cA = D.1 11 := mTy_arr (i := 1) hK rfl hK1
  subst hcA
  have hW1 := mWld_new (kd := 11) (n := N) (q := q) hok hsz (by
      rw [mE_int (by decide) (by decide)]
      simp only [mNew, mClr, if_true]
      rfl) hP1 hD1 hS1
  have hc := mExtA_agr (al := al) (q := q) hlen
  have h9 := kk p l e R s m args below meth c D al0 n0 A QS C hS hret (mExtA al M.1.length q) H1 locs ls (mAgr_ext hag hn hlen) (by simp [mNew]; omega) hW1 (ok_push (v := .inr (some M.1.length)) (fun a ha => Or.inl (by cases ha; simp [mNew])) (fun v hv => okV_le (by simp [mNew]) (hst v hv))) (fun q hq => okV_le (by simp [mNew]) (hlv q hq)) (by rw [mLvs_congr hc hlv]; exact hl)
  have e9 : mSts (mExtA al M.1.length q) (.inr (some M.1.length) :: st) = .ref q :: mSts al st := by
    show mc_v _ _ :: mSts _ st = _
    rw [mSts_congr hc hst]
    simp [mc_v, mExtA, va_rf]
  rw [e9] at h9
  exact h9
theorem r_newN {n : Int} {N idx : Nat} (hd : decode d.2.1 pc = .ok (.anewarray idx, 3)) (hcl : Cond.classLink d.1.cls idx RX0 ∈ mTb) (hN : n = (N : Int)) (hN2 : N < 1000) (hsz : M.1.length + 1 < 1000) (hu1 : u.1 + 1 ≤ d.2.2.2.2.1) (hu2 : u.2 + N ≤ d.2.2.2.2.2)
    (kk : WP k d S (u.1 + 1, u.2 + N) Q (pc + 3) lv (.inr (some M.1.length) :: st) (mNew M 12 N)) : WP k d S u Q pc lv (.inl n :: st) M := by
  intro p l e R s m args below meth c D al0 n0 A QS C hS hret al H locs ls hag hn hW hst hlv hl
  have hx := C.1
  have hb := C.2.1
  have hts : ∀ w ∈ mTb, w.before args s = true := fun w hw => mB2 (C.2.2.2.2.2.1 w hw) hw
  have hown := C.2.2.2.2.1
  have hK := C.2.2.2.2.2.2.2.1
  have hA := C.2.2.2.2.2.2.2.2.2.1
  have hE := C.2.2.2.2.2.2.2.2.1
  obtain ⟨hP, hD, hVS, hok, hlen⟩ := hW
  have hR := C.2.2.2.2.2.2.2.2.2.2.2.2
  have hi : mI n := ok_hd hst
  have hst := ok_tl hst
  have hao : va_AO RX0 s := hE.2.2.2.2.2.1
  refine va_newq hx hb hown (hts _ hcl) hao hK hP hD hVS hA (by intro h; have := (mI_lt hi mI_0).mp h; omega) (N' := N) (by rw [mI_nat hi, hN]; omega) (by omega) (by omega) (by omega) hd (fun q cA H1 hK1 hP1 hD1 hS1 => ?_)
  have hcA : cA = D.1 12 := mTy_arr (i := 2) hK rfl hK1
  subst hcA
  have hW1 := mWld_new (kd := 12) (n := N) (q := q) hok hsz (by
      rw [mE_ref (by decide)]
      simp only [mNew, mClr, if_true]
      rfl) hP1 hD1 hS1
  have hc := mExtA_agr (al := al) (q := q) hlen
  have h9 := kk p l e R s m args below meth c D al0 n0 A QS C hS hret (mExtA al M.1.length q) H1 locs ls (mAgr_ext hag hn hlen) (by simp [mNew]; omega) hW1 (ok_push (v := .inr (some M.1.length)) (fun a ha => Or.inl (by cases ha; simp [mNew])) (fun v hv => okV_le (by simp [mNew]) (hst v hv))) (fun q hq => okV_le (by simp [mNew]) (hlv q hq)) (by rw [mLvs_congr hc hlv]; exact hl)
  have e9 : mSts (mExtA al M.1.length q) (.inr (some M.1.length) :: st) = .ref q :: mSts al st := by
    show mc_v _ _ :: mSts _ st = _
    rw [mSts_congr hc hst]
    simp [mc_v, mExtA, va_rf]
  rw [e9] at h9
  exact h9
theorem r_newR {n : Int} {N idx : Nat} (hd : decode d.2.1 pc = .ok (.anewarray idx, 3)) (hcl : Cond.classLink d.1.cls idx RX2 ∈ mTb) (hN : n = (N : Int)) (hN2 : N < 1000) (hsz : M.1.length + 1 < 1000) (hu1 : u.1 + 1 ≤ d.2.2.2.2.1) (hu2 : u.2 + N ≤ d.2.2.2.2.2)
    (kk : WP k d S (u.1 + 1, u.2 + N) Q (pc + 3) lv (.inr (some M.1.length) :: st) (mNew M 13 N)) : WP k d S u Q pc lv (.inl n :: st) M := by
  intro p l e R s m args below meth c D al0 n0 A QS C hS hret al H locs ls hag hn hW hst hlv hl
  have hx := C.1
  have hb := C.2.1
  have hts : ∀ w ∈ mTb, w.before args s = true := fun w hw => mB2 (C.2.2.2.2.2.1 w hw) hw
  have hown := C.2.2.2.2.1
  have hK := C.2.2.2.2.2.2.2.1
  have hA := C.2.2.2.2.2.2.2.2.2.1
  have hE := C.2.2.2.2.2.2.2.2.1
  obtain ⟨hP, hD, hVS, hok, hlen⟩ := hW
  have hR := C.2.2.2.2.2.2.2.2.2.2.2.2
  have hi : mI n := ok_hd hst
  have hst := ok_tl hst
  have hao : va_AO RX2 s := hE.2.2.2.2.2.2
  refine va_newq hx hb hown (hts _ hcl) hao hK hP hD hVS hA (by intro h; have := (mI_lt hi mI_0).mp h; omega) (N' := N) (by rw [mI_nat hi, hN]; omega) (by omega) (by omega) (by omega) hd (fun q cA H1 hK1 hP1 hD1 hS1 => ?_)
  have hcA : cA = D.1 13 := mTy_arr (i := 3) hK rfl hK1
  subst hcA
  have hW1 := mWld_new (kd := 13) (n := N) (q := q) hok hsz (by
      rw [mE_ref (by decide)]
      simp only [mNew, mClr, if_true]
      rfl) hP1 hD1 hS1
  have hc := mExtA_agr (al := al) (q := q) hlen
  have h9 := kk p l e R s m args below meth c D al0 n0 A QS C hS hret (mExtA al M.1.length q) H1 locs ls (mAgr_ext hag hn hlen) (by simp [mNew]; omega) hW1 (ok_push (v := .inr (some M.1.length)) (fun a ha => Or.inl (by cases ha; simp [mNew])) (fun v hv => okV_le (by simp [mNew]) (hst v hv))) (fun q hq => okV_le (by simp [mNew]) (hlv q hq)) (by rw [mLvs_congr hc hlv]; exact hl)
  have e9 : mSts (mExtA al M.1.length q) (.inr (some M.1.length) :: st) = .ref q :: mSts al st := by
    show mc_v _ _ :: mSts _ st = _
    rw [mSts_congr hc hst]
    simp [mc_v, mExtA, va_rf]
  rw [e9] at h9
  exact h9
theorem r_obj {a idx : Nat} (hd : decode d.2.1 pc = .ok (.invokespecial idx, 3)) (hl0 : Cond.methodLink d.1.cls idx objectInit ∈ mTb) (hin : Cond.instanceMethod objectInit ∈ mTb) (hcode : Cond.code objectInit ⟨#[0xb1]⟩ 1 none ∈ mTb) (hk1 : 1 ≤ k) (hr8 : st.length ≤ 8)
    (kk : WP k d S u Q (pc + 3) lv st M) : WP k d S u Q pc lv (.inr (some a) :: st) M := by
  intro p l e R s m args below meth c D al0 n0 A QS C hS hret al H locs ls hag hn hW hst hlv hl
  have hx := C.1
  have hb := C.2.1
  have hts : ∀ w ∈ mTb, w.before args s = true := fun w hw => mB2 (C.2.2.2.2.2.1 w hw) hw
  have hown := C.2.2.2.2.1
  have hK := C.2.2.2.2.2.2.2.1
  have hA := C.2.2.2.2.2.2.2.2.2.1
  have hE := C.2.2.2.2.2.2.2.2.1
  obtain ⟨hP, hD, hVS, hok, hlen⟩ := hW
  have hR := C.2.2.2.2.2.2.2.2.2.2
  have hst := ok_tl hst
  have hcat := mCat al st
  refine W.objInit hx hb hown (hts _ hl0) (hts _ hin) (hts _ hcode) rfl (hl.1.trans C.2.2.2.1.symm) rfl hd (by omega) (by show 2 * 0 + ((mSts al st).map fun v => v.category).sum + 12 ≤ _; rw [hcat]; omega) ?_
  exact kk p l e R s m args below meth c D al0 n0 A QS C hS hret al H locs ls hag hn ⟨hP, hD, hVS, hok, hlen⟩ hst hlv hl
theorem r_ldcS {i : Nat} (hd : decode d.2.1 pc = .ok (.ldc (sIdx.getD i 0), 2)) (hi : i < 9) (hc : d.1.cls = RX3)
    (kk : WP k d S u Q (pc + 2) lv (.inr (some (1000 + i)) :: st) M) : WP k d S u Q pc lv st M := by
  intro p l e R s m args below meth c D al0 n0 A QS C hS hret al H locs ls hag hn hW hst hlv hl
  have hx := C.1
  have hb := C.2.1
  have hts : ∀ w ∈ mTb, w.before args s = true := fun w hw => mB2 (C.2.2.2.2.2.1 w hw) hw
  have hown := C.2.2.2.2.1
  have hK := C.2.2.2.2.2.2.2.1
  have hA := C.2.2.2.2.2.2.2.2.2.1
  have hE := C.2.2.2.2.2.2.2.2.1
  obtain ⟨hP, hD, hVS, hok, hlen⟩ := hW
  rw [hc] at hown
  refine va_ldcS hx hb hown (hE.2.1 i hi) hd ?_
  have h9 := kk p l e R s m args below meth c D al0 n0 A QS C hS hret al H locs ls hag hn ⟨hP, hD, hVS, hok, hlen⟩ (ok_push (v := .inr (some (1000 + i))) (fun a ha => Or.inr (by cases ha; omega)) hst) hlv hl
  have e9 : al (1000 + i) = al0 (1000 + i) := hag _ (Or.inr (by omega))
  simp only [mSts, List.map, mc_v, Option.map, va_rf, e9] at h9
  exact h9
theorem r_sVal {i idx : Nat} (hd : decode d.2.1 pc = .ok (.getfield idx, 3)) (hi : i < 9) (hw : Cond.fieldLink d.1.cls idx "java/lang/String" "value" "[B" ∈ mTb)
    (kk : WP k d S u Q (pc + 3) lv (.inr (some (1100 + i)) :: st) M) : WP k d S u Q pc lv (.inr (some (1000 + i)) :: st) M := by
  intro p l e R s m args below meth c D al0 n0 A QS C hS hret al H locs ls hag hn hW hst hlv hl
  have hx := C.1
  have hb := C.2.1
  have hts : ∀ w ∈ mTb, w.before args s = true := fun w hw => mB2 (C.2.2.2.2.2.1 w hw) hw
  have hown := C.2.2.2.2.1
  have hK := C.2.2.2.2.2.2.2.1
  have hA := C.2.2.2.2.2.2.2.2.2.1
  have hE := C.2.2.2.2.2.2.2.2.1
  obtain ⟨hP, hD, hVS, hok, hlen⟩ := hW
  have hst := ok_tl hst
  have e8 : al (1000 + i) = al0 (1000 + i) := hag _ (Or.inr (by omega))
  have e9 : al (1100 + i) = al0 (1100 + i) := hag _ (Or.inr (by omega))
  show W p l e R s m args below meth c H locs u.1 u.2 QS (F0 m pc ls (.ref (al (1000 + i)) :: mSts al st))
  rw [e8]
  refine vk_getf hx hb (hE.2.2.1.1 i hi).2.2.1 hVS hown (hts _ hw) (fun x h => h) hd ?_
  have h9 := kk p l e R s m args below meth c D al0 n0 A QS C hS hret al H locs ls hag hn ⟨hP, hD, hVS, hok, hlen⟩ (ok_push (v := .inr (some (1100 + i))) (fun a ha => Or.inr (by cases ha; omega)) hst) hlv hl
  simp only [mSts, List.map, mc_v, Option.map, va_rf, e9] at h9
  exact h9
theorem r_sCod {i idx : Nat} (hd : decode d.2.1 pc = .ok (.getfield idx, 3)) (hi : i < 9) (hw : Cond.fieldLink d.1.cls idx "java/lang/String" "coder" "B" ∈ mTb)
    (kk : WP k d S u Q (pc + 3) lv (.inl 0 :: st) M) : WP k d S u Q pc lv (.inr (some (1000 + i)) :: st) M := by
  intro p l e R s m args below meth c D al0 n0 A QS C hS hret al H locs ls hag hn hW hst hlv hl
  have hx := C.1
  have hb := C.2.1
  have hts : ∀ w ∈ mTb, w.before args s = true := fun w hw => mB2 (C.2.2.2.2.2.1 w hw) hw
  have hown := C.2.2.2.2.1
  have hK := C.2.2.2.2.2.2.2.1
  have hA := C.2.2.2.2.2.2.2.2.2.1
  have hE := C.2.2.2.2.2.2.2.2.1
  obtain ⟨hP, hD, hVS, hok, hlen⟩ := hW
  have hst := ok_tl hst
  have e8 : al (1000 + i) = al0 (1000 + i) := hag _ (Or.inr (by omega))
  show W p l e R s m args below meth c H locs u.1 u.2 QS (F0 m pc ls (.ref (al (1000 + i)) :: mSts al st))
  rw [e8]
  refine vk_getf hx hb (hE.2.2.1.1 i hi).2.1 hVS hown (hts _ hw) (fun x h => h) hd ?_
  exact kk p l e R s m args below meth c D al0 n0 A QS C hS hret al H locs ls hag hn ⟨hP, hD, hVS, hok, hlen⟩ (ok_push (v := .inl 0) mI_0 hst) hlv hl
theorem r_sLen {i : Nat} (hd : decode d.2.1 pc = .ok (.arraylength, 1)) (hi : i < 9)
    (kk : WP k d S u Q (pc + 1) lv (.inl (sLen.getD i 0 : Nat) :: st) M) : WP k d S u Q pc lv (.inr (some (1100 + i)) :: st) M := by
  intro p l e R s m args below meth c D al0 n0 A QS C hS hret al H locs ls hag hn hW hst hlv hl
  have hx := C.1
  have hb := C.2.1
  have hts : ∀ w ∈ mTb, w.before args s = true := fun w hw => mB2 (C.2.2.2.2.2.1 w hw) hw
  have hown := C.2.2.2.2.1
  have hK := C.2.2.2.2.2.2.2.1
  have hA := C.2.2.2.2.2.2.2.2.2.1
  have hE := C.2.2.2.2.2.2.2.2.1
  obtain ⟨hP, hD, hVS, hok, hlen⟩ := hW
  have hst := ok_tl hst
  have e8 : al (1100 + i) = al0 (1100 + i) := hag _ (Or.inr (by omega))
  show W p l e R s m args below meth c H locs u.1 u.2 QS (F0 m pc ls (.ref (al (1100 + i)) :: mSts al st))
  rw [e8]
  refine va_tlen hx hb (hE.2.2.1.1 i hi).2.2.2 hVS (v := Int32.ofInt (sLen.getD i 0 : Nat)) (Int32.ofInt_eq_ofNat.symm) hd ?_
  exact kk p l e R s m args below meth c D al0 n0 A QS C hS hret al H locs ls hag hn ⟨hP, hD, hVS, hok, hlen⟩ (ok_push (v := .inl (sLen.getD i 0 : Nat)) (by have := sLen_le i hi; show mI _; unfold mI; omega) hst) hlv hl
theorem sByt_rng : ∀ i, i < 9 → ∀ j, j < sLen.getD i 0 → 0 ≤ ((sByt.getD i []).getD j 0).toInt ∧ ((sByt.getD i []).getD j 0).toInt < 128 := by decide +kernel
theorem r_sByt {i : Nat} {j : Int} (hd : decode d.2.1 pc = .ok (.baload, 1)) (hi : i < 9) (h0 : 0 ≤ j) (h1 : j < (sLen.getD i 0 : Nat))
    (kk : WP k d S u Q (pc + 1) lv (.inl ((sByt.getD i []).getD j.toNat 0).toInt :: st) M) : WP k d S u Q pc lv (.inl j :: .inr (some (1100 + i)) :: st) M := by
  intro p l e R s m args below meth c D al0 n0 A QS C hS hret al H locs ls hag hn hW hst hlv hl
  have hx := C.1
  have hb := C.2.1
  have hts : ∀ w ∈ mTb, w.before args s = true := fun w hw => mB2 (C.2.2.2.2.2.1 w hw) hw
  have hown := C.2.2.2.2.1
  have hK := C.2.2.2.2.2.2.2.1
  have hA := C.2.2.2.2.2.2.2.2.2.1
  have hE := C.2.2.2.2.2.2.2.2.1
  obtain ⟨hP, hD, hVS, hok, hlen⟩ := hW
  have hj : mI j := ok_hd hst
  have hst := ok_tl (ok_tl hst)
  have e8 : al (1100 + i) = al0 (1100 + i) := hag _ (Or.inr (by omega))
  show W p l e R s m args below meth c H locs u.1 u.2 QS (F0 m pc ls (.int (Int32.ofInt j) :: .ref (al (1100 + i)) :: mSts al st))
  rw [e8]
  refine va_tb hx hb (hE.2.2.1.1 i hi).2.2.2 hVS (mI_in hj h0 h1) (by rw [mI_nat hj]) hd ?_
  have h9 := kk p l e R s m args below meth c D al0 n0 A QS C hS hret al H locs ls hag hn ⟨hP, hD, hVS, hok, hlen⟩ (ok_push (v := .inl ((sByt.getD i []).getD j.toNat 0).toInt) (mI_of _) hst) hlv hl
  simp only [mSts, List.map, mc_v, mI_ofInt] at h9
  exact h9
theorem r_gsC {idx : Nat} (hd : decode d.2.1 pc = .ok (.getstatic idx, 3)) (hw : Cond.fieldLink d.1.cls idx "java/lang/String" "COMPACT_STRINGS" "Z" ∈ mTb)
    (kk : WP k d S u Q (pc + 3) lv (.inl 1 :: st) M) : WP k d S u Q pc lv st M := by
  intro p l e R s m args below meth c D al0 n0 A QS C hS hret al H locs ls hag hn hW hst hlv hl
  have hx := C.1
  have hb := C.2.1
  have hts : ∀ w ∈ mTb, w.before args s = true := fun w hw => mB2 (C.2.2.2.2.2.1 w hw) hw
  have hown := C.2.2.2.2.1
  have hK := C.2.2.2.2.2.2.2.1
  have hA := C.2.2.2.2.2.2.2.2.2.1
  have hE := C.2.2.2.2.2.2.2.2.1
  obtain ⟨hP, hD, hVS, hok, hlen⟩ := hW
  exact va_gets hx hb hE.2.2.2.1 hVS hown (hts _ hw) (fun x h => h) hd (kk p l e R s m args below meth c D al0 n0 A QS C hS hret al H locs ls hag hn ⟨hP, hD, hVS, hok, hlen⟩ (ok_push (v := .inl 1) (show mI 1 by unfold mI; decide) hst) hlv hl)
theorem r_gsF {idx : Nat} (hd : decode d.2.1 pc = .ok (.getstatic idx, 3)) (hw : Cond.fieldLink d.1.cls idx "jdk/internal/util/Preconditions" "SIOOBE_FORMATTER" "Ljava/util/function/BiFunction;" ∈ mTb)
    (kk : WP k d S u Q (pc + 3) lv (.inr (some 1200) :: st) M) : WP k d S u Q pc lv st M := by
  intro p l e R s m args below meth c D al0 n0 A QS C hS hret al H locs ls hag hn hW hst hlv hl
  have hx := C.1
  have hb := C.2.1
  have hts : ∀ w ∈ mTb, w.before args s = true := fun w hw => mB2 (C.2.2.2.2.2.1 w hw) hw
  have hown := C.2.2.2.2.1
  have hK := C.2.2.2.2.2.2.2.1
  have hA := C.2.2.2.2.2.2.2.2.2.1
  have hE := C.2.2.2.2.2.2.2.2.1
  obtain ⟨hP, hD, hVS, hok, hlen⟩ := hW
  refine va_gets hx hb hE.2.2.2.2.1 hVS hown (hts _ hw) (fun x h => h) hd ?_
  have h9 := kk p l e R s m args below meth c D al0 n0 A QS C hS hret al H locs ls hag hn ⟨hP, hD, hVS, hok, hlen⟩ (ok_push (v := .inr (some 1200)) (fun a ha => Or.inr (by cases ha; omega)) hst) hlv hl
  have e9 : al 1200 = al0 1200 := hag _ (Or.inr (by omega))
  simp only [mSts, List.map, mc_v, Option.map, va_rf, e9] at h9
  exact h9
theorem r_scrLen {L : Nat} {xs : Nat → Int} (hL : L < 2147483648) (hd : decode d.2.1 pc = .ok (.arraylength, 1))
    (kk : WP k d (some (L, xs)) u Q (pc + 1) lv (.inl (L : Int) :: st) M) : WP k d (some (L, xs)) u Q pc lv (.inr (some 2000) :: st) M := by
  intro p l e R s m args below meth c D al0 n0 A QS C hS hret al H locs ls hag hn hW hst hlv hl
  have hx := C.1
  have hb := C.2.1
  have hts : ∀ w ∈ mTb, w.before args s = true := fun w hw => mB2 (C.2.2.2.2.2.1 w hw) hw
  have hown := C.2.2.2.2.1
  have hK := C.2.2.2.2.2.2.2.1
  have hA := C.2.2.2.2.2.2.2.2.2.1
  have hE := C.2.2.2.2.2.2.2.2.1
  obtain ⟨hP, hD, hVS, hok, hlen⟩ := hW
  have hst := ok_tl hst
  have e8 : al 2000 = al0 2000 := hag _ (Or.inr (by omega))
  show W p l e R s m args below meth c H locs u.1 u.2 QS (F0 m pc ls (.ref (al 2000) :: mSts al st))
  rw [e8]
  refine va_slen hx hb hS.1 hS.2.1 hS.2.2.1 hVS hd ?_
  have h9 := kk p l e R s m args below meth c D al0 n0 A QS C hS hret al H locs ls hag hn ⟨hP, hD, hVS, hok, hlen⟩ (ok_push (v := .inl (L : Int)) (by show mI _; unfold mI; omega) hst) hlv hl
  simp only [mSts, List.map, mc_v, Int32.ofInt_eq_ofNat] at h9
  exact h9
theorem r_scrAt {L : Nat} {xs : Nat → Int} {i : Int} (hd : decode d.2.1 pc = .ok (.iaload, 1)) (h0 : 0 ≤ i) (h1 : i < (L : Int))
    (kk : WP k d (some (L, xs)) u Q (pc + 1) lv (.inl (xs i.toNat) :: st) M) : WP k d (some (L, xs)) u Q pc lv (.inl i :: .inr (some 2000) :: st) M := by
  intro p l e R s m args below meth c D al0 n0 A QS C hS hret al H locs ls hag hn hW hst hlv hl
  have hx := C.1
  have hb := C.2.1
  have hts : ∀ w ∈ mTb, w.before args s = true := fun w hw => mB2 (C.2.2.2.2.2.1 w hw) hw
  have hown := C.2.2.2.2.1
  have hK := C.2.2.2.2.2.2.2.1
  have hA := C.2.2.2.2.2.2.2.2.2.1
  have hE := C.2.2.2.2.2.2.2.2.1
  obtain ⟨hP, hD, hVS, hok, hlen⟩ := hW
  have hi : mI i := ok_hd hst
  have hst := ok_tl (ok_tl hst)
  have e8 : al 2000 = al0 2000 := hag _ (Or.inr (by omega))
  show W p l e R s m args below meth c H locs u.1 u.2 QS (F0 m pc ls (.int (Int32.ofInt i) :: .ref (al 2000) :: mSts al st))
  rw [e8]
  refine va_sld hx hb hS.1 hS.2.1 hS.2.2.1 hVS (mI_in hi h0 h1) hd ?_
  rw [mI_nat hi]
  exact kk p l e R s m args below meth c D al0 n0 A QS C hS hret al H locs ls hag hn ⟨hP, hD, hVS, hok, hlen⟩ (ok_push (v := .inl (xs i.toNat)) (hS.2.2.2 _) hst) hlv hl
theorem r_ret (hd : decode d.2.1 pc = .ok (.return_, 1)) (hr : d.2.2.2.1 = none) (hQ : Q none M) (hu1 : u.1 ≤ d.2.2.2.2.1) (hu2 : u.2 ≤ d.2.2.2.2.2) : WP k d S u Q pc lv [] M := by
  intro p l e R s m args below meth c D al0 n0 A QS C hS hret al H locs ls hag hn hW hst hlv hl
  have hx := C.1
  have hb := C.2.1
  have hts : ∀ w ∈ mTb, w.before args s = true := fun w hw => mB2 (C.2.2.2.2.2.1 w hw) hw
  have hown := C.2.2.2.2.1
  have hK := C.2.2.2.2.2.2.2.1
  have hA := C.2.2.2.2.2.2.2.2.2.1
  have hE := C.2.2.2.2.2.2.2.2.1
  obtain ⟨hP, hD, hVS, hok, hlen⟩ := hW
  exact hret none M al H locs u.1 u.2 ls pc hQ hag hn ⟨hP, hD, hVS, hok, hlen⟩ (fun v hv => by cases hv) hu1 hu2 ⟨hd, hr⟩
theorem r_iret {v : Int} (hd : decode d.2.1 pc = .ok (.ireturn, 1)) (hr : d.2.2.2.1 = some .int) (hQ : Q (some (.inl v)) M) (hu1 : u.1 ≤ d.2.2.2.2.1) (hu2 : u.2 ≤ d.2.2.2.2.2) : WP k d S u Q pc lv [.inl v] M := by
  intro p l e R s m args below meth c D al0 n0 A QS C hS hret al H locs ls hag hn hW hst hlv hl
  have hx := C.1
  have hb := C.2.1
  have hts : ∀ w ∈ mTb, w.before args s = true := fun w hw => mB2 (C.2.2.2.2.2.1 w hw) hw
  have hown := C.2.2.2.2.1
  have hK := C.2.2.2.2.2.2.2.1
  have hA := C.2.2.2.2.2.2.2.2.2.1
  have hE := C.2.2.2.2.2.2.2.2.1
  obtain ⟨hP, hD, hVS, hok, hlen⟩ := hW
  exact hret (some (.inl v)) M al H locs u.1 u.2 ls pc hQ hag hn ⟨hP, hD, hVS, hok, hlen⟩ (fun v hv => by cases hv; exact ok_hd hst) hu1 hu2 ⟨hd, _, hr, rfl⟩
theorem r_zret {v : Int} (hd : decode d.2.1 pc = .ok (.ireturn, 1)) (hr : d.2.2.2.1 = some .boolean) (hv : v = 0 ∨ v = 1) (hQ : Q (some (.inl v)) M) (hu1 : u.1 ≤ d.2.2.2.2.1) (hu2 : u.2 ≤ d.2.2.2.2.2) : WP k d S u Q pc lv [.inl v] M := by
  intro p l e R s m args below meth c D al0 n0 A QS C hS hret al H locs ls hag hn hW hst hlv hl
  have hx := C.1
  have hb := C.2.1
  have hts : ∀ w ∈ mTb, w.before args s = true := fun w hw => mB2 (C.2.2.2.2.2.1 w hw) hw
  have hown := C.2.2.2.2.1
  have hK := C.2.2.2.2.2.2.2.1
  have hA := C.2.2.2.2.2.2.2.2.2.1
  have hE := C.2.2.2.2.2.2.2.2.1
  obtain ⟨hP, hD, hVS, hok, hlen⟩ := hW
  exact hret (some (.inl v)) M al H locs u.1 u.2 ls pc hQ hag hn ⟨hP, hD, hVS, hok, hlen⟩ (fun v hv => by cases hv; exact ok_hd hst) hu1 hu2 ⟨hd, _, hr, by rcases hv with rfl | rfl <;> rfl⟩
theorem r_cret {v : Int} (hd : decode d.2.1 pc = .ok (.ireturn, 1)) (hr : d.2.2.2.1 = some .char) (hv : 0 ≤ v ∧ v < 65536) (hQ : Q (some (.inl v)) M) (hu1 : u.1 ≤ d.2.2.2.2.1) (hu2 : u.2 ≤ d.2.2.2.2.2) : WP k d S u Q pc lv [.inl v] M := by
  intro p l e R s m args below meth c D al0 n0 A QS C hS hret al H locs ls hag hn hW hst hlv hl
  have hx := C.1
  have hb := C.2.1
  have hts : ∀ w ∈ mTb, w.before args s = true := fun w hw => mB2 (C.2.2.2.2.2.1 w hw) hw
  have hown := C.2.2.2.2.1
  have hK := C.2.2.2.2.2.2.2.1
  have hA := C.2.2.2.2.2.2.2.2.2.1
  have hE := C.2.2.2.2.2.2.2.2.1
  obtain ⟨hP, hD, hVS, hok, hlen⟩ := hW
  exact hret (some (.inl v)) M al H locs u.1 u.2 ls pc hQ hag hn ⟨hP, hD, hVS, hok, hlen⟩ (fun v hv => by cases hv; exact ok_hd hst) hu1 hu2 ⟨hd, _, hr, congrArg Value.int (nar_char hv.1 hv.2)⟩
theorem r_bret0 (hd : decode d.2.1 pc = .ok (.ireturn, 1)) (hr : d.2.2.2.1 = some .byte) (hQ : Q (some (.inl 0)) M) (hu1 : u.1 ≤ d.2.2.2.2.1) (hu2 : u.2 ≤ d.2.2.2.2.2) : WP k d S u Q pc lv [.inl 0] M := by
  intro p l e R s m args below meth c D al0 n0 A QS C hS hret al H locs ls hag hn hW hst hlv hl
  have hx := C.1
  have hb := C.2.1
  have hts : ∀ w ∈ mTb, w.before args s = true := fun w hw => mB2 (C.2.2.2.2.2.1 w hw) hw
  have hown := C.2.2.2.2.1
  have hK := C.2.2.2.2.2.2.2.1
  have hA := C.2.2.2.2.2.2.2.2.2.1
  have hE := C.2.2.2.2.2.2.2.2.1
  obtain ⟨hP, hD, hVS, hok, hlen⟩ := hW
  exact hret (some (.inl 0)) M al H locs u.1 u.2 ls pc hQ hag hn ⟨hP, hD, hVS, hok, hlen⟩ (fun v hv => by cases hv; exact ok_hd hst) hu1 hu2 ⟨hd, _, hr, rfl⟩
theorem r_aret {r : Option Nat} {C : String} (hd : decode d.2.1 pc = .ok (.areturn, 1)) (hr : d.2.2.2.1 = some (.object C)) (hQ : Q (some (.inr r)) M) (hu1 : u.1 ≤ d.2.2.2.2.1) (hu2 : u.2 ≤ d.2.2.2.2.2) : WP k d S u Q pc lv [.inr r] M := by
  intro p l e R s m args below meth c D al0 n0 A QS C hS hret al H locs ls hag hn hW hst hlv hl
  have hx := C.1
  have hb := C.2.1
  have hts : ∀ w ∈ mTb, w.before args s = true := fun w hw => mB2 (C.2.2.2.2.2.1 w hw) hw
  have hown := C.2.2.2.2.1
  have hK := C.2.2.2.2.2.2.2.1
  have hA := C.2.2.2.2.2.2.2.2.2.1
  have hE := C.2.2.2.2.2.2.2.2.1
  obtain ⟨hP, hD, hVS, hok, hlen⟩ := hW
  exact hret (some (.inr r)) M al H locs u.1 u.2 ls pc hQ hag hn ⟨hP, hD, hVS, hok, hlen⟩ (fun v hv => by cases hv; exact ok_hd hst) hu1 hu2 ⟨hd, _, hr, Or.inl ⟨_, rfl⟩⟩
end ROWS3
end
section
/-! ===== calls: a method's WP is a contract of the machine; the rows of the calls ===== -/
def mQc (Q : Option mV → mM → Prop) (D : va_G) (al : Nat → Nat) (n0 : Nat) (A : Nat → Prop) : Array Value → State → Outcome → State → Prop := fun _ st o t =>
  (∃ (r : Option mV) (M' : mM) (al' : Nat → Nat), o = .returned (r.map (mc_v al')) ∧ Q r M' ∧ mAgr n0 al' al ∧ n0 ≤ M'.1.length ∧ mRO M'.1.length r ∧ okM M' ∧ M'.1.length < 1000 ∧ va_P D vwCl (mWs D al' M') t.heap ∧ va_D A (mWs D al' M')) ∧ va_F A st t
def mPc (D : va_G) (al : Nat → Nat) (M : mM) (as : List mV) (sz : Nat) : Array Value → State → Prop := va_Pc (mSts al as) (fun U => U.heap.size = sz ∧ va_P D vwCl (mWs D al M) U.heap ∧ va_K D vwCl (mTys D) U ∧ va_D (fun _ => True) (mWs D al M) ∧ mExt al (va_A (mWs D al M) sz) U U.heap ∧ okM M ∧ M.1.length < 1000 ∧ ∀ v ∈ as, okV M.1.length v)
def mAr : Nat → List mV → List (Nat × mV)
  | _, [] => []
  | i, v :: t => (i, v) :: mAr (i + 1) t
theorem mAr_eq (al : Nat → Nat) (as : List mV) : ∀ i, lv_args i (mSts al as) = mLvs al (mAr i as) := by
  induction as with
  | nil => intro i; rfl
  | cons v t ih =>
    intro i
    show (i, mc_v al v) :: lv_args (if (mc_v al v).category = 2 then i + 2 else i + 1) (mSts al t) = (i, mc_v al v) :: mLvs al (mAr (i + 1) t)
    rw [mc_cat, if_neg (by decide), ih]
theorem mAr_ok {n : Nat} {as : List mV} (h : ∀ v ∈ as, okV n v) : ∀ i, ∀ q ∈ mAr i as, okV n q.2 := by
  induction as with
  | nil => intro i q hq; cases hq
  | cons v t ih =>
    intro i q hq
    rcases List.mem_cons.mp hq with rfl | hq
    · exact h v List.mem_cons_self
    · exact ih (fun x hx => h x (List.mem_cons_of_mem _ hx)) (i + 1) q hq
theorem mSl_len (al : Nat → Nat) (as : List mV) : (lg_sl (mSts al as)).length = as.length := by
  induction as with
  | nil => rfl
  | cons v t ih =>
    show (List.flatMap _ (mc_v al v :: mSts al t)).length = _
    rw [List.flatMap_cons, List.length_append]
    have h1 := mc_cat al v
    simp only [h1]
    simp only [lg_sl] at ih
    simp [ih]; omega
/-- a method: what the calls ask of it -/
def mOk (d : mD) (np : Nat) : Prop := plainFor d.1 = true ∧ Cond.code d.1 d.2.1 d.2.2.1 d.2.2.2.1 ∈ mTb ∧ Cond.initialized d.1.cls ∈ mTb ∧ (d.1.cls ≠ "java/lang/invoke/MethodHandle" ∧ d.1.cls ≠ "java/lang/invoke/VarHandle" ∧ (parseMethodDescriptor d.1.desc).map (fun q => q.parameters.length) = some np) ∧ d.2.2.1 ≤ 21
theorem mCtr {l : Launch} {k : Nat} {d : mD} {np : Nat} {Q : Option mV → mM → Prop} {as : List mV} {M : mM} (ho : mOk d np) (hlen : as.length ≤ d.2.2.1) (hF : WP k d none (0, 0) Q 0 (mAr 0 as) [] M) (D : va_G) (al : Nat → Nat) (sz : Nat) :
    Met l d.1 (mWd d) (mRm k d) (mPc D al M as sz) (mQc Q D al M.1.length (va_A (mWs D al M) sz)) d.2.2.2.2.1 d.2.2.2.2.2 (va_A (mWs D al M) sz) := by
  refine va_MetF (cc := d.2.1) (maxL := d.2.2.1) (ret := d.2.2.2.1) ho.1 rfl ?_
  intro p e s m args below meth c s₁ B hml hv
  obtain ⟨rfl, hsz, hP, hK, hD0, hE, hok, hln, hav⟩ := hv
  have hts := atoms_spec (ws := mWd d) B.pre
  have hown : s.vm.findClass d.1.cls = some m.cls := findClass_of_methodNamed B.named
  have hnm : meth.name = d.1.name := (name_of_methodNamed B.named B.method).1
  subst hsz
  have hD : va_D (va_A (mWs D al M) s.heap.size) (mWs D al M) := hD0.self
  rw [lg_entry_eq]
  have hl := lv_entry (mSts al as) (n := d.2.2.1) (by rw [mSl_len]; exact hlen)
  rw [mAr_eq] at hl
  generalize (lg_sl (mSts al as) ++ List.replicate (d.2.2.1 - (lg_sl (mSts al as)).length) Slot.unset).toArray = ls at hl ⊢
  refine hF p l e (mRm k d) s m (mSts al as).toArray below meth c D al M.1.length (va_A (mWs D al M) s.heap.size) _ ⟨B.exec, B.bytes, B.returns, hml, hown, fun w hw => mB2 (hts w (List.mem_cons_of_mem _ hw)) hw, hnm, hK, hE, fun q hq => Or.inr hq, Nat.le_refl _, Nat.le_refl _, Nat.le_refl _, Nat.le_refl _⟩ trivial ?_ al s.heap [] ls (fun a _ => rfl) (Nat.le_refl _) ⟨hP, hD, va_S.rf, hok, hln⟩ (fun v hv => by cases hv) (mAr_ok hav 0) hl
  intro r M' al' H' locs' u1 u2 ls' pc' hQ hag' hn' hW' hro hu1 hu2 hrt
  refine W.widen hu1 hu2 ?_
  obtain ⟨hP', hD', hS', hok', hln'⟩ := hW'
  have hfin : ∀ t : State, t.heap = H' → mQc Q D al M.1.length (va_A (mWs D al M) s.heap.size) (mSts al as).toArray s (.returned (r.map (mc_v al'))) t := fun t ht => ⟨⟨r, M', al', rfl, hQ, hag', hn', hro, hok', hln', by rw [ht]; exact hP', hD'⟩, hS'.F ht⟩
  cases r with
  | none => exact W.vret B.exec B.bytes (B.returns.trans hrt.2) (fun t ht _ => hfin t ht) hS'.2.2 hrt.1 B.notSynchronized
  | some v =>
    cases v with
    | inl x =>
      obtain ⟨h1, ty, h2, h3⟩ := hrt
      exact W.zret B.exec B.bytes (B.returns.trans h2) h3 (fun t ht _ => hfin t ht) hS'.2.2 h1 B.notSynchronized
    | inr x =>
      obtain ⟨h1, ty, h2, h3⟩ := hrt
      exact W.aret B.exec B.bytes (B.returns.trans h2) h3 (by cases x <;> first | exact Or.inl rfl | exact Or.inr ⟨_, rfl⟩) (fun t ht _ => hfin t ht) hS'.2.2 h1 B.notSynchronized
theorem mPc_blind {D : va_G} {al : Nat → Nat} {M : mM} {as : List mV} {sz : Nat} : FrameBlind (mPc D al M as sz) := by
  intro a U g mk q
  obtain ⟨h1, h2, h3, h4, h5, h6, h7⟩ := q
  exact ⟨h1, h2, h3, va_K.moved (u := U) (U := U.calling g mk a) (Vm.Alike.refl U.vm) h4, h5, h6.same (U := U.calling g mk a) rfl, h7⟩
theorem good_mTb {L : List Cond} (h : ∀ w ∈ L, w ∈ mTb) : GoodIn mTb L := fun w hw => ⟨h w hw, good_of_word (List.mem_filter.mp (h w hw)).2⟩
theorem mWd_in {d : mD} {np : Nat} (ho : mOk d np) : ∀ w ∈ mWd d, w ∈ mTb := fun w hw => by
  rcases List.mem_cons.mp hw with rfl | h
  · exact ho.2.1
  · exact h
section GOON
variable {p : Program} {l : Launch} {e : Env} {R : Room} {s : State} {m : MethodId} {args : Array Value} {below : List Frame} {meth : Method} {c : Code} {H : Heap} {locs : List Loc} {cells slots mc ms pc : Nat} {ls : Array Slot} {Q : State → Prop} {st0 rest : List Value} {Qa : State → Outcome → State → Prop} {free : Addr → Prop}
theorem va_goOn (hr : va_Run p l e R s m args below meth c H locs cells slots mc ms (F0 m pc ls st0) rest Qa free)
    (kk : ∀ (v : Option Value) (st₀ t : State) (H1 : Heap) (L : List Loc), st₀.heap = H → t.heap = H1 → (∀ q ∈ L, free q.base) → Qa st₀ (.returned v) t → W p l e R s m args below meth c H1 (locs ++ L) (cells + mc) (slots + ms) Q (F0 m (pc + 3) ls (v.toList ++ rest))) : W p l e R s m args below meth c H locs cells slots Q (F0 m pc ls st0) := by
  intro T hT X
  obtain ⟨v, st₀, t, T', L, h0, X', hL, e1, e2, hq, st⟩ := hr T hT X
  obtain ⟨t2, a1, b1⟩ := kk v st₀ t T'.heap L h0 e1.symm hL hq T' rfl X'
  exact ⟨t2, st t2 a1, b1⟩
end GOON
section CALLS
variable {k : Nat} {d dj : mD} {S : Option (Nat × (Nat → Int))} {u : Nat × Nat} {Q Q' : Option mV → mM → Prop} {pc : Nat} {lv : List (Nat × mV)} {st as : List mV} {M : mM}
/-- behind any call: the machine stands where the callee's WP says -/
theorem mBack {p : Program} {l : Launch} {e : Env} {R : Room} {s : State} {m : MethodId} {args : Array Value} {below : List Frame} {meth : Method} {c : Code} {D : va_G} {al0 al : Nat → Nat} {n0 : Nat} {A : Nat → Prop} {QS : State → Prop} {H : Heap} {locs : List Loc} {ls : Array Slot} {st0 : List Value} {a : Array Value}
    (C : mCx (k + 1) d p R s m meth c D al0 A) (hS : mScr S al0 s A)
    (hret : ∀ (r : Option mV) (M' : mM) (al' : Nat → Nat) (H' : Heap) (locs' : List Loc) (u1 u2 : Nat) (ls' : Array Slot) (pc' : Nat), Q r M' → mAgr n0 al' al0 → n0 ≤ M'.1.length → mWld D al' M' A s.heap H' locs' → mRO M'.1.length r → u1 ≤ d.2.2.2.2.1 → u2 ≤ d.2.2.2.2.2 → mRt d pc' r → W p l e R s m args below meth c H' locs' u1 u2 QS (F0 m pc' ls' (mSts al' r.toList)))
    (hag : mAgr n0 al al0) (hn : n0 ≤ M.1.length) (hW : mWld D al M A s.heap H locs) (hst : ∀ v ∈ st, okV M.1.length v) (hlv : ∀ q ∈ lv, okV M.1.length q.2) (hl : lv_has ls d.2.2.1 (mLvs al lv))
    (kk : ∀ r M', Q' r M' → WP (k + 1) d S (u.1 + dj.2.2.2.2.1, u.2 + dj.2.2.2.2.2) Q (pc + 3) lv (r.toList ++ st) M')
    (hr : va_Run p l e R s m args below meth c H locs u.1 u.2 dj.2.2.2.2.1 dj.2.2.2.2.2 (F0 m pc ls st0) (mSts al st) (mQc Q' D al M.1.length (va_A (mWs D al M) H.size) a) (va_A (mWs D al M) H.size)) :
    W p l e R s m args below meth c H locs u.1 u.2 QS (F0 m pc ls st0) := by
  obtain ⟨hP, hD, hVS, hok, hlen⟩ := hW
  have hA := C.2.2.2.2.2.2.2.2.2.1
  have hsub : ∀ q, va_A (mWs D al M) H.size q → A q := fun q hq => by
    rcases hq with ⟨i, e, hi⟩ | hq
    · exact hD.2 i (q, e) hi
    · exact hA q (Nat.le_trans hVS.1 hq)
  refine va_goOn hr (fun v st₀ t H1 L h0 ht hL hq => ?_)
  obtain ⟨⟨r, M', al', ho, hQ, hag', hn', hro, hok', hlen', hP', hD'⟩, hF1, hF2⟩ := hq
  rw [h0] at hF1 hF2
  rw [ht] at hP' hF1 hF2
  have hv : v = r.map (mc_v al') := by
    have h1 : Outcome.returned v = Outcome.returned (r.map (mc_v al')) := ho
    injection h1
  subst hv
  have h9 := kk r M' hQ p l e R s m args below meth c D al0 n0 A QS C hS hret al' H1 (locs ++ L) ls (fun a ha => by rw [hag' a (by omega)]; exact hag a ha) (by omega) ⟨hP', hD'.weaken (fun i q _ h => hsub _ h), ⟨Nat.le_trans hVS.1 hF1, fun q h1 h2 => by rw [hF2 q (Nat.lt_of_lt_of_le h1 hVS.1) (fun z => h2 (hsub q z))]; exact hVS.2.1 q h1 h2, fun q hq => by
      rcases List.mem_append.mp hq with h | h
      · exact hVS.2.2 q h
      · exact hsub _ (hL q h)⟩, hok', hlen'⟩ (fun x hx => by
      rcases List.mem_append.mp hx with h | h
      · cases r with
        | none => cases h
        | some y =>
          have : x = y := by simpa using h
          subst this
          exact hro _ rfl
      · exact okV_le hn' (hst x h)) (fun q hq => okV_le hn' (hlv q hq)) (by rw [mLvs_congr hag' hlv]; exact hl)
  have e9 : mSts al' (r.toList ++ st) = (r.map (mc_v al')).toList ++ mSts al st := by
    unfold mSts
    rw [List.map_append]
    congr 1
    · cases r <;> rfl
    · exact mSts_congr hag' hst
  rw [e9] at h9
  exact h9
/-- what the callee finds -/
theorem mFind {D : va_G} {al0 al : Nat → Nat} {n0 : Nat} {A : Nat → Prop} {p : Program} {R : Room} {s : State} {m : MethodId} {meth : Method} {c : Code} {H : Heap} {locs : List Loc} (C : mCx (k + 1) d p R s m meth c D al0 A) (hag : mAgr n0 al al0) (hW : mWld D al M A s.heap H locs) (has : ∀ v ∈ as, okV M.1.length v) :
    ∀ U : State, U.heap = H → s.WarmedH U.vm → mPc D al M as H.size (mSts al as).toArray U := by
  intro U hU hWm
  obtain ⟨hP, hD, hVS, hok, hlen⟩ := hW
  have hA := C.2.2.2.2.2.2.2.2.2.1
  have hsub : ∀ q, va_A (mWs D al M) H.size q → A q := fun q hq => by
    rcases hq with ⟨i, e, hi⟩ | hq
    · exact hD.2 i (q, e) hi
    · exact hA q (Nat.le_trans hVS.1 hq)
  refine ⟨rfl, by rw [hU], by rw [hU]; exact hP, va_K.moved hWm.alike C.2.2.2.2.2.2.2.1, hD.weaken (fun _ _ _ _ => trivial), ?_, hok, hlen, has⟩
  rw [hU]
  exact (((C.2.2.2.2.2.2.2.2.1.agr (fun a ha => hag a (Or.inr ha))).warm hWm).kept (H1 := H) (fun a h1 h2 => hVS.2.1 a h1 h2)).narrow hsub
theorem mStk (al : Nat → Nat) (as st : List mV) (v : mV) : mSts al (as.reverse ++ v :: st) = (mSts al as).reverse ++ mc_v al v :: mSts al st := by simp [mSts]
theorem mStk2 (al : Nat → Nat) (as st : List mV) : mSts al (as.reverse ++ st) = (mSts al as).reverse ++ mSts al st := by simp [mSts]
theorem r_invV {idx : Nat} {a kd : Nat} (hd : decode d.2.1 pc = .ok (.invokevirtual idx, 3)) (hl0 : Cond.methodLink d.1.cls idx dj.1 ∈ mTb) (hin : Cond.instanceMethod dj.1 ∈ mTb) (hsel : Cond.selects (mRx kd) dj.1 dj.1 ∈ mTb) (hcls : dj.1.cls = mRx kd) (ha : M.1[a]? = some (kd, mNx kd)) (hk : kd < 7) (ho : mOk dj as.length) (hml : as.length + 1 ≤ dj.2.2.1) (hr8 : st.length ≤ 8) (hu1 : u.1 + dj.2.2.2.2.1 ≤ d.2.2.2.2.1) (hu2 : u.2 + dj.2.2.2.2.2 ≤ d.2.2.2.2.2)
    (hF : WP k dj none (0, 0) Q' 0 (mAr 0 (.inr (some a) :: as)) [] M)
    (kk : ∀ r M', Q' r M' → WP (k + 1) d S (u.1 + dj.2.2.2.2.1, u.2 + dj.2.2.2.2.2) Q (pc + 3) lv (r.toList ++ st) M') : WP (k + 1) d S u Q pc lv (as.reverse ++ .inr (some a) :: st) M := by
  intro p l e R s m args below meth c D al0 n0 A QS C hS hret al H locs ls hag hn hW hst hlv hl
  have hx := C.1
  have hb := C.2.1
  have hts : ∀ w ∈ mTb, w.before args s = true := fun w hw => mB2 (C.2.2.2.2.2.1 w hw) hw
  have hown := C.2.2.2.2.1
  have hK := C.2.2.2.2.2.2.2.1
  have hA := C.2.2.2.2.2.2.2.2.2.1
  have hE := C.2.2.2.2.2.2.2.2.1
  have hR := C.2.2.2.2.2.2.2.2.2.2
  have has : ∀ v ∈ (.inr (some a) :: as), okV M.1.length v := fun v hv => hst v (by simp at hv ⊢; rcases hv with h | h <;> simp [h])
  have hst' : ∀ v ∈ st, okV M.1.length v := fun v hv => hst v (by simp [hv])
  have hMet := mCtr (l := l) ho (by simp; omega) hF D al H.size
  refine mBack (a := (mSts al (.inr (some a) :: as)).toArray) C hS hret hag hn hW hst' hlv hl kk ?_
  have hfind := mFind C hag hW has
  have hroom : (mRm k dj).frames + 1 ≤ R.frames ∧ 8 + (dj.2.2.1 + 11) + (mRm k dj).locals ≤ R.locals := by
    have h1 := hR.1
    have h2 := hR.2.1
    have h3 := ho.2.2.2.2
    exact ⟨h1, by show 8 + (dj.2.2.1 + 11) + 40 * k ≤ _; omega⟩
  have hcat : 2 * (F0 m pc ls (mSts al (as.reverse ++ .inr (some a) :: st))).monitorRoom + ((mSts al st).map fun v => v.category).sum ≤ 8 := by
    rw [mCat]
    show 2 * 0 + _ ≤ 8
    omega
  have hrec : ∃ cellB : Cell, H[al a]? = some cellB ∧ cellB.vm.isStatics = false ∧ s.vm.findClass (mRx kd) = some cellB.cls := by
    have he := mWs_get (D := D) (al := al) ha
    rw [mE_obj hk] at he
    exact va_recv hK hW.1 (mCl hk) he
  exact va_runV (C := mRx kd) (b := al a) (As := mSts al as) (rest := mSts al st) ⟨hx, hb, C.2.2.2.1, hown, hts⟩ hMet ⟨callB_of as.length hts (good_mTb (mWd_in ho)) rfl rfl rfl (hts _ ho.2.2.1) (hts _ hl0) ho.2.2.2.1 hroom, hts _ hin, hts _ hsel⟩ ⟨mPc_blind, hrec, fun U hU hWm => hfind U hU hWm⟩ rfl (by simp [mSts]) hl.1 (mStk al as st _) hcat hd ⟨by have := hR.2.2.1; omega, by have := hR.2.2.2; omega⟩
theorem r_invT {idx : Nat} {i : Nat} (hd : decode d.2.1 pc = .ok (.invokevirtual idx, 3)) (hl0 : Cond.methodLink d.1.cls idx dj.1 ∈ mTb) (hin : Cond.instanceMethod dj.1 ∈ mTb) (hsel : Cond.selects "java/lang/String" dj.1 dj.1 ∈ mTb) (hcls : dj.1.cls = "java/lang/String") (hi : i < 9) (ho : mOk dj as.length) (hml : as.length + 1 ≤ dj.2.2.1) (hr8 : st.length ≤ 8) (hu1 : u.1 + dj.2.2.2.2.1 ≤ d.2.2.2.2.1) (hu2 : u.2 + dj.2.2.2.2.2 ≤ d.2.2.2.2.2)
    (hF : WP k dj none (0, 0) Q' 0 (mAr 0 (.inr (some (1000 + i)) :: as)) [] M)
    (kk : ∀ r M', Q' r M' → WP (k + 1) d S (u.1 + dj.2.2.2.2.1, u.2 + dj.2.2.2.2.2) Q (pc + 3) lv (r.toList ++ st) M') : WP (k + 1) d S u Q pc lv (as.reverse ++ .inr (some (1000 + i)) :: st) M := by
  intro p l e R s m args below meth c D al0 n0 A QS C hS hret al H locs ls hag hn hW hst hlv hl
  have hx := C.1
  have hb := C.2.1
  have hts : ∀ w ∈ mTb, w.before args s = true := fun w hw => mB2 (C.2.2.2.2.2.1 w hw) hw
  have hown := C.2.2.2.2.1
  have hK := C.2.2.2.2.2.2.2.1
  have hA := C.2.2.2.2.2.2.2.2.2.1
  have hE := C.2.2.2.2.2.2.2.2.1
  have hR := C.2.2.2.2.2.2.2.2.2.2
  have has : ∀ v ∈ (.inr (some (1000 + i)) :: as), okV M.1.length v := fun v hv => hst v (by simp at hv ⊢; rcases hv with h | h <;> simp [h])
  have hst' : ∀ v ∈ st, okV M.1.length v := fun v hv => hst v (by simp [hv])
  have hMet := mCtr (l := l) ho (by simp; omega) hF D al H.size
  refine mBack (a := (mSts al (.inr (some (1000 + i)) :: as)).toArray) C hS hret hag hn hW hst' hlv hl kk ?_
  have hfind := mFind C hag hW has
  have hroom : (mRm k dj).frames + 1 ≤ R.frames ∧ 8 + (dj.2.2.1 + 11) + (mRm k dj).locals ≤ R.locals := by
    have h1 := hR.1
    have h2 := hR.2.1
    have h3 := ho.2.2.2.2
    exact ⟨h1, by show 8 + (dj.2.2.1 + 11) + 40 * k ≤ _; omega⟩
  have hcat : 2 * (F0 m pc ls (mSts al (as.reverse ++ .inr (some (1000 + i)) :: st))).monitorRoom + ((mSts al st).map fun v => v.category).sum ≤ 8 := by
    rw [mCat]
    show 2 * 0 + _ ≤ 8
    omega
  have e8 : al (1000 + i) = al0 (1000 + i) := hag _ (Or.inr (by omega))
  have hrec : ∃ cellB : Cell, H[al (1000 + i)]? = some cellB ∧ cellB.vm.isStatics = false ∧ s.vm.findClass "java/lang/String" = some cellB.cls := by
    rw [e8]
    exact vk_recv (adK := fun i => al0 (1000 + i)) hE.2.2.1 hi hW.2.2.1
  exact va_runV (C := "java/lang/String") (b := al (1000 + i)) (As := mSts al as) (rest := mSts al st) ⟨hx, hb, C.2.2.2.1, hown, hts⟩ hMet ⟨callB_of as.length hts (good_mTb (mWd_in ho)) rfl rfl rfl (hts _ ho.2.2.1) (hts _ hl0) ho.2.2.2.1 hroom, hts _ hin, hts _ hsel⟩ ⟨mPc_blind, hrec, fun U hU hWm => hfind U hU hWm⟩ rfl (by simp [mSts]) hl.1 (mStk al as st _) hcat hd ⟨by have := hR.2.2.1; omega, by have := hR.2.2.2; omega⟩
theorem r_invS {idx : Nat} (hd : decode d.2.1 pc = .ok (.invokestatic idx, 3)) (hl0 : Cond.methodLink d.1.cls idx dj.1 ∈ mTb) (hsta : Cond.static dj.1 ∈ mTb) (ho : mOk dj as.length) (hml : as.length ≤ dj.2.2.1) (hr8 : st.length ≤ 8) (hu1 : u.1 + dj.2.2.2.2.1 ≤ d.2.2.2.2.1) (hu2 : u.2 + dj.2.2.2.2.2 ≤ d.2.2.2.2.2)
    (hF : WP k dj none (0, 0) Q' 0 (mAr 0 as) [] M)
    (kk : ∀ r M', Q' r M' → WP (k + 1) d S (u.1 + dj.2.2.2.2.1, u.2 + dj.2.2.2.2.2) Q (pc + 3) lv (r.toList ++ st) M') : WP (k + 1) d S u Q pc lv (as.reverse ++ st) M := by
  intro p l e R s m args below meth c D al0 n0 A QS C hS hret al H locs ls hag hn hW hst hlv hl
  have hx := C.1
  have hb := C.2.1
  have hts : ∀ w ∈ mTb, w.before args s = true := fun w hw => mB2 (C.2.2.2.2.2.1 w hw) hw
  have hown := C.2.2.2.2.1
  have hK := C.2.2.2.2.2.2.2.1
  have hA := C.2.2.2.2.2.2.2.2.2.1
  have hE := C.2.2.2.2.2.2.2.2.1
  have hR := C.2.2.2.2.2.2.2.2.2.2
  have has : ∀ v ∈ as, okV M.1.length v := fun v hv => hst v (by simp; exact Or.inl hv)
  have hst' : ∀ v ∈ st, okV M.1.length v := fun v hv => hst v (by simp [hv])
  have hMet := mCtr (l := l) ho (by exact hml) hF D al H.size
  refine mBack (a := (mSts al as).toArray) C hS hret hag hn hW hst' hlv hl kk ?_
  have hfind := mFind C hag hW has
  have hroom : (mRm k dj).frames + 1 ≤ R.frames ∧ 8 + (dj.2.2.1 + 11) + (mRm k dj).locals ≤ R.locals := by
    have h1 := hR.1
    have h2 := hR.2.1
    have h3 := ho.2.2.2.2
    exact ⟨h1, by show 8 + (dj.2.2.1 + 11) + 40 * k ≤ _; omega⟩
  have hcat : 2 * (F0 m pc ls (mSts al (as.reverse ++ st))).monitorRoom + ((mSts al st).map fun v => v.category).sum ≤ 8 := by
    rw [mCat]
    show 2 * 0 + _ ≤ 8
    omega
  exact va_runS (As := mSts al as) (rest := mSts al st) ⟨hx, hb, C.2.2.2.1, hown, hts⟩ hMet ⟨callB_of as.length hts (good_mTb (mWd_in ho)) rfl rfl rfl (hts _ ho.2.2.1) (hts _ hl0) ho.2.2.2.1 hroom, hts _ hsta⟩ ⟨mPc_blind, fun U hU hWm => hfind U hU hWm⟩ rfl (by simp [mSts]) hl.1 (mStk2 al as st) hcat hd ⟨by have := hR.2.2.1; omega, by have := hR.2.2.2; omega⟩
theorem r_invSN {idx : Nat} (hd : decode d.2.1 pc = .ok (.invokestatic idx, 3)) (hl0 : (d.1.cls, idx, dj.1, RX5) ∈ mNest) (hsta : Cond.static dj.1 ∈ mTb) (ho : mOk dj as.length) (hml : as.length ≤ dj.2.2.1) (hr8 : st.length ≤ 8) (hu1 : u.1 + dj.2.2.2.2.1 ≤ d.2.2.2.2.1) (hu2 : u.2 + dj.2.2.2.2.2 ≤ d.2.2.2.2.2)
    (hF : WP k dj none (0, 0) Q' 0 (mAr 0 as) [] M)
    (kk : ∀ r M', Q' r M' → WP (k + 1) d S (u.1 + dj.2.2.2.2.1, u.2 + dj.2.2.2.2.2) Q (pc + 3) lv (r.toList ++ st) M') : WP (k + 1) d S u Q pc lv (as.reverse ++ st) M := by
  intro p l e R s m args below meth c D al0 n0 A QS C hS hret al H locs ls hag hn hW hst hlv hl
  have hx := C.1
  have hb := C.2.1
  have hts : ∀ w ∈ mTb, w.before args s = true := fun w hw => mB2 (C.2.2.2.2.2.1 w hw) hw
  have hown := C.2.2.2.2.1
  have hK := C.2.2.2.2.2.2.2.1
  have hA := C.2.2.2.2.2.2.2.2.2.1
  have hE := C.2.2.2.2.2.2.2.2.1
  have hR := C.2.2.2.2.2.2.2.2.2.2
  have has : ∀ v ∈ as, okV M.1.length v := fun v hv => hst v (by simp; exact Or.inl hv)
  have hst' : ∀ v ∈ st, okV M.1.length v := fun v hv => hst v (by simp [hv])
  have hMet := mCtr (l := l) ho (by exact hml) hF D al H.size
  refine mBack (a := (mSts al as).toArray) C hS hret hag hn hW hst' hlv hl kk ?_
  have hfind := mFind C hag hW has
  have hroom : (mRm k dj).frames + 1 ≤ R.frames ∧ 8 + (dj.2.2.1 + 11) + (mRm k dj).locals ≤ R.locals := by
    have h1 := hR.1
    have h2 := hR.2.1
    have h3 := ho.2.2.2.2
    exact ⟨h1, by show 8 + (dj.2.2.1 + 11) + 40 * k ≤ _; omega⟩
  have hcat : 2 * (F0 m pc ls (mSts al (as.reverse ++ st))).monitorRoom + ((mSts al st).map fun v => v.category).sum ≤ 8 := by
    rw [mCat]
    show 2 * 0 + _ ≤ 8
    omega
  have hnest := hE.1 _ hl0
  exact va_runSN (host := RX5) (As := mSts al as) (rest := mSts al st) ⟨hx, hb, C.2.2.2.1, hown, hts⟩ hMet ⟨va_cnB as.length hts (good_mTb (mWd_in ho)) rfl rfl rfl hnest (hts _ ho.2.2.1) ho.2.2.2.1 hroom, hts _ hsta, trivial⟩ ⟨mPc_blind, fun U hU hWm => hfind U hU hWm⟩ rfl (by simp [mSts]) hl.1 (mStk2 al as st) hcat hd ⟨by have := hR.2.2.1; omega, by have := hR.2.2.2; omega⟩
theorem r_invI {idx : Nat} {a : Nat} (hd : decode d.2.1 pc = .ok (.invokespecial idx, 3)) (hl0 : Cond.methodLink d.1.cls idx dj.1 ∈ mTb) (hin : Cond.instanceMethod dj.1 ∈ mTb) (hnm : dj.1.name = "<init>") (hvr : dj.2.2.2.1 = none) (ho : mOk dj as.length) (hml : as.length + 1 ≤ dj.2.2.1) (hr8 : st.length ≤ 8) (hu1 : u.1 + dj.2.2.2.2.1 ≤ d.2.2.2.2.1) (hu2 : u.2 + dj.2.2.2.2.2 ≤ d.2.2.2.2.2)
    (hF : WP k dj none (0, 0) Q' 0 (mAr 0 (.inr (some a) :: as)) [] M)
    (kk : ∀ r M', Q' r M' → WP (k + 1) d S (u.1 + dj.2.2.2.2.1, u.2 + dj.2.2.2.2.2) Q (pc + 3) lv (r.toList ++ st) M') : WP (k + 1) d S u Q pc lv (as.reverse ++ .inr (some a) :: st) M := by
  intro p l e R s m args below meth c D al0 n0 A QS C hS hret al H locs ls hag hn hW hst hlv hl
  have hx := C.1
  have hb := C.2.1
  have hts : ∀ w ∈ mTb, w.before args s = true := fun w hw => mB2 (C.2.2.2.2.2.1 w hw) hw
  have hown := C.2.2.2.2.1
  have hK := C.2.2.2.2.2.2.2.1
  have hA := C.2.2.2.2.2.2.2.2.2.1
  have hE := C.2.2.2.2.2.2.2.2.1
  have hR := C.2.2.2.2.2.2.2.2.2.2
  have has : ∀ v ∈ (.inr (some a) :: as), okV M.1.length v := fun v hv => hst v (by simp at hv ⊢; rcases hv with h | h <;> simp [h])
  have hst' : ∀ v ∈ st, okV M.1.length v := fun v hv => hst v (by simp [hv])
  have hMet := mCtr (l := l) ho (by simp; omega) hF D al H.size
  refine mBack (a := (mSts al (.inr (some a) :: as)).toArray) C hS hret hag hn hW hst' hlv hl kk ?_
  have hfind := mFind C hag hW has
  have hroom : (mRm k dj).frames + 1 ≤ R.frames ∧ 8 + (dj.2.2.1 + 11) + (mRm k dj).locals ≤ R.locals := by
    have h1 := hR.1
    have h2 := hR.2.1
    have h3 := ho.2.2.2.2
    exact ⟨h1, by show 8 + (dj.2.2.1 + 11) + 40 * k ≤ _; omega⟩
  have hcat : 2 * (F0 m pc ls (mSts al (as.reverse ++ .inr (some a) :: st))).monitorRoom + ((mSts al st).map fun v => v.category).sum ≤ 8 := by
    rw [mCat]
    show 2 * 0 + _ ≤ 8
    omega
  exact va_runI (b := al a) (As := mSts al as) (rest := mSts al st) ⟨hx, hb, C.2.2.2.1, hown, hts⟩ hMet ⟨callB_of as.length hts (good_mTb (mWd_in ho)) (show mWd dj = Cond.code dj.1 dj.2.1 dj.2.2.1 none :: mTb by rw [← hvr]; rfl) rfl rfl (hts _ ho.2.2.1) (hts _ hl0) ho.2.2.2.1 hroom, hnm, hts _ hin⟩ ⟨mPc_blind, fun U hU hWm => hfind U hU hWm⟩ rfl (by simp [mSts]) hl.1 (mStk al as st _) hcat hd ⟨by have := hR.2.2.1; omega, by have := hR.2.2.2; omega⟩
theorem r_invIN {idx : Nat} {a : Nat} (hd : decode d.2.1 pc = .ok (.invokespecial idx, 3)) (hl0 : (d.1.cls, idx, dj.1, RX5) ∈ mNest) (hin : Cond.instanceMethod dj.1 ∈ mTb) (hnm : dj.1.name = "<init>") (hvr : dj.2.2.2.1 = none) (ho : mOk dj as.length) (hml : as.length + 1 ≤ dj.2.2.1) (hr8 : st.length ≤ 8) (hu1 : u.1 + dj.2.2.2.2.1 ≤ d.2.2.2.2.1) (hu2 : u.2 + dj.2.2.2.2.2 ≤ d.2.2.2.2.2)
    (hF : WP k dj none (0, 0) Q' 0 (mAr 0 (.inr (some a) :: as)) [] M)
    (kk : ∀ r M', Q' r M' → WP (k + 1) d S (u.1 + dj.2.2.2.2.1, u.2 + dj.2.2.2.2.2) Q (pc + 3) lv (r.toList ++ st) M') : WP (k + 1) d S u Q pc lv (as.reverse ++ .inr (some a) :: st) M := by
  intro p l e R s m args below meth c D al0 n0 A QS C hS hret al H locs ls hag hn hW hst hlv hl
  have hx := C.1
  have hb := C.2.1
  have hts : ∀ w ∈ mTb, w.before args s = true := fun w hw => mB2 (C.2.2.2.2.2.1 w hw) hw
  have hown := C.2.2.2.2.1
  have hK := C.2.2.2.2.2.2.2.1
  have hA := C.2.2.2.2.2.2.2.2.2.1
  have hE := C.2.2.2.2.2.2.2.2.1
  have hR := C.2.2.2.2.2.2.2.2.2.2
  have has : ∀ v ∈ (.inr (some a) :: as), okV M.1.length v := fun v hv => hst v (by simp at hv ⊢; rcases hv with h | h <;> simp [h])
  have hst' : ∀ v ∈ st, okV M.1.length v := fun v hv => hst v (by simp [hv])
  have hMet := mCtr (l := l) ho (by simp; omega) hF D al H.size
  refine mBack (a := (mSts al (.inr (some a) :: as)).toArray) C hS hret hag hn hW hst' hlv hl kk ?_
  have hfind := mFind C hag hW has
  have hroom : (mRm k dj).frames + 1 ≤ R.frames ∧ 8 + (dj.2.2.1 + 11) + (mRm k dj).locals ≤ R.locals := by
    have h1 := hR.1
    have h2 := hR.2.1
    have h3 := ho.2.2.2.2
    exact ⟨h1, by show 8 + (dj.2.2.1 + 11) + 40 * k ≤ _; omega⟩
  have hcat : 2 * (F0 m pc ls (mSts al (as.reverse ++ .inr (some a) :: st))).monitorRoom + ((mSts al st).map fun v => v.category).sum ≤ 8 := by
    rw [mCat]
    show 2 * 0 + _ ≤ 8
    omega
  have hnest := hE.1 _ hl0
  exact va_runIN (host := RX5) (b := al a) (As := mSts al as) (rest := mSts al st) ⟨hx, hb, C.2.2.2.1, hown, hts⟩ hMet ⟨va_cnB as.length hts (good_mTb (mWd_in ho)) (show mWd dj = Cond.code dj.1 dj.2.1 dj.2.2.1 none :: mTb by rw [← hvr]; rfl) rfl rfl hnest (hts _ ho.2.2.1) ho.2.2.2.1 hroom, hnm, hts _ hin⟩ ⟨mPc_blind, fun U hU hWm => hfind U hU hWm⟩ rfl (by simp [mSts]) hl.1 (mStk al as st _) hcat hd ⟨by have := hR.2.2.1; omega, by have := hR.2.2.2; omega⟩
end CALLS
end
section
theorem mTb_in1 {i : Nat} {w : Cond} (h : tables_1_1[i]? = some w) (hg : goodWord w = true) : w ∈ mTb := List.mem_filter.mpr ⟨List.mem_append_right _ (List.mem_append_left _ (List.mem_of_getElem? h)), hg⟩
theorem mTb_in2 {i : Nat} {w : Cond} (h : tables_1_2[i]? = some w) (hg : goodWord w = true) : w ∈ mTb := List.mem_filter.mpr ⟨List.mem_append_right _ (List.mem_append_right _ (List.mem_append_left _ (List.mem_of_getElem? h))), hg⟩
theorem mTb_in3 {i : Nat} {w : Cond} (h : tables_1_3[i]? = some w) (hg : goodWord w = true) : w ∈ mTb := List.mem_filter.mpr ⟨List.mem_append_right _ (List.mem_append_right _ (List.mem_append_right _ (List.mem_append_left _ (List.mem_of_getElem? h)))), hg⟩
theorem mTb_in4 {i : Nat} {w : Cond} (h : tables_1_4[i]? = some w) (hg : goodWord w = true) : w ∈ mTb := List.mem_filter.mpr ⟨List.mem_append_right _ (List.mem_append_right _ (List.mem_append_right _ (List.mem_append_right _ (List.mem_of_getElem? h)))), hg⟩
/-! ===== methods, and their links by the places of the tables ===== -/
def mX5_init : mD := (yX5_init, cX5_init, 2, none, 154, 997)
theorem okX5_init : mOk mX5_init 0 := ⟨by decide +kernel, mTb_in1 (i := 18) rfl rfl, mTb_in1 (i := 1) rfl rfl, ⟨by decide +kernel, by decide +kernel, by decide +kernel⟩, by decide +kernel⟩
def mX2_init : mD := (yX2_init, cX2_init, 2, none, 24, 139)
theorem okX2_init : mOk mX2_init 0 := ⟨by decide +kernel, mTb_in1 (i := 26) rfl rfl, mTb_in1 (i := 2) rfl rfl, ⟨by decide +kernel, by decide +kernel, by decide +kernel⟩, by decide +kernel⟩
def mX0_init : mD := (yX0_init, cX0_init, 2, none, 2, 16)
theorem okX0_init : mOk mX0_init 0 := ⟨by decide +kernel, mTb_in1 (i := 32) rfl rfl, mTb_in1 (i := 3) rfl rfl, ⟨by decide +kernel, by decide +kernel, by decide +kernel⟩, by decide +kernel⟩
def mX4_init : mD := (yX4_init, cX4_init, 1, none, 3, 21)
theorem okX4_init : mOk mX4_init 0 := ⟨by decide +kernel, mTb_in1 (i := 48) rfl rfl, mTb_in1 (i := 4) rfl rfl, ⟨by decide +kernel, by decide +kernel, by decide +kernel⟩, by decide +kernel⟩
def mX1_init : mD := (yX1_init, cX1_init, 1, none, 5, 30)
theorem okX1_init : mOk mX1_init 0 := ⟨by decide +kernel, mTb_in1 (i := 66) rfl rfl, mTb_in1 (i := 5) rfl rfl, ⟨by decide +kernel, by decide +kernel, by decide +kernel⟩, by decide +kernel⟩
def mX3_init : mD := (yX3_init, cX3_init, 1, none, 2, 83)
theorem okX3_init : mOk mX3_init 0 := ⟨by decide +kernel, mTb_in1 (i := 137) rfl rfl, mTb_in1 (i := 6) rfl rfl, ⟨by decide +kernel, by decide +kernel, by decide +kernel⟩, by decide +kernel⟩
def mX5_begin : mD := (yX5_begin, cX5_begin, 2, (some .int), 0, 0)
theorem okX5_begin : mOk mX5_begin 1 := ⟨by decide +kernel, mTb_in1 (i := 184) rfl rfl, mTb_in1 (i := 1) rfl rfl, ⟨by decide +kernel, by decide +kernel, by decide +kernel⟩, by decide +kernel⟩
def mX5_spareRoom : mD := (yX5_spareRoom, cX5_spareRoom, 1, (some (.object "ChairNames$Room")), 0, 0)
theorem okX5_spareRoom : mOk mX5_spareRoom 0 := ⟨by decide +kernel, mTb_in1 (i := 188) rfl rfl, mTb_in1 (i := 1) rfl rfl, ⟨by decide +kernel, by decide +kernel, by decide +kernel⟩, by decide +kernel⟩
def mX2_become : mD := (yX2_become, cX2_become, 3, none, 0, 0)
theorem okX2_become : mOk mX2_become 1 := ⟨by decide +kernel, mTb_in1 (i := 192) rfl rfl, mTb_in1 (i := 2) rfl rfl, ⟨by decide +kernel, by decide +kernel, by decide +kernel⟩, by decide +kernel⟩
def mX0_become : mD := (yX0_become, cX0_become, 3, none, 0, 0)
theorem okX0_become : mOk mX0_become 1 := ⟨by decide +kernel, mTb_in1 (i := 196) rfl rfl, mTb_in1 (i := 3) rfl rfl, ⟨by decide +kernel, by decide +kernel, by decide +kernel⟩, by decide +kernel⟩
def mX4_become : mD := (yX4_become, cX4_become, 3, none, 0, 0)
theorem okX4_become : mOk mX4_become 1 := ⟨by decide +kernel, mTb_in1 (i := 200) rfl rfl, mTb_in1 (i := 4) rfl rfl, ⟨by decide +kernel, by decide +kernel, by decide +kernel⟩, by decide +kernel⟩
def mX1_become : mD := (yX1_become, cX1_become, 3, none, 0, 0)
theorem okX1_become : mOk mX1_become 1 := ⟨by decide +kernel, mTb_in1 (i := 204) rfl rfl, mTb_in1 (i := 5) rfl rfl, ⟨by decide +kernel, by decide +kernel, by decide +kernel⟩, by decide +kernel⟩
def mX2_empty : mD := (yX2_empty, cX2_empty, 3, (some .int), 0, 0)
theorem okX2_empty : mOk mX2_empty 1 := ⟨by decide +kernel, mTb_in1 (i := 208) rfl rfl, mTb_in1 (i := 2) rfl rfl, ⟨by decide +kernel, by decide +kernel, by decide +kernel⟩, by decide +kernel⟩
def mX5_within : mD := (yX5_within, cX5_within, 3, (some .boolean), 0, 0)
theorem okX5_within : mOk mX5_within 3 := ⟨by decide +kernel, mTb_in1 (i := 211) rfl rfl, mTb_in1 (i := 1) rfl rfl, ⟨by decide +kernel, by decide +kernel, by decide +kernel⟩, by decide +kernel⟩
def mX0_standAtZero : mD := (yX0_standAtZero, cX0_standAtZero, 2, none, 0, 0)
theorem okX0_standAtZero : mOk mX0_standAtZero 0 := ⟨by decide +kernel, mTb_in1 (i := 215) rfl rfl, mTb_in1 (i := 3) rfl rfl, ⟨by decide +kernel, by decide +kernel, by decide +kernel⟩, by decide +kernel⟩
def mX5_settle : mD := (yX5_settle, cX5_settle, 4, (some .int), 0, 0)
theorem okX5_settle : mOk mX5_settle 1 := ⟨by decide +kernel, mTb_in1 (i := 219) rfl rfl, mTb_in1 (i := 1) rfl rfl, ⟨by decide +kernel, by decide +kernel, by decide +kernel⟩, by decide +kernel⟩
def mX5_put : mD := (yX5_put, cX5_put, 3, (some .int), 0, 0)
theorem okX5_put : mOk mX5_put 2 := ⟨by decide +kernel, mTb_in1 (i := 223) rfl rfl, mTb_in1 (i := 1) rfl rfl, ⟨by decide +kernel, by decide +kernel, by decide +kernel⟩, by decide +kernel⟩
def mX2_putValue : mD := (yX2_putValue, cX2_putValue, 3, (some .int), 0, 0)
theorem okX2_putValue : mOk mX2_putValue 2 := ⟨by decide +kernel, mTb_in1 (i := 227) rfl rfl, mTb_in1 (i := 2) rfl rfl, ⟨by decide +kernel, by decide +kernel, by decide +kernel⟩, by decide +kernel⟩
def mX5_isName : mD := (yX5_isName, cX5_isName, 1, (some .boolean), 0, 0)
theorem okX5_isName : mOk mX5_isName 1 := ⟨by decide +kernel, mTb_in1 (i := 230) rfl rfl, mTb_in1 (i := 1) rfl rfl, ⟨by decide +kernel, by decide +kernel, by decide +kernel⟩, by decide +kernel⟩
def mX2_seat : mD := (yX2_seat, cX2_seat, 10, (some .int), 0, 0)
theorem okX2_seat : mOk mX2_seat 5 := ⟨by decide +kernel, mTb_in1 (i := 235) rfl rfl, mTb_in1 (i := 2) rfl rfl, ⟨by decide +kernel, by decide +kernel, by decide +kernel⟩, by decide +kernel⟩
def mX2_pinnedChairs : mD := (yX2_pinnedChairs, cX2_pinnedChairs, 4, (some .int), 0, 0)
theorem okX2_pinnedChairs : mOk mX2_pinnedChairs 0 := ⟨by decide +kernel, mTb_in1 (i := 239) rfl rfl, mTb_in1 (i := 2) rfl rfl, ⟨by decide +kernel, by decide +kernel, by decide +kernel⟩, by decide +kernel⟩
def mX0_chairSet : mD := (yX0_chairSet, cX0_chairSet, 3, (some .int), 0, 0)
theorem okX0_chairSet : mOk mX0_chairSet 0 := ⟨by decide +kernel, mTb_in2 (i := 3) rfl rfl, mTb_in1 (i := 3) rfl rfl, ⟨by decide +kernel, by decide +kernel, by decide +kernel⟩, by decide +kernel⟩
def mX2_lowestFreeChair : mD := (yX2_lowestFreeChair, cX2_lowestFreeChair, 3, (some .int), 0, 0)
theorem okX2_lowestFreeChair : mOk mX2_lowestFreeChair 1 := ⟨by decide +kernel, mTb_in2 (i := 7) rfl rfl, mTb_in1 (i := 2) rfl rfl, ⟨by decide +kernel, by decide +kernel, by decide +kernel⟩, by decide +kernel⟩
def mX0_chairSetOf : mD := (yX0_chairSetOf, cX0_chairSetOf, 2, (some .int), 0, 0)
theorem okX0_chairSetOf : mOk mX0_chairSetOf 1 := ⟨by decide +kernel, mTb_in2 (i := 11) rfl rfl, mTb_in1 (i := 3) rfl rfl, ⟨by decide +kernel, by decide +kernel, by decide +kernel⟩, by decide +kernel⟩
def mX2_longestUnused : mD := (yX2_longestUnused, cX2_longestUnused, 5, (some .int), 0, 0)
theorem okX2_longestUnused : mOk mX2_longestUnused 1 := ⟨by decide +kernel, mTb_in2 (i := 15) rfl rfl, mTb_in1 (i := 2) rfl rfl, ⟨by decide +kernel, by decide +kernel, by decide +kernel⟩, by decide +kernel⟩
def mX4_valueOn : mD := (yX4_valueOn, cX4_valueOn, 2, (some .int), 0, 0)
theorem okX4_valueOn : mOk mX4_valueOn 1 := ⟨by decide +kernel, mTb_in2 (i := 19) rfl rfl, mTb_in1 (i := 4) rfl rfl, ⟨by decide +kernel, by decide +kernel, by decide +kernel⟩, by decide +kernel⟩
def mX2_sendOut : mD := (yX2_sendOut, cX2_sendOut, 4, none, 0, 0)
theorem okX2_sendOut : mOk mX2_sendOut 2 := ⟨by decide +kernel, mTb_in2 (i := 23) rfl rfl, mTb_in1 (i := 2) rfl rfl, ⟨by decide +kernel, by decide +kernel, by decide +kernel⟩, by decide +kernel⟩
def mX4_place : mD := (yX4_place, cX4_place, 5, none, 0, 0)
theorem okX4_place : mOk mX4_place 4 := ⟨by decide +kernel, mTb_in2 (i := 27) rfl rfl, mTb_in1 (i := 4) rfl rfl, ⟨by decide +kernel, by decide +kernel, by decide +kernel⟩, by decide +kernel⟩
def mX5_copy : mD := (yX5_copy, cX5_copy, 3, (some .int), 0, 0)
theorem okX5_copy : mOk mX5_copy 2 := ⟨by decide +kernel, mTb_in2 (i := 31) rfl rfl, mTb_in1 (i := 1) rfl rfl, ⟨by decide +kernel, by decide +kernel, by decide +kernel⟩, by decide +kernel⟩
def mX2_copyName : mD := (yX2_copyName, cX2_copyName, 4, (some .int), 0, 0)
theorem okX2_copyName : mOk mX2_copyName 2 := ⟨by decide +kernel, mTb_in2 (i := 35) rfl rfl, mTb_in1 (i := 2) rfl rfl, ⟨by decide +kernel, by decide +kernel, by decide +kernel⟩, by decide +kernel⟩
def mX2_findSeat : mD := (yX2_findSeat, cX2_findSeat, 4, (some .boolean), 0, 0)
theorem okX2_findSeat : mOk mX2_findSeat 3 := ⟨by decide +kernel, mTb_in2 (i := 39) rfl rfl, mTb_in1 (i := 2) rfl rfl, ⟨by decide +kernel, by decide +kernel, by decide +kernel⟩, by decide +kernel⟩
def mX4_use : mD := (yX4_use, cX4_use, 3, none, 0, 0)
theorem okX4_use : mOk mX4_use 2 := ⟨by decide +kernel, mTb_in2 (i := 43) rfl rfl, mTb_in1 (i := 4) rfl rfl, ⟨by decide +kernel, by decide +kernel, by decide +kernel⟩, by decide +kernel⟩
def mX5_order : mD := (yX5_order, cX5_order, 5, (some .int), 0, 0)
theorem okX5_order : mOk mX5_order 4 := ⟨by decide +kernel, mTb_in2 (i := 47) rfl rfl, mTb_in1 (i := 1) rfl rfl, ⟨by decide +kernel, by decide +kernel, by decide +kernel⟩, by decide +kernel⟩
def mX2_giveOrder : mD := (yX2_giveOrder, cX2_giveOrder, 9, (some .int), 0, 0)
theorem okX2_giveOrder : mOk mX2_giveOrder 4 := ⟨by decide +kernel, mTb_in2 (i := 51) rfl rfl, mTb_in1 (i := 2) rfl rfl, ⟨by decide +kernel, by decide +kernel, by decide +kernel⟩, by decide +kernel⟩
def mX2_result : mD := (yX2_result, cX2_result, 3, (some .int), 0, 0)
theorem okX2_result : mOk mX2_result 3 := ⟨by decide +kernel, mTb_in2 (i := 54) rfl rfl, mTb_in1 (i := 2) rfl rfl, ⟨by decide +kernel, by decide +kernel, by decide +kernel⟩, by decide +kernel⟩
def mJ9_floorMod_7cf53 : mD := (yJ9_floorMod_7cf53, cJ9_floorMod_7cf53, 3, (some .int), 0, 0)
theorem okJ9_floorMod_7cf53 : mOk mJ9_floorMod_7cf53 2 := ⟨by decide +kernel, mTb_in2 (i := 57) rfl rfl, mTb_in1 (i := 8) rfl rfl, ⟨by decide +kernel, by decide +kernel, by decide +kernel⟩, by decide +kernel⟩
def mX1_add : mD := (yX1_add, cX1_add, 6, none, 0, 0)
theorem okX1_add : mOk mX1_add 5 := ⟨by decide +kernel, mTb_in2 (i := 62) rfl rfl, mTb_in1 (i := 5) rfl rfl, ⟨by decide +kernel, by decide +kernel, by decide +kernel⟩, by decide +kernel⟩
def mX5_tick : mD := (yX5_tick, cX5_tick, 2, (some .int), 0, 0)
theorem okX5_tick : mOk mX5_tick 1 := ⟨by decide +kernel, mTb_in2 (i := 66) rfl rfl, mTb_in1 (i := 1) rfl rfl, ⟨by decide +kernel, by decide +kernel, by decide +kernel⟩, by decide +kernel⟩
def mX2_letTicksGo : mD := (yX2_letTicksGo, cX2_letTicksGo, 4, (some .int), 0, 0)
theorem okX2_letTicksGo : mOk mX2_letTicksGo 1 := ⟨by decide +kernel, mTb_in2 (i := 70) rfl rfl, mTb_in1 (i := 2) rfl rfl, ⟨by decide +kernel, by decide +kernel, by decide +kernel⟩, by decide +kernel⟩
def mX2_letTickGo : mD := (yX2_letTickGo, cX2_letTickGo, 1, none, 0, 0)
theorem okX2_letTickGo : mOk mX2_letTickGo 0 := ⟨by decide +kernel, mTb_in2 (i := 75) rfl rfl, mTb_in1 (i := 2) rfl rfl, ⟨by decide +kernel, by decide +kernel, by decide +kernel⟩, by decide +kernel⟩
def mX2_finishOrders : mD := (yX2_finishOrders, cX2_finishOrders, 4, none, 0, 0)
theorem okX2_finishOrders : mOk mX2_finishOrders 0 := ⟨by decide +kernel, mTb_in2 (i := 79) rfl rfl, mTb_in1 (i := 2) rfl rfl, ⟨by decide +kernel, by decide +kernel, by decide +kernel⟩, by decide +kernel⟩
def mX4_knownTimeOf : mD := (yX4_knownTimeOf, cX4_knownTimeOf, 2, (some .int), 0, 0)
theorem okX4_knownTimeOf : mOk mX4_knownTimeOf 1 := ⟨by decide +kernel, mTb_in2 (i := 83) rfl rfl, mTb_in1 (i := 4) rfl rfl, ⟨by decide +kernel, by decide +kernel, by decide +kernel⟩, by decide +kernel⟩
def mX1_move : mD := (yX1_move, cX1_move, 3, none, 0, 0)
theorem okX1_move : mOk mX1_move 2 := ⟨by decide +kernel, mTb_in2 (i := 88) rfl rfl, mTb_in1 (i := 5) rfl rfl, ⟨by decide +kernel, by decide +kernel, by decide +kernel⟩, by decide +kernel⟩
def mX2_beginOrders : mD := (yX2_beginOrders, cX2_beginOrders, 8, none, 0, 0)
theorem okX2_beginOrders : mOk mX2_beginOrders 0 := ⟨by decide +kernel, mTb_in2 (i := 92) rfl rfl, mTb_in1 (i := 2) rfl rfl, ⟨by decide +kernel, by decide +kernel, by decide +kernel⟩, by decide +kernel⟩
def mX4_setKnownTime : mD := (yX4_setKnownTime, cX4_setKnownTime, 3, none, 0, 0)
theorem okX4_setKnownTime : mOk mX4_setKnownTime 2 := ⟨by decide +kernel, mTb_in2 (i := 96) rfl rfl, mTb_in1 (i := 4) rfl rfl, ⟨by decide +kernel, by decide +kernel, by decide +kernel⟩, by decide +kernel⟩
def mX5_set : mD := (yX5_set, cX5_set, 3, (some .int), 0, 0)
theorem okX5_set : mOk mX5_set 2 := ⟨by decide +kernel, mTb_in2 (i := 100) rfl rfl, mTb_in1 (i := 1) rfl rfl, ⟨by decide +kernel, by decide +kernel, by decide +kernel⟩, by decide +kernel⟩
def mX2_changeSetting : mD := (yX2_changeSetting, cX2_changeSetting, 6, (some .int), 0, 0)
theorem okX2_changeSetting : mOk mX2_changeSetting 2 := ⟨by decide +kernel, mTb_in2 (i := 104) rfl rfl, mTb_in1 (i := 2) rfl rfl, ⟨by decide +kernel, by decide +kernel, by decide +kernel⟩, by decide +kernel⟩
def mX5_mark : mD := (yX5_mark, cX5_mark, 1, (some .int), 0, 0)
theorem okX5_mark : mOk mX5_mark 0 := ⟨by decide +kernel, mTb_in2 (i := 108) rfl rfl, mTb_in1 (i := 1) rfl rfl, ⟨by decide +kernel, by decide +kernel, by decide +kernel⟩, by decide +kernel⟩
def mX2_addMark : mD := (yX2_addMark, cX2_addMark, 1, (some .int), 0, 0)
theorem okX2_addMark : mOk mX2_addMark 0 := ⟨by decide +kernel, mTb_in2 (i := 112) rfl rfl, mTb_in1 (i := 2) rfl rfl, ⟨by decide +kernel, by decide +kernel, by decide +kernel⟩, by decide +kernel⟩
def mX5_keep : mD := (yX5_keep, cX5_keep, 1, (some .int), 0, 0)
theorem okX5_keep : mOk mX5_keep 0 := ⟨by decide +kernel, mTb_in2 (i := 116) rfl rfl, mTb_in1 (i := 1) rfl rfl, ⟨by decide +kernel, by decide +kernel, by decide +kernel⟩, by decide +kernel⟩
def mX2_dropFirstMark : mD := (yX2_dropFirstMark, cX2_dropFirstMark, 2, (some .int), 0, 0)
theorem okX2_dropFirstMark : mOk mX2_dropFirstMark 0 := ⟨by decide +kernel, mTb_in2 (i := 120) rfl rfl, mTb_in1 (i := 2) rfl rfl, ⟨by decide +kernel, by decide +kernel, by decide +kernel⟩, by decide +kernel⟩
def mX1_forgetFirstMark : mD := (yX1_forgetFirstMark, cX1_forgetFirstMark, 2, none, 0, 0)
theorem okX1_forgetFirstMark : mOk mX1_forgetFirstMark 0 := ⟨by decide +kernel, mTb_in2 (i := 124) rfl rfl, mTb_in1 (i := 5) rfl rfl, ⟨by decide +kernel, by decide +kernel, by decide +kernel⟩, by decide +kernel⟩
def mX5_back : mD := (yX5_back, cX5_back, 2, (some .int), 0, 0)
theorem okX5_back : mOk mX5_back 1 := ⟨by decide +kernel, mTb_in2 (i := 128) rfl rfl, mTb_in1 (i := 1) rfl rfl, ⟨by decide +kernel, by decide +kernel, by decide +kernel⟩, by decide +kernel⟩
def mX2_goBack : mD := (yX2_goBack, cX2_goBack, 2, (some .int), 0, 0)
theorem okX2_goBack : mOk mX2_goBack 1 := ⟨by decide +kernel, mTb_in2 (i := 132) rfl rfl, mTb_in1 (i := 2) rfl rfl, ⟨by decide +kernel, by decide +kernel, by decide +kernel⟩, by decide +kernel⟩
def mX2_isMark : mD := (yX2_isMark, cX2_isMark, 2, (some .boolean), 0, 0)
theorem okX2_isMark : mOk mX2_isMark 1 := ⟨by decide +kernel, mTb_in2 (i := 136) rfl rfl, mTb_in1 (i := 2) rfl rfl, ⟨by decide +kernel, by decide +kernel, by decide +kernel⟩, by decide +kernel⟩
def mX1_dropGivenAfter : mD := (yX1_dropGivenAfter, cX1_dropGivenAfter, 3, (some .int), 0, 0)
theorem okX1_dropGivenAfter : mOk mX1_dropGivenAfter 1 := ⟨by decide +kernel, mTb_in2 (i := 140) rfl rfl, mTb_in1 (i := 5) rfl rfl, ⟨by decide +kernel, by decide +kernel, by decide +kernel⟩, by decide +kernel⟩
def mX5_markOf : mD := (yX5_markOf, cX5_markOf, 4, (some .int), 0, 0)
theorem okX5_markOf : mOk mX5_markOf 3 := ⟨by decide +kernel, mTb_in2 (i := 144) rfl rfl, mTb_in1 (i := 1) rfl rfl, ⟨by decide +kernel, by decide +kernel, by decide +kernel⟩, by decide +kernel⟩
def mX2_tellMark : mD := (yX2_tellMark, cX2_tellMark, 4, (some .int), 0, 0)
theorem okX2_tellMark : mOk mX2_tellMark 3 := ⟨by decide +kernel, mTb_in2 (i := 148) rfl rfl, mTb_in1 (i := 2) rfl rfl, ⟨by decide +kernel, by decide +kernel, by decide +kernel⟩, by decide +kernel⟩
def mX2_found : mD := (yX2_found, cX2_found, 1, (some .int), 0, 0)
theorem okX2_found : mOk mX2_found 1 := ⟨by decide +kernel, mTb_in2 (i := 151) rfl rfl, mTb_in1 (i := 2) rfl rfl, ⟨by decide +kernel, by decide +kernel, by decide +kernel⟩, by decide +kernel⟩
def mX5_nameOf : mD := (yX5_nameOf, cX5_nameOf, 3, (some .int), 0, 0)
theorem okX5_nameOf : mOk mX5_nameOf 2 := ⟨by decide +kernel, mTb_in2 (i := 155) rfl rfl, mTb_in1 (i := 1) rfl rfl, ⟨by decide +kernel, by decide +kernel, by decide +kernel⟩, by decide +kernel⟩
def mX2_tellName : mD := (yX2_tellName, cX2_tellName, 6, (some .int), 0, 0)
theorem okX2_tellName : mOk mX2_tellName 2 := ⟨by decide +kernel, mTb_in2 (i := 159) rfl rfl, mTb_in1 (i := 2) rfl rfl, ⟨by decide +kernel, by decide +kernel, by decide +kernel⟩, by decide +kernel⟩
def mX2_hidesValue : mD := (yX2_hidesValue, cX2_hidesValue, 2, (some .boolean), 0, 0)
theorem okX2_hidesValue : mOk mX2_hidesValue 1 := ⟨by decide +kernel, mTb_in2 (i := 163) rfl rfl, mTb_in1 (i := 2) rfl rfl, ⟨by decide +kernel, by decide +kernel, by decide +kernel⟩, by decide +kernel⟩
def mX2_isKnown : mD := (yX2_isKnown, cX2_isKnown, 2, (some .boolean), 0, 0)
theorem okX2_isKnown : mOk mX2_isKnown 1 := ⟨by decide +kernel, mTb_in2 (i := 167) rfl rfl, mTb_in1 (i := 2) rfl rfl, ⟨by decide +kernel, by decide +kernel, by decide +kernel⟩, by decide +kernel⟩
def mX0_namesOn : mD := (yX0_namesOn, cX0_namesOn, 4, (some .int), 0, 0)
theorem okX0_namesOn : mOk mX0_namesOn 1 := ⟨by decide +kernel, mTb_in2 (i := 171) rfl rfl, mTb_in1 (i := 3) rfl rfl, ⟨by decide +kernel, by decide +kernel, by decide +kernel⟩, by decide +kernel⟩
def mJ6_bitCount_0f7a4 : mD := (yJ6_bitCount_0f7a4, cJ6_bitCount_0f7a4, 1, (some .int), 0, 0)
theorem okJ6_bitCount_0f7a4 : mOk mJ6_bitCount_0f7a4 1 := ⟨by decide +kernel, mTb_in2 (i := 174) rfl rfl, mTb_in1 (i := 9) rfl rfl, ⟨by decide +kernel, by decide +kernel, by decide +kernel⟩, by decide +kernel⟩
def mX5_chairOf : mD := (yX5_chairOf, cX5_chairOf, 3, (some .int), 0, 0)
theorem okX5_chairOf : mOk mX5_chairOf 2 := ⟨by decide +kernel, mTb_in2 (i := 181) rfl rfl, mTb_in1 (i := 1) rfl rfl, ⟨by decide +kernel, by decide +kernel, by decide +kernel⟩, by decide +kernel⟩
def mX2_tellChair : mD := (yX2_tellChair, cX2_tellChair, 5, (some .int), 0, 0)
theorem okX2_tellChair : mOk mX2_tellChair 2 := ⟨by decide +kernel, mTb_in2 (i := 185) rfl rfl, mTb_in1 (i := 2) rfl rfl, ⟨by decide +kernel, by decide +kernel, by decide +kernel⟩, by decide +kernel⟩
def mX2_marksOn : mD := (yX2_marksOn, cX2_marksOn, 4, (some .int), 0, 0)
theorem okX2_marksOn : mOk mX2_marksOn 1 := ⟨by decide +kernel, mTb_in2 (i := 189) rfl rfl, mTb_in1 (i := 2) rfl rfl, ⟨by decide +kernel, by decide +kernel, by decide +kernel⟩, by decide +kernel⟩
def mX1_readersOf : mD := (yX1_readersOf, cX1_readersOf, 4, (some .int), 0, 0)
theorem okX1_readersOf : mOk mX1_readersOf 1 := ⟨by decide +kernel, mTb_in2 (i := 193) rfl rfl, mTb_in1 (i := 5) rfl rfl, ⟨by decide +kernel, by decide +kernel, by decide +kernel⟩, by decide +kernel⟩
def mX1_makeFor : mD := (yX1_makeFor, cX1_makeFor, 3, (some .boolean), 0, 0)
theorem okX1_makeFor : mOk mX1_makeFor 1 := ⟨by decide +kernel, mTb_in2 (i := 197) rfl rfl, mTb_in1 (i := 5) rfl rfl, ⟨by decide +kernel, by decide +kernel, by decide +kernel⟩, by decide +kernel⟩
def mX5_orderOf : mD := (yX5_orderOf, cX5_orderOf, 3, (some .int), 0, 0)
theorem okX5_orderOf : mOk mX5_orderOf 2 := ⟨by decide +kernel, mTb_in2 (i := 201) rfl rfl, mTb_in1 (i := 1) rfl rfl, ⟨by decide +kernel, by decide +kernel, by decide +kernel⟩, by decide +kernel⟩
def mX2_tellOrder : mD := (yX2_tellOrder, cX2_tellOrder, 3, (some .int), 0, 0)
theorem okX2_tellOrder : mOk mX2_tellOrder 2 := ⟨by decide +kernel, mTb_in2 (i := 205) rfl rfl, mTb_in1 (i := 2) rfl rfl, ⟨by decide +kernel, by decide +kernel, by decide +kernel⟩, by decide +kernel⟩
def mX1_isOne : mD := (yX1_isOne, cX1_isOne, 2, (some .boolean), 0, 0)
theorem okX1_isOne : mOk mX1_isOne 1 := ⟨by decide +kernel, mTb_in2 (i := 209) rfl rfl, mTb_in1 (i := 5) rfl rfl, ⟨by decide +kernel, by decide +kernel, by decide +kernel⟩, by decide +kernel⟩
def mX2_hasBegun : mD := (yX2_hasBegun, cX2_hasBegun, 2, (some .boolean), 0, 0)
theorem okX2_hasBegun : mOk mX2_hasBegun 1 := ⟨by decide +kernel, mTb_in2 (i := 213) rfl rfl, mTb_in1 (i := 2) rfl rfl, ⟨by decide +kernel, by decide +kernel, by decide +kernel⟩, by decide +kernel⟩
def mX5_count : mD := (yX5_count, cX5_count, 2, (some .int), 0, 0)
theorem okX5_count : mOk mX5_count 1 := ⟨by decide +kernel, mTb_in2 (i := 217) rfl rfl, mTb_in1 (i := 1) rfl rfl, ⟨by decide +kernel, by decide +kernel, by decide +kernel⟩, by decide +kernel⟩
def mX2_tellNumber : mD := (yX2_tellNumber, cX2_tellNumber, 2, (some .int), 0, 0)
theorem okX2_tellNumber : mOk mX2_tellNumber 1 := ⟨by decide +kernel, mTb_in2 (i := 221) rfl rfl, mTb_in1 (i := 2) rfl rfl, ⟨by decide +kernel, by decide +kernel, by decide +kernel⟩, by decide +kernel⟩
def mX2_begunOrders : mD := (yX2_begunOrders, cX2_begunOrders, 3, (some .int), 0, 0)
theorem okX2_begunOrders : mOk mX2_begunOrders 0 := ⟨by decide +kernel, mTb_in2 (i := 225) rfl rfl, mTb_in1 (i := 2) rfl rfl, ⟨by decide +kernel, by decide +kernel, by decide +kernel⟩, by decide +kernel⟩
def mX5_sends : mD := (yX5_sends, cX5_sends, 6, (some .int), 0, 0)
theorem okX5_sends : mOk mX5_sends 3 := ⟨by decide +kernel, mTb_in2 (i := 229) rfl rfl, mTb_in1 (i := 1) rfl rfl, ⟨by decide +kernel, by decide +kernel, by decide +kernel⟩, by decide +kernel⟩
def mX5_idleIn : mD := (yX5_idleIn, cX5_idleIn, 1, (some .int), 0, 0)
theorem okX5_idleIn : mOk mX5_idleIn 0 := ⟨by decide +kernel, mTb_in2 (i := 233) rfl rfl, mTb_in1 (i := 1) rfl rfl, ⟨by decide +kernel, by decide +kernel, by decide +kernel⟩, by decide +kernel⟩
def mX2_ticksTillIdle : mD := (yX2_ticksTillIdle, cX2_ticksTillIdle, 2, (some .int), 0, 0)
theorem okX2_ticksTillIdle : mOk mX2_ticksTillIdle 0 := ⟨by decide +kernel, mTb_in2 (i := 237) rfl rfl, mTb_in1 (i := 2) rfl rfl, ⟨by decide +kernel, by decide +kernel, by decide +kernel⟩, by decide +kernel⟩
def mX5_knownIn : mD := (yX5_knownIn, cX5_knownIn, 2, (some .int), 0, 0)
theorem okX5_knownIn : mOk mX5_knownIn 1 := ⟨by decide +kernel, mTb_in3 (i := 1) rfl rfl, mTb_in1 (i := 1) rfl rfl, ⟨by decide +kernel, by decide +kernel, by decide +kernel⟩, by decide +kernel⟩
def mX2_ticksTillKnown : mD := (yX2_ticksTillKnown, cX2_ticksTillKnown, 3, (some .int), 0, 0)
theorem okX2_ticksTillKnown : mOk mX2_ticksTillKnown 1 := ⟨by decide +kernel, mTb_in3 (i := 6) rfl rfl, mTb_in1 (i := 2) rfl rfl, ⟨by decide +kernel, by decide +kernel, by decide +kernel⟩, by decide +kernel⟩
def mX5_undo : mD := (yX5_undo, cX5_undo, 2, (some .int), 0, 0)
theorem okX5_undo : mOk mX5_undo 0 := ⟨by decide +kernel, mTb_in3 (i := 10) rfl rfl, mTb_in1 (i := 1) rfl rfl, ⟨by decide +kernel, by decide +kernel, by decide +kernel⟩, by decide +kernel⟩
def mX5_type : mD := (yX5_type, cX5_type, 2, (some .int), 0, 0)
theorem okX5_type : mOk mX5_type 1 := ⟨by decide +kernel, mTb_in3 (i := 14) rfl rfl, mTb_in1 (i := 1) rfl rfl, ⟨by decide +kernel, by decide +kernel, by decide +kernel⟩, by decide +kernel⟩
def mX3_append : mD := (yX3_append, cX3_append, 2, (some .int), 0, 0)
theorem okX3_append : mOk mX3_append 1 := ⟨by decide +kernel, mTb_in3 (i := 18) rfl rfl, mTb_in1 (i := 6) rfl rfl, ⟨by decide +kernel, by decide +kernel, by decide +kernel⟩, by decide +kernel⟩
def mX5_clearText : mD := (yX5_clearText, cX5_clearText, 2, (some .int), 0, 0)
theorem okX5_clearText : mOk mX5_clearText 0 := ⟨by decide +kernel, mTb_in3 (i := 22) rfl rfl, mTb_in1 (i := 1) rfl rfl, ⟨by decide +kernel, by decide +kernel, by decide +kernel⟩, by decide +kernel⟩
def mX5_fault : mD := (yX5_fault, cX5_fault, 2, (some .int), 0, 0)
theorem okX5_fault : mOk mX5_fault 1 := ⟨by decide +kernel, mTb_in3 (i := 26) rfl rfl, mTb_in1 (i := 1) rfl rfl, ⟨by decide +kernel, by decide +kernel, by decide +kernel⟩, by decide +kernel⟩
def mX5_tryText : mD := (yX5_tryText, cX5_tryText, 6, (some .int), 0, 0)
theorem okX5_tryText : mOk mX5_tryText 0 := ⟨by decide +kernel, mTb_in3 (i := 30) rfl rfl, mTb_in1 (i := 1) rfl rfl, ⟨by decide +kernel, by decide +kernel, by decide +kernel⟩, by decide +kernel⟩
def mX5_noteFault : mD := (yX5_noteFault, cX5_noteFault, 4, none, 0, 0)
theorem okX5_noteFault : mOk mX5_noteFault 3 := ⟨by decide +kernel, mTb_in3 (i := 34) rfl rfl, mTb_in1 (i := 1) rfl rfl, ⟨by decide +kernel, by decide +kernel, by decide +kernel⟩, by decide +kernel⟩
def mX3_readCommand : mD := (yX3_readCommand, cX3_readCommand, 3, (some .int), 0, 0)
theorem okX3_readCommand : mOk mX3_readCommand 1 := ⟨by decide +kernel, mTb_in3 (i := 38) rfl rfl, mTb_in1 (i := 6) rfl rfl, ⟨by decide +kernel, by decide +kernel, by decide +kernel⟩, by decide +kernel⟩
def mX3_form : mD := (yX3_form, cX3_form, 1, (some (.object "java/lang/String")), 0, 0)
theorem okX3_form : mOk mX3_form 1 := ⟨by decide +kernel, mTb_in3 (i := 41) rfl rfl, mTb_in1 (i := 6) rfl rfl, ⟨by decide +kernel, by decide +kernel, by decide +kernel⟩, by decide +kernel⟩
def mX3_matches : mD := (yX3_matches, cX3_matches, 7, (some .boolean), 0, 0)
theorem okX3_matches : mOk mX3_matches 2 := ⟨by decide +kernel, mTb_in3 (i := 54) rfl rfl, mTb_in1 (i := 6) rfl rfl, ⟨by decide +kernel, by decide +kernel, by decide +kernel⟩, by decide +kernel⟩
def mJ0_length_8abf5 : mD := (yJ0_length_8abf5, cJ0_length_8abf5, 1, (some .int), 0, 0)
theorem okJ0_length_8abf5 : mOk mJ0_length_8abf5 0 := ⟨by decide +kernel, mTb_in3 (i := 58) rfl rfl, mTb_in1 (i := 10) rfl rfl, ⟨by decide +kernel, by decide +kernel, by decide +kernel⟩, by decide +kernel⟩
def mJ0_coder_7d493 : mD := (yJ0_coder_7d493, cJ0_coder_7d493, 1, (some .byte), 0, 0)
theorem okJ0_coder_7d493 : mOk mJ0_coder_7d493 0 := ⟨by decide +kernel, mTb_in3 (i := 62) rfl rfl, mTb_in1 (i := 10) rfl rfl, ⟨by decide +kernel, by decide +kernel, by decide +kernel⟩, by decide +kernel⟩
def mJ0_charAt_5068e : mD := (yJ0_charAt_5068e, cJ0_charAt_5068e, 2, (some .char), 0, 0)
theorem okJ0_charAt_5068e : mOk mJ0_charAt_5068e 1 := ⟨by decide +kernel, mTb_in3 (i := 68) rfl rfl, mTb_in1 (i := 10) rfl rfl, ⟨by decide +kernel, by decide +kernel, by decide +kernel⟩, by decide +kernel⟩
def mJ0_isLatin1_aae02 : mD := (yJ0_isLatin1_aae02, cJ0_isLatin1_aae02, 1, (some .boolean), 0, 0)
theorem okJ0_isLatin1_aae02 : mOk mJ0_isLatin1_aae02 0 := ⟨by decide +kernel, mTb_in3 (i := 72) rfl rfl, mTb_in1 (i := 10) rfl rfl, ⟨by decide +kernel, by decide +kernel, by decide +kernel⟩, by decide +kernel⟩
def mJ1_charAt_3b067 : mD := (yJ1_charAt_3b067, cJ1_charAt_3b067, 2, (some .char), 0, 0)
theorem okJ1_charAt_3b067 : mOk mJ1_charAt_3b067 2 := ⟨by decide +kernel, mTb_in3 (i := 75) rfl rfl, mTb_in1 (i := 11) rfl rfl, ⟨by decide +kernel, by decide +kernel, by decide +kernel⟩, by decide +kernel⟩
def mJ0_checkIndex_df160 : mD := (yJ0_checkIndex_df160, cJ0_checkIndex_df160, 2, none, 0, 0)
theorem okJ0_checkIndex_df160 : mOk mJ0_checkIndex_df160 2 := ⟨by decide +kernel, mTb_in3 (i := 78) rfl rfl, mTb_in1 (i := 10) rfl rfl, ⟨by decide +kernel, by decide +kernel, by decide +kernel⟩, by decide +kernel⟩
def mJ3_checkIndex_8e157 : mD := (yJ3_checkIndex_8e157, cJ3_checkIndex_8e157, 3, (some .int), 0, 0)
theorem okJ3_checkIndex_8e157 : mOk mJ3_checkIndex_8e157 3 := ⟨by decide +kernel, mTb_in3 (i := 83) rfl rfl, mTb_in1 (i := 12) rfl rfl, ⟨by decide +kernel, by decide +kernel, by decide +kernel⟩, by decide +kernel⟩
def mJ2_charAt_3b067 : mD := (yJ2_charAt_3b067, cJ2_charAt_3b067, 2, (some .char), 0, 0)
theorem okJ2_charAt_3b067 : mOk mJ2_charAt_3b067 2 := ⟨by decide +kernel, mTb_in3 (i := 86) rfl rfl, mTb_in1 (i := 13) rfl rfl, ⟨by decide +kernel, by decide +kernel, by decide +kernel⟩, by decide +kernel⟩
def mJ2_checkIndex_2214a : mD := (yJ2_checkIndex_2214a, cJ2_checkIndex_2214a, 2, none, 0, 0)
theorem okJ2_checkIndex_2214a : mOk mJ2_checkIndex_2214a 2 := ⟨by decide +kernel, mTb_in3 (i := 89) rfl rfl, mTb_in1 (i := 13) rfl rfl, ⟨by decide +kernel, by decide +kernel, by decide +kernel⟩, by decide +kernel⟩
def mJ2_length_9d52b : mD := (yJ2_length_9d52b, cJ2_length_9d52b, 1, (some .int), 0, 0)
theorem okJ2_length_9d52b : mOk mJ2_length_9d52b 1 := ⟨by decide +kernel, mTb_in3 (i := 92) rfl rfl, mTb_in1 (i := 13) rfl rfl, ⟨by decide +kernel, by decide +kernel, by decide +kernel⟩, by decide +kernel⟩
def mJ2_getChar_3b067 : mD := (yJ2_getChar_3b067, cJ2_getChar_3b067, 2, (some .char), 0, 0)
theorem okJ2_getChar_3b067 : mOk mJ2_getChar_3b067 2 := ⟨by decide +kernel, mTb_in3 (i := 96) rfl rfl, mTb_in1 (i := 13) rfl rfl, ⟨by decide +kernel, by decide +kernel, by decide +kernel⟩, by decide +kernel⟩
def mX3_readName : mD := (yX3_readName, cX3_readName, 2, (some .int), 0, 0)
theorem okX3_readName : mOk mX3_readName 0 := ⟨by decide +kernel, mTb_in3 (i := 106) rfl rfl, mTb_in1 (i := 6) rfl rfl, ⟨by decide +kernel, by decide +kernel, by decide +kernel⟩, by decide +kernel⟩
def mX3_signAt : mD := (yX3_signAt, cX3_signAt, 2, (some .int), 0, 0)
theorem okX3_signAt : mOk mX3_signAt 1 := ⟨by decide +kernel, mTb_in3 (i := 110) rfl rfl, mTb_in1 (i := 6) rfl rfl, ⟨by decide +kernel, by decide +kernel, by decide +kernel⟩, by decide +kernel⟩
def mX3_readNumber : mD := (yX3_readNumber, cX3_readNumber, 3, (some .int), 0, 0)
theorem okX3_readNumber : mOk mX3_readNumber 0 := ⟨by decide +kernel, mTb_in3 (i := 115) rfl rfl, mTb_in1 (i := 6) rfl rfl, ⟨by decide +kernel, by decide +kernel, by decide +kernel⟩, by decide +kernel⟩
def mX2_perform : mD := (yX2_perform, cX2_perform, 5, (some .int), 0, 0)
theorem okX2_perform : mOk mX2_perform 4 := ⟨by decide +kernel, mTb_in3 (i := 119) rfl rfl, mTb_in1 (i := 2) rfl rfl, ⟨by decide +kernel, by decide +kernel, by decide +kernel⟩, by decide +kernel⟩
def mX5_play : mD := (yX5_play, cX5_play, 2, (some .int), 0, 0)
theorem okX5_play : mOk mX5_play 0 := ⟨by decide +kernel, mTb_in3 (i := 131) rfl rfl, mTb_in1 (i := 1) rfl rfl, ⟨by decide +kernel, by decide +kernel, by decide +kernel⟩, by decide +kernel⟩
def mX6_init : mD := (yX6_init, cX6_init, 1, none, 7, 1161)
theorem okX6_init : mOk mX6_init 0 := ⟨by decide +kernel, mTb_in3 (i := 136) rfl rfl, mTb_in1 (i := 7) rfl rfl, ⟨by decide +kernel, by decide +kernel, by decide +kernel⟩, by decide +kernel⟩
def mX6_clears : mD := (yX6_clears, cX6_clears, 3, none, 0, 0)
theorem okX6_clears : mOk mX6_clears 1 := ⟨by decide +kernel, mTb_in3 (i := 141) rfl rfl, mTb_in1 (i := 7) rfl rfl, ⟨by decide +kernel, by decide +kernel, by decide +kernel⟩, by decide +kernel⟩
def mX6_in : mD := (yX6_in, cX6_in, 3, (some .boolean), 0, 0)
theorem okX6_in : mOk mX6_in 3 := ⟨by decide +kernel, mTb_in3 (i := 144) rfl rfl, mTb_in1 (i := 7) rfl rfl, ⟨by decide +kernel, by decide +kernel, by decide +kernel⟩, by decide +kernel⟩
def mX6_begin : mD := (yX6_begin, cX6_begin, 3, (some .int), 0, 0)
theorem okX6_begin : mOk mX6_begin 1 := ⟨by decide +kernel, mTb_in3 (i := 188) rfl rfl, mTb_in1 (i := 7) rfl rfl, ⟨by decide +kernel, by decide +kernel, by decide +kernel⟩, by decide +kernel⟩
def mX6_changes : mD := (yX6_changes, cX6_changes, 3, none, 0, 0)
theorem okX6_changes : mOk mX6_changes 1 := ⟨by decide +kernel, mTb_in3 (i := 192) rfl rfl, mTb_in1 (i := 7) rfl rfl, ⟨by decide +kernel, by decide +kernel, by decide +kernel⟩, by decide +kernel⟩
def mX6_put : mD := (yX6_put, cX6_put, 4, (some .int), 0, 0)
theorem okX6_put : mOk mX6_put 2 := ⟨by decide +kernel, mTb_in3 (i := 196) rfl rfl, mTb_in1 (i := 7) rfl rfl, ⟨by decide +kernel, by decide +kernel, by decide +kernel⟩, by decide +kernel⟩
def mX6_isName : mD := (yX6_isName, cX6_isName, 1, (some .boolean), 0, 0)
theorem okX6_isName : mOk mX6_isName 1 := ⟨by decide +kernel, mTb_in3 (i := 199) rfl rfl, mTb_in1 (i := 7) rfl rfl, ⟨by decide +kernel, by decide +kernel, by decide +kernel⟩, by decide +kernel⟩
def mX6_copies : mD := (yX6_copies, cX6_copies, 3, none, 0, 0)
theorem okX6_copies : mOk mX6_copies 2 := ⟨by decide +kernel, mTb_in3 (i := 202) rfl rfl, mTb_in1 (i := 7) rfl rfl, ⟨by decide +kernel, by decide +kernel, by decide +kernel⟩, by decide +kernel⟩
def mX6_givesUp : mD := (yX6_givesUp, cX6_givesUp, 2, none, 0, 0)
theorem okX6_givesUp : mOk mX6_givesUp 1 := ⟨by decide +kernel, mTb_in3 (i := 206) rfl rfl, mTb_in1 (i := 7) rfl rfl, ⟨by decide +kernel, by decide +kernel, by decide +kernel⟩, by decide +kernel⟩
def mX6_frees : mD := (yX6_frees, cX6_frees, 3, none, 0, 0)
theorem okX6_frees : mOk mX6_frees 0 := ⟨by decide +kernel, mTb_in3 (i := 210) rfl rfl, mTb_in1 (i := 7) rfl rfl, ⟨by decide +kernel, by decide +kernel, by decide +kernel⟩, by decide +kernel⟩
def mX6_isHad : mD := (yX6_isHad, cX6_isHad, 4, (some .boolean), 0, 0)
theorem okX6_isHad : mOk mX6_isHad 1 := ⟨by decide +kernel, mTb_in3 (i := 214) rfl rfl, mTb_in1 (i := 7) rfl rfl, ⟨by decide +kernel, by decide +kernel, by decide +kernel⟩, by decide +kernel⟩
def mX6_marksOf : mD := (yX6_marksOf, cX6_marksOf, 5, (some .int), 0, 0)
theorem okX6_marksOf : mOk mX6_marksOf 1 := ⟨by decide +kernel, mTb_in3 (i := 218) rfl rfl, mTb_in1 (i := 7) rfl rfl, ⟨by decide +kernel, by decide +kernel, by decide +kernel⟩, by decide +kernel⟩
def mX6_readers : mD := (yX6_readers, cX6_readers, 4, (some .int), 0, 0)
theorem okX6_readers : mOk mX6_readers 1 := ⟨by decide +kernel, mTb_in3 (i := 222) rfl rfl, mTb_in1 (i := 7) rfl rfl, ⟨by decide +kernel, by decide +kernel, by decide +kernel⟩, by decide +kernel⟩
def mX6_ofOrder : mD := (yX6_ofOrder, cX6_ofOrder, 2, (some .int), 0, 0)
theorem okX6_ofOrder : mOk mX6_ofOrder 2 := ⟨by decide +kernel, mTb_in3 (i := 225) rfl rfl, mTb_in1 (i := 7) rfl rfl, ⟨by decide +kernel, by decide +kernel, by decide +kernel⟩, by decide +kernel⟩
def mX6_isOfOrder : mD := (yX6_isOfOrder, cX6_isOfOrder, 4, (some .boolean), 0, 0)
theorem okX6_isOfOrder : mOk mX6_isOfOrder 1 := ⟨by decide +kernel, mTb_in3 (i := 229) rfl rfl, mTb_in1 (i := 7) rfl rfl, ⟨by decide +kernel, by decide +kernel, by decide +kernel⟩, by decide +kernel⟩
def mX6_at : mD := (yX6_at, cX6_at, 2, (some .int), 0, 0)
theorem okX6_at : mOk mX6_at 2 := ⟨by decide +kernel, mTb_in3 (i := 232) rfl rfl, mTb_in1 (i := 7) rfl rfl, ⟨by decide +kernel, by decide +kernel, by decide +kernel⟩, by decide +kernel⟩
def mX6_gets : mD := (yX6_gets, cX6_gets, 5, (some .int), 0, 0)
theorem okX6_gets : mOk mX6_gets 3 := ⟨by decide +kernel, mTb_in3 (i := 236) rfl rfl, mTb_in1 (i := 7) rfl rfl, ⟨by decide +kernel, by decide +kernel, by decide +kernel⟩, by decide +kernel⟩
def mX6_chairFor : mD := (yX6_chairFor, cX6_chairFor, 5, (some .int), 0, 0)
theorem okX6_chairFor : mOk mX6_chairFor 2 := ⟨by decide +kernel, mTb_in4 (i := 0) rfl rfl, mTb_in1 (i := 7) rfl rfl, ⟨by decide +kernel, by decide +kernel, by decide +kernel⟩, by decide +kernel⟩
def mX6_next : mD := (yX6_next, cX6_next, 7, (some .int), 0, 0)
theorem okX6_next : mOk mX6_next 2 := ⟨by decide +kernel, mTb_in4 (i := 4) rfl rfl, mTb_in1 (i := 7) rfl rfl, ⟨by decide +kernel, by decide +kernel, by decide +kernel⟩, by decide +kernel⟩
def mX6_isKnown : mD := (yX6_isKnown, cX6_isKnown, 3, none, 0, 0)
theorem okX6_isKnown : mOk mX6_isKnown 2 := ⟨by decide +kernel, mTb_in4 (i := 8) rfl rfl, mTb_in1 (i := 7) rfl rfl, ⟨by decide +kernel, by decide +kernel, by decide +kernel⟩, by decide +kernel⟩
def mX6_copy : mD := (yX6_copy, cX6_copy, 4, (some .int), 0, 0)
theorem okX6_copy : mOk mX6_copy 2 := ⟨by decide +kernel, mTb_in4 (i := 12) rfl rfl, mTb_in1 (i := 7) rfl rfl, ⟨by decide +kernel, by decide +kernel, by decide +kernel⟩, by decide +kernel⟩
def mX6_sits : mD := (yX6_sits, cX6_sits, 6, (some .boolean), 0, 0)
theorem okX6_sits : mOk mX6_sits 3 := ⟨by decide +kernel, mTb_in4 (i := 16) rfl rfl, mTb_in1 (i := 7) rfl rfl, ⟨by decide +kernel, by decide +kernel, by decide +kernel⟩, by decide +kernel⟩
def mX6_order : mD := (yX6_order, cX6_order, 7, (some .int), 0, 0)
theorem okX6_order : mOk mX6_order 4 := ⟨by decide +kernel, mTb_in4 (i := 20) rfl rfl, mTb_in1 (i := 7) rfl rfl, ⟨by decide +kernel, by decide +kernel, by decide +kernel⟩, by decide +kernel⟩
def mX6_gives : mD := (yX6_gives, cX6_gives, 8, (some .int), 0, 0)
theorem okX6_gives : mOk mX6_gives 3 := ⟨by decide +kernel, mTb_in4 (i := 24) rfl rfl, mTb_in1 (i := 7) rfl rfl, ⟨by decide +kernel, by decide +kernel, by decide +kernel⟩, by decide +kernel⟩
def mX6_tick : mD := (yX6_tick, cX6_tick, 4, (some .int), 0, 0)
theorem okX6_tick : mOk mX6_tick 1 := ⟨by decide +kernel, mTb_in4 (i := 28) rfl rfl, mTb_in1 (i := 7) rfl rfl, ⟨by decide +kernel, by decide +kernel, by decide +kernel⟩, by decide +kernel⟩
def mX6_ticks : mD := (yX6_ticks, cX6_ticks, 4, none, 0, 0)
theorem okX6_ticks : mOk mX6_ticks 0 := ⟨by decide +kernel, mTb_in4 (i := 33) rfl rfl, mTb_in1 (i := 7) rfl rfl, ⟨by decide +kernel, by decide +kernel, by decide +kernel⟩, by decide +kernel⟩
def mX6_dones : mD := (yX6_dones, cX6_dones, 4, none, 0, 0)
theorem okX6_dones : mOk mX6_dones 0 := ⟨by decide +kernel, mTb_in4 (i := 37) rfl rfl, mTb_in1 (i := 7) rfl rfl, ⟨by decide +kernel, by decide +kernel, by decide +kernel⟩, by decide +kernel⟩
def mX6_result : mD := (yX6_result, cX6_result, 4, (some .int), 0, 0)
theorem okX6_result : mOk mX6_result 3 := ⟨by decide +kernel, mTb_in4 (i := 40) rfl rfl, mTb_in1 (i := 7) rfl rfl, ⟨by decide +kernel, by decide +kernel, by decide +kernel⟩, by decide +kernel⟩
def mX6_drops : mD := (yX6_drops, cX6_drops, 3, none, 0, 0)
theorem okX6_drops : mOk mX6_drops 1 := ⟨by decide +kernel, mTb_in4 (i := 45) rfl rfl, mTb_in1 (i := 7) rfl rfl, ⟨by decide +kernel, by decide +kernel, by decide +kernel⟩, by decide +kernel⟩
def mX6_set : mD := (yX6_set, cX6_set, 5, (some .int), 0, 0)
theorem okX6_set : mOk mX6_set 2 := ⟨by decide +kernel, mTb_in4 (i := 49) rfl rfl, mTb_in1 (i := 7) rfl rfl, ⟨by decide +kernel, by decide +kernel, by decide +kernel⟩, by decide +kernel⟩
def mX6_mark : mD := (yX6_mark, cX6_mark, 2, (some .int), 0, 0)
theorem okX6_mark : mOk mX6_mark 0 := ⟨by decide +kernel, mTb_in4 (i := 53) rfl rfl, mTb_in1 (i := 7) rfl rfl, ⟨by decide +kernel, by decide +kernel, by decide +kernel⟩, by decide +kernel⟩
def mX6_keep : mD := (yX6_keep, cX6_keep, 2, (some .int), 0, 0)
theorem okX6_keep : mOk mX6_keep 0 := ⟨by decide +kernel, mTb_in4 (i := 57) rfl rfl, mTb_in1 (i := 7) rfl rfl, ⟨by decide +kernel, by decide +kernel, by decide +kernel⟩, by decide +kernel⟩
def mX6_back : mD := (yX6_back, cX6_back, 4, (some .int), 0, 0)
theorem okX6_back : mOk mX6_back 1 := ⟨by decide +kernel, mTb_in4 (i := 61) rfl rfl, mTb_in1 (i := 7) rfl rfl, ⟨by decide +kernel, by decide +kernel, by decide +kernel⟩, by decide +kernel⟩
def mX6_isMark : mD := (yX6_isMark, cX6_isMark, 2, (some .boolean), 0, 0)
theorem okX6_isMark : mOk mX6_isMark 1 := ⟨by decide +kernel, mTb_in4 (i := 65) rfl rfl, mTb_in1 (i := 7) rfl rfl, ⟨by decide +kernel, by decide +kernel, by decide +kernel⟩, by decide +kernel⟩
def mX6_markOf : mD := (yX6_markOf, cX6_markOf, 5, (some .int), 0, 0)
theorem okX6_markOf : mOk mX6_markOf 3 := ⟨by decide +kernel, mTb_in4 (i := 69) rfl rfl, mTb_in1 (i := 7) rfl rfl, ⟨by decide +kernel, by decide +kernel, by decide +kernel⟩, by decide +kernel⟩
def mX6_nameOf : mD := (yX6_nameOf, cX6_nameOf, 4, (some .int), 0, 0)
theorem okX6_nameOf : mOk mX6_nameOf 2 := ⟨by decide +kernel, mTb_in4 (i := 73) rfl rfl, mTb_in1 (i := 7) rfl rfl, ⟨by decide +kernel, by decide +kernel, by decide +kernel⟩, by decide +kernel⟩
def mX6_names : mD := (yX6_names, cX6_names, 4, (some .int), 0, 0)
theorem okX6_names : mOk mX6_names 1 := ⟨by decide +kernel, mTb_in4 (i := 77) rfl rfl, mTb_in1 (i := 7) rfl rfl, ⟨by decide +kernel, by decide +kernel, by decide +kernel⟩, by decide +kernel⟩
def mX6_ones : mD := (yX6_ones, cX6_ones, 3, (some .int), 0, 0)
theorem okX6_ones : mOk mX6_ones 1 := ⟨by decide +kernel, mTb_in4 (i := 80) rfl rfl, mTb_in1 (i := 7) rfl rfl, ⟨by decide +kernel, by decide +kernel, by decide +kernel⟩, by decide +kernel⟩
def mX6_toCome : mD := (yX6_toCome, cX6_toCome, 3, (some .int), 0, 0)
theorem okX6_toCome : mOk mX6_toCome 1 := ⟨by decide +kernel, mTb_in4 (i := 84) rfl rfl, mTb_in1 (i := 7) rfl rfl, ⟨by decide +kernel, by decide +kernel, by decide +kernel⟩, by decide +kernel⟩
def mX6_chairOf : mD := (yX6_chairOf, cX6_chairOf, 3, (some .int), 0, 0)
theorem okX6_chairOf : mOk mX6_chairOf 2 := ⟨by decide +kernel, mTb_in4 (i := 88) rfl rfl, mTb_in1 (i := 7) rfl rfl, ⟨by decide +kernel, by decide +kernel, by decide +kernel⟩, by decide +kernel⟩
def mX6_orderOf : mD := (yX6_orderOf, cX6_orderOf, 4, (some .int), 0, 0)
theorem okX6_orderOf : mOk mX6_orderOf 2 := ⟨by decide +kernel, mTb_in4 (i := 92) rfl rfl, mTb_in1 (i := 7) rfl rfl, ⟨by decide +kernel, by decide +kernel, by decide +kernel⟩, by decide +kernel⟩
def mX6_count : mD := (yX6_count, cX6_count, 2, (some .int), 0, 0)
theorem okX6_count : mOk mX6_count 1 := ⟨by decide +kernel, mTb_in4 (i := 96) rfl rfl, mTb_in1 (i := 7) rfl rfl, ⟨by decide +kernel, by decide +kernel, by decide +kernel⟩, by decide +kernel⟩
def mX6_many : mD := (yX6_many, cX6_many, 4, (some .int), 0, 0)
theorem okX6_many : mOk mX6_many 1 := ⟨by decide +kernel, mTb_in4 (i := 100) rfl rfl, mTb_in1 (i := 7) rfl rfl, ⟨by decide +kernel, by decide +kernel, by decide +kernel⟩, by decide +kernel⟩
def mX6_sends : mD := (yX6_sends, cX6_sends, 6, (some .int), 0, 0)
theorem okX6_sends : mOk mX6_sends 3 := ⟨by decide +kernel, mTb_in4 (i := 104) rfl rfl, mTb_in1 (i := 7) rfl rfl, ⟨by decide +kernel, by decide +kernel, by decide +kernel⟩, by decide +kernel⟩
def mX6_idleIn : mD := (yX6_idleIn, cX6_idleIn, 2, (some .int), 0, 0)
theorem okX6_idleIn : mOk mX6_idleIn 0 := ⟨by decide +kernel, mTb_in4 (i := 108) rfl rfl, mTb_in1 (i := 7) rfl rfl, ⟨by decide +kernel, by decide +kernel, by decide +kernel⟩, by decide +kernel⟩
def mX6_knownIn : mD := (yX6_knownIn, cX6_knownIn, 4, (some .int), 0, 0)
theorem okX6_knownIn : mOk mX6_knownIn 1 := ⟨by decide +kernel, mTb_in4 (i := 112) rfl rfl, mTb_in1 (i := 7) rfl rfl, ⟨by decide +kernel, by decide +kernel, by decide +kernel⟩, by decide +kernel⟩
def mX6_undo : mD := (yX6_undo, cX6_undo, 2, (some .int), 0, 0)
theorem okX6_undo : mOk mX6_undo 0 := ⟨by decide +kernel, mTb_in4 (i := 116) rfl rfl, mTb_in1 (i := 7) rfl rfl, ⟨by decide +kernel, by decide +kernel, by decide +kernel⟩, by decide +kernel⟩
def mX6_type : mD := (yX6_type, cX6_type, 2, (some .int), 0, 0)
theorem okX6_type : mOk mX6_type 1 := ⟨by decide +kernel, mTb_in4 (i := 120) rfl rfl, mTb_in1 (i := 7) rfl rfl, ⟨by decide +kernel, by decide +kernel, by decide +kernel⟩, by decide +kernel⟩
def mX6_clearText : mD := (yX6_clearText, cX6_clearText, 2, (some .int), 0, 0)
theorem okX6_clearText : mOk mX6_clearText 0 := ⟨by decide +kernel, mTb_in4 (i := 124) rfl rfl, mTb_in1 (i := 7) rfl rfl, ⟨by decide +kernel, by decide +kernel, by decide +kernel⟩, by decide +kernel⟩
def mX6_fault : mD := (yX6_fault, cX6_fault, 3, (some .int), 0, 0)
theorem okX6_fault : mOk mX6_fault 1 := ⟨by decide +kernel, mTb_in4 (i := 128) rfl rfl, mTb_in1 (i := 7) rfl rfl, ⟨by decide +kernel, by decide +kernel, by decide +kernel⟩, by decide +kernel⟩
def mX6_plays : mD := (yX6_plays, cX6_plays, 4, (some .int), 0, 0)
theorem okX6_plays : mOk mX6_plays 0 := ⟨by decide +kernel, mTb_in4 (i := 132) rfl rfl, mTb_in1 (i := 7) rfl rfl, ⟨by decide +kernel, by decide +kernel, by decide +kernel⟩, by decide +kernel⟩
def mX6_isAt : mD := (yX6_isAt, cX6_isAt, 3, (some .boolean), 0, 0)
theorem okX6_isAt : mOk mX6_isAt 2 := ⟨by decide +kernel, mTb_in4 (i := 136) rfl rfl, mTb_in1 (i := 7) rfl rfl, ⟨by decide +kernel, by decide +kernel, by decide +kernel⟩, by decide +kernel⟩
def mX6_wordAt : mD := (yX6_wordAt, cX6_wordAt, 2, (some .int), 0, 0)
theorem okX6_wordAt : mOk mX6_wordAt 1 := ⟨by decide +kernel, mTb_in4 (i := 140) rfl rfl, mTb_in1 (i := 7) rfl rfl, ⟨by decide +kernel, by decide +kernel, by decide +kernel⟩, by decide +kernel⟩
def mX6_isWord : mD := (yX6_isWord, cX6_isWord, 7, (some .boolean), 0, 0)
theorem okX6_isWord : mOk mX6_isWord 5 := ⟨by decide +kernel, mTb_in4 (i := 144) rfl rfl, mTb_in1 (i := 7) rfl rfl, ⟨by decide +kernel, by decide +kernel, by decide +kernel⟩, by decide +kernel⟩
def mX6_isForm : mD := (yX6_isForm, cX6_isForm, 3, (some .boolean), 0, 0)
theorem okX6_isForm : mOk mX6_isForm 1 := ⟨by decide +kernel, mTb_in4 (i := 148) rfl rfl, mTb_in1 (i := 7) rfl rfl, ⟨by decide +kernel, by decide +kernel, by decide +kernel⟩, by decide +kernel⟩
def mX6_readsName : mD := (yX6_readsName, cX6_readsName, 2, (some .boolean), 0, 0)
theorem okX6_readsName : mOk mX6_readsName 1 := ⟨by decide +kernel, mTb_in4 (i := 152) rfl rfl, mTb_in1 (i := 7) rfl rfl, ⟨by decide +kernel, by decide +kernel, by decide +kernel⟩, by decide +kernel⟩
def mX6_passes : mD := (yX6_passes, cX6_passes, 3, (some .boolean), 0, 0)
theorem okX6_passes : mOk mX6_passes 1 := ⟨by decide +kernel, mTb_in4 (i := 156) rfl rfl, mTb_in1 (i := 7) rfl rfl, ⟨by decide +kernel, by decide +kernel, by decide +kernel⟩, by decide +kernel⟩
def mX6_readsNumber : mD := (yX6_readsNumber, cX6_readsNumber, 3, (some .boolean), 0, 0)
theorem okX6_readsNumber : mOk mX6_readsNumber 1 := ⟨by decide +kernel, mTb_in4 (i := 160) rfl rfl, mTb_in1 (i := 7) rfl rfl, ⟨by decide +kernel, by decide +kernel, by decide +kernel⟩, by decide +kernel⟩
def mX6_does : mD := (yX6_does, cX6_does, 2, (some .int), 0, 0)
theorem okX6_does : mOk mX6_does 1 := ⟨by decide +kernel, mTb_in4 (i := 164) rfl rfl, mTb_in1 (i := 7) rfl rfl, ⟨by decide +kernel, by decide +kernel, by decide +kernel⟩, by decide +kernel⟩
def mX6_play : mD := (yX6_play, cX6_play, 2, (some .int), 0, 0)
theorem okX6_play : mOk mX6_play 0 := ⟨by decide +kernel, mTb_in4 (i := 175) rfl rfl, mTb_in1 (i := 7) rfl rfl, ⟨by decide +kernel, by decide +kernel, by decide +kernel⟩, by decide +kernel⟩
theorem iniRL : Cond.initialized RL ∈ mTb := mTb_in1 (i := 0) rfl rfl
theorem iniRX5 : Cond.initialized RX5 ∈ mTb := mTb_in1 (i := 1) rfl rfl
theorem iniRX2 : Cond.initialized RX2 ∈ mTb := mTb_in1 (i := 2) rfl rfl
theorem iniRX0 : Cond.initialized RX0 ∈ mTb := mTb_in1 (i := 3) rfl rfl
theorem iniRX4 : Cond.initialized RX4 ∈ mTb := mTb_in1 (i := 4) rfl rfl
theorem iniRX1 : Cond.initialized RX1 ∈ mTb := mTb_in1 (i := 5) rfl rfl
theorem iniRX3 : Cond.initialized RX3 ∈ mTb := mTb_in1 (i := 6) rfl rfl
theorem iniRX6 : Cond.initialized RX6 ∈ mTb := mTb_in1 (i := 7) rfl rfl
theorem iniRJ9 : Cond.initialized RJ9 ∈ mTb := mTb_in1 (i := 8) rfl rfl
theorem iniRJ6 : Cond.initialized RJ6 ∈ mTb := mTb_in1 (i := 9) rfl rfl
theorem iniRJ0 : Cond.initialized RJ0 ∈ mTb := mTb_in1 (i := 10) rfl rfl
theorem iniRJ1 : Cond.initialized RJ1 ∈ mTb := mTb_in1 (i := 11) rfl rfl
theorem iniRJ3 : Cond.initialized RJ3 ∈ mTb := mTb_in1 (i := 12) rfl rfl
theorem iniRJ2 : Cond.initialized RJ2 ∈ mTb := mTb_in1 (i := 13) rfl rfl
theorem clRL_7 : Cond.classLink RL 7 RX5 ∈ mTb := mTb_in1 (i := 14) rfl rfl
theorem insRX5 : Cond.instantiable RX5 8 ∈ mTb := mTb_in1 (i := 15) rfl rfl
theorem mlRL_9 : Cond.methodLink RL 9 yX5_init ∈ mTb := mTb_in1 (i := 16) rfl rfl
theorem inX5_init : Cond.instanceMethod yX5_init ∈ mTb := mTb_in1 (i := 17) rfl rfl
theorem mlRX5_1 : Cond.methodLink RX5 1 objectInit ∈ mTb := mTb_in1 (i := 19) rfl rfl
theorem inOBJ : Cond.instanceMethod objectInit ∈ mTb := mTb_in1 (i := 20) rfl rfl
theorem cdOBJ : Cond.code objectInit ⟨#[0xb1]⟩ 1 none ∈ mTb := mTb_in1 (i := 21) rfl rfl
theorem clRX5_7 : Cond.classLink RX5 7 RX2 ∈ mTb := mTb_in1 (i := 22) rfl rfl
theorem insRX2 : Cond.instantiable RX2 12 ∈ mTb := mTb_in1 (i := 23) rfl rfl
theorem mlRX5_9 : Cond.methodLink RX5 9 yX2_init ∈ mTb := mTb_in1 (i := 24) rfl rfl
theorem inX2_init : Cond.instanceMethod yX2_init ∈ mTb := mTb_in1 (i := 25) rfl rfl
theorem mlRX2_3 : Cond.methodLink RX2 3 objectInit ∈ mTb := mTb_in1 (i := 27) rfl rfl
theorem clRX2_37 : Cond.classLink RX2 37 RX0 ∈ mTb := mTb_in1 (i := 28) rfl rfl
theorem insRX0 : Cond.instantiable RX0 2 ∈ mTb := mTb_in1 (i := 29) rfl rfl
theorem mlRX2_39 : Cond.methodLink RX2 39 yX0_init ∈ mTb := mTb_in1 (i := 30) rfl rfl
theorem inX0_init : Cond.instanceMethod yX0_init ∈ mTb := mTb_in1 (i := 31) rfl rfl
theorem mlRX0_3 : Cond.methodLink RX0 3 objectInit ∈ mTb := mTb_in1 (i := 33) rfl rfl
theorem flRX0_9 : Cond.fieldLink RX0 9 (mTx 0 0).1 (mTx 0 0).2.1 (mTx 0 0).2.2.1 ∈ mTb := mTb_in1 (i := 34) rfl rfl
theorem flRX2_111 : Cond.fieldLink RX2 111 (mTx 0 0).1 (mTx 0 0).2.1 (mTx 0 0).2.2.1 ∈ mTb := mTb_in1 (i := 35) rfl rfl
theorem flRX0_15 : Cond.fieldLink RX0 15 (mTx 0 1).1 (mTx 0 1).2.1 (mTx 0 1).2.2.1 ∈ mTb := mTb_in1 (i := 36) rfl rfl
theorem flRX2_150 : Cond.fieldLink RX2 150 (mTx 0 1).1 (mTx 0 1).2.1 (mTx 0 1).2.2.1 ∈ mTb := mTb_in1 (i := 37) rfl rfl
theorem ac_int : Cond.arrayClass .int ∈ mTb := mTb_in1 (i := 43) rfl rfl
theorem clRX2_44 : Cond.classLink RX2 44 RX4 ∈ mTb := mTb_in1 (i := 44) rfl rfl
theorem insRX4 : Cond.instantiable RX4 3 ∈ mTb := mTb_in1 (i := 45) rfl rfl
theorem mnRX2_46 : ((RX2, 46, yX4_init, RX5) : String × Nat × MethodName × String) ∈ mNest := by decide +kernel
theorem inX4_init : Cond.instanceMethod yX4_init ∈ mTb := mTb_in1 (i := 47) rfl rfl
theorem mlRX4_3 : Cond.methodLink RX4 3 objectInit ∈ mTb := mTb_in1 (i := 49) rfl rfl
theorem flRX4_9 : Cond.fieldLink RX4 9 (mTx 4 0).1 (mTx 4 0).2.1 (mTx 4 0).2.2.1 ∈ mTb := mTb_in1 (i := 50) rfl rfl
theorem flRX4_15 : Cond.fieldLink RX4 15 (mTx 4 1).1 (mTx 4 1).2.1 (mTx 4 1).2.2.1 ∈ mTb := mTb_in1 (i := 51) rfl rfl
theorem flRX2_242 : Cond.fieldLink RX2 242 (mTx 4 1).1 (mTx 4 1).2.1 (mTx 4 1).2.2.1 ∈ mTb := mTb_in1 (i := 52) rfl rfl
theorem flRX4_18 : Cond.fieldLink RX4 18 (mTx 4 2).1 (mTx 4 2).2.1 (mTx 4 2).2.2.1 ∈ mTb := mTb_in1 (i := 53) rfl rfl
theorem flRX2_245 : Cond.fieldLink RX2 245 (mTx 4 2).1 (mTx 4 2).2.1 (mTx 4 2).2.2.1 ∈ mTb := mTb_in1 (i := 54) rfl rfl
theorem clRX2_51 : Cond.classLink RX2 51 RX1 ∈ mTb := mTb_in1 (i := 62) rfl rfl
theorem insRX1 : Cond.instantiable RX1 6 ∈ mTb := mTb_in1 (i := 63) rfl rfl
theorem mnRX2_53 : ((RX2, 53, yX1_init, RX5) : String × Nat × MethodName × String) ∈ mNest := by decide +kernel
theorem inX1_init : Cond.instanceMethod yX1_init ∈ mTb := mTb_in1 (i := 65) rfl rfl
theorem mlRX1_3 : Cond.methodLink RX1 3 objectInit ∈ mTb := mTb_in1 (i := 67) rfl rfl
theorem flRX1_9 : Cond.fieldLink RX1 9 (mTx 1 0).1 (mTx 1 0).2.1 (mTx 1 0).2.2.1 ∈ mTb := mTb_in1 (i := 68) rfl rfl
theorem flRX2_101 : Cond.fieldLink RX2 101 (mTx 1 0).1 (mTx 1 0).2.1 (mTx 1 0).2.2.1 ∈ mTb := mTb_in1 (i := 69) rfl rfl
theorem flRX1_15 : Cond.fieldLink RX1 15 (mTx 1 1).1 (mTx 1 1).2.1 (mTx 1 1).2.2.1 ∈ mTb := mTb_in1 (i := 70) rfl rfl
theorem flRX2_199 : Cond.fieldLink RX2 199 (mTx 1 1).1 (mTx 1 1).2.1 (mTx 1 1).2.2.1 ∈ mTb := mTb_in1 (i := 71) rfl rfl
theorem flRX1_19 : Cond.fieldLink RX1 19 (mTx 1 2).1 (mTx 1 2).2.1 (mTx 1 2).2.2.1 ∈ mTb := mTb_in1 (i := 72) rfl rfl
theorem flRX2_186 : Cond.fieldLink RX2 186 (mTx 1 2).1 (mTx 1 2).2.1 (mTx 1 2).2.2.1 ∈ mTb := mTb_in1 (i := 73) rfl rfl
theorem flRX1_22 : Cond.fieldLink RX1 22 (mTx 1 3).1 (mTx 1 3).2.1 (mTx 1 3).2.2.1 ∈ mTb := mTb_in1 (i := 74) rfl rfl
theorem flRX2_193 : Cond.fieldLink RX2 193 (mTx 1 3).1 (mTx 1 3).2.1 (mTx 1 3).2.2.1 ∈ mTb := mTb_in1 (i := 75) rfl rfl
theorem flRX1_25 : Cond.fieldLink RX1 25 (mTx 1 4).1 (mTx 1 4).2.1 (mTx 1 4).2.2.1 ∈ mTb := mTb_in1 (i := 76) rfl rfl
theorem flRX2_196 : Cond.fieldLink RX2 196 (mTx 1 4).1 (mTx 1 4).2.1 (mTx 1 4).2.2.1 ∈ mTb := mTb_in1 (i := 77) rfl rfl
theorem flRX1_28 : Cond.fieldLink RX1 28 (mTx 1 5).1 (mTx 1 5).2.1 (mTx 1 5).2.2.1 ∈ mTb := mTb_in1 (i := 78) rfl rfl
theorem flRX2_237 : Cond.fieldLink RX2 237 (mTx 1 5).1 (mTx 1 5).2.1 (mTx 1 5).2.2.1 ∈ mTb := mTb_in1 (i := 79) rfl rfl
theorem flRX2_9 : Cond.fieldLink RX2 9 (mTx 2 0).1 (mTx 2 0).2.1 (mTx 2 0).2.2.1 ∈ mTb := mTb_in1 (i := 94) rfl rfl
theorem flRX2_15 : Cond.fieldLink RX2 15 (mTx 2 1).1 (mTx 2 1).2.1 (mTx 2 1).2.2.1 ∈ mTb := mTb_in1 (i := 95) rfl rfl
theorem flRX2_18 : Cond.fieldLink RX2 18 (mTx 2 2).1 (mTx 2 2).2.1 (mTx 2 2).2.2.1 ∈ mTb := mTb_in1 (i := 96) rfl rfl
theorem flRX2_21 : Cond.fieldLink RX2 21 (mTx 2 3).1 (mTx 2 3).2.1 (mTx 2 3).2.2.1 ∈ mTb := mTb_in1 (i := 97) rfl rfl
theorem flRX5_100 : Cond.fieldLink RX5 100 (mTx 2 3).1 (mTx 2 3).2.1 (mTx 2 3).2.2.1 ∈ mTb := mTb_in1 (i := 98) rfl rfl
theorem flRX2_24 : Cond.fieldLink RX2 24 (mTx 2 4).1 (mTx 2 4).2.1 (mTx 2 4).2.2.1 ∈ mTb := mTb_in1 (i := 99) rfl rfl
theorem flRX2_27 : Cond.fieldLink RX2 27 (mTx 2 5).1 (mTx 2 5).2.1 (mTx 2 5).2.2.1 ∈ mTb := mTb_in1 (i := 100) rfl rfl
theorem flRX2_30 : Cond.fieldLink RX2 30 (mTx 2 6).1 (mTx 2 6).2.1 (mTx 2 6).2.2.1 ∈ mTb := mTb_in1 (i := 101) rfl rfl
theorem flRX2_33 : Cond.fieldLink RX2 33 (mTx 2 7).1 (mTx 2 7).2.1 (mTx 2 7).2.2.1 ∈ mTb := mTb_in1 (i := 102) rfl rfl
theorem flRX2_40 : Cond.fieldLink RX2 40 (mTx 2 8).1 (mTx 2 8).2.1 (mTx 2 8).2.2.1 ∈ mTb := mTb_in1 (i := 103) rfl rfl
theorem flRX2_47 : Cond.fieldLink RX2 47 (mTx 2 9).1 (mTx 2 9).2.1 (mTx 2 9).2.2.1 ∈ mTb := mTb_in1 (i := 104) rfl rfl
theorem flRX2_54 : Cond.fieldLink RX2 54 (mTx 2 10).1 (mTx 2 10).2.1 (mTx 2 10).2.2.1 ∈ mTb := mTb_in1 (i := 105) rfl rfl
theorem flRX2_58 : Cond.fieldLink RX2 58 (mTx 2 11).1 (mTx 2 11).2.1 (mTx 2 11).2.2.1 ∈ mTb := mTb_in1 (i := 106) rfl rfl
theorem clRX5_27 : Cond.classLink RX5 27 RX3 ∈ mTb := mTb_in1 (i := 133) rfl rfl
theorem insRX3 : Cond.instantiable RX3 4 ∈ mTb := mTb_in1 (i := 134) rfl rfl
theorem mnRX5_29 : ((RX5, 29, yX3_init, RX5) : String × Nat × MethodName × String) ∈ mNest := by decide +kernel
theorem inX3_init : Cond.instanceMethod yX3_init ∈ mTb := mTb_in1 (i := 136) rfl rfl
theorem mlRX3_3 : Cond.methodLink RX3 3 objectInit ∈ mTb := mTb_in1 (i := 138) rfl rfl
theorem flRX3_9 : Cond.fieldLink RX3 9 (mTx 3 0).1 (mTx 3 0).2.1 (mTx 3 0).2.2.1 ∈ mTb := mTb_in1 (i := 139) rfl rfl
theorem flRX3_15 : Cond.fieldLink RX3 15 (mTx 3 1).1 (mTx 3 1).2.1 (mTx 3 1).2.2.1 ∈ mTb := mTb_in1 (i := 140) rfl rfl
theorem flRX5_94 : Cond.fieldLink RX5 94 (mTx 3 1).1 (mTx 3 1).2.1 (mTx 3 1).2.2.1 ∈ mTb := mTb_in1 (i := 141) rfl rfl
theorem flRX3_19 : Cond.fieldLink RX3 19 (mTx 3 2).1 (mTx 3 2).2.1 (mTx 3 2).2.2.1 ∈ mTb := mTb_in1 (i := 142) rfl rfl
theorem flRX5_135 : Cond.fieldLink RX5 135 (mTx 3 2).1 (mTx 3 2).2.1 (mTx 3 2).2.2.1 ∈ mTb := mTb_in1 (i := 143) rfl rfl
theorem flRX3_23 : Cond.fieldLink RX3 23 (mTx 3 3).1 (mTx 3 3).2.1 (mTx 3 3).2.2.1 ∈ mTb := mTb_in1 (i := 144) rfl rfl
theorem flRX5_142 : Cond.fieldLink RX5 142 (mTx 3 3).1 (mTx 3 3).2.1 (mTx 3 3).2.2.1 ∈ mTb := mTb_in1 (i := 145) rfl rfl
theorem ac_char : Cond.arrayClass .char ∈ mTb := mTb_in1 (i := 155) rfl rfl
theorem flRX5_10 : Cond.fieldLink RX5 10 (mTx 5 0).1 (mTx 5 0).2.1 (mTx 5 0).2.2.1 ∈ mTb := mTb_in1 (i := 156) rfl rfl
theorem flRX5_16 : Cond.fieldLink RX5 16 (mTx 5 1).1 (mTx 5 1).2.1 (mTx 5 1).2.2.1 ∈ mTb := mTb_in1 (i := 157) rfl rfl
theorem flRX5_19 : Cond.fieldLink RX5 19 (mTx 5 2).1 (mTx 5 2).2.1 (mTx 5 2).2.2.1 ∈ mTb := mTb_in1 (i := 158) rfl rfl
theorem flRX5_23 : Cond.fieldLink RX5 23 (mTx 5 3).1 (mTx 5 3).2.1 (mTx 5 3).2.2.1 ∈ mTb := mTb_in1 (i := 159) rfl rfl
theorem flRX5_30 : Cond.fieldLink RX5 30 (mTx 5 4).1 (mTx 5 4).2.1 (mTx 5 4).2.2.1 ∈ mTb := mTb_in1 (i := 160) rfl rfl
theorem flRX5_34 : Cond.fieldLink RX5 34 (mTx 5 5).1 (mTx 5 5).2.1 (mTx 5 5).2.2.1 ∈ mTb := mTb_in1 (i := 161) rfl rfl
theorem flRX5_37 : Cond.fieldLink RX5 37 (mTx 5 6).1 (mTx 5 6).2.1 (mTx 5 6).2.2.1 ∈ mTb := mTb_in1 (i := 162) rfl rfl
theorem flRX5_40 : Cond.fieldLink RX5 40 (mTx 5 7).1 (mTx 5 7).2.1 (mTx 5 7).2.2.1 ∈ mTb := mTb_in1 (i := 163) rfl rfl
theorem mlRL_13 : Cond.methodLink RL 13 yX5_begin ∈ mTb := mTb_in1 (i := 181) rfl rfl
theorem inX5_begin : Cond.instanceMethod yX5_begin ∈ mTb := mTb_in1 (i := 182) rfl rfl
theorem selX5_begin : Cond.selects RX5 yX5_begin yX5_begin ∈ mTb := mTb_in1 (i := 183) rfl rfl
theorem mlRX5_43 : Cond.methodLink RX5 43 yX5_spareRoom ∈ mTb := mTb_in1 (i := 185) rfl rfl
theorem inX5_spareRoom : Cond.instanceMethod yX5_spareRoom ∈ mTb := mTb_in1 (i := 187) rfl rfl
theorem mlRX5_124 : Cond.methodLink RX5 124 yX2_become ∈ mTb := mTb_in1 (i := 189) rfl rfl
theorem inX2_become : Cond.instanceMethod yX2_become ∈ mTb := mTb_in1 (i := 190) rfl rfl
theorem selX2_become : Cond.selects RX2 yX2_become yX2_become ∈ mTb := mTb_in1 (i := 191) rfl rfl
theorem mlRX2_62 : Cond.methodLink RX2 62 yX0_become ∈ mTb := mTb_in1 (i := 193) rfl rfl
theorem inX0_become : Cond.instanceMethod yX0_become ∈ mTb := mTb_in1 (i := 194) rfl rfl
theorem selX0_become : Cond.selects RX0 yX0_become yX0_become ∈ mTb := mTb_in1 (i := 195) rfl rfl
theorem mlRX2_66 : Cond.methodLink RX2 66 yX4_become ∈ mTb := mTb_in1 (i := 197) rfl rfl
theorem inX4_become : Cond.instanceMethod yX4_become ∈ mTb := mTb_in1 (i := 198) rfl rfl
theorem selX4_become : Cond.selects RX4 yX4_become yX4_become ∈ mTb := mTb_in1 (i := 199) rfl rfl
theorem mlRX2_69 : Cond.methodLink RX2 69 yX1_become ∈ mTb := mTb_in1 (i := 201) rfl rfl
theorem inX1_become : Cond.instanceMethod yX1_become ∈ mTb := mTb_in1 (i := 202) rfl rfl
theorem selX1_become : Cond.selects RX1 yX1_become yX1_become ∈ mTb := mTb_in1 (i := 203) rfl rfl
theorem mlRX5_47 : Cond.methodLink RX5 47 yX2_empty ∈ mTb := mTb_in1 (i := 205) rfl rfl
theorem inX2_empty : Cond.instanceMethod yX2_empty ∈ mTb := mTb_in1 (i := 206) rfl rfl
theorem selX2_empty : Cond.selects RX2 yX2_empty yX2_empty ∈ mTb := mTb_in1 (i := 207) rfl rfl
theorem mnRX2_97 : ((RX2, 97, yX5_within, RX5) : String × Nat × MethodName × String) ∈ mNest := by decide +kernel
theorem staX5_within : Cond.static yX5_within ∈ mTb := mTb_in1 (i := 210) rfl rfl
theorem mlRX2_104 : Cond.methodLink RX2 104 yX0_standAtZero ∈ mTb := mTb_in1 (i := 212) rfl rfl
theorem inX0_standAtZero : Cond.instanceMethod yX0_standAtZero ∈ mTb := mTb_in1 (i := 213) rfl rfl
theorem selX0_standAtZero : Cond.selects RX0 yX0_standAtZero yX0_standAtZero ∈ mTb := mTb_in1 (i := 214) rfl rfl
theorem mlRX5_51 : Cond.methodLink RX5 51 yX5_settle ∈ mTb := mTb_in1 (i := 216) rfl rfl
theorem inX5_settle : Cond.instanceMethod yX5_settle ∈ mTb := mTb_in1 (i := 218) rfl rfl
theorem mlRL_18 : Cond.methodLink RL 18 yX5_put ∈ mTb := mTb_in1 (i := 220) rfl rfl
theorem inX5_put : Cond.instanceMethod yX5_put ∈ mTb := mTb_in1 (i := 221) rfl rfl
theorem selX5_put : Cond.selects RX5 yX5_put yX5_put ∈ mTb := mTb_in1 (i := 222) rfl rfl
theorem mlRX5_54 : Cond.methodLink RX5 54 yX2_putValue ∈ mTb := mTb_in1 (i := 224) rfl rfl
theorem inX2_putValue : Cond.instanceMethod yX2_putValue ∈ mTb := mTb_in1 (i := 225) rfl rfl
theorem selX2_putValue : Cond.selects RX2 yX2_putValue yX2_putValue ∈ mTb := mTb_in1 (i := 226) rfl rfl
theorem mnRX2_107 : ((RX2, 107, yX5_isName, RX5) : String × Nat × MethodName × String) ∈ mNest := by decide +kernel
theorem staX5_isName : Cond.static yX5_isName ∈ mTb := mTb_in1 (i := 229) rfl rfl
theorem mlRX5_113 : Cond.methodLink RX5 113 yX5_within ∈ mTb := mTb_in1 (i := 231) rfl rfl
theorem mlRX2_114 : Cond.methodLink RX2 114 yX2_seat ∈ mTb := mTb_in1 (i := 232) rfl rfl
theorem inX2_seat : Cond.instanceMethod yX2_seat ∈ mTb := mTb_in1 (i := 234) rfl rfl
theorem mlRX2_153 : Cond.methodLink RX2 153 yX2_pinnedChairs ∈ mTb := mTb_in1 (i := 236) rfl rfl
theorem inX2_pinnedChairs : Cond.instanceMethod yX2_pinnedChairs ∈ mTb := mTb_in1 (i := 238) rfl rfl
theorem mlRX2_156 : Cond.methodLink RX2 156 yX0_chairSet ∈ mTb := mTb_in2 (i := 0) rfl rfl
theorem inX0_chairSet : Cond.instanceMethod yX0_chairSet ∈ mTb := mTb_in2 (i := 1) rfl rfl
theorem selX0_chairSet : Cond.selects RX0 yX0_chairSet yX0_chairSet ∈ mTb := mTb_in2 (i := 2) rfl rfl
theorem mlRX2_159 : Cond.methodLink RX2 159 yX2_lowestFreeChair ∈ mTb := mTb_in2 (i := 4) rfl rfl
theorem inX2_lowestFreeChair : Cond.instanceMethod yX2_lowestFreeChair ∈ mTb := mTb_in2 (i := 6) rfl rfl
theorem mlRX2_162 : Cond.methodLink RX2 162 yX0_chairSetOf ∈ mTb := mTb_in2 (i := 8) rfl rfl
theorem inX0_chairSetOf : Cond.instanceMethod yX0_chairSetOf ∈ mTb := mTb_in2 (i := 9) rfl rfl
theorem selX0_chairSetOf : Cond.selects RX0 yX0_chairSetOf yX0_chairSetOf ∈ mTb := mTb_in2 (i := 10) rfl rfl
theorem mlRX2_165 : Cond.methodLink RX2 165 yX2_longestUnused ∈ mTb := mTb_in2 (i := 12) rfl rfl
theorem inX2_longestUnused : Cond.instanceMethod yX2_longestUnused ∈ mTb := mTb_in2 (i := 14) rfl rfl
theorem mlRX2_125 : Cond.methodLink RX2 125 yX4_valueOn ∈ mTb := mTb_in2 (i := 16) rfl rfl
theorem inX4_valueOn : Cond.instanceMethod yX4_valueOn ∈ mTb := mTb_in2 (i := 17) rfl rfl
theorem selX4_valueOn : Cond.selects RX4 yX4_valueOn yX4_valueOn ∈ mTb := mTb_in2 (i := 18) rfl rfl
theorem mlRX2_168 : Cond.methodLink RX2 168 yX2_sendOut ∈ mTb := mTb_in2 (i := 20) rfl rfl
theorem inX2_sendOut : Cond.instanceMethod yX2_sendOut ∈ mTb := mTb_in2 (i := 22) rfl rfl
theorem mlRX2_171 : Cond.methodLink RX2 171 yX4_place ∈ mTb := mTb_in2 (i := 24) rfl rfl
theorem inX4_place : Cond.instanceMethod yX4_place ∈ mTb := mTb_in2 (i := 25) rfl rfl
theorem selX4_place : Cond.selects RX4 yX4_place yX4_place ∈ mTb := mTb_in2 (i := 26) rfl rfl
theorem mlRL_23 : Cond.methodLink RL 23 yX5_copy ∈ mTb := mTb_in2 (i := 28) rfl rfl
theorem inX5_copy : Cond.instanceMethod yX5_copy ∈ mTb := mTb_in2 (i := 29) rfl rfl
theorem selX5_copy : Cond.selects RX5 yX5_copy yX5_copy ∈ mTb := mTb_in2 (i := 30) rfl rfl
theorem mlRX5_58 : Cond.methodLink RX5 58 yX2_copyName ∈ mTb := mTb_in2 (i := 32) rfl rfl
theorem inX2_copyName : Cond.instanceMethod yX2_copyName ∈ mTb := mTb_in2 (i := 33) rfl rfl
theorem selX2_copyName : Cond.selects RX2 yX2_copyName yX2_copyName ∈ mTb := mTb_in2 (i := 34) rfl rfl
theorem mlRX2_118 : Cond.methodLink RX2 118 yX2_findSeat ∈ mTb := mTb_in2 (i := 36) rfl rfl
theorem inX2_findSeat : Cond.instanceMethod yX2_findSeat ∈ mTb := mTb_in2 (i := 38) rfl rfl
theorem mlRX2_121 : Cond.methodLink RX2 121 yX4_use ∈ mTb := mTb_in2 (i := 40) rfl rfl
theorem inX4_use : Cond.instanceMethod yX4_use ∈ mTb := mTb_in2 (i := 41) rfl rfl
theorem selX4_use : Cond.selects RX4 yX4_use yX4_use ∈ mTb := mTb_in2 (i := 42) rfl rfl
theorem mlRL_27 : Cond.methodLink RL 27 yX5_order ∈ mTb := mTb_in2 (i := 44) rfl rfl
theorem inX5_order : Cond.instanceMethod yX5_order ∈ mTb := mTb_in2 (i := 45) rfl rfl
theorem selX5_order : Cond.selects RX5 yX5_order yX5_order ∈ mTb := mTb_in2 (i := 46) rfl rfl
theorem mlRX5_61 : Cond.methodLink RX5 61 yX2_giveOrder ∈ mTb := mTb_in2 (i := 48) rfl rfl
theorem inX2_giveOrder : Cond.instanceMethod yX2_giveOrder ∈ mTb := mTb_in2 (i := 49) rfl rfl
theorem selX2_giveOrder : Cond.selects RX2 yX2_giveOrder yX2_giveOrder ∈ mTb := mTb_in2 (i := 50) rfl rfl
theorem mlRX2_128 : Cond.methodLink RX2 128 yX2_result ∈ mTb := mTb_in2 (i := 52) rfl rfl
theorem staX2_result : Cond.static yX2_result ∈ mTb := mTb_in2 (i := 53) rfl rfl
theorem mlRX2_175 : Cond.methodLink RX2 175 yJ9_floorMod_7cf53 ∈ mTb := mTb_in2 (i := 55) rfl rfl
theorem staJ9_floorMod_7cf53 : Cond.static yJ9_floorMod_7cf53 ∈ mTb := mTb_in2 (i := 56) rfl rfl
theorem ctRX2_132 : Cond.constant RX2 132 (Int32.ofInt 1000000) ∈ mTb := mTb_in2 (i := 58) rfl rfl
theorem mlRX2_133 : Cond.methodLink RX2 133 yX1_add ∈ mTb := mTb_in2 (i := 59) rfl rfl
theorem inX1_add : Cond.instanceMethod yX1_add ∈ mTb := mTb_in2 (i := 60) rfl rfl
theorem selX1_add : Cond.selects RX1 yX1_add yX1_add ∈ mTb := mTb_in2 (i := 61) rfl rfl
theorem mlRL_32 : Cond.methodLink RL 32 yX5_tick ∈ mTb := mTb_in2 (i := 63) rfl rfl
theorem inX5_tick : Cond.instanceMethod yX5_tick ∈ mTb := mTb_in2 (i := 64) rfl rfl
theorem selX5_tick : Cond.selects RX5 yX5_tick yX5_tick ∈ mTb := mTb_in2 (i := 65) rfl rfl
theorem mlRX5_65 : Cond.methodLink RX5 65 yX2_letTicksGo ∈ mTb := mTb_in2 (i := 67) rfl rfl
theorem inX2_letTicksGo : Cond.instanceMethod yX2_letTicksGo ∈ mTb := mTb_in2 (i := 68) rfl rfl
theorem selX2_letTicksGo : Cond.selects RX2 yX2_letTicksGo yX2_letTicksGo ∈ mTb := mTb_in2 (i := 69) rfl rfl
theorem ctRX2_137 : Cond.constant RX2 137 (Int32.ofInt 50000) ∈ mTb := mTb_in2 (i := 71) rfl rfl
theorem mlRX2_138 : Cond.methodLink RX2 138 yX2_letTickGo ∈ mTb := mTb_in2 (i := 72) rfl rfl
theorem inX2_letTickGo : Cond.instanceMethod yX2_letTickGo ∈ mTb := mTb_in2 (i := 74) rfl rfl
theorem mlRX2_180 : Cond.methodLink RX2 180 yX2_finishOrders ∈ mTb := mTb_in2 (i := 76) rfl rfl
theorem inX2_finishOrders : Cond.instanceMethod yX2_finishOrders ∈ mTb := mTb_in2 (i := 78) rfl rfl
theorem mlRX2_187 : Cond.methodLink RX2 187 yX4_knownTimeOf ∈ mTb := mTb_in2 (i := 80) rfl rfl
theorem inX4_knownTimeOf : Cond.instanceMethod yX4_knownTimeOf ∈ mTb := mTb_in2 (i := 81) rfl rfl
theorem selX4_knownTimeOf : Cond.selects RX4 yX4_knownTimeOf yX4_knownTimeOf ∈ mTb := mTb_in2 (i := 82) rfl rfl
theorem ctRX4_21 : Cond.constant RX4 21 (Int32.ofInt 1000000) ∈ mTb := mTb_in2 (i := 84) rfl rfl
theorem mlRX2_190 : Cond.methodLink RX2 190 yX1_move ∈ mTb := mTb_in2 (i := 85) rfl rfl
theorem inX1_move : Cond.instanceMethod yX1_move ∈ mTb := mTb_in2 (i := 86) rfl rfl
theorem selX1_move : Cond.selects RX1 yX1_move yX1_move ∈ mTb := mTb_in2 (i := 87) rfl rfl
theorem mlRX2_183 : Cond.methodLink RX2 183 yX2_beginOrders ∈ mTb := mTb_in2 (i := 89) rfl rfl
theorem inX2_beginOrders : Cond.instanceMethod yX2_beginOrders ∈ mTb := mTb_in2 (i := 91) rfl rfl
theorem mlRX2_202 : Cond.methodLink RX2 202 yX4_setKnownTime ∈ mTb := mTb_in2 (i := 93) rfl rfl
theorem inX4_setKnownTime : Cond.instanceMethod yX4_setKnownTime ∈ mTb := mTb_in2 (i := 94) rfl rfl
theorem selX4_setKnownTime : Cond.selects RX4 yX4_setKnownTime yX4_setKnownTime ∈ mTb := mTb_in2 (i := 95) rfl rfl
theorem mlRL_36 : Cond.methodLink RL 36 yX5_set ∈ mTb := mTb_in2 (i := 97) rfl rfl
theorem inX5_set : Cond.instanceMethod yX5_set ∈ mTb := mTb_in2 (i := 98) rfl rfl
theorem selX5_set : Cond.selects RX5 yX5_set yX5_set ∈ mTb := mTb_in2 (i := 99) rfl rfl
theorem mlRX5_68 : Cond.methodLink RX5 68 yX2_changeSetting ∈ mTb := mTb_in2 (i := 101) rfl rfl
theorem inX2_changeSetting : Cond.instanceMethod yX2_changeSetting ∈ mTb := mTb_in2 (i := 102) rfl rfl
theorem selX2_changeSetting : Cond.selects RX2 yX2_changeSetting yX2_changeSetting ∈ mTb := mTb_in2 (i := 103) rfl rfl
theorem mlRL_40 : Cond.methodLink RL 40 yX5_mark ∈ mTb := mTb_in2 (i := 105) rfl rfl
theorem inX5_mark : Cond.instanceMethod yX5_mark ∈ mTb := mTb_in2 (i := 106) rfl rfl
theorem selX5_mark : Cond.selects RX5 yX5_mark yX5_mark ∈ mTb := mTb_in2 (i := 107) rfl rfl
theorem mlRX5_71 : Cond.methodLink RX5 71 yX2_addMark ∈ mTb := mTb_in2 (i := 109) rfl rfl
theorem inX2_addMark : Cond.instanceMethod yX2_addMark ∈ mTb := mTb_in2 (i := 110) rfl rfl
theorem selX2_addMark : Cond.selects RX2 yX2_addMark yX2_addMark ∈ mTb := mTb_in2 (i := 111) rfl rfl
theorem mlRL_45 : Cond.methodLink RL 45 yX5_keep ∈ mTb := mTb_in2 (i := 113) rfl rfl
theorem inX5_keep : Cond.instanceMethod yX5_keep ∈ mTb := mTb_in2 (i := 114) rfl rfl
theorem selX5_keep : Cond.selects RX5 yX5_keep yX5_keep ∈ mTb := mTb_in2 (i := 115) rfl rfl
theorem mlRX5_75 : Cond.methodLink RX5 75 yX2_dropFirstMark ∈ mTb := mTb_in2 (i := 117) rfl rfl
theorem inX2_dropFirstMark : Cond.instanceMethod yX2_dropFirstMark ∈ mTb := mTb_in2 (i := 118) rfl rfl
theorem selX2_dropFirstMark : Cond.selects RX2 yX2_dropFirstMark yX2_dropFirstMark ∈ mTb := mTb_in2 (i := 119) rfl rfl
theorem mlRX2_141 : Cond.methodLink RX2 141 yX1_forgetFirstMark ∈ mTb := mTb_in2 (i := 121) rfl rfl
theorem inX1_forgetFirstMark : Cond.instanceMethod yX1_forgetFirstMark ∈ mTb := mTb_in2 (i := 122) rfl rfl
theorem selX1_forgetFirstMark : Cond.selects RX1 yX1_forgetFirstMark yX1_forgetFirstMark ∈ mTb := mTb_in2 (i := 123) rfl rfl
theorem mlRL_49 : Cond.methodLink RL 49 yX5_back ∈ mTb := mTb_in2 (i := 125) rfl rfl
theorem inX5_back : Cond.instanceMethod yX5_back ∈ mTb := mTb_in2 (i := 126) rfl rfl
theorem selX5_back : Cond.selects RX5 yX5_back yX5_back ∈ mTb := mTb_in2 (i := 127) rfl rfl
theorem mlRX5_78 : Cond.methodLink RX5 78 yX2_goBack ∈ mTb := mTb_in2 (i := 129) rfl rfl
theorem inX2_goBack : Cond.instanceMethod yX2_goBack ∈ mTb := mTb_in2 (i := 130) rfl rfl
theorem selX2_goBack : Cond.selects RX2 yX2_goBack yX2_goBack ∈ mTb := mTb_in2 (i := 131) rfl rfl
theorem mlRX2_144 : Cond.methodLink RX2 144 yX2_isMark ∈ mTb := mTb_in2 (i := 133) rfl rfl
theorem inX2_isMark : Cond.instanceMethod yX2_isMark ∈ mTb := mTb_in2 (i := 135) rfl rfl
theorem mlRX2_147 : Cond.methodLink RX2 147 yX1_dropGivenAfter ∈ mTb := mTb_in2 (i := 137) rfl rfl
theorem inX1_dropGivenAfter : Cond.instanceMethod yX1_dropGivenAfter ∈ mTb := mTb_in2 (i := 138) rfl rfl
theorem selX1_dropGivenAfter : Cond.selects RX1 yX1_dropGivenAfter yX1_dropGivenAfter ∈ mTb := mTb_in2 (i := 139) rfl rfl
theorem mlRL_53 : Cond.methodLink RL 53 yX5_markOf ∈ mTb := mTb_in2 (i := 141) rfl rfl
theorem inX5_markOf : Cond.instanceMethod yX5_markOf ∈ mTb := mTb_in2 (i := 142) rfl rfl
theorem selX5_markOf : Cond.selects RX5 yX5_markOf yX5_markOf ∈ mTb := mTb_in2 (i := 143) rfl rfl
theorem mlRX5_81 : Cond.methodLink RX5 81 yX2_tellMark ∈ mTb := mTb_in2 (i := 145) rfl rfl
theorem inX2_tellMark : Cond.instanceMethod yX2_tellMark ∈ mTb := mTb_in2 (i := 146) rfl rfl
theorem selX2_tellMark : Cond.selects RX2 yX2_tellMark yX2_tellMark ∈ mTb := mTb_in2 (i := 147) rfl rfl
theorem mlRX2_208 : Cond.methodLink RX2 208 yX2_found ∈ mTb := mTb_in2 (i := 149) rfl rfl
theorem staX2_found : Cond.static yX2_found ∈ mTb := mTb_in2 (i := 150) rfl rfl
theorem mlRL_58 : Cond.methodLink RL 58 yX5_nameOf ∈ mTb := mTb_in2 (i := 152) rfl rfl
theorem inX5_nameOf : Cond.instanceMethod yX5_nameOf ∈ mTb := mTb_in2 (i := 153) rfl rfl
theorem selX5_nameOf : Cond.selects RX5 yX5_nameOf yX5_nameOf ∈ mTb := mTb_in2 (i := 154) rfl rfl
theorem mlRX5_85 : Cond.methodLink RX5 85 yX2_tellName ∈ mTb := mTb_in2 (i := 156) rfl rfl
theorem inX2_tellName : Cond.instanceMethod yX2_tellName ∈ mTb := mTb_in2 (i := 157) rfl rfl
theorem selX2_tellName : Cond.selects RX2 yX2_tellName yX2_tellName ∈ mTb := mTb_in2 (i := 158) rfl rfl
theorem mlRX2_205 : Cond.methodLink RX2 205 yX2_hidesValue ∈ mTb := mTb_in2 (i := 160) rfl rfl
theorem inX2_hidesValue : Cond.instanceMethod yX2_hidesValue ∈ mTb := mTb_in2 (i := 162) rfl rfl
theorem mlRX2_219 : Cond.methodLink RX2 219 yX2_isKnown ∈ mTb := mTb_in2 (i := 164) rfl rfl
theorem inX2_isKnown : Cond.instanceMethod yX2_isKnown ∈ mTb := mTb_in2 (i := 166) rfl rfl
theorem mlRX2_211 : Cond.methodLink RX2 211 yX0_namesOn ∈ mTb := mTb_in2 (i := 168) rfl rfl
theorem inX0_namesOn : Cond.instanceMethod yX0_namesOn ∈ mTb := mTb_in2 (i := 169) rfl rfl
theorem selX0_namesOn : Cond.selects RX0 yX0_namesOn yX0_namesOn ∈ mTb := mTb_in2 (i := 170) rfl rfl
theorem mlRX2_214 : Cond.methodLink RX2 214 yJ6_bitCount_0f7a4 ∈ mTb := mTb_in2 (i := 172) rfl rfl
theorem staJ6_bitCount_0f7a4 : Cond.static yJ6_bitCount_0f7a4 ∈ mTb := mTb_in2 (i := 173) rfl rfl
theorem ctRJ6_265 : Cond.constant RJ6 265 (Int32.ofInt 1431655765) ∈ mTb := mTb_in2 (i := 175) rfl rfl
theorem ctRJ6_266 : Cond.constant RJ6 266 (Int32.ofInt 858993459) ∈ mTb := mTb_in2 (i := 176) rfl rfl
theorem ctRJ6_267 : Cond.constant RJ6 267 (Int32.ofInt 252645135) ∈ mTb := mTb_in2 (i := 177) rfl rfl
theorem mlRL_62 : Cond.methodLink RL 62 yX5_chairOf ∈ mTb := mTb_in2 (i := 178) rfl rfl
theorem inX5_chairOf : Cond.instanceMethod yX5_chairOf ∈ mTb := mTb_in2 (i := 179) rfl rfl
theorem selX5_chairOf : Cond.selects RX5 yX5_chairOf yX5_chairOf ∈ mTb := mTb_in2 (i := 180) rfl rfl
theorem mlRX5_88 : Cond.methodLink RX5 88 yX2_tellChair ∈ mTb := mTb_in2 (i := 182) rfl rfl
theorem inX2_tellChair : Cond.instanceMethod yX2_tellChair ∈ mTb := mTb_in2 (i := 183) rfl rfl
theorem selX2_tellChair : Cond.selects RX2 yX2_tellChair yX2_tellChair ∈ mTb := mTb_in2 (i := 184) rfl rfl
theorem mlRX2_222 : Cond.methodLink RX2 222 yX2_marksOn ∈ mTb := mTb_in2 (i := 186) rfl rfl
theorem inX2_marksOn : Cond.instanceMethod yX2_marksOn ∈ mTb := mTb_in2 (i := 188) rfl rfl
theorem mlRX2_225 : Cond.methodLink RX2 225 yX1_readersOf ∈ mTb := mTb_in2 (i := 190) rfl rfl
theorem inX1_readersOf : Cond.instanceMethod yX1_readersOf ∈ mTb := mTb_in2 (i := 191) rfl rfl
theorem selX1_readersOf : Cond.selects RX1 yX1_readersOf yX1_readersOf ∈ mTb := mTb_in2 (i := 192) rfl rfl
theorem mlRX2_228 : Cond.methodLink RX2 228 yX1_makeFor ∈ mTb := mTb_in2 (i := 194) rfl rfl
theorem inX1_makeFor : Cond.instanceMethod yX1_makeFor ∈ mTb := mTb_in2 (i := 195) rfl rfl
theorem selX1_makeFor : Cond.selects RX1 yX1_makeFor yX1_makeFor ∈ mTb := mTb_in2 (i := 196) rfl rfl
theorem mlRL_66 : Cond.methodLink RL 66 yX5_orderOf ∈ mTb := mTb_in2 (i := 198) rfl rfl
theorem inX5_orderOf : Cond.instanceMethod yX5_orderOf ∈ mTb := mTb_in2 (i := 199) rfl rfl
theorem selX5_orderOf : Cond.selects RX5 yX5_orderOf yX5_orderOf ∈ mTb := mTb_in2 (i := 200) rfl rfl
theorem mlRX5_91 : Cond.methodLink RX5 91 yX2_tellOrder ∈ mTb := mTb_in2 (i := 202) rfl rfl
theorem inX2_tellOrder : Cond.instanceMethod yX2_tellOrder ∈ mTb := mTb_in2 (i := 203) rfl rfl
theorem selX2_tellOrder : Cond.selects RX2 yX2_tellOrder yX2_tellOrder ∈ mTb := mTb_in2 (i := 204) rfl rfl
theorem mlRX2_231 : Cond.methodLink RX2 231 yX1_isOne ∈ mTb := mTb_in2 (i := 206) rfl rfl
theorem inX1_isOne : Cond.instanceMethod yX1_isOne ∈ mTb := mTb_in2 (i := 207) rfl rfl
theorem selX1_isOne : Cond.selects RX1 yX1_isOne yX1_isOne ∈ mTb := mTb_in2 (i := 208) rfl rfl
theorem mlRX2_234 : Cond.methodLink RX2 234 yX2_hasBegun ∈ mTb := mTb_in2 (i := 210) rfl rfl
theorem inX2_hasBegun : Cond.instanceMethod yX2_hasBegun ∈ mTb := mTb_in2 (i := 212) rfl rfl
theorem mlRL_70 : Cond.methodLink RL 70 yX5_count ∈ mTb := mTb_in2 (i := 214) rfl rfl
theorem inX5_count : Cond.instanceMethod yX5_count ∈ mTb := mTb_in2 (i := 215) rfl rfl
theorem selX5_count : Cond.selects RX5 yX5_count yX5_count ∈ mTb := mTb_in2 (i := 216) rfl rfl
theorem mlRX5_97 : Cond.methodLink RX5 97 yX2_tellNumber ∈ mTb := mTb_in2 (i := 218) rfl rfl
theorem inX2_tellNumber : Cond.instanceMethod yX2_tellNumber ∈ mTb := mTb_in2 (i := 219) rfl rfl
theorem selX2_tellNumber : Cond.selects RX2 yX2_tellNumber yX2_tellNumber ∈ mTb := mTb_in2 (i := 220) rfl rfl
theorem mlRX2_239 : Cond.methodLink RX2 239 yX2_begunOrders ∈ mTb := mTb_in2 (i := 222) rfl rfl
theorem inX2_begunOrders : Cond.instanceMethod yX2_begunOrders ∈ mTb := mTb_in2 (i := 224) rfl rfl
theorem mlRL_74 : Cond.methodLink RL 74 yX5_sends ∈ mTb := mTb_in2 (i := 226) rfl rfl
theorem inX5_sends : Cond.instanceMethod yX5_sends ∈ mTb := mTb_in2 (i := 227) rfl rfl
theorem selX5_sends : Cond.selects RX5 yX5_sends yX5_sends ∈ mTb := mTb_in2 (i := 228) rfl rfl
theorem mlRL_78 : Cond.methodLink RL 78 yX5_idleIn ∈ mTb := mTb_in2 (i := 230) rfl rfl
theorem inX5_idleIn : Cond.instanceMethod yX5_idleIn ∈ mTb := mTb_in2 (i := 231) rfl rfl
theorem selX5_idleIn : Cond.selects RX5 yX5_idleIn yX5_idleIn ∈ mTb := mTb_in2 (i := 232) rfl rfl
theorem mlRX5_103 : Cond.methodLink RX5 103 yX2_ticksTillIdle ∈ mTb := mTb_in2 (i := 234) rfl rfl
theorem inX2_ticksTillIdle : Cond.instanceMethod yX2_ticksTillIdle ∈ mTb := mTb_in2 (i := 235) rfl rfl
theorem selX2_ticksTillIdle : Cond.selects RX2 yX2_ticksTillIdle yX2_ticksTillIdle ∈ mTb := mTb_in2 (i := 236) rfl rfl
theorem mlRL_82 : Cond.methodLink RL 82 yX5_knownIn ∈ mTb := mTb_in2 (i := 238) rfl rfl
theorem inX5_knownIn : Cond.instanceMethod yX5_knownIn ∈ mTb := mTb_in2 (i := 239) rfl rfl
theorem selX5_knownIn : Cond.selects RX5 yX5_knownIn yX5_knownIn ∈ mTb := mTb_in3 (i := 0) rfl rfl
theorem mlRX5_106 : Cond.methodLink RX5 106 yX5_isName ∈ mTb := mTb_in3 (i := 2) rfl rfl
theorem mlRX5_110 : Cond.methodLink RX5 110 yX2_ticksTillKnown ∈ mTb := mTb_in3 (i := 3) rfl rfl
theorem inX2_ticksTillKnown : Cond.instanceMethod yX2_ticksTillKnown ∈ mTb := mTb_in3 (i := 4) rfl rfl
theorem selX2_ticksTillKnown : Cond.selects RX2 yX2_ticksTillKnown yX2_ticksTillKnown ∈ mTb := mTb_in3 (i := 5) rfl rfl
theorem mlRL_86 : Cond.methodLink RL 86 yX5_undo ∈ mTb := mTb_in3 (i := 7) rfl rfl
theorem inX5_undo : Cond.instanceMethod yX5_undo ∈ mTb := mTb_in3 (i := 8) rfl rfl
theorem selX5_undo : Cond.selects RX5 yX5_undo yX5_undo ∈ mTb := mTb_in3 (i := 9) rfl rfl
theorem mlRL_90 : Cond.methodLink RL 90 yX5_type ∈ mTb := mTb_in3 (i := 11) rfl rfl
theorem inX5_type : Cond.instanceMethod yX5_type ∈ mTb := mTb_in3 (i := 12) rfl rfl
theorem selX5_type : Cond.selects RX5 yX5_type yX5_type ∈ mTb := mTb_in3 (i := 13) rfl rfl
theorem mlRX5_117 : Cond.methodLink RX5 117 yX3_append ∈ mTb := mTb_in3 (i := 15) rfl rfl
theorem inX3_append : Cond.instanceMethod yX3_append ∈ mTb := mTb_in3 (i := 16) rfl rfl
theorem selX3_append : Cond.selects RX3 yX3_append yX3_append ∈ mTb := mTb_in3 (i := 17) rfl rfl
theorem mlRL_94 : Cond.methodLink RL 94 yX5_clearText ∈ mTb := mTb_in3 (i := 19) rfl rfl
theorem inX5_clearText : Cond.instanceMethod yX5_clearText ∈ mTb := mTb_in3 (i := 20) rfl rfl
theorem selX5_clearText : Cond.selects RX5 yX5_clearText yX5_clearText ∈ mTb := mTb_in3 (i := 21) rfl rfl
theorem mlRL_98 : Cond.methodLink RL 98 yX5_fault ∈ mTb := mTb_in3 (i := 23) rfl rfl
theorem inX5_fault : Cond.instanceMethod yX5_fault ∈ mTb := mTb_in3 (i := 24) rfl rfl
theorem selX5_fault : Cond.selects RX5 yX5_fault yX5_fault ∈ mTb := mTb_in3 (i := 25) rfl rfl
theorem mlRX5_121 : Cond.methodLink RX5 121 yX5_tryText ∈ mTb := mTb_in3 (i := 27) rfl rfl
theorem inX5_tryText : Cond.instanceMethod yX5_tryText ∈ mTb := mTb_in3 (i := 29) rfl rfl
theorem mlRX5_128 : Cond.methodLink RX5 128 yX5_noteFault ∈ mTb := mTb_in3 (i := 31) rfl rfl
theorem inX5_noteFault : Cond.instanceMethod yX5_noteFault ∈ mTb := mTb_in3 (i := 33) rfl rfl
theorem mlRX5_132 : Cond.methodLink RX5 132 yX3_readCommand ∈ mTb := mTb_in3 (i := 35) rfl rfl
theorem inX3_readCommand : Cond.instanceMethod yX3_readCommand ∈ mTb := mTb_in3 (i := 36) rfl rfl
theorem selX3_readCommand : Cond.selects RX3 yX3_readCommand yX3_readCommand ∈ mTb := mTb_in3 (i := 37) rfl rfl
theorem mlRX3_26 : Cond.methodLink RX3 26 yX3_form ∈ mTb := mTb_in3 (i := 39) rfl rfl
theorem staX3_form : Cond.static yX3_form ∈ mTb := mTb_in3 (i := 40) rfl rfl
theorem mlRX3_30 : Cond.methodLink RX3 30 yX3_matches ∈ mTb := mTb_in3 (i := 51) rfl rfl
theorem inX3_matches : Cond.instanceMethod yX3_matches ∈ mTb := mTb_in3 (i := 53) rfl rfl
theorem mlRX3_52 : Cond.methodLink RX3 52 yJ0_length_8abf5 ∈ mTb := mTb_in3 (i := 55) rfl rfl
theorem inJ0_length_8abf5 : Cond.instanceMethod yJ0_length_8abf5 ∈ mTb := mTb_in3 (i := 56) rfl rfl
theorem selJ0_length_8abf5 : Cond.selects RJ0 yJ0_length_8abf5 yJ0_length_8abf5 ∈ mTb := mTb_in3 (i := 57) rfl rfl
theorem mlRJ0_335 : Cond.methodLink RJ0 335 yJ0_coder_7d493 ∈ mTb := mTb_in3 (i := 59) rfl rfl
theorem inJ0_coder_7d493 : Cond.instanceMethod yJ0_coder_7d493 ∈ mTb := mTb_in3 (i := 60) rfl rfl
theorem selJ0_coder_7d493 : Cond.selects RJ0 yJ0_coder_7d493 yJ0_coder_7d493 ∈ mTb := mTb_in3 (i := 61) rfl rfl
theorem flRJ0_38 : Cond.fieldLink RJ0 38 "java/lang/String" "COMPACT_STRINGS" "Z" ∈ mTb := mTb_in3 (i := 63) rfl rfl
theorem mlRX3_57 : Cond.methodLink RX3 57 yJ0_charAt_5068e ∈ mTb := mTb_in3 (i := 65) rfl rfl
theorem inJ0_charAt_5068e : Cond.instanceMethod yJ0_charAt_5068e ∈ mTb := mTb_in3 (i := 66) rfl rfl
theorem selJ0_charAt_5068e : Cond.selects RJ0 yJ0_charAt_5068e yJ0_charAt_5068e ∈ mTb := mTb_in3 (i := 67) rfl rfl
theorem mlRJ0_492 : Cond.methodLink RJ0 492 yJ0_isLatin1_aae02 ∈ mTb := mTb_in3 (i := 69) rfl rfl
theorem inJ0_isLatin1_aae02 : Cond.instanceMethod yJ0_isLatin1_aae02 ∈ mTb := mTb_in3 (i := 70) rfl rfl
theorem selJ0_isLatin1_aae02 : Cond.selects RJ0 yJ0_isLatin1_aae02 yJ0_isLatin1_aae02 ∈ mTb := mTb_in3 (i := 71) rfl rfl
theorem mlRJ0_495 : Cond.methodLink RJ0 495 yJ1_charAt_3b067 ∈ mTb := mTb_in3 (i := 73) rfl rfl
theorem staJ1_charAt_3b067 : Cond.static yJ1_charAt_3b067 ∈ mTb := mTb_in3 (i := 74) rfl rfl
theorem mlRJ1_9 : Cond.methodLink RJ1 9 yJ0_checkIndex_df160 ∈ mTb := mTb_in3 (i := 76) rfl rfl
theorem staJ0_checkIndex_df160 : Cond.static yJ0_checkIndex_df160 ∈ mTb := mTb_in3 (i := 77) rfl rfl
theorem flRJ0_1053 : Cond.fieldLink RJ0 1053 "jdk/internal/util/Preconditions" "SIOOBE_FORMATTER" "Ljava/util/function/BiFunction;" ∈ mTb := mTb_in3 (i := 79) rfl rfl
theorem mlRJ0_1059 : Cond.methodLink RJ0 1059 yJ3_checkIndex_8e157 ∈ mTb := mTb_in3 (i := 81) rfl rfl
theorem staJ3_checkIndex_8e157 : Cond.static yJ3_checkIndex_8e157 ∈ mTb := mTb_in3 (i := 82) rfl rfl
theorem mlRJ0_498 : Cond.methodLink RJ0 498 yJ2_charAt_3b067 ∈ mTb := mTb_in3 (i := 84) rfl rfl
theorem staJ2_charAt_3b067 : Cond.static yJ2_charAt_3b067 ∈ mTb := mTb_in3 (i := 85) rfl rfl
theorem mlRJ2_67 : Cond.methodLink RJ2 67 yJ2_checkIndex_2214a ∈ mTb := mTb_in3 (i := 87) rfl rfl
theorem staJ2_checkIndex_2214a : Cond.static yJ2_checkIndex_2214a ∈ mTb := mTb_in3 (i := 88) rfl rfl
theorem mlRJ2_48 : Cond.methodLink RJ2 48 yJ2_length_9d52b ∈ mTb := mTb_in3 (i := 90) rfl rfl
theorem staJ2_length_9d52b : Cond.static yJ2_length_9d52b ∈ mTb := mTb_in3 (i := 91) rfl rfl
theorem mlRJ2_414 : Cond.methodLink RJ2 414 yJ0_checkIndex_df160 ∈ mTb := mTb_in3 (i := 93) rfl rfl
theorem mlRJ2_71 : Cond.methodLink RJ2 71 yJ2_getChar_3b067 ∈ mTb := mTb_in3 (i := 94) rfl rfl
theorem staJ2_getChar_3b067 : Cond.static yJ2_getChar_3b067 ∈ mTb := mTb_in3 (i := 95) rfl rfl
theorem flRJ2_44 : Cond.fieldLink RJ2 44 "java/lang/StringUTF16" "$assertionsDisabled" "Z" ∈ mTb := mTb_in3 (i := 97) rfl rfl
theorem flRJ2_59 : Cond.fieldLink RJ2 59 "java/lang/StringUTF16" "HI_BYTE_SHIFT" "I" ∈ mTb := mTb_in3 (i := 99) rfl rfl
theorem flRJ2_63 : Cond.fieldLink RJ2 63 "java/lang/StringUTF16" "LO_BYTE_SHIFT" "I" ∈ mTb := mTb_in3 (i := 101) rfl rfl
theorem mlRX3_61 : Cond.methodLink RX3 61 yX3_readName ∈ mTb := mTb_in3 (i := 103) rfl rfl
theorem inX3_readName : Cond.instanceMethod yX3_readName ∈ mTb := mTb_in3 (i := 105) rfl rfl
theorem mlRX3_67 : Cond.methodLink RX3 67 yX3_signAt ∈ mTb := mTb_in3 (i := 107) rfl rfl
theorem inX3_signAt : Cond.instanceMethod yX3_signAt ∈ mTb := mTb_in3 (i := 109) rfl rfl
theorem mnRX3_71 : ((RX3, 71, yX5_within, RX5) : String × Nat × MethodName × String) ∈ mNest := by decide +kernel
theorem mlRX3_64 : Cond.methodLink RX3 64 yX3_readNumber ∈ mTb := mTb_in3 (i := 112) rfl rfl
theorem inX3_readNumber : Cond.instanceMethod yX3_readNumber ∈ mTb := mTb_in3 (i := 114) rfl rfl
theorem mlRX5_139 : Cond.methodLink RX5 139 yX2_perform ∈ mTb := mTb_in3 (i := 116) rfl rfl
theorem inX2_perform : Cond.instanceMethod yX2_perform ∈ mTb := mTb_in3 (i := 117) rfl rfl
theorem selX2_perform : Cond.selects RX2 yX2_perform yX2_perform ∈ mTb := mTb_in3 (i := 118) rfl rfl
theorem mlRX2_72 : Cond.methodLink RX2 72 yX2_giveOrder ∈ mTb := mTb_in3 (i := 120) rfl rfl
theorem mlRX2_76 : Cond.methodLink RX2 76 yX2_putValue ∈ mTb := mTb_in3 (i := 121) rfl rfl
theorem mlRX2_80 : Cond.methodLink RX2 80 yX2_copyName ∈ mTb := mTb_in3 (i := 122) rfl rfl
theorem mlRX2_83 : Cond.methodLink RX2 83 yX2_letTicksGo ∈ mTb := mTb_in3 (i := 123) rfl rfl
theorem mlRX2_87 : Cond.methodLink RX2 87 yX2_addMark ∈ mTb := mTb_in3 (i := 124) rfl rfl
theorem mlRX2_91 : Cond.methodLink RX2 91 yX2_dropFirstMark ∈ mTb := mTb_in3 (i := 125) rfl rfl
theorem mlRX2_94 : Cond.methodLink RX2 94 yX2_goBack ∈ mTb := mTb_in3 (i := 126) rfl rfl
theorem ac_byte : Cond.arrayClass .byte ∈ mTb := mTb_in3 (i := 127) rfl rfl
theorem mlRL_102 : Cond.methodLink RL 102 yX5_play ∈ mTb := mTb_in3 (i := 128) rfl rfl
theorem inX5_play : Cond.instanceMethod yX5_play ∈ mTb := mTb_in3 (i := 129) rfl rfl
theorem selX5_play : Cond.selects RX5 yX5_play yX5_play ∈ mTb := mTb_in3 (i := 130) rfl rfl
theorem clRL_10 : Cond.classLink RL 10 RX6 ∈ mTb := mTb_in3 (i := 132) rfl rfl
theorem insRX6 : Cond.instantiable RX6 13 ∈ mTb := mTb_in3 (i := 133) rfl rfl
theorem mlRL_12 : Cond.methodLink RL 12 yX6_init ∈ mTb := mTb_in3 (i := 134) rfl rfl
theorem inX6_init : Cond.instanceMethod yX6_init ∈ mTb := mTb_in3 (i := 135) rfl rfl
theorem mlRX6_1 : Cond.methodLink RX6 1 objectInit ∈ mTb := mTb_in3 (i := 137) rfl rfl
theorem mlRX6_31 : Cond.methodLink RX6 31 yX6_clears ∈ mTb := mTb_in3 (i := 138) rfl rfl
theorem inX6_clears : Cond.instanceMethod yX6_clears ∈ mTb := mTb_in3 (i := 140) rfl rfl
theorem mlRX6_43 : Cond.methodLink RX6 43 yX6_in ∈ mTb := mTb_in3 (i := 142) rfl rfl
theorem staX6_in : Cond.static yX6_in ∈ mTb := mTb_in3 (i := 143) rfl rfl
theorem flRX6_7 : Cond.fieldLink RX6 7 (mTx 6 0).1 (mTx 6 0).2.1 (mTx 6 0).2.2.1 ∈ mTb := mTb_in3 (i := 145) rfl rfl
theorem flRX6_13 : Cond.fieldLink RX6 13 (mTx 6 1).1 (mTx 6 1).2.1 (mTx 6 1).2.2.1 ∈ mTb := mTb_in3 (i := 146) rfl rfl
theorem flRX6_16 : Cond.fieldLink RX6 16 (mTx 6 2).1 (mTx 6 2).2.1 (mTx 6 2).2.2.1 ∈ mTb := mTb_in3 (i := 147) rfl rfl
theorem flRX6_19 : Cond.fieldLink RX6 19 (mTx 6 3).1 (mTx 6 3).2.1 (mTx 6 3).2.2.1 ∈ mTb := mTb_in3 (i := 148) rfl rfl
theorem flRX6_39 : Cond.fieldLink RX6 39 (mTx 6 4).1 (mTx 6 4).2.1 (mTx 6 4).2.2.1 ∈ mTb := mTb_in3 (i := 149) rfl rfl
theorem flRX6_35 : Cond.fieldLink RX6 35 (mTx 6 5).1 (mTx 6 5).2.1 (mTx 6 5).2.2.1 ∈ mTb := mTb_in3 (i := 150) rfl rfl
theorem flRX6_22 : Cond.fieldLink RX6 22 (mTx 6 6).1 (mTx 6 6).2.1 (mTx 6 6).2.2.1 ∈ mTb := mTb_in3 (i := 151) rfl rfl
theorem flRX6_135 : Cond.fieldLink RX6 135 (mTx 6 7).1 (mTx 6 7).2.1 (mTx 6 7).2.2.1 ∈ mTb := mTb_in3 (i := 152) rfl rfl
theorem flRX6_25 : Cond.fieldLink RX6 25 (mTx 6 8).1 (mTx 6 8).2.1 (mTx 6 8).2.2.1 ∈ mTb := mTb_in3 (i := 153) rfl rfl
theorem flRX6_138 : Cond.fieldLink RX6 138 (mTx 6 9).1 (mTx 6 9).2.1 (mTx 6 9).2.2.1 ∈ mTb := mTb_in3 (i := 154) rfl rfl
theorem flRX6_184 : Cond.fieldLink RX6 184 (mTx 6 10).1 (mTx 6 10).2.1 (mTx 6 10).2.2.1 ∈ mTb := mTb_in3 (i := 155) rfl rfl
theorem flRX6_181 : Cond.fieldLink RX6 181 (mTx 6 11).1 (mTx 6 11).2.1 (mTx 6 11).2.2.1 ∈ mTb := mTb_in3 (i := 156) rfl rfl
theorem flRX6_28 : Cond.fieldLink RX6 28 (mTx 6 12).1 (mTx 6 12).2.1 (mTx 6 12).2.2.1 ∈ mTb := mTb_in3 (i := 157) rfl rfl
theorem mlRL_17 : Cond.methodLink RL 17 yX6_begin ∈ mTb := mTb_in3 (i := 185) rfl rfl
theorem inX6_begin : Cond.instanceMethod yX6_begin ∈ mTb := mTb_in3 (i := 186) rfl rfl
theorem selX6_begin : Cond.selects RX6 yX6_begin yX6_begin ∈ mTb := mTb_in3 (i := 187) rfl rfl
theorem mlRX6_81 : Cond.methodLink RX6 81 yX6_changes ∈ mTb := mTb_in3 (i := 189) rfl rfl
theorem inX6_changes : Cond.instanceMethod yX6_changes ∈ mTb := mTb_in3 (i := 191) rfl rfl
theorem mlRL_22 : Cond.methodLink RL 22 yX6_put ∈ mTb := mTb_in3 (i := 193) rfl rfl
theorem inX6_put : Cond.instanceMethod yX6_put ∈ mTb := mTb_in3 (i := 194) rfl rfl
theorem selX6_put : Cond.selects RX6 yX6_put yX6_put ∈ mTb := mTb_in3 (i := 195) rfl rfl
theorem mlRX6_85 : Cond.methodLink RX6 85 yX6_isName ∈ mTb := mTb_in3 (i := 197) rfl rfl
theorem staX6_isName : Cond.static yX6_isName ∈ mTb := mTb_in3 (i := 198) rfl rfl
theorem mlRX6_88 : Cond.methodLink RX6 88 yX6_copies ∈ mTb := mTb_in3 (i := 200) rfl rfl
theorem staX6_copies : Cond.static yX6_copies ∈ mTb := mTb_in3 (i := 201) rfl rfl
theorem mlRX6_92 : Cond.methodLink RX6 92 yX6_givesUp ∈ mTb := mTb_in3 (i := 203) rfl rfl
theorem inX6_givesUp : Cond.instanceMethod yX6_givesUp ∈ mTb := mTb_in3 (i := 205) rfl rfl
theorem mlRX6_68 : Cond.methodLink RX6 68 yX6_frees ∈ mTb := mTb_in3 (i := 207) rfl rfl
theorem inX6_frees : Cond.instanceMethod yX6_frees ∈ mTb := mTb_in3 (i := 209) rfl rfl
theorem mlRX6_51 : Cond.methodLink RX6 51 yX6_isHad ∈ mTb := mTb_in3 (i := 211) rfl rfl
theorem inX6_isHad : Cond.instanceMethod yX6_isHad ∈ mTb := mTb_in3 (i := 213) rfl rfl
theorem mlRX6_55 : Cond.methodLink RX6 55 yX6_marksOf ∈ mTb := mTb_in3 (i := 215) rfl rfl
theorem inX6_marksOf : Cond.instanceMethod yX6_marksOf ∈ mTb := mTb_in3 (i := 217) rfl rfl
theorem mlRX6_59 : Cond.methodLink RX6 59 yX6_readers ∈ mTb := mTb_in3 (i := 219) rfl rfl
theorem inX6_readers : Cond.instanceMethod yX6_readers ∈ mTb := mTb_in3 (i := 221) rfl rfl
theorem mlRX6_47 : Cond.methodLink RX6 47 yX6_ofOrder ∈ mTb := mTb_in3 (i := 223) rfl rfl
theorem staX6_ofOrder : Cond.static yX6_ofOrder ∈ mTb := mTb_in3 (i := 224) rfl rfl
theorem mlRX6_62 : Cond.methodLink RX6 62 yX6_isOfOrder ∈ mTb := mTb_in3 (i := 226) rfl rfl
theorem inX6_isOfOrder : Cond.instanceMethod yX6_isOfOrder ∈ mTb := mTb_in3 (i := 228) rfl rfl
theorem mlRX6_65 : Cond.methodLink RX6 65 yX6_at ∈ mTb := mTb_in3 (i := 230) rfl rfl
theorem staX6_at : Cond.static yX6_at ∈ mTb := mTb_in3 (i := 231) rfl rfl
theorem mlRX6_77 : Cond.methodLink RX6 77 yX6_gets ∈ mTb := mTb_in3 (i := 233) rfl rfl
theorem inX6_gets : Cond.instanceMethod yX6_gets ∈ mTb := mTb_in3 (i := 235) rfl rfl
theorem mlRX6_74 : Cond.methodLink RX6 74 yX6_chairFor ∈ mTb := mTb_in3 (i := 237) rfl rfl
theorem inX6_chairFor : Cond.instanceMethod yX6_chairFor ∈ mTb := mTb_in3 (i := 239) rfl rfl
theorem mlRX6_71 : Cond.methodLink RX6 71 yX6_next ∈ mTb := mTb_in4 (i := 1) rfl rfl
theorem inX6_next : Cond.instanceMethod yX6_next ∈ mTb := mTb_in4 (i := 3) rfl rfl
theorem mlRX6_95 : Cond.methodLink RX6 95 yX6_isKnown ∈ mTb := mTb_in4 (i := 5) rfl rfl
theorem inX6_isKnown : Cond.instanceMethod yX6_isKnown ∈ mTb := mTb_in4 (i := 7) rfl rfl
theorem mlRL_26 : Cond.methodLink RL 26 yX6_copy ∈ mTb := mTb_in4 (i := 9) rfl rfl
theorem inX6_copy : Cond.instanceMethod yX6_copy ∈ mTb := mTb_in4 (i := 10) rfl rfl
theorem selX6_copy : Cond.selects RX6 yX6_copy yX6_copy ∈ mTb := mTb_in4 (i := 11) rfl rfl
theorem mlRX6_99 : Cond.methodLink RX6 99 yX6_sits ∈ mTb := mTb_in4 (i := 13) rfl rfl
theorem inX6_sits : Cond.instanceMethod yX6_sits ∈ mTb := mTb_in4 (i := 15) rfl rfl
theorem mlRL_31 : Cond.methodLink RL 31 yX6_order ∈ mTb := mTb_in4 (i := 17) rfl rfl
theorem inX6_order : Cond.instanceMethod yX6_order ∈ mTb := mTb_in4 (i := 18) rfl rfl
theorem selX6_order : Cond.selects RX6 yX6_order yX6_order ∈ mTb := mTb_in4 (i := 19) rfl rfl
theorem mlRX6_102 : Cond.methodLink RX6 102 yX6_gives ∈ mTb := mTb_in4 (i := 21) rfl rfl
theorem inX6_gives : Cond.instanceMethod yX6_gives ∈ mTb := mTb_in4 (i := 23) rfl rfl
theorem mlRL_35 : Cond.methodLink RL 35 yX6_tick ∈ mTb := mTb_in4 (i := 25) rfl rfl
theorem inX6_tick : Cond.instanceMethod yX6_tick ∈ mTb := mTb_in4 (i := 26) rfl rfl
theorem selX6_tick : Cond.selects RX6 yX6_tick yX6_tick ∈ mTb := mTb_in4 (i := 27) rfl rfl
theorem ctRX6_116 : Cond.constant RX6 116 (Int32.ofInt 50000) ∈ mTb := mTb_in4 (i := 29) rfl rfl
theorem mlRX6_117 : Cond.methodLink RX6 117 yX6_ticks ∈ mTb := mTb_in4 (i := 30) rfl rfl
theorem inX6_ticks : Cond.instanceMethod yX6_ticks ∈ mTb := mTb_in4 (i := 32) rfl rfl
theorem mlRX6_113 : Cond.methodLink RX6 113 yX6_dones ∈ mTb := mTb_in4 (i := 34) rfl rfl
theorem inX6_dones : Cond.instanceMethod yX6_dones ∈ mTb := mTb_in4 (i := 36) rfl rfl
theorem mlRX6_107 : Cond.methodLink RX6 107 yX6_result ∈ mTb := mTb_in4 (i := 38) rfl rfl
theorem staX6_result : Cond.static yX6_result ∈ mTb := mTb_in4 (i := 39) rfl rfl
theorem mlRX6_110 : Cond.methodLink RX6 110 yX6_drops ∈ mTb := mTb_in4 (i := 42) rfl rfl
theorem inX6_drops : Cond.instanceMethod yX6_drops ∈ mTb := mTb_in4 (i := 44) rfl rfl
theorem mlRL_39 : Cond.methodLink RL 39 yX6_set ∈ mTb := mTb_in4 (i := 46) rfl rfl
theorem inX6_set : Cond.instanceMethod yX6_set ∈ mTb := mTb_in4 (i := 47) rfl rfl
theorem selX6_set : Cond.selects RX6 yX6_set yX6_set ∈ mTb := mTb_in4 (i := 48) rfl rfl
theorem mlRL_44 : Cond.methodLink RL 44 yX6_mark ∈ mTb := mTb_in4 (i := 50) rfl rfl
theorem inX6_mark : Cond.instanceMethod yX6_mark ∈ mTb := mTb_in4 (i := 51) rfl rfl
theorem selX6_mark : Cond.selects RX6 yX6_mark yX6_mark ∈ mTb := mTb_in4 (i := 52) rfl rfl
theorem mlRL_48 : Cond.methodLink RL 48 yX6_keep ∈ mTb := mTb_in4 (i := 54) rfl rfl
theorem inX6_keep : Cond.instanceMethod yX6_keep ∈ mTb := mTb_in4 (i := 55) rfl rfl
theorem selX6_keep : Cond.selects RX6 yX6_keep yX6_keep ∈ mTb := mTb_in4 (i := 56) rfl rfl
theorem mlRL_52 : Cond.methodLink RL 52 yX6_back ∈ mTb := mTb_in4 (i := 58) rfl rfl
theorem inX6_back : Cond.instanceMethod yX6_back ∈ mTb := mTb_in4 (i := 59) rfl rfl
theorem selX6_back : Cond.selects RX6 yX6_back yX6_back ∈ mTb := mTb_in4 (i := 60) rfl rfl
theorem mlRX6_120 : Cond.methodLink RX6 120 yX6_isMark ∈ mTb := mTb_in4 (i := 62) rfl rfl
theorem inX6_isMark : Cond.instanceMethod yX6_isMark ∈ mTb := mTb_in4 (i := 64) rfl rfl
theorem mlRL_57 : Cond.methodLink RL 57 yX6_markOf ∈ mTb := mTb_in4 (i := 66) rfl rfl
theorem inX6_markOf : Cond.instanceMethod yX6_markOf ∈ mTb := mTb_in4 (i := 67) rfl rfl
theorem selX6_markOf : Cond.selects RX6 yX6_markOf yX6_markOf ∈ mTb := mTb_in4 (i := 68) rfl rfl
theorem mlRL_61 : Cond.methodLink RL 61 yX6_nameOf ∈ mTb := mTb_in4 (i := 70) rfl rfl
theorem inX6_nameOf : Cond.instanceMethod yX6_nameOf ∈ mTb := mTb_in4 (i := 71) rfl rfl
theorem selX6_nameOf : Cond.selects RX6 yX6_nameOf yX6_nameOf ∈ mTb := mTb_in4 (i := 72) rfl rfl
theorem mlRX6_123 : Cond.methodLink RX6 123 yX6_names ∈ mTb := mTb_in4 (i := 74) rfl rfl
theorem inX6_names : Cond.instanceMethod yX6_names ∈ mTb := mTb_in4 (i := 76) rfl rfl
theorem mlRX6_126 : Cond.methodLink RX6 126 yX6_ones ∈ mTb := mTb_in4 (i := 78) rfl rfl
theorem staX6_ones : Cond.static yX6_ones ∈ mTb := mTb_in4 (i := 79) rfl rfl
theorem mlRX6_129 : Cond.methodLink RX6 129 yX6_toCome ∈ mTb := mTb_in4 (i := 81) rfl rfl
theorem inX6_toCome : Cond.instanceMethod yX6_toCome ∈ mTb := mTb_in4 (i := 83) rfl rfl
theorem mlRL_65 : Cond.methodLink RL 65 yX6_chairOf ∈ mTb := mTb_in4 (i := 85) rfl rfl
theorem inX6_chairOf : Cond.instanceMethod yX6_chairOf ∈ mTb := mTb_in4 (i := 86) rfl rfl
theorem selX6_chairOf : Cond.selects RX6 yX6_chairOf yX6_chairOf ∈ mTb := mTb_in4 (i := 87) rfl rfl
theorem mlRL_69 : Cond.methodLink RL 69 yX6_orderOf ∈ mTb := mTb_in4 (i := 89) rfl rfl
theorem inX6_orderOf : Cond.instanceMethod yX6_orderOf ∈ mTb := mTb_in4 (i := 90) rfl rfl
theorem selX6_orderOf : Cond.selects RX6 yX6_orderOf yX6_orderOf ∈ mTb := mTb_in4 (i := 91) rfl rfl
theorem mlRL_73 : Cond.methodLink RL 73 yX6_count ∈ mTb := mTb_in4 (i := 93) rfl rfl
theorem inX6_count : Cond.instanceMethod yX6_count ∈ mTb := mTb_in4 (i := 94) rfl rfl
theorem selX6_count : Cond.selects RX6 yX6_count yX6_count ∈ mTb := mTb_in4 (i := 95) rfl rfl
theorem mlRX6_132 : Cond.methodLink RX6 132 yX6_many ∈ mTb := mTb_in4 (i := 97) rfl rfl
theorem inX6_many : Cond.instanceMethod yX6_many ∈ mTb := mTb_in4 (i := 99) rfl rfl
theorem mlRL_77 : Cond.methodLink RL 77 yX6_sends ∈ mTb := mTb_in4 (i := 101) rfl rfl
theorem inX6_sends : Cond.instanceMethod yX6_sends ∈ mTb := mTb_in4 (i := 102) rfl rfl
theorem selX6_sends : Cond.selects RX6 yX6_sends yX6_sends ∈ mTb := mTb_in4 (i := 103) rfl rfl
theorem mlRL_81 : Cond.methodLink RL 81 yX6_idleIn ∈ mTb := mTb_in4 (i := 105) rfl rfl
theorem inX6_idleIn : Cond.instanceMethod yX6_idleIn ∈ mTb := mTb_in4 (i := 106) rfl rfl
theorem selX6_idleIn : Cond.selects RX6 yX6_idleIn yX6_idleIn ∈ mTb := mTb_in4 (i := 107) rfl rfl
theorem mlRL_85 : Cond.methodLink RL 85 yX6_knownIn ∈ mTb := mTb_in4 (i := 109) rfl rfl
theorem inX6_knownIn : Cond.instanceMethod yX6_knownIn ∈ mTb := mTb_in4 (i := 110) rfl rfl
theorem selX6_knownIn : Cond.selects RX6 yX6_knownIn yX6_knownIn ∈ mTb := mTb_in4 (i := 111) rfl rfl
theorem mlRL_89 : Cond.methodLink RL 89 yX6_undo ∈ mTb := mTb_in4 (i := 113) rfl rfl
theorem inX6_undo : Cond.instanceMethod yX6_undo ∈ mTb := mTb_in4 (i := 114) rfl rfl
theorem selX6_undo : Cond.selects RX6 yX6_undo yX6_undo ∈ mTb := mTb_in4 (i := 115) rfl rfl
theorem mlRL_93 : Cond.methodLink RL 93 yX6_type ∈ mTb := mTb_in4 (i := 117) rfl rfl
theorem inX6_type : Cond.instanceMethod yX6_type ∈ mTb := mTb_in4 (i := 118) rfl rfl
theorem selX6_type : Cond.selects RX6 yX6_type yX6_type ∈ mTb := mTb_in4 (i := 119) rfl rfl
theorem mlRL_97 : Cond.methodLink RL 97 yX6_clearText ∈ mTb := mTb_in4 (i := 121) rfl rfl
theorem inX6_clearText : Cond.instanceMethod yX6_clearText ∈ mTb := mTb_in4 (i := 122) rfl rfl
theorem selX6_clearText : Cond.selects RX6 yX6_clearText yX6_clearText ∈ mTb := mTb_in4 (i := 123) rfl rfl
theorem mlRL_101 : Cond.methodLink RL 101 yX6_fault ∈ mTb := mTb_in4 (i := 125) rfl rfl
theorem inX6_fault : Cond.instanceMethod yX6_fault ∈ mTb := mTb_in4 (i := 126) rfl rfl
theorem selX6_fault : Cond.selects RX6 yX6_fault yX6_fault ∈ mTb := mTb_in4 (i := 127) rfl rfl
theorem mlRX6_196 : Cond.methodLink RX6 196 yX6_plays ∈ mTb := mTb_in4 (i := 129) rfl rfl
theorem inX6_plays : Cond.instanceMethod yX6_plays ∈ mTb := mTb_in4 (i := 131) rfl rfl
theorem mlRX6_145 : Cond.methodLink RX6 145 yX6_isAt ∈ mTb := mTb_in4 (i := 133) rfl rfl
theorem inX6_isAt : Cond.instanceMethod yX6_isAt ∈ mTb := mTb_in4 (i := 135) rfl rfl
theorem mlRX6_187 : Cond.methodLink RX6 187 yX6_wordAt ∈ mTb := mTb_in4 (i := 137) rfl rfl
theorem inX6_wordAt : Cond.instanceMethod yX6_wordAt ∈ mTb := mTb_in4 (i := 139) rfl rfl
theorem mlRX6_141 : Cond.methodLink RX6 141 yX6_isWord ∈ mTb := mTb_in4 (i := 141) rfl rfl
theorem inX6_isWord : Cond.instanceMethod yX6_isWord ∈ mTb := mTb_in4 (i := 143) rfl rfl
theorem mlRX6_190 : Cond.methodLink RX6 190 yX6_isForm ∈ mTb := mTb_in4 (i := 145) rfl rfl
theorem inX6_isForm : Cond.instanceMethod yX6_isForm ∈ mTb := mTb_in4 (i := 147) rfl rfl
theorem mlRX6_152 : Cond.methodLink RX6 152 yX6_readsName ∈ mTb := mTb_in4 (i := 149) rfl rfl
theorem inX6_readsName : Cond.instanceMethod yX6_readsName ∈ mTb := mTb_in4 (i := 151) rfl rfl
theorem mlRX6_149 : Cond.methodLink RX6 149 yX6_passes ∈ mTb := mTb_in4 (i := 153) rfl rfl
theorem inX6_passes : Cond.instanceMethod yX6_passes ∈ mTb := mTb_in4 (i := 155) rfl rfl
theorem mlRX6_155 : Cond.methodLink RX6 155 yX6_readsNumber ∈ mTb := mTb_in4 (i := 157) rfl rfl
theorem inX6_readsNumber : Cond.instanceMethod yX6_readsNumber ∈ mTb := mTb_in4 (i := 159) rfl rfl
theorem mlRX6_193 : Cond.methodLink RX6 193 yX6_does ∈ mTb := mTb_in4 (i := 161) rfl rfl
theorem inX6_does : Cond.instanceMethod yX6_does ∈ mTb := mTb_in4 (i := 163) rfl rfl
theorem mlRX6_158 : Cond.methodLink RX6 158 yX6_put ∈ mTb := mTb_in4 (i := 165) rfl rfl
theorem mlRX6_161 : Cond.methodLink RX6 161 yX6_copy ∈ mTb := mTb_in4 (i := 166) rfl rfl
theorem mlRX6_164 : Cond.methodLink RX6 164 yX6_tick ∈ mTb := mTb_in4 (i := 167) rfl rfl
theorem mlRX6_167 : Cond.methodLink RX6 167 yX6_mark ∈ mTb := mTb_in4 (i := 168) rfl rfl
theorem mlRX6_171 : Cond.methodLink RX6 171 yX6_keep ∈ mTb := mTb_in4 (i := 169) rfl rfl
theorem mlRX6_174 : Cond.methodLink RX6 174 yX6_back ∈ mTb := mTb_in4 (i := 170) rfl rfl
theorem mlRX6_177 : Cond.methodLink RX6 177 yX6_order ∈ mTb := mTb_in4 (i := 171) rfl rfl
theorem mlRL_105 : Cond.methodLink RL 105 yX6_play ∈ mTb := mTb_in4 (i := 172) rfl rfl
theorem inX6_play : Cond.instanceMethod yX6_play ∈ mTb := mTb_in4 (i := 173) rfl rfl
theorem selX6_play : Cond.selects RX6 yX6_play yX6_play ∈ mTb := mTb_in4 (i := 174) rfl rfl
theorem flRJ0_9 : Cond.fieldLink RJ0 9 "java/lang/String" "value" "[B" ∈ mTb := mTb_in4 (i := 176) rfl rfl
theorem flRJ0_15 : Cond.fieldLink RJ0 15 "java/lang/String" "coder" "B" ∈ mTb := mTb_in4 (i := 177) rfl rfl
theorem mTb_inP {i : Nat} {w : Cond} (h : (k2_sels lw_privs)[i]? = some w) (hg : goodWord w = true) : w ∈ mTb := List.mem_filter.mpr ⟨List.mem_append_left _ (List.mem_of_getElem? h), hg⟩
theorem selX5_spareRoom : Cond.selects RX5 yX5_spareRoom yX5_spareRoom ∈ mTb := mTb_inP (i := 0) rfl rfl
theorem selX5_settle : Cond.selects RX5 yX5_settle yX5_settle ∈ mTb := mTb_inP (i := 1) rfl rfl
theorem selX2_seat : Cond.selects RX2 yX2_seat yX2_seat ∈ mTb := mTb_inP (i := 2) rfl rfl
theorem selX2_pinnedChairs : Cond.selects RX2 yX2_pinnedChairs yX2_pinnedChairs ∈ mTb := mTb_inP (i := 3) rfl rfl
theorem selX2_lowestFreeChair : Cond.selects RX2 yX2_lowestFreeChair yX2_lowestFreeChair ∈ mTb := mTb_inP (i := 4) rfl rfl
theorem selX2_longestUnused : Cond.selects RX2 yX2_longestUnused yX2_longestUnused ∈ mTb := mTb_inP (i := 5) rfl rfl
theorem selX2_sendOut : Cond.selects RX2 yX2_sendOut yX2_sendOut ∈ mTb := mTb_inP (i := 6) rfl rfl
theorem selX2_findSeat : Cond.selects RX2 yX2_findSeat yX2_findSeat ∈ mTb := mTb_inP (i := 7) rfl rfl
theorem selX2_letTickGo : Cond.selects RX2 yX2_letTickGo yX2_letTickGo ∈ mTb := mTb_inP (i := 8) rfl rfl
theorem selX2_finishOrders : Cond.selects RX2 yX2_finishOrders yX2_finishOrders ∈ mTb := mTb_inP (i := 9) rfl rfl
theorem selX2_beginOrders : Cond.selects RX2 yX2_beginOrders yX2_beginOrders ∈ mTb := mTb_inP (i := 10) rfl rfl
theorem selX2_isMark : Cond.selects RX2 yX2_isMark yX2_isMark ∈ mTb := mTb_inP (i := 11) rfl rfl
theorem selX2_hidesValue : Cond.selects RX2 yX2_hidesValue yX2_hidesValue ∈ mTb := mTb_inP (i := 12) rfl rfl
theorem selX2_isKnown : Cond.selects RX2 yX2_isKnown yX2_isKnown ∈ mTb := mTb_inP (i := 13) rfl rfl
theorem selX2_marksOn : Cond.selects RX2 yX2_marksOn yX2_marksOn ∈ mTb := mTb_inP (i := 14) rfl rfl
theorem selX2_hasBegun : Cond.selects RX2 yX2_hasBegun yX2_hasBegun ∈ mTb := mTb_inP (i := 15) rfl rfl
theorem selX2_begunOrders : Cond.selects RX2 yX2_begunOrders yX2_begunOrders ∈ mTb := mTb_inP (i := 16) rfl rfl
theorem selX5_tryText : Cond.selects RX5 yX5_tryText yX5_tryText ∈ mTb := mTb_inP (i := 17) rfl rfl
theorem selX5_noteFault : Cond.selects RX5 yX5_noteFault yX5_noteFault ∈ mTb := mTb_inP (i := 18) rfl rfl
theorem selX3_matches : Cond.selects RX3 yX3_matches yX3_matches ∈ mTb := mTb_inP (i := 19) rfl rfl
theorem selX3_readName : Cond.selects RX3 yX3_readName yX3_readName ∈ mTb := mTb_inP (i := 20) rfl rfl
theorem selX3_signAt : Cond.selects RX3 yX3_signAt yX3_signAt ∈ mTb := mTb_inP (i := 21) rfl rfl
theorem selX3_readNumber : Cond.selects RX3 yX3_readNumber yX3_readNumber ∈ mTb := mTb_inP (i := 22) rfl rfl
theorem selX6_clears : Cond.selects RX6 yX6_clears yX6_clears ∈ mTb := mTb_inP (i := 23) rfl rfl
theorem selX6_changes : Cond.selects RX6 yX6_changes yX6_changes ∈ mTb := mTb_inP (i := 24) rfl rfl
theorem selX6_givesUp : Cond.selects RX6 yX6_givesUp yX6_givesUp ∈ mTb := mTb_inP (i := 25) rfl rfl
theorem selX6_frees : Cond.selects RX6 yX6_frees yX6_frees ∈ mTb := mTb_inP (i := 26) rfl rfl
theorem selX6_isHad : Cond.selects RX6 yX6_isHad yX6_isHad ∈ mTb := mTb_inP (i := 27) rfl rfl
theorem selX6_marksOf : Cond.selects RX6 yX6_marksOf yX6_marksOf ∈ mTb := mTb_inP (i := 28) rfl rfl
theorem selX6_readers : Cond.selects RX6 yX6_readers yX6_readers ∈ mTb := mTb_inP (i := 29) rfl rfl
theorem selX6_isOfOrder : Cond.selects RX6 yX6_isOfOrder yX6_isOfOrder ∈ mTb := mTb_inP (i := 30) rfl rfl
theorem selX6_gets : Cond.selects RX6 yX6_gets yX6_gets ∈ mTb := mTb_inP (i := 31) rfl rfl
theorem selX6_chairFor : Cond.selects RX6 yX6_chairFor yX6_chairFor ∈ mTb := mTb_inP (i := 32) rfl rfl
theorem selX6_next : Cond.selects RX6 yX6_next yX6_next ∈ mTb := mTb_inP (i := 33) rfl rfl
theorem selX6_isKnown : Cond.selects RX6 yX6_isKnown yX6_isKnown ∈ mTb := mTb_inP (i := 34) rfl rfl
theorem selX6_sits : Cond.selects RX6 yX6_sits yX6_sits ∈ mTb := mTb_inP (i := 35) rfl rfl
theorem selX6_gives : Cond.selects RX6 yX6_gives yX6_gives ∈ mTb := mTb_inP (i := 36) rfl rfl
theorem selX6_ticks : Cond.selects RX6 yX6_ticks yX6_ticks ∈ mTb := mTb_inP (i := 37) rfl rfl
theorem selX6_dones : Cond.selects RX6 yX6_dones yX6_dones ∈ mTb := mTb_inP (i := 38) rfl rfl
theorem selX6_drops : Cond.selects RX6 yX6_drops yX6_drops ∈ mTb := mTb_inP (i := 39) rfl rfl
theorem selX6_isMark : Cond.selects RX6 yX6_isMark yX6_isMark ∈ mTb := mTb_inP (i := 40) rfl rfl
theorem selX6_names : Cond.selects RX6 yX6_names yX6_names ∈ mTb := mTb_inP (i := 41) rfl rfl
theorem selX6_toCome : Cond.selects RX6 yX6_toCome yX6_toCome ∈ mTb := mTb_inP (i := 42) rfl rfl
theorem selX6_many : Cond.selects RX6 yX6_many yX6_many ∈ mTb := mTb_inP (i := 43) rfl rfl
theorem selX6_plays : Cond.selects RX6 yX6_plays yX6_plays ∈ mTb := mTb_inP (i := 44) rfl rfl
theorem selX6_isAt : Cond.selects RX6 yX6_isAt yX6_isAt ∈ mTb := mTb_inP (i := 45) rfl rfl
theorem selX6_wordAt : Cond.selects RX6 yX6_wordAt yX6_wordAt ∈ mTb := mTb_inP (i := 46) rfl rfl
theorem selX6_isWord : Cond.selects RX6 yX6_isWord yX6_isWord ∈ mTb := mTb_inP (i := 47) rfl rfl
theorem selX6_isForm : Cond.selects RX6 yX6_isForm yX6_isForm ∈ mTb := mTb_inP (i := 48) rfl rfl
theorem selX6_readsName : Cond.selects RX6 yX6_readsName yX6_readsName ∈ mTb := mTb_inP (i := 49) rfl rfl
theorem selX6_passes : Cond.selects RX6 yX6_passes yX6_passes ∈ mTb := mTb_inP (i := 50) rfl rfl
theorem selX6_readsNumber : Cond.selects RX6 yX6_readsNumber yX6_readsNumber ∈ mTb := mTb_inP (i := 51) rfl rfl
theorem selX6_does : Cond.selects RX6 yX6_does yX6_does ∈ mTb := mTb_inP (i := 52) rfl rfl
end
section
/-! ===== the system's shape: which cells there are behind the constructors; words for the specifications ===== -/
def layR : List (Nat × Nat) := [(2, 12), (10, 4), (0, 2), (10, 8), (10, 8), (4, 3), (10, 7), (10, 7), (10, 7), (1, 6), (10, 6), (10, 6), (10, 6), (10, 6), (10, 6), (12, 3), (0, 2), (10, 8), (10, 8), (0, 2), (10, 8), (10, 8), (0, 2), (10, 8), (10, 8)]
def lay0 : List (Nat × Nat) := (5, 8) :: (layR ++ (layR ++ ((13, 4) :: (3, 4) :: (11, 80) :: (10, 3) :: (layR ++ (layR ++ (layR ++ (layR ++ [(6, 13), (10, 153), (10, 612), (10, 153), (10, 153), (10, 80), (10, 7), (10, 3)])))))))
abbrev mPt : Type := Nat → Int → Option Nat
abbrev mIt : Type := Nat → Int → Int
def isNm (P : mPt) (a c h : Nat) : Prop := lay0[a]? = some (0, 2) ∧ lay0[c]? = some (10, 8) ∧ lay0[h]? = some (10, 8) ∧ P a 0 = some c ∧ P a 1 = some h
def isVs (P : mPt) (a v kn us : Nat) : Prop := lay0[a]? = some (4, 3) ∧ lay0[v]? = some (10, 7) ∧ lay0[kn]? = some (10, 7) ∧ lay0[us]? = some (10, 7) ∧ P a 0 = some v ∧ P a 1 = some kn ∧ P a 2 = some us
def isOr (P : mPt) (a w c f g m : Nat) : Prop := lay0[a]? = some (1, 6) ∧ lay0[w]? = some (10, 6) ∧ lay0[c]? = some (10, 6) ∧ lay0[f]? = some (10, 6) ∧ lay0[g]? = some (10, 6) ∧ lay0[m]? = some (10, 6) ∧ P a 1 = some w ∧ P a 2 = some c ∧ P a 3 = some f ∧ P a 4 = some g ∧ P a 5 = some m
def isRm (P : mPt) (b : Nat) : Prop := (lay0[b]? = some (2, 12) ∧ lay0[b + 1]? = some (10, 4) ∧ lay0[b + 15]? = some (12, 3)) ∧ (P b 7 = some (b + 1) ∧ P b 8 = some (b + 2) ∧ P b 9 = some (b + 5) ∧ P b 10 = some (b + 9) ∧ P b 11 = some (b + 15)) ∧ isNm P (b + 2) (b + 3) (b + 4) ∧ isVs P (b + 5) (b + 6) (b + 7) (b + 8) ∧ isOr P (b + 9) (b + 10) (b + 11) (b + 12) (b + 13) (b + 14) ∧ (P (b + 15) 0 = some (b + 16) ∧ P (b + 15) 1 = some (b + 19) ∧ P (b + 15) 2 = some (b + 22)) ∧ isNm P (b + 16) (b + 17) (b + 18) ∧ isNm P (b + 19) (b + 20) (b + 21) ∧ isNm P (b + 22) (b + 23) (b + 24)
def mA (b : Nat) (i : Int) : Nat := b + 16 + 3 * i.toNat
def mC (b : Nat) (i : Int) : Nat := b + 17 + 3 * i.toNat
def mH (b : Nat) (i : Int) : Nat := b + 18 + 3 * i.toNat
theorem isRm.mark {P : mPt} {b : Nat} (h : isRm P b) {i : Int} (h0 : 0 ≤ i) (h1 : i < 3) : P (b + 15) i = some (mA b i) ∧ isNm P (mA b i) (mC b i) (mH b i) := by
  have h2 : i = 0 ∨ i = 1 ∨ i = 2 := by omega
  rcases h2 with rfl | rfl | rfl
  · exact ⟨h.2.2.2.2.2.1.1, h.2.2.2.2.2.2.1⟩
  · exact ⟨h.2.2.2.2.2.1.2.1, h.2.2.2.2.2.2.2.1⟩
  · exact ⟨h.2.2.2.2.2.1.2.2, h.2.2.2.2.2.2.2.2⟩
def bI (p : Prop) [Decidable p] : Int := if p then 1 else 0
theorem bI_01 (p : Prop) [Decidable p] : bI p = 0 ∨ bI p = 1 := by unfold bI; split <;> simp
theorem bI_t {p : Prop} [Decidable p] (h : p) : bI p = 1 := if_pos h
theorem bI_f {p : Prop} [Decidable p] (h : ¬ p) : bI p = 0 := if_neg h
theorem bI_e0 {p : Prop} [Decidable p] : bI p = 0 ↔ ¬ p := by unfold bI; split <;> simp_all
theorem bI_congr {p q : Prop} [Decidable p] [Decidable q] (h : p ↔ q) : bI p = bI q := by unfold bI; simp [h]
def Rt (v : Option mV) (M : mM) : Option mV → mM → Prop := fun r N => r = v ∧ N = M
theorem rtI {x y : Int} {M N : mM} (h : x = y) (hM : M = N) : Rt (some (.inl y)) N (some (.inl x)) M := ⟨by rw [h], hM⟩
theorem rtV {M N : mM} (hM : M = N) : Rt none N none M := ⟨rfl, hM⟩
theorem rtR {x y : Option Nat} {M N : mM} (h : x = y) (hM : M = N) : Rt (some (.inr y)) N (some (.inr x)) M := ⟨by rw [h], hM⟩
theorem loopN (N : Nat) (X : Nat → Prop) (h : ∀ j, (j < N → X (j + 1)) → X j) : ∀ j, X j := by
  have h1 : ∀ n j, N - j = n → X j := by
    intro n
    induction n with
    | zero => intro j hj; exact h j (fun q => by omega)
    | succ n ih => intro j hj; exact h j (fun q => ih (j + 1) (by omega))
  exact fun j => h1 _ j rfl
theorem loopW {σ : Type} (m : σ → Nat) (X : σ → Prop) (h : ∀ x, (∀ y, m y < m x → X y) → X x) : ∀ x, X x := by
  have h1 : ∀ n x, m x < n → X x := by
    intro n
    induction n with
    | zero => intro x hx; omega
    | succ n ih => intro x hx; exact h x (fun y hy => ih y (by omega))
  exact fun x => h1 _ x (Nat.lt_succ_self _)
theorem loopD (X : Nat → Prop) (h : ∀ j, (∀ i, i < j → X i) → X j) : ∀ j, X j := by
  have h1 : ∀ n j, j < n → X j := by
    intro n
    induction n with
    | zero => intro j hj; omega
    | succ n ih => intro j hj; exact h j (fun i hi => ih i (by omega))
  exact fun j => h1 _ j (Nat.lt_succ_self _)
theorem memE {I I' : mIt} {P : mPt} (h : I = I') : ((lay0, I, P) : mM) = (lay0, I', P) := by rw [h]
section ROWS4
variable {k : Nat} {d dj : mD} {S : Option (Nat × (Nat → Int))} {u : Nat × Nat} {Q : Option mV → mM → Prop} {pc : Nat} {lv : List (Nat × mV)} {st : List mV} {M M' : mM} {v : Option mV}
theorem wpE {lv' : List (Nat × mV)} {st' : List mV} (h1 : lv = lv') (h3 : st = st') (h2 : M = M') (h : WP k d S u Q pc lv' st' M') : WP k d S u Q pc lv st M := by rw [h1, h2, h3]; exact h
theorem wpOk (h : okM M → WP k d S u Q pc lv st M) : WP k d S u Q pc lv st M :=
  fun p l e R s m args below meth c D al0 n0 A QS C hS hret al H locs ls hag hn hW hst hlv hl => h hW.2.2.2.1 p l e R s m args below meth c D al0 n0 A QS C hS hret al H locs ls hag hn hW hst hlv hl
theorem wpOkL (h : (∀ q ∈ lv, okV M.1.length q.2) → WP k d S u Q pc lv st M) : WP k d S u Q pc lv st M :=
  fun p l e R s m args below meth c D al0 n0 A QS C hS hret al H locs ls hag hn hW hst hlv hl => h hlv p l e R s m args below meth c D al0 n0 A QS C hS hret al H locs ls hag hn hW hst hlv hl
theorem r_ifb_eq {p : Prop} [Decidable p] {off : Int} {tgt : Nat} (hd : decode d.2.1 pc = .ok (.ifCond .eq off, 3)) (ht : (pc : Int) + off = (tgt : Int)) (kt : ¬ p → WP k d S u Q tgt lv st M) (kf : p → WP k d S u Q (pc + 3) lv st M) : WP k d S u Q pc lv (.inl (bI p) :: st) M :=
  r_if_eq hd ht (fun h => kt (bI_e0.mp h)) (fun h => kf (Decidable.byContradiction fun z => h (bI_e0.mpr z)))
theorem r_ifb_ne {p : Prop} [Decidable p] {off : Int} {tgt : Nat} (hd : decode d.2.1 pc = .ok (.ifCond .ne off, 3)) (ht : (pc : Int) + off = (tgt : Int)) (kt : p → WP k d S u Q tgt lv st M) (kf : ¬ p → WP k d S u Q (pc + 3) lv st M) : WP k d S u Q pc lv (.inl (bI p) :: st) M :=
  r_if_ne hd ht (fun h => kt (Decidable.byContradiction fun z => h (bI_e0.mpr z))) (fun h => kf (bI_e0.mp h))
theorem r_getIs {a kd j idx : Nat} {x : Int} (hd : decode d.2.1 pc = .ok (.getfield idx, 3)) (hw : Cond.fieldLink d.1.cls idx (mTx kd j).1 (mTx kd j).2.1 (mTx kd j).2.2.1 ∈ mTb) (ha : M.1[a]? = some (kd, mNx kd)) (hk : kd < 7) (hj : j < mNx kd) (hr : mRef kd j = false) (hx : M.2.1 a j = x)
    (kk : WP k d S u Q (pc + 3) lv (.inl x :: st) M) : WP k d S u Q pc lv (.inr (some a) :: st) M := r_getI hd hw ha hk hj hr (by rw [hx]; exact kk)
theorem r_getRs {a kd j idx x : Nat} (hd : decode d.2.1 pc = .ok (.getfield idx, 3)) (hw : Cond.fieldLink d.1.cls idx (mTx kd j).1 (mTx kd j).2.1 (mTx kd j).2.2.1 ∈ mTb) (ha : M.1[a]? = some (kd, mNx kd)) (hk : kd < 7) (hj : j < mNx kd) (hr : mRef kd j = true) (hx : M.2.2 a j = some x)
    (kk : WP k d S u Q (pc + 3) lv (.inr (some x) :: st) M) : WP k d S u Q pc lv (.inr (some a) :: st) M := r_getR hd hw ha hk hj hr (by rw [hx]; exact kk)
theorem r_ialds {a n : Nat} {i x : Int} (hd : decode d.2.1 pc = .ok (.iaload, 1)) (ha : M.1[a]? = some (10, n)) (h0 : 0 ≤ i) (h1 : i < (n : Int)) (hx : M.2.1 a i = x)
    (kk : WP k d S u Q (pc + 1) lv (.inl x :: st) M) : WP k d S u Q pc lv (.inl i :: .inr (some a) :: st) M := r_iald hd ha h0 h1 (by rw [hx]; exact kk)
theorem r_iasts {a n : Nat} {i x : Int} (M' : mM) (hd : decode d.2.1 pc = .ok (.iastore, 1)) (ha : M.1[a]? = some (10, n)) (h0 : 0 ≤ i) (h1 : i < (n : Int)) (hM : (M.1, mUp M.2.1 a i x, M.2.2) = M')
    (kk : WP k d S u Q (pc + 1) lv st M') : WP k d S u Q pc lv (.inl x :: .inl i :: .inr (some a) :: st) M := r_iast hd ha h0 h1 (by rw [hM]; exact kk)
theorem r_casts {a n : Nat} {i x : Int} (M' : mM) (hd : decode d.2.1 pc = .ok (.castore, 1)) (ha : M.1[a]? = some (11, n)) (h0 : 0 ≤ i) (h1 : i < (n : Int)) (hc : 0 ≤ x ∧ x < 65536) (hM : (M.1, mUp M.2.1 a i x, M.2.2) = M')
    (kk : WP k d S u Q (pc + 1) lv st M') : WP k d S u Q pc lv (.inl x :: .inl i :: .inr (some a) :: st) M := r_cast hd ha h0 h1 hc (by rw [hM]; exact kk)
theorem r_putIs {a kd j idx : Nat} {x : Int} (M' : mM) (hd : decode d.2.1 pc = .ok (.putfield idx, 3)) (hw : Cond.fieldLink d.1.cls idx (mTx kd j).1 (mTx kd j).2.1 (mTx kd j).2.2.1 ∈ mTb) (ha : M.1[a]? = some (kd, mNx kd)) (hk : kd < 7) (hj : j < mNx kd) (hr : mRef kd j = false) (hf : (mTx kd j).2.2.2 = false) (hty : mTy kd j = .int ∨ (mTy kd j = .boolean ∧ (x = 0 ∨ x = 1))) (hM : (M.1, mUp M.2.1 a j x, M.2.2) = M')
    (kk : WP k d S u Q (pc + 3) lv st M') : WP k d S u Q pc lv (.inl x :: .inr (some a) :: st) M := r_putI hd hw ha hk hj hr hf hty (by rw [hM]; exact kk)
theorem r_calds {a n : Nat} {i x : Int} (hd : decode d.2.1 pc = .ok (.caload, 1)) (ha : M.1[a]? = some (11, n)) (h0 : 0 ≤ i) (h1 : i < (n : Int)) (hx : M.2.1 a i = x)
    (kk : WP k d S u Q (pc + 1) lv (.inl x :: st) M) : WP k d S u Q pc lv (.inl i :: .inr (some a) :: st) M := r_cald hd ha h0 h1 (by rw [hx]; exact kk)
theorem r_aald12s {a n x : Nat} {i : Int} (hd : decode d.2.1 pc = .ok (.aaload, 1)) (ha : M.1[a]? = some (12, n)) (h0 : 0 ≤ i) (h1 : i < (n : Int)) (hx : M.2.2 a i = some x)
    (kk : WP k d S u Q (pc + 1) lv (.inr (some x) :: st) M) : WP k d S u Q pc lv (.inl i :: .inr (some a) :: st) M := r_aald12 hd ha h0 h1 (by rw [hx]; exact kk)
theorem r_aald13s {a n x : Nat} {i : Int} (hd : decode d.2.1 pc = .ok (.aaload, 1)) (ha : M.1[a]? = some (13, n)) (h0 : 0 ≤ i) (h1 : i < (n : Int)) (hx : M.2.2 a i = some x)
    (kk : WP k d S u Q (pc + 1) lv (.inr (some x) :: st) M) : WP k d S u Q pc lv (.inl i :: .inr (some a) :: st) M := r_aald13 hd ha h0 h1 (by rw [hx]; exact kk)
end ROWS4
section ROWS5
variable {k : Nat} {d dj : mD} {S : Option (Nat × (Nat → Int))} {u : Nat × Nat} {Q : Option mV → mM → Prop} {pc : Nat} {lv : List (Nat × mV)} {st : List mV} {M M' : mM} {v : Option mV}
theorem r_cV0 {idx a kd : Nat} (hd : decode d.2.1 pc = .ok (.invokevirtual idx, 3)) (hl0 : Cond.methodLink d.1.cls idx dj.1 ∈ mTb) (hin : Cond.instanceMethod dj.1 ∈ mTb) (hsel : Cond.selects (mRx kd) dj.1 dj.1 ∈ mTb) (hcls : dj.1.cls = mRx kd) (ha : M.1[a]? = some (kd, mNx kd)) (hk : kd < 7) (ho : mOk dj 0) (hml : 1 ≤ dj.2.2.1) (hz : dj.2.2.2.2 = (0, 0)) (hr8 : st.length ≤ 8) (hu1 : u.1 ≤ d.2.2.2.2.1) (hu2 : u.2 ≤ d.2.2.2.2.2)
    (hF : WP k dj none (0, 0) (Rt v M') 0 [(0, .inr (some a))] [] M) (kk : WP (k + 1) d S u Q (pc + 3) lv (v.toList ++ st) M') : WP (k + 1) d S u Q pc lv (.inr (some a) :: st) M := by
  refine r_invV (as := []) hd hl0 hin hsel hcls ha hk ho (by simpa using hml) hr8 (by rw [hz]; exact hu1) (by rw [hz]; exact hu2) hF (fun r N h => ?_)
  obtain ⟨rfl, rfl⟩ := h
  rw [hz]
  exact kk
theorem r_cS0 {idx : Nat} (hd : decode d.2.1 pc = .ok (.invokestatic idx, 3)) (hl0 : Cond.methodLink d.1.cls idx dj.1 ∈ mTb) (hsta : Cond.static dj.1 ∈ mTb) (ho : mOk dj 0) (hml : 0 ≤ dj.2.2.1) (hz : dj.2.2.2.2 = (0, 0)) (hr8 : st.length ≤ 8) (hu1 : u.1 ≤ d.2.2.2.2.1) (hu2 : u.2 ≤ d.2.2.2.2.2)
    (hF : WP k dj none (0, 0) (Rt v M') 0 [] [] M) (kk : WP (k + 1) d S u Q (pc + 3) lv (v.toList ++ st) M') : WP (k + 1) d S u Q pc lv (st) M := by
  refine r_invS (as := []) hd hl0 hsta ho (by simpa using hml) hr8 (by rw [hz]; exact hu1) (by rw [hz]; exact hu2) hF (fun r N h => ?_)
  obtain ⟨rfl, rfl⟩ := h
  rw [hz]
  exact kk
theorem r_cSN0 {idx : Nat} (hd : decode d.2.1 pc = .ok (.invokestatic idx, 3)) (hl0 : (d.1.cls, idx, dj.1, RX5) ∈ mNest) (hsta : Cond.static dj.1 ∈ mTb) (ho : mOk dj 0) (hml : 0 ≤ dj.2.2.1) (hz : dj.2.2.2.2 = (0, 0)) (hr8 : st.length ≤ 8) (hu1 : u.1 ≤ d.2.2.2.2.1) (hu2 : u.2 ≤ d.2.2.2.2.2)
    (hF : WP k dj none (0, 0) (Rt v M') 0 [] [] M) (kk : WP (k + 1) d S u Q (pc + 3) lv (v.toList ++ st) M') : WP (k + 1) d S u Q pc lv (st) M := by
  refine r_invSN (as := []) hd hl0 hsta ho (by simpa using hml) hr8 (by rw [hz]; exact hu1) (by rw [hz]; exact hu2) hF (fun r N h => ?_)
  obtain ⟨rfl, rfl⟩ := h
  rw [hz]
  exact kk
theorem r_cV1 {x1 : mV} {idx a kd : Nat} (hd : decode d.2.1 pc = .ok (.invokevirtual idx, 3)) (hl0 : Cond.methodLink d.1.cls idx dj.1 ∈ mTb) (hin : Cond.instanceMethod dj.1 ∈ mTb) (hsel : Cond.selects (mRx kd) dj.1 dj.1 ∈ mTb) (hcls : dj.1.cls = mRx kd) (ha : M.1[a]? = some (kd, mNx kd)) (hk : kd < 7) (ho : mOk dj 1) (hml : 2 ≤ dj.2.2.1) (hz : dj.2.2.2.2 = (0, 0)) (hr8 : st.length ≤ 8) (hu1 : u.1 ≤ d.2.2.2.2.1) (hu2 : u.2 ≤ d.2.2.2.2.2)
    (hF : WP k dj none (0, 0) (Rt v M') 0 [(0, .inr (some a)), (1, x1)] [] M) (kk : WP (k + 1) d S u Q (pc + 3) lv (v.toList ++ st) M') : WP (k + 1) d S u Q pc lv (x1 :: .inr (some a) :: st) M := by
  refine r_invV (as := [x1]) hd hl0 hin hsel hcls ha hk ho (by simpa using hml) hr8 (by rw [hz]; exact hu1) (by rw [hz]; exact hu2) hF (fun r N h => ?_)
  obtain ⟨rfl, rfl⟩ := h
  rw [hz]
  exact kk
theorem r_cS1 {x1 : mV} {idx : Nat} (hd : decode d.2.1 pc = .ok (.invokestatic idx, 3)) (hl0 : Cond.methodLink d.1.cls idx dj.1 ∈ mTb) (hsta : Cond.static dj.1 ∈ mTb) (ho : mOk dj 1) (hml : 1 ≤ dj.2.2.1) (hz : dj.2.2.2.2 = (0, 0)) (hr8 : st.length ≤ 8) (hu1 : u.1 ≤ d.2.2.2.2.1) (hu2 : u.2 ≤ d.2.2.2.2.2)
    (hF : WP k dj none (0, 0) (Rt v M') 0 [(0, x1)] [] M) (kk : WP (k + 1) d S u Q (pc + 3) lv (v.toList ++ st) M') : WP (k + 1) d S u Q pc lv (x1 :: st) M := by
  refine r_invS (as := [x1]) hd hl0 hsta ho (by simpa using hml) hr8 (by rw [hz]; exact hu1) (by rw [hz]; exact hu2) hF (fun r N h => ?_)
  obtain ⟨rfl, rfl⟩ := h
  rw [hz]
  exact kk
theorem r_cSN1 {x1 : mV} {idx : Nat} (hd : decode d.2.1 pc = .ok (.invokestatic idx, 3)) (hl0 : (d.1.cls, idx, dj.1, RX5) ∈ mNest) (hsta : Cond.static dj.1 ∈ mTb) (ho : mOk dj 1) (hml : 1 ≤ dj.2.2.1) (hz : dj.2.2.2.2 = (0, 0)) (hr8 : st.length ≤ 8) (hu1 : u.1 ≤ d.2.2.2.2.1) (hu2 : u.2 ≤ d.2.2.2.2.2)
    (hF : WP k dj none (0, 0) (Rt v M') 0 [(0, x1)] [] M) (kk : WP (k + 1) d S u Q (pc + 3) lv (v.toList ++ st) M') : WP (k + 1) d S u Q pc lv (x1 :: st) M := by
  refine r_invSN (as := [x1]) hd hl0 hsta ho (by simpa using hml) hr8 (by rw [hz]; exact hu1) (by rw [hz]; exact hu2) hF (fun r N h => ?_)
  obtain ⟨rfl, rfl⟩ := h
  rw [hz]
  exact kk
theorem r_cV2 {x1 x2 : mV} {idx a kd : Nat} (hd : decode d.2.1 pc = .ok (.invokevirtual idx, 3)) (hl0 : Cond.methodLink d.1.cls idx dj.1 ∈ mTb) (hin : Cond.instanceMethod dj.1 ∈ mTb) (hsel : Cond.selects (mRx kd) dj.1 dj.1 ∈ mTb) (hcls : dj.1.cls = mRx kd) (ha : M.1[a]? = some (kd, mNx kd)) (hk : kd < 7) (ho : mOk dj 2) (hml : 3 ≤ dj.2.2.1) (hz : dj.2.2.2.2 = (0, 0)) (hr8 : st.length ≤ 8) (hu1 : u.1 ≤ d.2.2.2.2.1) (hu2 : u.2 ≤ d.2.2.2.2.2)
    (hF : WP k dj none (0, 0) (Rt v M') 0 [(0, .inr (some a)), (1, x1), (2, x2)] [] M) (kk : WP (k + 1) d S u Q (pc + 3) lv (v.toList ++ st) M') : WP (k + 1) d S u Q pc lv (x2 :: x1 :: .inr (some a) :: st) M := by
  refine r_invV (as := [x1, x2]) hd hl0 hin hsel hcls ha hk ho (by simpa using hml) hr8 (by rw [hz]; exact hu1) (by rw [hz]; exact hu2) hF (fun r N h => ?_)
  obtain ⟨rfl, rfl⟩ := h
  rw [hz]
  exact kk
theorem r_cS2 {x1 x2 : mV} {idx : Nat} (hd : decode d.2.1 pc = .ok (.invokestatic idx, 3)) (hl0 : Cond.methodLink d.1.cls idx dj.1 ∈ mTb) (hsta : Cond.static dj.1 ∈ mTb) (ho : mOk dj 2) (hml : 2 ≤ dj.2.2.1) (hz : dj.2.2.2.2 = (0, 0)) (hr8 : st.length ≤ 8) (hu1 : u.1 ≤ d.2.2.2.2.1) (hu2 : u.2 ≤ d.2.2.2.2.2)
    (hF : WP k dj none (0, 0) (Rt v M') 0 [(0, x1), (1, x2)] [] M) (kk : WP (k + 1) d S u Q (pc + 3) lv (v.toList ++ st) M') : WP (k + 1) d S u Q pc lv (x2 :: x1 :: st) M := by
  refine r_invS (as := [x1, x2]) hd hl0 hsta ho (by simpa using hml) hr8 (by rw [hz]; exact hu1) (by rw [hz]; exact hu2) hF (fun r N h => ?_)
  obtain ⟨rfl, rfl⟩ := h
  rw [hz]
  exact kk
theorem r_cSN2 {x1 x2 : mV} {idx : Nat} (hd : decode d.2.1 pc = .ok (.invokestatic idx, 3)) (hl0 : (d.1.cls, idx, dj.1, RX5) ∈ mNest) (hsta : Cond.static dj.1 ∈ mTb) (ho : mOk dj 2) (hml : 2 ≤ dj.2.2.1) (hz : dj.2.2.2.2 = (0, 0)) (hr8 : st.length ≤ 8) (hu1 : u.1 ≤ d.2.2.2.2.1) (hu2 : u.2 ≤ d.2.2.2.2.2)
    (hF : WP k dj none (0, 0) (Rt v M') 0 [(0, x1), (1, x2)] [] M) (kk : WP (k + 1) d S u Q (pc + 3) lv (v.toList ++ st) M') : WP (k + 1) d S u Q pc lv (x2 :: x1 :: st) M := by
  refine r_invSN (as := [x1, x2]) hd hl0 hsta ho (by simpa using hml) hr8 (by rw [hz]; exact hu1) (by rw [hz]; exact hu2) hF (fun r N h => ?_)
  obtain ⟨rfl, rfl⟩ := h
  rw [hz]
  exact kk
theorem r_cV3 {x1 x2 x3 : mV} {idx a kd : Nat} (hd : decode d.2.1 pc = .ok (.invokevirtual idx, 3)) (hl0 : Cond.methodLink d.1.cls idx dj.1 ∈ mTb) (hin : Cond.instanceMethod dj.1 ∈ mTb) (hsel : Cond.selects (mRx kd) dj.1 dj.1 ∈ mTb) (hcls : dj.1.cls = mRx kd) (ha : M.1[a]? = some (kd, mNx kd)) (hk : kd < 7) (ho : mOk dj 3) (hml : 4 ≤ dj.2.2.1) (hz : dj.2.2.2.2 = (0, 0)) (hr8 : st.length ≤ 8) (hu1 : u.1 ≤ d.2.2.2.2.1) (hu2 : u.2 ≤ d.2.2.2.2.2)
    (hF : WP k dj none (0, 0) (Rt v M') 0 [(0, .inr (some a)), (1, x1), (2, x2), (3, x3)] [] M) (kk : WP (k + 1) d S u Q (pc + 3) lv (v.toList ++ st) M') : WP (k + 1) d S u Q pc lv (x3 :: x2 :: x1 :: .inr (some a) :: st) M := by
  refine r_invV (as := [x1, x2, x3]) hd hl0 hin hsel hcls ha hk ho (by simpa using hml) hr8 (by rw [hz]; exact hu1) (by rw [hz]; exact hu2) hF (fun r N h => ?_)
  obtain ⟨rfl, rfl⟩ := h
  rw [hz]
  exact kk
theorem r_cS3 {x1 x2 x3 : mV} {idx : Nat} (hd : decode d.2.1 pc = .ok (.invokestatic idx, 3)) (hl0 : Cond.methodLink d.1.cls idx dj.1 ∈ mTb) (hsta : Cond.static dj.1 ∈ mTb) (ho : mOk dj 3) (hml : 3 ≤ dj.2.2.1) (hz : dj.2.2.2.2 = (0, 0)) (hr8 : st.length ≤ 8) (hu1 : u.1 ≤ d.2.2.2.2.1) (hu2 : u.2 ≤ d.2.2.2.2.2)
    (hF : WP k dj none (0, 0) (Rt v M') 0 [(0, x1), (1, x2), (2, x3)] [] M) (kk : WP (k + 1) d S u Q (pc + 3) lv (v.toList ++ st) M') : WP (k + 1) d S u Q pc lv (x3 :: x2 :: x1 :: st) M := by
  refine r_invS (as := [x1, x2, x3]) hd hl0 hsta ho (by simpa using hml) hr8 (by rw [hz]; exact hu1) (by rw [hz]; exact hu2) hF (fun r N h => ?_)
  obtain ⟨rfl, rfl⟩ := h
  rw [hz]
  exact kk
theorem r_cSN3 {x1 x2 x3 : mV} {idx : Nat} (hd : decode d.2.1 pc = .ok (.invokestatic idx, 3)) (hl0 : (d.1.cls, idx, dj.1, RX5) ∈ mNest) (hsta : Cond.static dj.1 ∈ mTb) (ho : mOk dj 3) (hml : 3 ≤ dj.2.2.1) (hz : dj.2.2.2.2 = (0, 0)) (hr8 : st.length ≤ 8) (hu1 : u.1 ≤ d.2.2.2.2.1) (hu2 : u.2 ≤ d.2.2.2.2.2)
    (hF : WP k dj none (0, 0) (Rt v M') 0 [(0, x1), (1, x2), (2, x3)] [] M) (kk : WP (k + 1) d S u Q (pc + 3) lv (v.toList ++ st) M') : WP (k + 1) d S u Q pc lv (x3 :: x2 :: x1 :: st) M := by
  refine r_invSN (as := [x1, x2, x3]) hd hl0 hsta ho (by simpa using hml) hr8 (by rw [hz]; exact hu1) (by rw [hz]; exact hu2) hF (fun r N h => ?_)
  obtain ⟨rfl, rfl⟩ := h
  rw [hz]
  exact kk
theorem r_cV4 {x1 x2 x3 x4 : mV} {idx a kd : Nat} (hd : decode d.2.1 pc = .ok (.invokevirtual idx, 3)) (hl0 : Cond.methodLink d.1.cls idx dj.1 ∈ mTb) (hin : Cond.instanceMethod dj.1 ∈ mTb) (hsel : Cond.selects (mRx kd) dj.1 dj.1 ∈ mTb) (hcls : dj.1.cls = mRx kd) (ha : M.1[a]? = some (kd, mNx kd)) (hk : kd < 7) (ho : mOk dj 4) (hml : 5 ≤ dj.2.2.1) (hz : dj.2.2.2.2 = (0, 0)) (hr8 : st.length ≤ 8) (hu1 : u.1 ≤ d.2.2.2.2.1) (hu2 : u.2 ≤ d.2.2.2.2.2)
    (hF : WP k dj none (0, 0) (Rt v M') 0 [(0, .inr (some a)), (1, x1), (2, x2), (3, x3), (4, x4)] [] M) (kk : WP (k + 1) d S u Q (pc + 3) lv (v.toList ++ st) M') : WP (k + 1) d S u Q pc lv (x4 :: x3 :: x2 :: x1 :: .inr (some a) :: st) M := by
  refine r_invV (as := [x1, x2, x3, x4]) hd hl0 hin hsel hcls ha hk ho (by simpa using hml) hr8 (by rw [hz]; exact hu1) (by rw [hz]; exact hu2) hF (fun r N h => ?_)
  obtain ⟨rfl, rfl⟩ := h
  rw [hz]
  exact kk
theorem r_cS4 {x1 x2 x3 x4 : mV} {idx : Nat} (hd : decode d.2.1 pc = .ok (.invokestatic idx, 3)) (hl0 : Cond.methodLink d.1.cls idx dj.1 ∈ mTb) (hsta : Cond.static dj.1 ∈ mTb) (ho : mOk dj 4) (hml : 4 ≤ dj.2.2.1) (hz : dj.2.2.2.2 = (0, 0)) (hr8 : st.length ≤ 8) (hu1 : u.1 ≤ d.2.2.2.2.1) (hu2 : u.2 ≤ d.2.2.2.2.2)
    (hF : WP k dj none (0, 0) (Rt v M') 0 [(0, x1), (1, x2), (2, x3), (3, x4)] [] M) (kk : WP (k + 1) d S u Q (pc + 3) lv (v.toList ++ st) M') : WP (k + 1) d S u Q pc lv (x4 :: x3 :: x2 :: x1 :: st) M := by
  refine r_invS (as := [x1, x2, x3, x4]) hd hl0 hsta ho (by simpa using hml) hr8 (by rw [hz]; exact hu1) (by rw [hz]; exact hu2) hF (fun r N h => ?_)
  obtain ⟨rfl, rfl⟩ := h
  rw [hz]
  exact kk
theorem r_cSN4 {x1 x2 x3 x4 : mV} {idx : Nat} (hd : decode d.2.1 pc = .ok (.invokestatic idx, 3)) (hl0 : (d.1.cls, idx, dj.1, RX5) ∈ mNest) (hsta : Cond.static dj.1 ∈ mTb) (ho : mOk dj 4) (hml : 4 ≤ dj.2.2.1) (hz : dj.2.2.2.2 = (0, 0)) (hr8 : st.length ≤ 8) (hu1 : u.1 ≤ d.2.2.2.2.1) (hu2 : u.2 ≤ d.2.2.2.2.2)
    (hF : WP k dj none (0, 0) (Rt v M') 0 [(0, x1), (1, x2), (2, x3), (3, x4)] [] M) (kk : WP (k + 1) d S u Q (pc + 3) lv (v.toList ++ st) M') : WP (k + 1) d S u Q pc lv (x4 :: x3 :: x2 :: x1 :: st) M := by
  refine r_invSN (as := [x1, x2, x3, x4]) hd hl0 hsta ho (by simpa using hml) hr8 (by rw [hz]; exact hu1) (by rw [hz]; exact hu2) hF (fun r N h => ?_)
  obtain ⟨rfl, rfl⟩ := h
  rw [hz]
  exact kk
theorem r_cV5 {x1 x2 x3 x4 x5 : mV} {idx a kd : Nat} (hd : decode d.2.1 pc = .ok (.invokevirtual idx, 3)) (hl0 : Cond.methodLink d.1.cls idx dj.1 ∈ mTb) (hin : Cond.instanceMethod dj.1 ∈ mTb) (hsel : Cond.selects (mRx kd) dj.1 dj.1 ∈ mTb) (hcls : dj.1.cls = mRx kd) (ha : M.1[a]? = some (kd, mNx kd)) (hk : kd < 7) (ho : mOk dj 5) (hml : 6 ≤ dj.2.2.1) (hz : dj.2.2.2.2 = (0, 0)) (hr8 : st.length ≤ 8) (hu1 : u.1 ≤ d.2.2.2.2.1) (hu2 : u.2 ≤ d.2.2.2.2.2)
    (hF : WP k dj none (0, 0) (Rt v M') 0 [(0, .inr (some a)), (1, x1), (2, x2), (3, x3), (4, x4), (5, x5)] [] M) (kk : WP (k + 1) d S u Q (pc + 3) lv (v.toList ++ st) M') : WP (k + 1) d S u Q pc lv (x5 :: x4 :: x3 :: x2 :: x1 :: .inr (some a) :: st) M := by
  refine r_invV (as := [x1, x2, x3, x4, x5]) hd hl0 hin hsel hcls ha hk ho (by simpa using hml) hr8 (by rw [hz]; exact hu1) (by rw [hz]; exact hu2) hF (fun r N h => ?_)
  obtain ⟨rfl, rfl⟩ := h
  rw [hz]
  exact kk
theorem r_cS5 {x1 x2 x3 x4 x5 : mV} {idx : Nat} (hd : decode d.2.1 pc = .ok (.invokestatic idx, 3)) (hl0 : Cond.methodLink d.1.cls idx dj.1 ∈ mTb) (hsta : Cond.static dj.1 ∈ mTb) (ho : mOk dj 5) (hml : 5 ≤ dj.2.2.1) (hz : dj.2.2.2.2 = (0, 0)) (hr8 : st.length ≤ 8) (hu1 : u.1 ≤ d.2.2.2.2.1) (hu2 : u.2 ≤ d.2.2.2.2.2)
    (hF : WP k dj none (0, 0) (Rt v M') 0 [(0, x1), (1, x2), (2, x3), (3, x4), (4, x5)] [] M) (kk : WP (k + 1) d S u Q (pc + 3) lv (v.toList ++ st) M') : WP (k + 1) d S u Q pc lv (x5 :: x4 :: x3 :: x2 :: x1 :: st) M := by
  refine r_invS (as := [x1, x2, x3, x4, x5]) hd hl0 hsta ho (by simpa using hml) hr8 (by rw [hz]; exact hu1) (by rw [hz]; exact hu2) hF (fun r N h => ?_)
  obtain ⟨rfl, rfl⟩ := h
  rw [hz]
  exact kk
theorem r_cSN5 {x1 x2 x3 x4 x5 : mV} {idx : Nat} (hd : decode d.2.1 pc = .ok (.invokestatic idx, 3)) (hl0 : (d.1.cls, idx, dj.1, RX5) ∈ mNest) (hsta : Cond.static dj.1 ∈ mTb) (ho : mOk dj 5) (hml : 5 ≤ dj.2.2.1) (hz : dj.2.2.2.2 = (0, 0)) (hr8 : st.length ≤ 8) (hu1 : u.1 ≤ d.2.2.2.2.1) (hu2 : u.2 ≤ d.2.2.2.2.2)
    (hF : WP k dj none (0, 0) (Rt v M') 0 [(0, x1), (1, x2), (2, x3), (3, x4), (4, x5)] [] M) (kk : WP (k + 1) d S u Q (pc + 3) lv (v.toList ++ st) M') : WP (k + 1) d S u Q pc lv (x5 :: x4 :: x3 :: x2 :: x1 :: st) M := by
  refine r_invSN (as := [x1, x2, x3, x4, x5]) hd hl0 hsta ho (by simpa using hml) hr8 (by rw [hz]; exact hu1) (by rw [hz]; exact hu2) hF (fun r N h => ?_)
  obtain ⟨rfl, rfl⟩ := h
  rw [hz]
  exact kk
theorem r_cT0 {idx i : Nat} (hd : decode d.2.1 pc = .ok (.invokevirtual idx, 3)) (hl0 : Cond.methodLink d.1.cls idx dj.1 ∈ mTb) (hin : Cond.instanceMethod dj.1 ∈ mTb) (hsel : Cond.selects "java/lang/String" dj.1 dj.1 ∈ mTb) (hcls : dj.1.cls = "java/lang/String") (hi : i < 9) (ho : mOk dj 0) (hml : 1 ≤ dj.2.2.1) (hz : dj.2.2.2.2 = (0, 0)) (hr8 : st.length ≤ 8) (hu1 : u.1 ≤ d.2.2.2.2.1) (hu2 : u.2 ≤ d.2.2.2.2.2)
    (hF : WP k dj none (0, 0) (Rt v M') 0 [(0, .inr (some (1000 + i)))] [] M) (kk : WP (k + 1) d S u Q (pc + 3) lv (v.toList ++ st) M') : WP (k + 1) d S u Q pc lv (.inr (some (1000 + i)) :: st) M := by
  refine r_invT (as := []) hd hl0 hin hsel hcls hi ho (by simpa using hml) hr8 (by rw [hz]; exact hu1) (by rw [hz]; exact hu2) hF (fun r N h => ?_)
  obtain ⟨rfl, rfl⟩ := h
  rw [hz]
  exact kk
theorem r_cT1 {x1 : mV} {idx i : Nat} (hd : decode d.2.1 pc = .ok (.invokevirtual idx, 3)) (hl0 : Cond.methodLink d.1.cls idx dj.1 ∈ mTb) (hin : Cond.instanceMethod dj.1 ∈ mTb) (hsel : Cond.selects "java/lang/String" dj.1 dj.1 ∈ mTb) (hcls : dj.1.cls = "java/lang/String") (hi : i < 9) (ho : mOk dj 1) (hml : 2 ≤ dj.2.2.1) (hz : dj.2.2.2.2 = (0, 0)) (hr8 : st.length ≤ 8) (hu1 : u.1 ≤ d.2.2.2.2.1) (hu2 : u.2 ≤ d.2.2.2.2.2)
    (hF : WP k dj none (0, 0) (Rt v M') 0 [(0, .inr (some (1000 + i))), (1, x1)] [] M) (kk : WP (k + 1) d S u Q (pc + 3) lv (v.toList ++ st) M') : WP (k + 1) d S u Q pc lv (x1 :: .inr (some (1000 + i)) :: st) M := by
  refine r_invT (as := [x1]) hd hl0 hin hsel hcls hi ho (by simpa using hml) hr8 (by rw [hz]; exact hu1) (by rw [hz]; exact hu2) hF (fun r N h => ?_)
  obtain ⟨rfl, rfl⟩ := h
  rw [hz]
  exact kk
end ROWS5
end
section
/-! ===== Names, Versions, Orders: what their methods do ===== -/
def cpy (I : mIt) (a : Nat) (n : Nat) (f : Int → Int) : mIt := fun x => if x = a then (fun i => if 0 ≤ i ∧ i < (n : Int) then f i else I a i) else I x
theorem cpy_0 (I : mIt) (a : Nat) (f : Int → Int) : cpy I a 0 f = I := by
  funext x
  unfold cpy
  by_cases h : x = a
  · subst h
    rw [if_pos rfl]
    funext i
    rw [if_neg (by omega)]
  · rw [if_neg h]
theorem cpy_ne (I : mIt) {a x : Nat} (n : Nat) (f : Int → Int) (h : x ≠ a) : cpy I a n f x = I x := by unfold cpy; rw [if_neg h]
theorem cpy_in (I : mIt) {a : Nat} {n : Nat} (f : Int → Int) {i : Int} (h0 : 0 ≤ i) (h1 : i < (n : Int)) : cpy I a n f a i = f i := by unfold cpy; rw [if_pos rfl, if_pos ⟨h0, h1⟩]
theorem cpy_s (I : mIt) (a n : Nat) (f : Int → Int) (v : Int) (h : v = f n) : mUp (cpy I a n f) a (n : Int) v = cpy I a (n + 1) f := by
  subst h
  funext x
  unfold mUp cpy
  by_cases h : x = a
  · subst h
    rw [if_pos rfl, if_pos rfl]
    funext i
    unfold fset
    by_cases hi : i = (n : Int)
    · subst hi
      simp
      intro h9; omega
    · rw [if_neg hi, if_pos rfl]
      by_cases h2 : 0 ≤ i ∧ i < (n : Int)
      · have h3 : 0 ≤ i ∧ i < ((n + 1 : Nat) : Int) := by omega
        simp only [if_pos h2, if_pos h3]
      · have h3 : ¬ (0 ≤ i ∧ i < ((n + 1 : Nat) : Int)) := by omega
        simp only [if_neg h2, if_neg h3]
  · rw [if_neg h, if_neg h, if_neg h]
theorem mUp_comm (I : mIt) {a b : Nat} (h : a ≠ b) (i j x y : Int) : mUp (mUp I a i x) b j y = mUp (mUp I b j y) a i x := by
  funext z
  unfold mUp
  by_cases h1 : z = b
  · subst h1
    simp [Ne.symm h]
  · by_cases h2 : z = a
    · subst h2
      simp [h1, h]
    · simp [h1, h2]
theorem mUp_cpy (I : mIt) {a b : Nat} (h : a ≠ b) (i x : Int) (n : Nat) (f : Int → Int) : mUp (cpy I b n f) a i x = cpy (mUp I a i x) b n f := by
  funext z
  unfold mUp cpy
  by_cases h1 : z = a
  · subst h1
    simp [h]
  · by_cases h2 : z = b
    · subst h2
      simp [h1]
    · simp [h1, h2]
/-- two rows side by side, one step further -/
theorem cpy2_s (I : mIt) {a b : Nat} (h : a ≠ b) (n : Nat) (f g : Int → Int) : mUp (mUp (cpy (cpy I a n f) b n g) a (n : Int) (f n)) b (n : Int) (g n) = cpy (cpy I a (n + 1) f) b (n + 1) g := by
  rw [mUp_cpy _ h, cpy_s _ _ _ _ _ rfl, cpy_s _ _ _ _ _ rfl]
theorem cpy3_s (I : mIt) {a b c : Nat} (h : a ≠ b) (h2 : a ≠ c) (h3 : b ≠ c) (n : Nat) (f g e : Int → Int) : mUp (mUp (mUp (cpy (cpy (cpy I a n f) b n g) c n e) a (n : Int) (f n)) b (n : Int) (g n)) c (n : Int) (e n) = cpy (cpy (cpy I a (n + 1) f) b (n + 1) g) c (n + 1) e := by
  rw [mUp_cpy _ h2, mUp_cpy _ h, mUp_cpy _ h3, cpy_s _ _ _ _ _ rfl, cpy_s _ _ _ _ _ rfl, cpy_s _ _ _ _ _ rfl]
def nmask (f : Int → Int) (w : Int) : Nat → Int
  | 0 => 0
  | n + 1 => if f n = w then bOr (nmask f w n) (bShl 1 n) else nmask f w n
def cset (f : Int → Int) : Nat → Int
  | 0 => 0
  | n + 1 => if f n = -1 then cset f n else bOr (cset f n) (bShl 1 (f n))
def csetOf (f : Int → Int) (n : Int) : Int := if n < 0 ∨ 8 ≤ n ∨ f n = -1 then 0 else bShl 1 (f n)
def vPlace (I : mIt) (v kn us : Nat) (ch nv nk use : Int) : mIt := if 0 ≤ ch ∧ ch < 7 then mUp (mUp (mUp I v ch nv) kn ch nk) us ch use else I
def vUse (I : mIt) (us : Nat) (ch use : Int) : mIt := if 0 ≤ ch ∧ ch < 7 then mUp I us ch use else I
def vOn (f : Int → Int) (ch : Int) : Int := if 0 ≤ ch ∧ ch < 7 then f ch else 0
def kOf (f : Int → Int) (ch : Int) : Int := if 0 ≤ ch ∧ ch < 7 then f ch else 1000000
theorem mUp_self (I : mIt) {a : Nat} {i v : Int} (h : I a i = v) : mUp I a i v = I := by
  funext x
  unfold mUp
  by_cases hx : x = a
  · subst hx
    rw [if_pos rfl]
    funext j
    unfold fset
    by_cases hj : j = i
    · subst hj; rw [if_pos rfl, h]
    · rw [if_neg hj]
  · rw [if_neg hx]
theorem mUp_mUp (I : mIt) (a : Nat) (i v w : Int) : mUp (mUp I a i v) a i w = mUp I a i w := by
  funext x
  unfold mUp
  by_cases hx : x = a
  · subst hx
    simp only [if_true]
    funext j
    unfold fset
    by_cases hj : j = i <;> simp [hj]
  · simp [hx]
theorem cpy_skip (I : mIt) {a n : Nat} {f : Int → Int} (h : I a n = f n) : cpy I a n f = cpy I a (n + 1) f := by
  rw [← cpy_s I a n f (f n) rfl]
  refine (mUp_self _ ?_).symm
  unfold cpy
  rw [if_pos rfl, if_neg (by omega), h]
def anyE (f : Int → Int) (w : Int) : Nat → Bool
  | 0 => false
  | n + 1 => anyE f w n || decide (f n = w)
theorem anyE_iff (f : Int → Int) (w : Int) (n : Nat) : anyE f w n = true ↔ ∃ i : Nat, i < n ∧ f i = w := by
  induction n with
  | zero => simp [anyE]
  | succ n ih =>
    simp only [anyE, Bool.or_eq_true, ih, decide_eq_true_eq]
    constructor
    · rintro (⟨i, h1, h2⟩ | h)
      · exact ⟨i, by omega, h2⟩
      · exact ⟨n, by omega, h⟩
    · rintro ⟨i, h1, h2⟩
      by_cases hi : i = n
      · exact Or.inr (by rw [← hi]; exact h2)
      · exact Or.inl ⟨i, by omega, h2⟩
/-- how many orders read a version -/
def rdrs (f g : Int → Int) (w : Int) : Nat → Int
  | 0 => 0
  | n + 1 => rdrs f g w n + (if f n = w ∨ g n = w then 1 else 0)
theorem rdrs_le (f g : Int → Int) (w : Int) (n : Nat) : 0 ≤ rdrs f g w n ∧ rdrs f g w n ≤ n := by
  induction n with
  | zero => simp [rdrs]
  | succ n ih =>
    unfold rdrs
    split <;> omega
/-- how many orders stay that were given under at most t marks -/
def dropF (f : Int → Int) (t : Int) : Nat → Nat
  | 0 => 0
  | n + 1 => if t < f n then dropF f t n else n + 1
theorem dropF_le (f : Int → Int) (t : Int) (n : Nat) : dropF f t n ≤ n := by
  induction n with
  | zero => simp [dropF]
  | succ n ih => unfold dropF; split <;> omega
def oAdd (I : mIt) (a w c f g m : Nat) (kind nc r1 r2 mk : Int) : mIt := if 0 ≤ I a 0 ∧ I a 0 < 6 then mUp (mUp (mUp (mUp (mUp (mUp I w (I a 0) kind) c (I a 0) nc) f (I a 0) r1) g (I a 0) r2) m (I a 0) mk) a 0 (I a 0 + 1) else I
def oMove (I : mIt) (w c f g m : Nat) (x y : Int) : mIt := if 0 ≤ x ∧ x < 6 ∧ 0 ≤ y ∧ y < x then mUp (mUp (mUp (mUp (mUp I w y (I w x)) c y (I c x)) f y (I f x)) g y (I g x)) m y (I m x) else I
theorem dropF_st (f : Int → Int) (t : Int) (n : Nat) (h : 0 < n → ¬ t < f ((n : Int) - 1)) : dropF f t n = n := by
  cases n with
  | zero => rfl
  | succ n =>
    unfold dropF
    rw [if_neg (by have := h (by omega); rwa [show ((n + 1 : Nat) : Int) - 1 = n by omega] at this)]
theorem cpy5_s (I : mIt) {a b c d e : Nat} (n1 : a ≠ b ∧ a ≠ c ∧ a ≠ d ∧ a ≠ e) (n2 : b ≠ c ∧ b ≠ d ∧ b ≠ e) (n3 : c ≠ d ∧ c ≠ e) (n4 : d ≠ e) (n : Nat) (f1 f2 f3 f4 f5 : Int → Int) :
    mUp (mUp (mUp (mUp (mUp (cpy (cpy (cpy (cpy (cpy I a n f1) b n f2) c n f3) d n f4) e n f5) a (n : Int) (f1 n)) b (n : Int) (f2 n)) c (n : Int) (f3 n)) d (n : Int) (f4 n)) e (n : Int) (f5 n) = cpy (cpy (cpy (cpy (cpy I a (n + 1) f1) b (n + 1) f2) c (n + 1) f3) d (n + 1) f4) e (n + 1) f5 := by
  rw [mUp_cpy _ n1.2.2.2, mUp_cpy _ n1.2.2.1, mUp_cpy _ n1.2.1, mUp_cpy _ n1.1, mUp_cpy _ n2.2.2, mUp_cpy _ n2.2.1, mUp_cpy _ n2.1, mUp_cpy _ n3.2, mUp_cpy _ n3.1, mUp_cpy _ n4, cpy_s _ _ _ _ _ rfl, cpy_s _ _ _ _ _ rfl, cpy_s _ _ _ _ _ rfl, cpy_s _ _ _ _ _ rfl, cpy_s _ _ _ _ _ rfl]
set_option maxRecDepth 20000 in
set_option maxHeartbeats 4000000 in
theorem Fn_X0_namesOn (k : Nat) (I : mIt) (P : mPt) (a c h : Nat) (hN : isNm P a c h) (w : Int) : WP (k + 0) mX0_namesOn none (0, 0) (Rt (some (.inl (nmask (I c) w 8))) (lay0, I, P)) 0 [(0, .inr (some a)), (1, .inl w)] [] (lay0, I, P) := by
  refine r_iconst (d := mX0_namesOn) (pc := 0) (n := 0) dX0_namesOn_0 ?_
  refine r_istore_n (d := mX0_namesOn) (pc := 1) (i := 2) (lv' := [(0, .inr (some a)), (1, .inl w), (2, .inl 0)]) dX0_namesOn_1 rfl (by decide) rfl rfl ?_
  refine r_iconst (d := mX0_namesOn) (pc := 2) (n := 0) dX0_namesOn_2 ?_
  refine r_istore_n (d := mX0_namesOn) (pc := 3) (i := 3) (lv' := [(0, .inr (some a)), (1, .inl w), (2, .inl 0), (3, .inl 0)]) dX0_namesOn_3 rfl (by decide) rfl rfl ?_
  have L4 : ∀ j : Nat, j ≤ 8 → WP (k + 0) mX0_namesOn none (0, 0) (Rt (some (.inl (nmask (I c) w 8))) (lay0, I, P)) 4 [(0, .inr (some a)), (1, .inl w), (2, .inl (nmask (I c) w j)), (3, .inl (j : Int))] [] (lay0, I, P) := by
    refine loopN (8) _ (fun j ih4 hj4 => ?_)
    refine r_iload_n (d := mX0_namesOn) (pc := 4) (i := 3) (v := (j : Int)) dX0_namesOn_4 rfl rfl ?_
    refine r_bipush (d := mX0_namesOn) (pc := 5) (n := 8) dX0_namesOn_5 ?_
    refine r_icmp_ge (d := mX0_namesOn) (pc := 7) (tgt := 32) dX0_namesOn_7 (by decide) (fun h7 => ?_) (fun h7 => ?_)
    · refine r_iload_n (d := mX0_namesOn) (pc := 32) (i := 2) (v := nmask (I c) w j) dX0_namesOn_32 rfl rfl ?_
      exact r_iret (d := mX0_namesOn) (pc := 33) dX0_namesOn_33 rfl (rtI (by rw [show j = 8 by omega]) (by rfl)) (by decide) (by decide)
    · refine r_aload_n (d := mX0_namesOn) (pc := 10) (i := 0) (v := a) dX0_namesOn_10 rfl rfl ?_
      refine r_getRs (d := mX0_namesOn) (pc := 11) (a := a) (kd := 0) (j := 0) (x := c) dX0_namesOn_11 flRX0_9 hN.1 (by decide) (by decide) rfl hN.2.2.2.1 ?_
      refine r_iload_n (d := mX0_namesOn) (pc := 14) (i := 3) (v := (j : Int)) dX0_namesOn_14 rfl rfl ?_
      refine r_ialds (d := mX0_namesOn) (pc := 15) (a := c) (x := (I c (j : Int))) dX0_namesOn_15 hN.2.1 (by omega) (by omega) (rfl) ?_
      refine r_iload_n (d := mX0_namesOn) (pc := 16) (i := 1) (v := w) dX0_namesOn_16 rfl rfl ?_
      refine r_icmp_ne (d := mX0_namesOn) (pc := 17) (tgt := 26) dX0_namesOn_17 (by decide) (fun h17 => ?_) (fun h17 => ?_)
      · refine r_iinc (d := mX0_namesOn) (pc := 26) (i := 3) (v := (j : Int)) (y := ((j + 1 : Nat) : Int)) (lv' := [(0, .inr (some a)), (1, .inl w), (2, .inl (nmask (I c) w j)), (3, .inl ((j + 1 : Nat) : Int))]) dX0_namesOn_26 rfl (by decide) rfl (by omega) rfl ?_
        refine r_goto (d := mX0_namesOn) (pc := 29) (tgt := 4) dX0_namesOn_29 (by decide) ?_
        exact wpE (by simp [nmask, *]) rfl (by rfl) (ih4 (by omega) (by omega))
      · refine r_iload_n (d := mX0_namesOn) (pc := 20) (i := 2) (v := nmask (I c) w j) dX0_namesOn_20 rfl rfl ?_
        refine r_iconst (d := mX0_namesOn) (pc := 21) (n := 1) dX0_namesOn_21 ?_
        refine r_iload_n (d := mX0_namesOn) (pc := 22) (i := 3) (v := (j : Int)) dX0_namesOn_22 rfl rfl ?_
        refine r_ishl (d := mX0_namesOn) (pc := 23) dX0_namesOn_23 ?_
        refine r_ior (d := mX0_namesOn) (pc := 24) dX0_namesOn_24 ?_
        refine r_istore_n (d := mX0_namesOn) (pc := 25) (i := 2) (lv' := [(0, .inr (some a)), (1, .inl w), (2, .inl (bOr (nmask (I c) w j) (bShl 1 (j : Int)))), (3, .inl (j : Int))]) dX0_namesOn_25 rfl (by decide) rfl rfl ?_
        refine r_iinc (d := mX0_namesOn) (pc := 26) (i := 3) (v := (j : Int)) (y := ((j + 1 : Nat) : Int)) (lv' := [(0, .inr (some a)), (1, .inl w), (2, .inl (bOr (nmask (I c) w j) (bShl 1 (j : Int)))), (3, .inl ((j + 1 : Nat) : Int))]) dX0_namesOn_26 rfl (by decide) rfl (by omega) rfl ?_
        refine r_goto (d := mX0_namesOn) (pc := 29) (tgt := 4) dX0_namesOn_29 (by decide) ?_
        exact wpE (by simp [nmask, *]) rfl (by rfl) (ih4 (by omega) (by omega))
  exact wpE (by simp [nmask]) rfl (by rfl) (L4 0 (by omega))
set_option maxRecDepth 20000 in
set_option maxHeartbeats 4000000 in
theorem Fn_X0_chairSet (k : Nat) (I : mIt) (P : mPt) (a c h : Nat) (hN : isNm P a c h) : WP (k + 0) mX0_chairSet none (0, 0) (Rt (some (.inl (cset (I c) 8))) (lay0, I, P)) 0 [(0, .inr (some a))] [] (lay0, I, P) := by
  refine r_iconst (d := mX0_chairSet) (pc := 0) (n := 0) dX0_chairSet_0 ?_
  refine r_istore_n (d := mX0_chairSet) (pc := 1) (i := 1) (lv' := [(0, .inr (some a)), (1, .inl 0)]) dX0_chairSet_1 rfl (by decide) rfl rfl ?_
  refine r_iconst (d := mX0_chairSet) (pc := 2) (n := 0) dX0_chairSet_2 ?_
  refine r_istore_n (d := mX0_chairSet) (pc := 3) (i := 2) (lv' := [(0, .inr (some a)), (1, .inl 0), (2, .inl 0)]) dX0_chairSet_3 rfl (by decide) rfl rfl ?_
  have L4 : ∀ j : Nat, j ≤ 8 → WP (k + 0) mX0_chairSet none (0, 0) (Rt (some (.inl (cset (I c) 8))) (lay0, I, P)) 4 [(0, .inr (some a)), (1, .inl (cset (I c) j)), (2, .inl (j : Int))] [] (lay0, I, P) := by
    refine loopN (8) _ (fun j ih4 hj4 => ?_)
    refine r_iload_n (d := mX0_chairSet) (pc := 4) (i := 2) (v := (j : Int)) dX0_chairSet_4 rfl rfl ?_
    refine r_bipush (d := mX0_chairSet) (pc := 5) (n := 8) dX0_chairSet_5 ?_
    refine r_icmp_ge (d := mX0_chairSet) (pc := 7) (tgt := 37) dX0_chairSet_7 (by decide) (fun h7 => ?_) (fun h7 => ?_)
    · refine r_iload_n (d := mX0_chairSet) (pc := 37) (i := 1) (v := cset (I c) j) dX0_chairSet_37 rfl rfl ?_
      exact r_iret (d := mX0_chairSet) (pc := 38) dX0_chairSet_38 rfl (rtI (by rw [show j = 8 by omega]) (by rfl)) (by decide) (by decide)
    · refine r_aload_n (d := mX0_chairSet) (pc := 10) (i := 0) (v := a) dX0_chairSet_10 rfl rfl ?_
      refine r_getRs (d := mX0_chairSet) (pc := 11) (a := a) (kd := 0) (j := 0) (x := c) dX0_chairSet_11 flRX0_9 hN.1 (by decide) (by decide) rfl hN.2.2.2.1 ?_
      refine r_iload_n (d := mX0_chairSet) (pc := 14) (i := 2) (v := (j : Int)) dX0_chairSet_14 rfl rfl ?_
      refine r_ialds (d := mX0_chairSet) (pc := 15) (a := c) (x := (I c (j : Int))) dX0_chairSet_15 hN.2.1 (by omega) (by omega) (rfl) ?_
      refine r_iconst (d := mX0_chairSet) (pc := 16) (n := (-1)) dX0_chairSet_16 ?_
      refine r_icmp_eq (d := mX0_chairSet) (pc := 17) (tgt := 31) dX0_chairSet_17 (by decide) (fun h17 => ?_) (fun h17 => ?_)
      · refine r_iinc (d := mX0_chairSet) (pc := 31) (i := 2) (v := (j : Int)) (y := ((j + 1 : Nat) : Int)) (lv' := [(0, .inr (some a)), (1, .inl (cset (I c) j)), (2, .inl ((j + 1 : Nat) : Int))]) dX0_chairSet_31 rfl (by decide) rfl (by omega) rfl ?_
        refine r_goto (d := mX0_chairSet) (pc := 34) (tgt := 4) dX0_chairSet_34 (by decide) ?_
        exact wpE (by simp [cset, *]) rfl (by rfl) (ih4 (by omega) (by omega))
      · refine r_iload_n (d := mX0_chairSet) (pc := 20) (i := 1) (v := cset (I c) j) dX0_chairSet_20 rfl rfl ?_
        refine r_iconst (d := mX0_chairSet) (pc := 21) (n := 1) dX0_chairSet_21 ?_
        refine r_aload_n (d := mX0_chairSet) (pc := 22) (i := 0) (v := a) dX0_chairSet_22 rfl rfl ?_
        refine r_getRs (d := mX0_chairSet) (pc := 23) (a := a) (kd := 0) (j := 0) (x := c) dX0_chairSet_23 flRX0_9 hN.1 (by decide) (by decide) rfl hN.2.2.2.1 ?_
        refine r_iload_n (d := mX0_chairSet) (pc := 26) (i := 2) (v := (j : Int)) dX0_chairSet_26 rfl rfl ?_
        refine r_ialds (d := mX0_chairSet) (pc := 27) (a := c) (x := (I c (j : Int))) dX0_chairSet_27 hN.2.1 (by omega) (by omega) (rfl) ?_
        refine r_ishl (d := mX0_chairSet) (pc := 28) dX0_chairSet_28 ?_
        refine r_ior (d := mX0_chairSet) (pc := 29) dX0_chairSet_29 ?_
        refine r_istore_n (d := mX0_chairSet) (pc := 30) (i := 1) (lv' := [(0, .inr (some a)), (1, .inl (bOr (cset (I c) j) (bShl 1 (I c (j : Int))))), (2, .inl (j : Int))]) dX0_chairSet_30 rfl (by decide) rfl rfl ?_
        refine r_iinc (d := mX0_chairSet) (pc := 31) (i := 2) (v := (j : Int)) (y := ((j + 1 : Nat) : Int)) (lv' := [(0, .inr (some a)), (1, .inl (bOr (cset (I c) j) (bShl 1 (I c (j : Int))))), (2, .inl ((j + 1 : Nat) : Int))]) dX0_chairSet_31 rfl (by decide) rfl (by omega) rfl ?_
        refine r_goto (d := mX0_chairSet) (pc := 34) (tgt := 4) dX0_chairSet_34 (by decide) ?_
        exact wpE (by simp [cset, *]) rfl (by rfl) (ih4 (by omega) (by omega))
  exact wpE (by simp [cset]) rfl (by rfl) (L4 0 (by omega))
set_option maxRecDepth 20000 in
set_option maxHeartbeats 4000000 in
theorem Fn_X0_chairSetOf (k : Nat) (I : mIt) (P : mPt) (a c h : Nat) (hN : isNm P a c h) (w : Int) : WP (k + 0) mX0_chairSetOf none (0, 0) (Rt (some (.inl (csetOf (I c) w))) (lay0, I, P)) 0 [(0, .inr (some a)), (1, .inl w)] [] (lay0, I, P) := by
  refine r_iload_n (d := mX0_chairSetOf) (pc := 0) (i := 1) (v := w) dX0_chairSetOf_0 rfl rfl ?_
  refine r_if_lt (d := mX0_chairSetOf) (pc := 1) (tgt := 20) dX0_chairSetOf_1 (by decide) (fun h1 => ?_) (fun h1 => ?_)
  · refine r_iconst (d := mX0_chairSetOf) (pc := 20) (n := 0) dX0_chairSetOf_20 ?_
    exact r_iret (d := mX0_chairSetOf) (pc := 21) dX0_chairSetOf_21 rfl (rtI (by simp [csetOf, *]; try omega) (by rfl)) (by decide) (by decide)
  · refine r_iload_n (d := mX0_chairSetOf) (pc := 4) (i := 1) (v := w) dX0_chairSetOf_4 rfl rfl ?_
    refine r_bipush (d := mX0_chairSetOf) (pc := 5) (n := 8) dX0_chairSetOf_5 ?_
    refine r_icmp_ge (d := mX0_chairSetOf) (pc := 7) (tgt := 20) dX0_chairSetOf_7 (by decide) (fun h7 => ?_) (fun h7 => ?_)
    · refine r_iconst (d := mX0_chairSetOf) (pc := 20) (n := 0) dX0_chairSetOf_20 ?_
      exact r_iret (d := mX0_chairSetOf) (pc := 21) dX0_chairSetOf_21 rfl (rtI (by simp [csetOf, *]; try omega) (by rfl)) (by decide) (by decide)
    · refine r_aload_n (d := mX0_chairSetOf) (pc := 10) (i := 0) (v := a) dX0_chairSetOf_10 rfl rfl ?_
      refine r_getRs (d := mX0_chairSetOf) (pc := 11) (a := a) (kd := 0) (j := 0) (x := c) dX0_chairSetOf_11 flRX0_9 hN.1 (by decide) (by decide) rfl hN.2.2.2.1 ?_
      refine r_iload_n (d := mX0_chairSetOf) (pc := 14) (i := 1) (v := w) dX0_chairSetOf_14 rfl rfl ?_
      refine r_ialds (d := mX0_chairSetOf) (pc := 15) (a := c) (x := (I c w)) dX0_chairSetOf_15 hN.2.1 (by omega) (by omega) (rfl) ?_
      refine r_iconst (d := mX0_chairSetOf) (pc := 16) (n := (-1)) dX0_chairSetOf_16 ?_
      refine r_icmp_ne (d := mX0_chairSetOf) (pc := 17) (tgt := 22) dX0_chairSetOf_17 (by decide) (fun h17 => ?_) (fun h17 => ?_)
      · refine r_iconst (d := mX0_chairSetOf) (pc := 22) (n := 1) dX0_chairSetOf_22 ?_
        refine r_aload_n (d := mX0_chairSetOf) (pc := 23) (i := 0) (v := a) dX0_chairSetOf_23 rfl rfl ?_
        refine r_getRs (d := mX0_chairSetOf) (pc := 24) (a := a) (kd := 0) (j := 0) (x := c) dX0_chairSetOf_24 flRX0_9 hN.1 (by decide) (by decide) rfl hN.2.2.2.1 ?_
        refine r_iload_n (d := mX0_chairSetOf) (pc := 27) (i := 1) (v := w) dX0_chairSetOf_27 rfl rfl ?_
        refine r_ialds (d := mX0_chairSetOf) (pc := 28) (a := c) (x := (I c w)) dX0_chairSetOf_28 hN.2.1 (by omega) (by omega) (rfl) ?_
        refine r_ishl (d := mX0_chairSetOf) (pc := 29) dX0_chairSetOf_29 ?_
        exact r_iret (d := mX0_chairSetOf) (pc := 30) dX0_chairSetOf_30 rfl (rtI (by simp [csetOf, *]; try omega) (by rfl)) (by decide) (by decide)
      · refine r_iconst (d := mX0_chairSetOf) (pc := 20) (n := 0) dX0_chairSetOf_20 ?_
        exact r_iret (d := mX0_chairSetOf) (pc := 21) dX0_chairSetOf_21 rfl (rtI (by simp [csetOf, *]; try omega) (by rfl)) (by decide) (by decide)
set_option maxRecDepth 20000 in
set_option maxHeartbeats 4000000 in
theorem Fn_X0_standAtZero (k : Nat) (I : mIt) (P : mPt) (a c h : Nat) (hN : isNm P a c h) (hch : c ≠ h) : WP (k + 0) mX0_standAtZero none (0, 0) (Rt none (lay0, cpy (cpy I c 8 (fun _ => -1)) h 8 (fun _ => 0), P)) 0 [(0, .inr (some a))] [] (lay0, I, P) := by
  refine r_iconst (d := mX0_standAtZero) (pc := 0) (n := 0) dX0_standAtZero_0 ?_
  refine r_istore_n (d := mX0_standAtZero) (pc := 1) (i := 1) (lv' := [(0, .inr (some a)), (1, .inl 0)]) dX0_standAtZero_1 rfl (by decide) rfl rfl ?_
  have L2 : ∀ j : Nat, j ≤ 8 → WP (k + 0) mX0_standAtZero none (0, 0) (Rt none (lay0, cpy (cpy I c 8 (fun _ => -1)) h 8 (fun _ => 0), P)) 2 [(0, .inr (some a)), (1, .inl (j : Int))] [] (lay0, cpy (cpy I c j (fun _ => -1)) h j (fun _ => 0), P) := by
    refine loopN (8) _ (fun j ih2 hj2 => ?_)
    refine r_iload_n (d := mX0_standAtZero) (pc := 2) (i := 1) (v := (j : Int)) dX0_standAtZero_2 rfl rfl ?_
    refine r_bipush (d := mX0_standAtZero) (pc := 3) (n := 8) dX0_standAtZero_3 ?_
    refine r_icmp_ge (d := mX0_standAtZero) (pc := 5) (tgt := 28) dX0_standAtZero_5 (by decide) (fun h5 => ?_) (fun h5 => ?_)
    · exact r_ret (d := mX0_standAtZero) (pc := 28) dX0_standAtZero_28 rfl (rtV (by rw [show j = 8 by omega])) (by decide) (by decide)
    · refine r_aload_n (d := mX0_standAtZero) (pc := 8) (i := 0) (v := a) dX0_standAtZero_8 rfl rfl ?_
      refine r_getRs (d := mX0_standAtZero) (pc := 9) (a := a) (kd := 0) (j := 0) (x := c) dX0_standAtZero_9 flRX0_9 hN.1 (by decide) (by decide) rfl hN.2.2.2.1 ?_
      refine r_iload_n (d := mX0_standAtZero) (pc := 12) (i := 1) (v := (j : Int)) dX0_standAtZero_12 rfl rfl ?_
      refine r_iconst (d := mX0_standAtZero) (pc := 13) (n := (-1)) dX0_standAtZero_13 ?_
      refine r_iasts (d := mX0_standAtZero) (pc := 14) (a := c) (lay0, mUp (cpy (cpy I c j (fun _ => -1)) h j (fun _ => 0)) c (j : Int) (-1), P) dX0_standAtZero_14 hN.2.1 (by omega) (by omega) rfl ?_
      refine r_aload_n (d := mX0_standAtZero) (pc := 15) (i := 0) (v := a) dX0_standAtZero_15 rfl rfl ?_
      refine r_getRs (d := mX0_standAtZero) (pc := 16) (a := a) (kd := 0) (j := 1) (x := h) dX0_standAtZero_16 flRX0_15 hN.1 (by decide) (by decide) rfl hN.2.2.2.2 ?_
      refine r_iload_n (d := mX0_standAtZero) (pc := 19) (i := 1) (v := (j : Int)) dX0_standAtZero_19 rfl rfl ?_
      refine r_iconst (d := mX0_standAtZero) (pc := 20) (n := 0) dX0_standAtZero_20 ?_
      refine r_iasts (d := mX0_standAtZero) (pc := 21) (a := h) (lay0, mUp (mUp (cpy (cpy I c j (fun _ => -1)) h j (fun _ => 0)) c (j : Int) (-1)) h (j : Int) 0, P) dX0_standAtZero_21 hN.2.2.1 (by omega) (by omega) rfl ?_
      refine r_iinc (d := mX0_standAtZero) (pc := 22) (i := 1) (v := (j : Int)) (y := ((j + 1 : Nat) : Int)) (lv' := [(0, .inr (some a)), (1, .inl ((j + 1 : Nat) : Int))]) dX0_standAtZero_22 rfl (by decide) rfl (by omega) rfl ?_
      refine r_goto (d := mX0_standAtZero) (pc := 25) (tgt := 2) dX0_standAtZero_25 (by decide) ?_
      exact wpE (by simp) rfl (by rw [cpy2_s I hch j (fun _ => -1) (fun _ => 0)]) (ih2 (by omega) (by omega))
  exact wpE (by simp) rfl (by rw [cpy_0, cpy_0]) (L2 0 (by omega))
set_option maxRecDepth 20000 in
set_option maxHeartbeats 4000000 in
theorem Fn_X0_become (k : Nat) (I : mIt) (P : mPt) (a c h : Nat) (hN : isNm P a c h) (a2 c2 h2 : Nat) (hN2 : isNm P a2 c2 h2) (hch : c ≠ h) (n1 : c2 ≠ c) (n2 : c2 ≠ h) (n3 : h2 ≠ c) (n4 : h2 ≠ h) : WP (k + 0) mX0_become none (0, 0) (Rt none (lay0, cpy (cpy I c 8 (I c2)) h 8 (I h2), P)) 0 [(0, .inr (some a)), (1, .inr (some a2))] [] (lay0, I, P) := by
  refine r_iconst (d := mX0_become) (pc := 0) (n := 0) dX0_become_0 ?_
  refine r_istore_n (d := mX0_become) (pc := 1) (i := 2) (lv' := [(0, .inr (some a)), (1, .inr (some a2)), (2, .inl 0)]) dX0_become_1 rfl (by decide) rfl rfl ?_
  have L2 : ∀ j : Nat, j ≤ 8 → WP (k + 0) mX0_become none (0, 0) (Rt none (lay0, cpy (cpy I c 8 (I c2)) h 8 (I h2), P)) 2 [(0, .inr (some a)), (1, .inr (some a2)), (2, .inl (j : Int))] [] (lay0, cpy (cpy I c j (I c2)) h j (I h2), P) := by
    refine loopN (8) _ (fun j ih2 hj2 => ?_)
    refine r_iload_n (d := mX0_become) (pc := 2) (i := 2) (v := (j : Int)) dX0_become_2 rfl rfl ?_
    refine r_bipush (d := mX0_become) (pc := 3) (n := 8) dX0_become_3 ?_
    refine r_icmp_ge (d := mX0_become) (pc := 5) (tgt := 38) dX0_become_5 (by decide) (fun h5 => ?_) (fun h5 => ?_)
    · exact r_ret (d := mX0_become) (pc := 38) dX0_become_38 rfl (rtV (by rw [show j = 8 by omega])) (by decide) (by decide)
    · refine r_aload_n (d := mX0_become) (pc := 8) (i := 0) (v := a) dX0_become_8 rfl rfl ?_
      refine r_getRs (d := mX0_become) (pc := 9) (a := a) (kd := 0) (j := 0) (x := c) dX0_become_9 flRX0_9 hN.1 (by decide) (by decide) rfl hN.2.2.2.1 ?_
      refine r_iload_n (d := mX0_become) (pc := 12) (i := 2) (v := (j : Int)) dX0_become_12 rfl rfl ?_
      refine r_aload_n (d := mX0_become) (pc := 13) (i := 1) (v := a2) dX0_become_13 rfl rfl ?_
      refine r_getRs (d := mX0_become) (pc := 14) (a := a2) (kd := 0) (j := 0) (x := c2) dX0_become_14 flRX0_9 hN2.1 (by decide) (by decide) rfl hN2.2.2.2.1 ?_
      refine r_iload_n (d := mX0_become) (pc := 17) (i := 2) (v := (j : Int)) dX0_become_17 rfl rfl ?_
      refine r_ialds (d := mX0_become) (pc := 18) (a := c2) (x := (I c2 (j : Int))) dX0_become_18 hN2.2.1 (by omega) (by omega) (by simp [mUp, cpy, fset, hch, Ne.symm hch, n1, n2, n3, n4]) ?_
      refine r_iasts (d := mX0_become) (pc := 19) (a := c) (lay0, mUp (cpy (cpy I c j (I c2)) h j (I h2)) c (j : Int) (I c2 (j : Int)), P) dX0_become_19 hN.2.1 (by omega) (by omega) rfl ?_
      refine r_aload_n (d := mX0_become) (pc := 20) (i := 0) (v := a) dX0_become_20 rfl rfl ?_
      refine r_getRs (d := mX0_become) (pc := 21) (a := a) (kd := 0) (j := 1) (x := h) dX0_become_21 flRX0_15 hN.1 (by decide) (by decide) rfl hN.2.2.2.2 ?_
      refine r_iload_n (d := mX0_become) (pc := 24) (i := 2) (v := (j : Int)) dX0_become_24 rfl rfl ?_
      refine r_aload_n (d := mX0_become) (pc := 25) (i := 1) (v := a2) dX0_become_25 rfl rfl ?_
      refine r_getRs (d := mX0_become) (pc := 26) (a := a2) (kd := 0) (j := 1) (x := h2) dX0_become_26 flRX0_15 hN2.1 (by decide) (by decide) rfl hN2.2.2.2.2 ?_
      refine r_iload_n (d := mX0_become) (pc := 29) (i := 2) (v := (j : Int)) dX0_become_29 rfl rfl ?_
      refine r_ialds (d := mX0_become) (pc := 30) (a := h2) (x := (I h2 (j : Int))) dX0_become_30 hN2.2.2.1 (by omega) (by omega) (by simp [mUp, cpy, fset, hch, Ne.symm hch, n1, n2, n3, n4]) ?_
      refine r_iasts (d := mX0_become) (pc := 31) (a := h) (lay0, mUp (mUp (cpy (cpy I c j (I c2)) h j (I h2)) c (j : Int) (I c2 (j : Int))) h (j : Int) (I h2 (j : Int)), P) dX0_become_31 hN.2.2.1 (by omega) (by omega) rfl ?_
      refine r_iinc (d := mX0_become) (pc := 32) (i := 2) (v := (j : Int)) (y := ((j + 1 : Nat) : Int)) (lv' := [(0, .inr (some a)), (1, .inr (some a2)), (2, .inl ((j + 1 : Nat) : Int))]) dX0_become_32 rfl (by decide) rfl (by omega) rfl ?_
      refine r_goto (d := mX0_become) (pc := 35) (tgt := 2) dX0_become_35 (by decide) ?_
      exact wpE (by simp) rfl (by rw [cpy2_s I hch j (I c2) (I h2)]) (ih2 (by omega) (by omega))
  exact wpE (by simp) rfl (by rw [cpy_0, cpy_0]) (L2 0 (by omega))
set_option maxRecDepth 20000 in
set_option maxHeartbeats 4000000 in
theorem Fn_X4_become (k : Nat) (I : mIt) (P : mPt) (a v kn us : Nat) (hV : isVs P a v kn us) (d1 : v ≠ kn) (d2 : v ≠ us) (d3 : kn ≠ us) (a2 v2 kn2 us2 : Nat) (hV2 : isVs P a2 v2 kn2 us2) (n1 : v2 ≠ v ∧ v2 ≠ kn ∧ v2 ≠ us) (n2 : kn2 ≠ v ∧ kn2 ≠ kn ∧ kn2 ≠ us) (n3 : us2 ≠ v ∧ us2 ≠ kn ∧ us2 ≠ us) : WP (k + 0) mX4_become none (0, 0) (Rt none (lay0, cpy (cpy (cpy I v 7 (I v2)) kn 7 (I kn2)) us 7 (I us2), P)) 0 [(0, .inr (some a)), (1, .inr (some a2))] [] (lay0, I, P) := by
  refine r_iconst (d := mX4_become) (pc := 0) (n := 0) dX4_become_0 ?_
  refine r_istore_n (d := mX4_become) (pc := 1) (i := 2) (lv' := [(0, .inr (some a)), (1, .inr (some a2)), (2, .inl 0)]) dX4_become_1 rfl (by decide) rfl rfl ?_
  have L2 : ∀ j : Nat, j ≤ 7 → WP (k + 0) mX4_become none (0, 0) (Rt none (lay0, cpy (cpy (cpy I v 7 (I v2)) kn 7 (I kn2)) us 7 (I us2), P)) 2 [(0, .inr (some a)), (1, .inr (some a2)), (2, .inl (j : Int))] [] (lay0, cpy (cpy (cpy I v j (I v2)) kn j (I kn2)) us j (I us2), P) := by
    refine loopN (7) _ (fun j ih2 hj2 => ?_)
    refine r_iload_n (d := mX4_become) (pc := 2) (i := 2) (v := (j : Int)) dX4_become_2 rfl rfl ?_
    refine r_bipush (d := mX4_become) (pc := 3) (n := 7) dX4_become_3 ?_
    refine r_icmp_ge (d := mX4_become) (pc := 5) (tgt := 50) dX4_become_5 (by decide) (fun h5 => ?_) (fun h5 => ?_)
    · exact r_ret (d := mX4_become) (pc := 50) dX4_become_50 rfl (rtV (by rw [show j = 7 by omega])) (by decide) (by decide)
    · refine r_aload_n (d := mX4_become) (pc := 8) (i := 0) (v := a) dX4_become_8 rfl rfl ?_
      refine r_getRs (d := mX4_become) (pc := 9) (a := a) (kd := 4) (j := 0) (x := v) dX4_become_9 flRX4_9 hV.1 (by decide) (by decide) rfl hV.2.2.2.2.1 ?_
      refine r_iload_n (d := mX4_become) (pc := 12) (i := 2) (v := (j : Int)) dX4_become_12 rfl rfl ?_
      refine r_aload_n (d := mX4_become) (pc := 13) (i := 1) (v := a2) dX4_become_13 rfl rfl ?_
      refine r_getRs (d := mX4_become) (pc := 14) (a := a2) (kd := 4) (j := 0) (x := v2) dX4_become_14 flRX4_9 hV2.1 (by decide) (by decide) rfl hV2.2.2.2.2.1 ?_
      refine r_iload_n (d := mX4_become) (pc := 17) (i := 2) (v := (j : Int)) dX4_become_17 rfl rfl ?_
      refine r_ialds (d := mX4_become) (pc := 18) (a := v2) (x := (I v2 (j : Int))) dX4_become_18 hV2.2.1 (by omega) (by omega) (by simp [mUp, cpy, fset, n1, n2, n3, d1, d2, d3]) ?_
      refine r_iasts (d := mX4_become) (pc := 19) (a := v) (lay0, mUp (cpy (cpy (cpy I v j (I v2)) kn j (I kn2)) us j (I us2)) v (j : Int) (I v2 (j : Int)), P) dX4_become_19 hV.2.1 (by omega) (by omega) rfl ?_
      refine r_aload_n (d := mX4_become) (pc := 20) (i := 0) (v := a) dX4_become_20 rfl rfl ?_
      refine r_getRs (d := mX4_become) (pc := 21) (a := a) (kd := 4) (j := 1) (x := kn) dX4_become_21 flRX4_15 hV.1 (by decide) (by decide) rfl hV.2.2.2.2.2.1 ?_
      refine r_iload_n (d := mX4_become) (pc := 24) (i := 2) (v := (j : Int)) dX4_become_24 rfl rfl ?_
      refine r_aload_n (d := mX4_become) (pc := 25) (i := 1) (v := a2) dX4_become_25 rfl rfl ?_
      refine r_getRs (d := mX4_become) (pc := 26) (a := a2) (kd := 4) (j := 1) (x := kn2) dX4_become_26 flRX4_15 hV2.1 (by decide) (by decide) rfl hV2.2.2.2.2.2.1 ?_
      refine r_iload_n (d := mX4_become) (pc := 29) (i := 2) (v := (j : Int)) dX4_become_29 rfl rfl ?_
      refine r_ialds (d := mX4_become) (pc := 30) (a := kn2) (x := (I kn2 (j : Int))) dX4_become_30 hV2.2.2.1 (by omega) (by omega) (by simp [mUp, cpy, fset, n1, n2, n3, d1, d2, d3]) ?_
      refine r_iasts (d := mX4_become) (pc := 31) (a := kn) (lay0, mUp (mUp (cpy (cpy (cpy I v j (I v2)) kn j (I kn2)) us j (I us2)) v (j : Int) (I v2 (j : Int))) kn (j : Int) (I kn2 (j : Int)), P) dX4_become_31 hV.2.2.1 (by omega) (by omega) rfl ?_
      refine r_aload_n (d := mX4_become) (pc := 32) (i := 0) (v := a) dX4_become_32 rfl rfl ?_
      refine r_getRs (d := mX4_become) (pc := 33) (a := a) (kd := 4) (j := 2) (x := us) dX4_become_33 flRX4_18 hV.1 (by decide) (by decide) rfl hV.2.2.2.2.2.2 ?_
      refine r_iload_n (d := mX4_become) (pc := 36) (i := 2) (v := (j : Int)) dX4_become_36 rfl rfl ?_
      refine r_aload_n (d := mX4_become) (pc := 37) (i := 1) (v := a2) dX4_become_37 rfl rfl ?_
      refine r_getRs (d := mX4_become) (pc := 38) (a := a2) (kd := 4) (j := 2) (x := us2) dX4_become_38 flRX4_18 hV2.1 (by decide) (by decide) rfl hV2.2.2.2.2.2.2 ?_
      refine r_iload_n (d := mX4_become) (pc := 41) (i := 2) (v := (j : Int)) dX4_become_41 rfl rfl ?_
      refine r_ialds (d := mX4_become) (pc := 42) (a := us2) (x := (I us2 (j : Int))) dX4_become_42 hV2.2.2.2.1 (by omega) (by omega) (by simp [mUp, cpy, fset, n1, n2, n3, d1, d2, d3]) ?_
      refine r_iasts (d := mX4_become) (pc := 43) (a := us) (lay0, mUp (mUp (mUp (cpy (cpy (cpy I v j (I v2)) kn j (I kn2)) us j (I us2)) v (j : Int) (I v2 (j : Int))) kn (j : Int) (I kn2 (j : Int))) us (j : Int) (I us2 (j : Int)), P) dX4_become_43 hV.2.2.2.1 (by omega) (by omega) rfl ?_
      refine r_iinc (d := mX4_become) (pc := 44) (i := 2) (v := (j : Int)) (y := ((j + 1 : Nat) : Int)) (lv' := [(0, .inr (some a)), (1, .inr (some a2)), (2, .inl ((j + 1 : Nat) : Int))]) dX4_become_44 rfl (by decide) rfl (by omega) rfl ?_
      refine r_goto (d := mX4_become) (pc := 47) (tgt := 2) dX4_become_47 (by decide) ?_
      exact wpE (by simp) rfl (by rw [cpy3_s I d1 d2 d3 j (I v2) (I kn2) (I us2)]) (ih2 (by omega) (by omega))
  exact wpE (by simp) rfl (by rw [cpy_0, cpy_0, cpy_0]) (L2 0 (by omega))
set_option maxRecDepth 20000 in
set_option maxHeartbeats 4000000 in
theorem Fn_X4_place (k : Nat) (I : mIt) (P : mPt) (a v kn us : Nat) (hV : isVs P a v kn us) (ch nv nk use : Int) : WP (k + 0) mX4_place none (0, 0) (Rt none (lay0, vPlace I v kn us ch nv nk use, P)) 0 [(0, .inr (some a)), (1, .inl ch), (2, .inl nv), (3, .inl nk), (4, .inl use)] [] (lay0, I, P) := by
  refine r_iload_n (d := mX4_place) (pc := 0) (i := 1) (v := ch) dX4_place_0 rfl rfl ?_
  refine r_if_lt (d := mX4_place) (pc := 1) (tgt := 32) dX4_place_1 (by decide) (fun h1 => ?_) (fun h1 => ?_)
  · exact r_ret (d := mX4_place) (pc := 32) dX4_place_32 rfl (rtV (by unfold vPlace; first | rw [if_pos (by omega)] | rw [if_neg (by omega)])) (by decide) (by decide)
  · refine r_iload_n (d := mX4_place) (pc := 4) (i := 1) (v := ch) dX4_place_4 rfl rfl ?_
    refine r_bipush (d := mX4_place) (pc := 5) (n := 7) dX4_place_5 ?_
    refine r_icmp_ge (d := mX4_place) (pc := 7) (tgt := 32) dX4_place_7 (by decide) (fun h7 => ?_) (fun h7 => ?_)
    · exact r_ret (d := mX4_place) (pc := 32) dX4_place_32 rfl (rtV (by unfold vPlace; first | rw [if_pos (by omega)] | rw [if_neg (by omega)])) (by decide) (by decide)
    · refine r_aload_n (d := mX4_place) (pc := 10) (i := 0) (v := a) dX4_place_10 rfl rfl ?_
      refine r_getRs (d := mX4_place) (pc := 11) (a := a) (kd := 4) (j := 0) (x := v) dX4_place_11 flRX4_9 hV.1 (by decide) (by decide) rfl hV.2.2.2.2.1 ?_
      refine r_iload_n (d := mX4_place) (pc := 14) (i := 1) (v := ch) dX4_place_14 rfl rfl ?_
      refine r_iload_n (d := mX4_place) (pc := 15) (i := 2) (v := nv) dX4_place_15 rfl rfl ?_
      refine r_iasts (d := mX4_place) (pc := 16) (a := v) (lay0, mUp I v ch nv, P) dX4_place_16 hV.2.1 (by omega) (by omega) rfl ?_
      refine r_aload_n (d := mX4_place) (pc := 17) (i := 0) (v := a) dX4_place_17 rfl rfl ?_
      refine r_getRs (d := mX4_place) (pc := 18) (a := a) (kd := 4) (j := 1) (x := kn) dX4_place_18 flRX4_15 hV.1 (by decide) (by decide) rfl hV.2.2.2.2.2.1 ?_
      refine r_iload_n (d := mX4_place) (pc := 21) (i := 1) (v := ch) dX4_place_21 rfl rfl ?_
      refine r_iload_n (d := mX4_place) (pc := 22) (i := 3) (v := nk) dX4_place_22 rfl rfl ?_
      refine r_iasts (d := mX4_place) (pc := 23) (a := kn) (lay0, mUp (mUp I v ch nv) kn ch nk, P) dX4_place_23 hV.2.2.1 (by omega) (by omega) rfl ?_
      refine r_aload_n (d := mX4_place) (pc := 24) (i := 0) (v := a) dX4_place_24 rfl rfl ?_
      refine r_getRs (d := mX4_place) (pc := 25) (a := a) (kd := 4) (j := 2) (x := us) dX4_place_25 flRX4_18 hV.1 (by decide) (by decide) rfl hV.2.2.2.2.2.2 ?_
      refine r_iload_n (d := mX4_place) (pc := 28) (i := 1) (v := ch) dX4_place_28 rfl rfl ?_
      refine r_iload (d := mX4_place) (pc := 29) (i := 4) (v := use) dX4_place_29 rfl ?_
      refine r_iasts (d := mX4_place) (pc := 31) (a := us) (lay0, mUp (mUp (mUp I v ch nv) kn ch nk) us ch use, P) dX4_place_31 hV.2.2.2.1 (by omega) (by omega) rfl ?_
      exact r_ret (d := mX4_place) (pc := 32) dX4_place_32 rfl (rtV (by unfold vPlace; first | rw [if_pos (by omega)] | rw [if_neg (by omega)])) (by decide) (by decide)
set_option maxRecDepth 20000 in
set_option maxHeartbeats 4000000 in
theorem Fn_X4_use (k : Nat) (I : mIt) (P : mPt) (a v kn us : Nat) (hV : isVs P a v kn us) (ch use : Int) : WP (k + 0) mX4_use none (0, 0) (Rt none (lay0, vUse I us ch use, P)) 0 [(0, .inr (some a)), (1, .inl ch), (2, .inl use)] [] (lay0, I, P) := by
  refine r_iload_n (d := mX4_use) (pc := 0) (i := 1) (v := ch) dX4_use_0 rfl rfl ?_
  refine r_if_lt (d := mX4_use) (pc := 1) (tgt := 17) dX4_use_1 (by decide) (fun h1 => ?_) (fun h1 => ?_)
  · exact r_ret (d := mX4_use) (pc := 17) dX4_use_17 rfl (rtV (by unfold vUse; first | rw [if_pos (by omega)] | rw [if_neg (by omega)])) (by decide) (by decide)
  · refine r_iload_n (d := mX4_use) (pc := 4) (i := 1) (v := ch) dX4_use_4 rfl rfl ?_
    refine r_bipush (d := mX4_use) (pc := 5) (n := 7) dX4_use_5 ?_
    refine r_icmp_ge (d := mX4_use) (pc := 7) (tgt := 17) dX4_use_7 (by decide) (fun h7 => ?_) (fun h7 => ?_)
    · exact r_ret (d := mX4_use) (pc := 17) dX4_use_17 rfl (rtV (by unfold vUse; first | rw [if_pos (by omega)] | rw [if_neg (by omega)])) (by decide) (by decide)
    · refine r_aload_n (d := mX4_use) (pc := 10) (i := 0) (v := a) dX4_use_10 rfl rfl ?_
      refine r_getRs (d := mX4_use) (pc := 11) (a := a) (kd := 4) (j := 2) (x := us) dX4_use_11 flRX4_18 hV.1 (by decide) (by decide) rfl hV.2.2.2.2.2.2 ?_
      refine r_iload_n (d := mX4_use) (pc := 14) (i := 1) (v := ch) dX4_use_14 rfl rfl ?_
      refine r_iload_n (d := mX4_use) (pc := 15) (i := 2) (v := use) dX4_use_15 rfl rfl ?_
      refine r_iasts (d := mX4_use) (pc := 16) (a := us) (lay0, mUp I us ch use, P) dX4_use_16 hV.2.2.2.1 (by omega) (by omega) rfl ?_
      exact r_ret (d := mX4_use) (pc := 17) dX4_use_17 rfl (rtV (by unfold vUse; first | rw [if_pos (by omega)] | rw [if_neg (by omega)])) (by decide) (by decide)
set_option maxRecDepth 20000 in
set_option maxHeartbeats 4000000 in
theorem Fn_X4_setKnownTime (k : Nat) (I : mIt) (P : mPt) (a v kn us : Nat) (hV : isVs P a v kn us) (ch tm : Int) : WP (k + 0) mX4_setKnownTime none (0, 0) (Rt none (lay0, vUse I kn ch tm, P)) 0 [(0, .inr (some a)), (1, .inl ch), (2, .inl tm)] [] (lay0, I, P) := by
  refine r_iload_n (d := mX4_setKnownTime) (pc := 0) (i := 1) (v := ch) dX4_setKnownTime_0 rfl rfl ?_
  refine r_if_lt (d := mX4_setKnownTime) (pc := 1) (tgt := 17) dX4_setKnownTime_1 (by decide) (fun h1 => ?_) (fun h1 => ?_)
  · exact r_ret (d := mX4_setKnownTime) (pc := 17) dX4_setKnownTime_17 rfl (rtV (by unfold vUse; first | rw [if_pos (by omega)] | rw [if_neg (by omega)])) (by decide) (by decide)
  · refine r_iload_n (d := mX4_setKnownTime) (pc := 4) (i := 1) (v := ch) dX4_setKnownTime_4 rfl rfl ?_
    refine r_bipush (d := mX4_setKnownTime) (pc := 5) (n := 7) dX4_setKnownTime_5 ?_
    refine r_icmp_ge (d := mX4_setKnownTime) (pc := 7) (tgt := 17) dX4_setKnownTime_7 (by decide) (fun h7 => ?_) (fun h7 => ?_)
    · exact r_ret (d := mX4_setKnownTime) (pc := 17) dX4_setKnownTime_17 rfl (rtV (by unfold vUse; first | rw [if_pos (by omega)] | rw [if_neg (by omega)])) (by decide) (by decide)
    · refine r_aload_n (d := mX4_setKnownTime) (pc := 10) (i := 0) (v := a) dX4_setKnownTime_10 rfl rfl ?_
      refine r_getRs (d := mX4_setKnownTime) (pc := 11) (a := a) (kd := 4) (j := 1) (x := kn) dX4_setKnownTime_11 flRX4_15 hV.1 (by decide) (by decide) rfl hV.2.2.2.2.2.1 ?_
      refine r_iload_n (d := mX4_setKnownTime) (pc := 14) (i := 1) (v := ch) dX4_setKnownTime_14 rfl rfl ?_
      refine r_iload_n (d := mX4_setKnownTime) (pc := 15) (i := 2) (v := tm) dX4_setKnownTime_15 rfl rfl ?_
      refine r_iasts (d := mX4_setKnownTime) (pc := 16) (a := kn) (lay0, mUp I kn ch tm, P) dX4_setKnownTime_16 hV.2.2.1 (by omega) (by omega) rfl ?_
      exact r_ret (d := mX4_setKnownTime) (pc := 17) dX4_setKnownTime_17 rfl (rtV (by unfold vUse; first | rw [if_pos (by omega)] | rw [if_neg (by omega)])) (by decide) (by decide)
set_option maxRecDepth 20000 in
set_option maxHeartbeats 4000000 in
theorem Fn_X4_valueOn (k : Nat) (I : mIt) (P : mPt) (a v kn us : Nat) (hV : isVs P a v kn us) (ch : Int) : WP (k + 0) mX4_valueOn none (0, 0) (Rt (some (.inl (vOn (I v) ch))) (lay0, I, P)) 0 [(0, .inr (some a)), (1, .inl ch)] [] (lay0, I, P) := by
  refine r_iload_n (d := mX4_valueOn) (pc := 0) (i := 1) (v := ch) dX4_valueOn_0 rfl rfl ?_
  refine r_if_lt (d := mX4_valueOn) (pc := 1) (tgt := 19) dX4_valueOn_1 (by decide) (fun h1 => ?_) (fun h1 => ?_)
  · refine r_iconst (d := mX4_valueOn) (pc := 19) (n := 0) dX4_valueOn_19 ?_
    exact r_iret (d := mX4_valueOn) (pc := 20) dX4_valueOn_20 rfl (rtI (by unfold vOn; first | rw [if_pos (by omega)] | rw [if_neg (by omega)]) (by rfl)) (by decide) (by decide)
  · refine r_iload_n (d := mX4_valueOn) (pc := 4) (i := 1) (v := ch) dX4_valueOn_4 rfl rfl ?_
    refine r_bipush (d := mX4_valueOn) (pc := 5) (n := 7) dX4_valueOn_5 ?_
    refine r_icmp_ge (d := mX4_valueOn) (pc := 7) (tgt := 19) dX4_valueOn_7 (by decide) (fun h7 => ?_) (fun h7 => ?_)
    · refine r_iconst (d := mX4_valueOn) (pc := 19) (n := 0) dX4_valueOn_19 ?_
      exact r_iret (d := mX4_valueOn) (pc := 20) dX4_valueOn_20 rfl (rtI (by unfold vOn; first | rw [if_pos (by omega)] | rw [if_neg (by omega)]) (by rfl)) (by decide) (by decide)
    · refine r_aload_n (d := mX4_valueOn) (pc := 10) (i := 0) (v := a) dX4_valueOn_10 rfl rfl ?_
      refine r_getRs (d := mX4_valueOn) (pc := 11) (a := a) (kd := 4) (j := 0) (x := v) dX4_valueOn_11 flRX4_9 hV.1 (by decide) (by decide) rfl hV.2.2.2.2.1 ?_
      refine r_iload_n (d := mX4_valueOn) (pc := 14) (i := 1) (v := ch) dX4_valueOn_14 rfl rfl ?_
      refine r_ialds (d := mX4_valueOn) (pc := 15) (a := v) (x := (I v ch)) dX4_valueOn_15 hV.2.1 (by omega) (by omega) (rfl) ?_
      refine r_goto (d := mX4_valueOn) (pc := 16) (tgt := 20) dX4_valueOn_16 (by decide) ?_
      exact r_iret (d := mX4_valueOn) (pc := 20) dX4_valueOn_20 rfl (rtI (by unfold vOn; first | rw [if_pos (by omega)] | rw [if_neg (by omega)]) (by rfl)) (by decide) (by decide)
set_option maxRecDepth 20000 in
set_option maxHeartbeats 4000000 in
theorem Fn_X4_knownTimeOf (k : Nat) (I : mIt) (P : mPt) (a v kn us : Nat) (hV : isVs P a v kn us) (ch : Int) : WP (k + 0) mX4_knownTimeOf none (0, 0) (Rt (some (.inl (kOf (I kn) ch))) (lay0, I, P)) 0 [(0, .inr (some a)), (1, .inl ch)] [] (lay0, I, P) := by
  refine r_iload_n (d := mX4_knownTimeOf) (pc := 0) (i := 1) (v := ch) dX4_knownTimeOf_0 rfl rfl ?_
  refine r_if_lt (d := mX4_knownTimeOf) (pc := 1) (tgt := 19) dX4_knownTimeOf_1 (by decide) (fun h1 => ?_) (fun h1 => ?_)
  · refine r_ldc (d := mX4_knownTimeOf) (pc := 19) (n := 1000000) ctRX4_21 dX4_knownTimeOf_19 ?_
    exact r_iret (d := mX4_knownTimeOf) (pc := 21) dX4_knownTimeOf_21 rfl (rtI (by unfold kOf; first | rw [if_pos (by omega)] | rw [if_neg (by omega)]) (by rfl)) (by decide) (by decide)
  · refine r_iload_n (d := mX4_knownTimeOf) (pc := 4) (i := 1) (v := ch) dX4_knownTimeOf_4 rfl rfl ?_
    refine r_bipush (d := mX4_knownTimeOf) (pc := 5) (n := 7) dX4_knownTimeOf_5 ?_
    refine r_icmp_ge (d := mX4_knownTimeOf) (pc := 7) (tgt := 19) dX4_knownTimeOf_7 (by decide) (fun h7 => ?_) (fun h7 => ?_)
    · refine r_ldc (d := mX4_knownTimeOf) (pc := 19) (n := 1000000) ctRX4_21 dX4_knownTimeOf_19 ?_
      exact r_iret (d := mX4_knownTimeOf) (pc := 21) dX4_knownTimeOf_21 rfl (rtI (by unfold kOf; first | rw [if_pos (by omega)] | rw [if_neg (by omega)]) (by rfl)) (by decide) (by decide)
    · refine r_aload_n (d := mX4_knownTimeOf) (pc := 10) (i := 0) (v := a) dX4_knownTimeOf_10 rfl rfl ?_
      refine r_getRs (d := mX4_knownTimeOf) (pc := 11) (a := a) (kd := 4) (j := 1) (x := kn) dX4_knownTimeOf_11 flRX4_15 hV.1 (by decide) (by decide) rfl hV.2.2.2.2.2.1 ?_
      refine r_iload_n (d := mX4_knownTimeOf) (pc := 14) (i := 1) (v := ch) dX4_knownTimeOf_14 rfl rfl ?_
      refine r_ialds (d := mX4_knownTimeOf) (pc := 15) (a := kn) (x := (I kn ch)) dX4_knownTimeOf_15 hV.2.2.1 (by omega) (by omega) (rfl) ?_
      refine r_goto (d := mX4_knownTimeOf) (pc := 16) (tgt := 21) dX4_knownTimeOf_16 (by decide) ?_
      exact r_iret (d := mX4_knownTimeOf) (pc := 21) dX4_knownTimeOf_21 rfl (rtI (by unfold kOf; first | rw [if_pos (by omega)] | rw [if_neg (by omega)]) (by rfl)) (by decide) (by decide)
set_option maxRecDepth 20000 in
set_option maxHeartbeats 4000000 in
theorem Fn_X1_isOne (k : Nat) (I : mIt) (P : mPt) (a w c f g m : Nat) (hO : isOr P a w c f g m) (ix : Int) : WP (k + 0) mX1_isOne none (0, 0) (Rt (some (.inl (bI (0 ≤ ix ∧ ix < I a 0 ∧ ix < 6)))) (lay0, I, P)) 0 [(0, .inr (some a)), (1, .inl ix)] [] (lay0, I, P) := by
  refine r_iload_n (d := mX1_isOne) (pc := 0) (i := 1) (v := ix) dX1_isOne_0 rfl rfl ?_
  refine r_if_lt (d := mX1_isOne) (pc := 1) (tgt := 22) dX1_isOne_1 (by decide) (fun h1 => ?_) (fun h1 => ?_)
  · refine r_iconst (d := mX1_isOne) (pc := 22) (n := 0) dX1_isOne_22 ?_
    exact r_zret (d := mX1_isOne) (pc := 23) dX1_isOne_23 rfl (Or.inl rfl) (rtI (by first | exact (bI_t (by omega)).symm | exact (bI_f (by omega)).symm) (by rfl)) (by decide) (by decide)
  · refine r_iload_n (d := mX1_isOne) (pc := 4) (i := 1) (v := ix) dX1_isOne_4 rfl rfl ?_
    refine r_aload_n (d := mX1_isOne) (pc := 5) (i := 0) (v := a) dX1_isOne_5 rfl rfl ?_
    refine r_getIs (d := mX1_isOne) (pc := 6) (a := a) (kd := 1) (j := 0) (x := (I a 0)) dX1_isOne_6 flRX1_9 hO.1 (by decide) (by decide) rfl (rfl) ?_
    refine r_icmp_ge (d := mX1_isOne) (pc := 9) (tgt := 22) dX1_isOne_9 (by decide) (fun h9 => ?_) (fun h9 => ?_)
    · refine r_iconst (d := mX1_isOne) (pc := 22) (n := 0) dX1_isOne_22 ?_
      exact r_zret (d := mX1_isOne) (pc := 23) dX1_isOne_23 rfl (Or.inl rfl) (rtI (by first | exact (bI_t (by omega)).symm | exact (bI_f (by omega)).symm) (by rfl)) (by decide) (by decide)
    · refine r_iload_n (d := mX1_isOne) (pc := 12) (i := 1) (v := ix) dX1_isOne_12 rfl rfl ?_
      refine r_bipush (d := mX1_isOne) (pc := 13) (n := 6) dX1_isOne_13 ?_
      refine r_icmp_ge (d := mX1_isOne) (pc := 15) (tgt := 22) dX1_isOne_15 (by decide) (fun h15 => ?_) (fun h15 => ?_)
      · refine r_iconst (d := mX1_isOne) (pc := 22) (n := 0) dX1_isOne_22 ?_
        exact r_zret (d := mX1_isOne) (pc := 23) dX1_isOne_23 rfl (Or.inl rfl) (rtI (by first | exact (bI_t (by omega)).symm | exact (bI_f (by omega)).symm) (by rfl)) (by decide) (by decide)
      · refine r_iconst (d := mX1_isOne) (pc := 18) (n := 1) dX1_isOne_18 ?_
        refine r_goto (d := mX1_isOne) (pc := 19) (tgt := 23) dX1_isOne_19 (by decide) ?_
        exact r_zret (d := mX1_isOne) (pc := 23) dX1_isOne_23 rfl (Or.inr rfl) (rtI (by first | exact (bI_t (by omega)).symm | exact (bI_f (by omega)).symm) (by rfl)) (by decide) (by decide)
set_option maxRecDepth 20000 in
set_option maxHeartbeats 4000000 in
theorem Fn_X1_add (k : Nat) (I : mIt) (P : mPt) (a w c f g m : Nat) (hO : isOr P a w c f g m) (n0 : a ≠ w ∧ a ≠ c ∧ a ≠ f ∧ a ≠ g ∧ a ≠ m) (n1 : w ≠ c ∧ w ≠ f ∧ w ≠ g ∧ w ≠ m) (n2 : c ≠ f ∧ c ≠ g ∧ c ≠ m) (n3 : f ≠ g ∧ f ≠ m) (n4 : g ≠ m) (kd nc r1 r2 mk : Int) : WP (k + 0) mX1_add none (0, 0) (Rt none (lay0, oAdd I a w c f g m kd nc r1 r2 mk, P)) 0 [(0, .inr (some a)), (1, .inl kd), (2, .inl nc), (3, .inl r1), (4, .inl r2), (5, .inl mk)] [] (lay0, I, P) := by
  refine r_aload_n (d := mX1_add) (pc := 0) (i := 0) (v := a) dX1_add_0 rfl rfl ?_
  refine r_getIs (d := mX1_add) (pc := 1) (a := a) (kd := 1) (j := 0) (x := (I a 0)) dX1_add_1 flRX1_9 hO.1 (by decide) (by decide) rfl (rfl) ?_
  refine r_if_lt (d := mX1_add) (pc := 4) (tgt := 78) dX1_add_4 (by decide) (fun h4 => ?_) (fun h4 => ?_)
  · exact r_ret (d := mX1_add) (pc := 78) dX1_add_78 rfl (rtV (by unfold oAdd; first | rw [if_pos (by omega)] | rw [if_neg (by omega)])) (by decide) (by decide)
  · refine r_aload_n (d := mX1_add) (pc := 7) (i := 0) (v := a) dX1_add_7 rfl rfl ?_
    refine r_getIs (d := mX1_add) (pc := 8) (a := a) (kd := 1) (j := 0) (x := (I a 0)) dX1_add_8 flRX1_9 hO.1 (by decide) (by decide) rfl (rfl) ?_
    refine r_bipush (d := mX1_add) (pc := 11) (n := 6) dX1_add_11 ?_
    refine r_icmp_ge (d := mX1_add) (pc := 13) (tgt := 78) dX1_add_13 (by decide) (fun h13 => ?_) (fun h13 => ?_)
    · exact r_ret (d := mX1_add) (pc := 78) dX1_add_78 rfl (rtV (by unfold oAdd; first | rw [if_pos (by omega)] | rw [if_neg (by omega)])) (by decide) (by decide)
    · refine r_aload_n (d := mX1_add) (pc := 16) (i := 0) (v := a) dX1_add_16 rfl rfl ?_
      refine r_getRs (d := mX1_add) (pc := 17) (a := a) (kd := 1) (j := 1) (x := w) dX1_add_17 flRX1_15 hO.1 (by decide) (by decide) rfl hO.2.2.2.2.2.2.1 ?_
      refine r_aload_n (d := mX1_add) (pc := 20) (i := 0) (v := a) dX1_add_20 rfl rfl ?_
      refine r_getIs (d := mX1_add) (pc := 21) (a := a) (kd := 1) (j := 0) (x := (I a 0)) dX1_add_21 flRX1_9 hO.1 (by decide) (by decide) rfl (rfl) ?_
      refine r_iload_n (d := mX1_add) (pc := 24) (i := 1) (v := kd) dX1_add_24 rfl rfl ?_
      refine r_iasts (d := mX1_add) (pc := 25) (a := w) (lay0, mUp I w (I a 0) kd, P) dX1_add_25 hO.2.1 (by omega) (by omega) rfl ?_
      refine r_aload_n (d := mX1_add) (pc := 26) (i := 0) (v := a) dX1_add_26 rfl rfl ?_
      refine r_getRs (d := mX1_add) (pc := 27) (a := a) (kd := 1) (j := 2) (x := c) dX1_add_27 flRX1_19 hO.1 (by decide) (by decide) rfl hO.2.2.2.2.2.2.2.1 ?_
      refine r_aload_n (d := mX1_add) (pc := 30) (i := 0) (v := a) dX1_add_30 rfl rfl ?_
      refine r_getIs (d := mX1_add) (pc := 31) (a := a) (kd := 1) (j := 0) (x := (I a 0)) dX1_add_31 flRX1_9 hO.1 (by decide) (by decide) rfl (by simp [mUp, cpy, fset, n0, n1, n2, n3, n4, Ne.symm n0.1, Ne.symm n0.2.1, Ne.symm n0.2.2.1, Ne.symm n0.2.2.2.1, Ne.symm n0.2.2.2.2, Ne.symm n1.1, Ne.symm n1.2.1, Ne.symm n1.2.2.1, Ne.symm n1.2.2.2, Ne.symm n2.1, Ne.symm n2.2.1, Ne.symm n2.2.2, Ne.symm n3.1, Ne.symm n3.2, Ne.symm n4]) ?_
      refine r_iload_n (d := mX1_add) (pc := 34) (i := 2) (v := nc) dX1_add_34 rfl rfl ?_
      refine r_iasts (d := mX1_add) (pc := 35) (a := c) (lay0, mUp (mUp I w (I a 0) kd) c (I a 0) nc, P) dX1_add_35 hO.2.2.1 (by omega) (by omega) rfl ?_
      refine r_aload_n (d := mX1_add) (pc := 36) (i := 0) (v := a) dX1_add_36 rfl rfl ?_
      refine r_getRs (d := mX1_add) (pc := 37) (a := a) (kd := 1) (j := 3) (x := f) dX1_add_37 flRX1_22 hO.1 (by decide) (by decide) rfl hO.2.2.2.2.2.2.2.2.1 ?_
      refine r_aload_n (d := mX1_add) (pc := 40) (i := 0) (v := a) dX1_add_40 rfl rfl ?_
      refine r_getIs (d := mX1_add) (pc := 41) (a := a) (kd := 1) (j := 0) (x := (I a 0)) dX1_add_41 flRX1_9 hO.1 (by decide) (by decide) rfl (by simp [mUp, cpy, fset, n0, n1, n2, n3, n4, Ne.symm n0.1, Ne.symm n0.2.1, Ne.symm n0.2.2.1, Ne.symm n0.2.2.2.1, Ne.symm n0.2.2.2.2, Ne.symm n1.1, Ne.symm n1.2.1, Ne.symm n1.2.2.1, Ne.symm n1.2.2.2, Ne.symm n2.1, Ne.symm n2.2.1, Ne.symm n2.2.2, Ne.symm n3.1, Ne.symm n3.2, Ne.symm n4]) ?_
      refine r_iload_n (d := mX1_add) (pc := 44) (i := 3) (v := r1) dX1_add_44 rfl rfl ?_
      refine r_iasts (d := mX1_add) (pc := 45) (a := f) (lay0, mUp (mUp (mUp I w (I a 0) kd) c (I a 0) nc) f (I a 0) r1, P) dX1_add_45 hO.2.2.2.1 (by omega) (by omega) rfl ?_
      refine r_aload_n (d := mX1_add) (pc := 46) (i := 0) (v := a) dX1_add_46 rfl rfl ?_
      refine r_getRs (d := mX1_add) (pc := 47) (a := a) (kd := 1) (j := 4) (x := g) dX1_add_47 flRX1_25 hO.1 (by decide) (by decide) rfl hO.2.2.2.2.2.2.2.2.2.1 ?_
      refine r_aload_n (d := mX1_add) (pc := 50) (i := 0) (v := a) dX1_add_50 rfl rfl ?_
      refine r_getIs (d := mX1_add) (pc := 51) (a := a) (kd := 1) (j := 0) (x := (I a 0)) dX1_add_51 flRX1_9 hO.1 (by decide) (by decide) rfl (by simp [mUp, cpy, fset, n0, n1, n2, n3, n4, Ne.symm n0.1, Ne.symm n0.2.1, Ne.symm n0.2.2.1, Ne.symm n0.2.2.2.1, Ne.symm n0.2.2.2.2, Ne.symm n1.1, Ne.symm n1.2.1, Ne.symm n1.2.2.1, Ne.symm n1.2.2.2, Ne.symm n2.1, Ne.symm n2.2.1, Ne.symm n2.2.2, Ne.symm n3.1, Ne.symm n3.2, Ne.symm n4]) ?_
      refine r_iload (d := mX1_add) (pc := 54) (i := 4) (v := r2) dX1_add_54 rfl ?_
      refine r_iasts (d := mX1_add) (pc := 56) (a := g) (lay0, mUp (mUp (mUp (mUp I w (I a 0) kd) c (I a 0) nc) f (I a 0) r1) g (I a 0) r2, P) dX1_add_56 hO.2.2.2.2.1 (by omega) (by omega) rfl ?_
      refine r_aload_n (d := mX1_add) (pc := 57) (i := 0) (v := a) dX1_add_57 rfl rfl ?_
      refine r_getRs (d := mX1_add) (pc := 58) (a := a) (kd := 1) (j := 5) (x := m) dX1_add_58 flRX1_28 hO.1 (by decide) (by decide) rfl hO.2.2.2.2.2.2.2.2.2.2 ?_
      refine r_aload_n (d := mX1_add) (pc := 61) (i := 0) (v := a) dX1_add_61 rfl rfl ?_
      refine r_getIs (d := mX1_add) (pc := 62) (a := a) (kd := 1) (j := 0) (x := (I a 0)) dX1_add_62 flRX1_9 hO.1 (by decide) (by decide) rfl (by simp [mUp, cpy, fset, n0, n1, n2, n3, n4, Ne.symm n0.1, Ne.symm n0.2.1, Ne.symm n0.2.2.1, Ne.symm n0.2.2.2.1, Ne.symm n0.2.2.2.2, Ne.symm n1.1, Ne.symm n1.2.1, Ne.symm n1.2.2.1, Ne.symm n1.2.2.2, Ne.symm n2.1, Ne.symm n2.2.1, Ne.symm n2.2.2, Ne.symm n3.1, Ne.symm n3.2, Ne.symm n4]) ?_
      refine r_iload (d := mX1_add) (pc := 65) (i := 5) (v := mk) dX1_add_65 rfl ?_
      refine r_iasts (d := mX1_add) (pc := 67) (a := m) (lay0, mUp (mUp (mUp (mUp (mUp I w (I a 0) kd) c (I a 0) nc) f (I a 0) r1) g (I a 0) r2) m (I a 0) mk, P) dX1_add_67 hO.2.2.2.2.2.1 (by omega) (by omega) rfl ?_
      refine r_aload_n (d := mX1_add) (pc := 68) (i := 0) (v := a) dX1_add_68 rfl rfl ?_
      refine r_dup (d := mX1_add) (pc := 69) dX1_add_69 ?_
      refine r_getIs (d := mX1_add) (pc := 70) (a := a) (kd := 1) (j := 0) (x := (I a 0)) dX1_add_70 flRX1_9 hO.1 (by decide) (by decide) rfl (by simp [mUp, cpy, fset, n0, n1, n2, n3, n4, Ne.symm n0.1, Ne.symm n0.2.1, Ne.symm n0.2.2.1, Ne.symm n0.2.2.2.1, Ne.symm n0.2.2.2.2, Ne.symm n1.1, Ne.symm n1.2.1, Ne.symm n1.2.2.1, Ne.symm n1.2.2.2, Ne.symm n2.1, Ne.symm n2.2.1, Ne.symm n2.2.2, Ne.symm n3.1, Ne.symm n3.2, Ne.symm n4]) ?_
      refine r_iconst (d := mX1_add) (pc := 73) (n := 1) dX1_add_73 ?_
      refine r_iadd (d := mX1_add) (pc := 74) dX1_add_74 ?_
      refine r_putIs (d := mX1_add) (pc := 75) (a := a) (kd := 1) (j := 0) (lay0, mUp (mUp (mUp (mUp (mUp (mUp I w (I a 0) kd) c (I a 0) nc) f (I a 0) r1) g (I a 0) r2) m (I a 0) mk) a 0 ((I a 0) + 1), P) dX1_add_75 flRX1_9 hO.1 (by decide) (by decide) rfl rfl (Or.inl rfl) rfl ?_
      exact r_ret (d := mX1_add) (pc := 78) dX1_add_78 rfl (rtV (by unfold oAdd; first | rw [if_pos (by omega)] | rw [if_neg (by omega)])) (by decide) (by decide)
set_option maxRecDepth 20000 in
set_option maxHeartbeats 4000000 in
theorem Fn_X1_move (k : Nat) (I : mIt) (P : mPt) (a w c f g m : Nat) (hO : isOr P a w c f g m) (n0 : a ≠ w ∧ a ≠ c ∧ a ≠ f ∧ a ≠ g ∧ a ≠ m) (n1 : w ≠ c ∧ w ≠ f ∧ w ≠ g ∧ w ≠ m) (n2 : c ≠ f ∧ c ≠ g ∧ c ≠ m) (n3 : f ≠ g ∧ f ≠ m) (n4 : g ≠ m) (x y : Int) : WP (k + 0) mX1_move none (0, 0) (Rt none (lay0, oMove I w c f g m x y, P)) 0 [(0, .inr (some a)), (1, .inl x), (2, .inl y)] [] (lay0, I, P) := by
  refine r_iload_n (d := mX1_move) (pc := 0) (i := 1) (v := x) dX1_move_0 rfl rfl ?_
  refine r_if_lt (d := mX1_move) (pc := 1) (tgt := 79) dX1_move_1 (by decide) (fun h1 => ?_) (fun h1 => ?_)
  · exact r_ret (d := mX1_move) (pc := 79) dX1_move_79 rfl (rtV (by unfold oMove; first | rw [if_pos (by omega)] | rw [if_neg (by omega)])) (by decide) (by decide)
  · refine r_iload_n (d := mX1_move) (pc := 4) (i := 1) (v := x) dX1_move_4 rfl rfl ?_
    refine r_bipush (d := mX1_move) (pc := 5) (n := 6) dX1_move_5 ?_
    refine r_icmp_ge (d := mX1_move) (pc := 7) (tgt := 79) dX1_move_7 (by decide) (fun h7 => ?_) (fun h7 => ?_)
    · exact r_ret (d := mX1_move) (pc := 79) dX1_move_79 rfl (rtV (by unfold oMove; first | rw [if_pos (by omega)] | rw [if_neg (by omega)])) (by decide) (by decide)
    · refine r_iload_n (d := mX1_move) (pc := 10) (i := 2) (v := y) dX1_move_10 rfl rfl ?_
      refine r_if_lt (d := mX1_move) (pc := 11) (tgt := 79) dX1_move_11 (by decide) (fun h11 => ?_) (fun h11 => ?_)
      · exact r_ret (d := mX1_move) (pc := 79) dX1_move_79 rfl (rtV (by unfold oMove; first | rw [if_pos (by omega)] | rw [if_neg (by omega)])) (by decide) (by decide)
      · refine r_iload_n (d := mX1_move) (pc := 14) (i := 2) (v := y) dX1_move_14 rfl rfl ?_
        refine r_iload_n (d := mX1_move) (pc := 15) (i := 1) (v := x) dX1_move_15 rfl rfl ?_
        refine r_icmp_ge (d := mX1_move) (pc := 16) (tgt := 79) dX1_move_16 (by decide) (fun h16 => ?_) (fun h16 => ?_)
        · exact r_ret (d := mX1_move) (pc := 79) dX1_move_79 rfl (rtV (by unfold oMove; first | rw [if_pos (by omega)] | rw [if_neg (by omega)])) (by decide) (by decide)
        · refine r_aload_n (d := mX1_move) (pc := 19) (i := 0) (v := a) dX1_move_19 rfl rfl ?_
          refine r_getRs (d := mX1_move) (pc := 20) (a := a) (kd := 1) (j := 1) (x := w) dX1_move_20 flRX1_15 hO.1 (by decide) (by decide) rfl hO.2.2.2.2.2.2.1 ?_
          refine r_iload_n (d := mX1_move) (pc := 23) (i := 2) (v := y) dX1_move_23 rfl rfl ?_
          refine r_aload_n (d := mX1_move) (pc := 24) (i := 0) (v := a) dX1_move_24 rfl rfl ?_
          refine r_getRs (d := mX1_move) (pc := 25) (a := a) (kd := 1) (j := 1) (x := w) dX1_move_25 flRX1_15 hO.1 (by decide) (by decide) rfl hO.2.2.2.2.2.2.1 ?_
          refine r_iload_n (d := mX1_move) (pc := 28) (i := 1) (v := x) dX1_move_28 rfl rfl ?_
          refine r_ialds (d := mX1_move) (pc := 29) (a := w) (x := (I w x)) dX1_move_29 hO.2.1 (by omega) (by omega) (rfl) ?_
          refine r_iasts (d := mX1_move) (pc := 30) (a := w) (lay0, mUp I w y (I w x), P) dX1_move_30 hO.2.1 (by omega) (by omega) rfl ?_
          refine r_aload_n (d := mX1_move) (pc := 31) (i := 0) (v := a) dX1_move_31 rfl rfl ?_
          refine r_getRs (d := mX1_move) (pc := 32) (a := a) (kd := 1) (j := 2) (x := c) dX1_move_32 flRX1_19 hO.1 (by decide) (by decide) rfl hO.2.2.2.2.2.2.2.1 ?_
          refine r_iload_n (d := mX1_move) (pc := 35) (i := 2) (v := y) dX1_move_35 rfl rfl ?_
          refine r_aload_n (d := mX1_move) (pc := 36) (i := 0) (v := a) dX1_move_36 rfl rfl ?_
          refine r_getRs (d := mX1_move) (pc := 37) (a := a) (kd := 1) (j := 2) (x := c) dX1_move_37 flRX1_19 hO.1 (by decide) (by decide) rfl hO.2.2.2.2.2.2.2.1 ?_
          refine r_iload_n (d := mX1_move) (pc := 40) (i := 1) (v := x) dX1_move_40 rfl rfl ?_
          refine r_ialds (d := mX1_move) (pc := 41) (a := c) (x := (I c x)) dX1_move_41 hO.2.2.1 (by omega) (by omega) (by simp [mUp, cpy, fset, n0, n1, n2, n3, n4, Ne.symm n0.1, Ne.symm n0.2.1, Ne.symm n0.2.2.1, Ne.symm n0.2.2.2.1, Ne.symm n0.2.2.2.2, Ne.symm n1.1, Ne.symm n1.2.1, Ne.symm n1.2.2.1, Ne.symm n1.2.2.2, Ne.symm n2.1, Ne.symm n2.2.1, Ne.symm n2.2.2, Ne.symm n3.1, Ne.symm n3.2, Ne.symm n4]) ?_
          refine r_iasts (d := mX1_move) (pc := 42) (a := c) (lay0, mUp (mUp I w y (I w x)) c y (I c x), P) dX1_move_42 hO.2.2.1 (by omega) (by omega) rfl ?_
          refine r_aload_n (d := mX1_move) (pc := 43) (i := 0) (v := a) dX1_move_43 rfl rfl ?_
          refine r_getRs (d := mX1_move) (pc := 44) (a := a) (kd := 1) (j := 3) (x := f) dX1_move_44 flRX1_22 hO.1 (by decide) (by decide) rfl hO.2.2.2.2.2.2.2.2.1 ?_
          refine r_iload_n (d := mX1_move) (pc := 47) (i := 2) (v := y) dX1_move_47 rfl rfl ?_
          refine r_aload_n (d := mX1_move) (pc := 48) (i := 0) (v := a) dX1_move_48 rfl rfl ?_
          refine r_getRs (d := mX1_move) (pc := 49) (a := a) (kd := 1) (j := 3) (x := f) dX1_move_49 flRX1_22 hO.1 (by decide) (by decide) rfl hO.2.2.2.2.2.2.2.2.1 ?_
          refine r_iload_n (d := mX1_move) (pc := 52) (i := 1) (v := x) dX1_move_52 rfl rfl ?_
          refine r_ialds (d := mX1_move) (pc := 53) (a := f) (x := (I f x)) dX1_move_53 hO.2.2.2.1 (by omega) (by omega) (by simp [mUp, cpy, fset, n0, n1, n2, n3, n4, Ne.symm n0.1, Ne.symm n0.2.1, Ne.symm n0.2.2.1, Ne.symm n0.2.2.2.1, Ne.symm n0.2.2.2.2, Ne.symm n1.1, Ne.symm n1.2.1, Ne.symm n1.2.2.1, Ne.symm n1.2.2.2, Ne.symm n2.1, Ne.symm n2.2.1, Ne.symm n2.2.2, Ne.symm n3.1, Ne.symm n3.2, Ne.symm n4]) ?_
          refine r_iasts (d := mX1_move) (pc := 54) (a := f) (lay0, mUp (mUp (mUp I w y (I w x)) c y (I c x)) f y (I f x), P) dX1_move_54 hO.2.2.2.1 (by omega) (by omega) rfl ?_
          refine r_aload_n (d := mX1_move) (pc := 55) (i := 0) (v := a) dX1_move_55 rfl rfl ?_
          refine r_getRs (d := mX1_move) (pc := 56) (a := a) (kd := 1) (j := 4) (x := g) dX1_move_56 flRX1_25 hO.1 (by decide) (by decide) rfl hO.2.2.2.2.2.2.2.2.2.1 ?_
          refine r_iload_n (d := mX1_move) (pc := 59) (i := 2) (v := y) dX1_move_59 rfl rfl ?_
          refine r_aload_n (d := mX1_move) (pc := 60) (i := 0) (v := a) dX1_move_60 rfl rfl ?_
          refine r_getRs (d := mX1_move) (pc := 61) (a := a) (kd := 1) (j := 4) (x := g) dX1_move_61 flRX1_25 hO.1 (by decide) (by decide) rfl hO.2.2.2.2.2.2.2.2.2.1 ?_
          refine r_iload_n (d := mX1_move) (pc := 64) (i := 1) (v := x) dX1_move_64 rfl rfl ?_
          refine r_ialds (d := mX1_move) (pc := 65) (a := g) (x := (I g x)) dX1_move_65 hO.2.2.2.2.1 (by omega) (by omega) (by simp [mUp, cpy, fset, n0, n1, n2, n3, n4, Ne.symm n0.1, Ne.symm n0.2.1, Ne.symm n0.2.2.1, Ne.symm n0.2.2.2.1, Ne.symm n0.2.2.2.2, Ne.symm n1.1, Ne.symm n1.2.1, Ne.symm n1.2.2.1, Ne.symm n1.2.2.2, Ne.symm n2.1, Ne.symm n2.2.1, Ne.symm n2.2.2, Ne.symm n3.1, Ne.symm n3.2, Ne.symm n4]) ?_
          refine r_iasts (d := mX1_move) (pc := 66) (a := g) (lay0, mUp (mUp (mUp (mUp I w y (I w x)) c y (I c x)) f y (I f x)) g y (I g x), P) dX1_move_66 hO.2.2.2.2.1 (by omega) (by omega) rfl ?_
          refine r_aload_n (d := mX1_move) (pc := 67) (i := 0) (v := a) dX1_move_67 rfl rfl ?_
          refine r_getRs (d := mX1_move) (pc := 68) (a := a) (kd := 1) (j := 5) (x := m) dX1_move_68 flRX1_28 hO.1 (by decide) (by decide) rfl hO.2.2.2.2.2.2.2.2.2.2 ?_
          refine r_iload_n (d := mX1_move) (pc := 71) (i := 2) (v := y) dX1_move_71 rfl rfl ?_
          refine r_aload_n (d := mX1_move) (pc := 72) (i := 0) (v := a) dX1_move_72 rfl rfl ?_
          refine r_getRs (d := mX1_move) (pc := 73) (a := a) (kd := 1) (j := 5) (x := m) dX1_move_73 flRX1_28 hO.1 (by decide) (by decide) rfl hO.2.2.2.2.2.2.2.2.2.2 ?_
          refine r_iload_n (d := mX1_move) (pc := 76) (i := 1) (v := x) dX1_move_76 rfl rfl ?_
          refine r_ialds (d := mX1_move) (pc := 77) (a := m) (x := (I m x)) dX1_move_77 hO.2.2.2.2.2.1 (by omega) (by omega) (by simp [mUp, cpy, fset, n0, n1, n2, n3, n4, Ne.symm n0.1, Ne.symm n0.2.1, Ne.symm n0.2.2.1, Ne.symm n0.2.2.2.1, Ne.symm n0.2.2.2.2, Ne.symm n1.1, Ne.symm n1.2.1, Ne.symm n1.2.2.1, Ne.symm n1.2.2.2, Ne.symm n2.1, Ne.symm n2.2.1, Ne.symm n2.2.2, Ne.symm n3.1, Ne.symm n3.2, Ne.symm n4]) ?_
          refine r_iasts (d := mX1_move) (pc := 78) (a := m) (lay0, mUp (mUp (mUp (mUp (mUp I w y (I w x)) c y (I c x)) f y (I f x)) g y (I g x)) m y (I m x), P) dX1_move_78 hO.2.2.2.2.2.1 (by omega) (by omega) rfl ?_
          exact r_ret (d := mX1_move) (pc := 79) dX1_move_79 rfl (rtV (by unfold oMove; first | rw [if_pos (by omega)] | rw [if_neg (by omega)])) (by decide) (by decide)
set_option maxRecDepth 20000 in
set_option maxHeartbeats 4000000 in
theorem Fn_X1_readersOf (k : Nat) (I : mIt) (P : mPt) (a w c f g m : Nat) (hO : isOr P a w c f g m) (n : Nat) (hn : I a 0 = n) (hn6 : n ≤ 6) (x : Int) : WP (k + 0) mX1_readersOf none (0, 0) (Rt (some (.inl (rdrs (I f) (I g) x n))) (lay0, I, P)) 0 [(0, .inr (some a)), (1, .inl x)] [] (lay0, I, P) := by
  refine r_iconst (d := mX1_readersOf) (pc := 0) (n := 0) dX1_readersOf_0 ?_
  refine r_istore_n (d := mX1_readersOf) (pc := 1) (i := 2) (lv' := [(0, .inr (some a)), (1, .inl x), (2, .inl 0)]) dX1_readersOf_1 rfl (by decide) rfl rfl ?_
  refine r_iconst (d := mX1_readersOf) (pc := 2) (n := 0) dX1_readersOf_2 ?_
  refine r_istore_n (d := mX1_readersOf) (pc := 3) (i := 3) (lv' := [(0, .inr (some a)), (1, .inl x), (2, .inl 0), (3, .inl 0)]) dX1_readersOf_3 rfl (by decide) rfl rfl ?_
  have L4 : ∀ j : Nat, j ≤ n → WP (k + 0) mX1_readersOf none (0, 0) (Rt (some (.inl (rdrs (I f) (I g) x n))) (lay0, I, P)) 4 [(0, .inr (some a)), (1, .inl x), (2, .inl (rdrs (I f) (I g) x j)), (3, .inl (j : Int))] [] (lay0, I, P) := by
    refine loopN (n) _ (fun j ih4 hj4 => ?_)
    have hr4 := rdrs_le (I f) (I g) x j
    refine r_iload_n (d := mX1_readersOf) (pc := 4) (i := 3) (v := (j : Int)) dX1_readersOf_4 rfl rfl ?_
    refine r_aload_n (d := mX1_readersOf) (pc := 5) (i := 0) (v := a) dX1_readersOf_5 rfl rfl ?_
    refine r_getIs (d := mX1_readersOf) (pc := 6) (a := a) (kd := 1) (j := 0) (x := (I a 0)) dX1_readersOf_6 flRX1_9 hO.1 (by decide) (by decide) rfl (rfl) ?_
    refine r_icmp_ge (d := mX1_readersOf) (pc := 9) (tgt := 47) dX1_readersOf_9 (by decide) (fun h9 => ?_) (fun h9 => ?_)
    · refine r_iload_n (d := mX1_readersOf) (pc := 47) (i := 2) (v := rdrs (I f) (I g) x j) dX1_readersOf_47 rfl rfl ?_
      exact r_iret (d := mX1_readersOf) (pc := 48) dX1_readersOf_48 rfl (rtI (by rw [show j = n by omega]) (by rfl)) (by decide) (by decide)
    · refine r_iload_n (d := mX1_readersOf) (pc := 12) (i := 3) (v := (j : Int)) dX1_readersOf_12 rfl rfl ?_
      refine r_bipush (d := mX1_readersOf) (pc := 13) (n := 6) dX1_readersOf_13 ?_
      refine r_icmp_ge (d := mX1_readersOf) (pc := 15) (tgt := 47) dX1_readersOf_15 (by decide) (fun h15 => ?_) (fun h15 => ?_)
      · refine r_iload_n (d := mX1_readersOf) (pc := 47) (i := 2) (v := rdrs (I f) (I g) x j) dX1_readersOf_47 rfl rfl ?_
        exact r_iret (d := mX1_readersOf) (pc := 48) dX1_readersOf_48 rfl (rtI (by rw [show j = n by omega]) (by rfl)) (by decide) (by decide)
      · refine r_aload_n (d := mX1_readersOf) (pc := 18) (i := 0) (v := a) dX1_readersOf_18 rfl rfl ?_
        refine r_getRs (d := mX1_readersOf) (pc := 19) (a := a) (kd := 1) (j := 3) (x := f) dX1_readersOf_19 flRX1_22 hO.1 (by decide) (by decide) rfl hO.2.2.2.2.2.2.2.2.1 ?_
        refine r_iload_n (d := mX1_readersOf) (pc := 22) (i := 3) (v := (j : Int)) dX1_readersOf_22 rfl rfl ?_
        refine r_ialds (d := mX1_readersOf) (pc := 23) (a := f) (x := (I f (j : Int))) dX1_readersOf_23 hO.2.2.2.1 (by omega) (by omega) (rfl) ?_
        refine r_iload_n (d := mX1_readersOf) (pc := 24) (i := 1) (v := x) dX1_readersOf_24 rfl rfl ?_
        refine r_icmp_eq (d := mX1_readersOf) (pc := 25) (tgt := 38) dX1_readersOf_25 (by decide) (fun h25 => ?_) (fun h25 => ?_)
        · refine r_iinc (d := mX1_readersOf) (pc := 38) (i := 2) (v := rdrs (I f) (I g) x j) (y := (rdrs (I f) (I g) x j + 1)) (lv' := [(0, .inr (some a)), (1, .inl x), (2, .inl (rdrs (I f) (I g) x j + 1)), (3, .inl (j : Int))]) dX1_readersOf_38 rfl (by decide) rfl rfl rfl ?_
          refine r_iinc (d := mX1_readersOf) (pc := 41) (i := 3) (v := (j : Int)) (y := ((j + 1 : Nat) : Int)) (lv' := [(0, .inr (some a)), (1, .inl x), (2, .inl (rdrs (I f) (I g) x j + 1)), (3, .inl ((j + 1 : Nat) : Int))]) dX1_readersOf_41 rfl (by decide) rfl (by omega) rfl ?_
          refine r_goto (d := mX1_readersOf) (pc := 44) (tgt := 4) dX1_readersOf_44 (by decide) ?_
          exact wpE (by simp [rdrs, *]) rfl (by rfl) (ih4 (by omega) (by omega))
        · refine r_aload_n (d := mX1_readersOf) (pc := 28) (i := 0) (v := a) dX1_readersOf_28 rfl rfl ?_
          refine r_getRs (d := mX1_readersOf) (pc := 29) (a := a) (kd := 1) (j := 4) (x := g) dX1_readersOf_29 flRX1_25 hO.1 (by decide) (by decide) rfl hO.2.2.2.2.2.2.2.2.2.1 ?_
          refine r_iload_n (d := mX1_readersOf) (pc := 32) (i := 3) (v := (j : Int)) dX1_readersOf_32 rfl rfl ?_
          refine r_ialds (d := mX1_readersOf) (pc := 33) (a := g) (x := (I g (j : Int))) dX1_readersOf_33 hO.2.2.2.2.1 (by omega) (by omega) (rfl) ?_
          refine r_iload_n (d := mX1_readersOf) (pc := 34) (i := 1) (v := x) dX1_readersOf_34 rfl rfl ?_
          refine r_icmp_ne (d := mX1_readersOf) (pc := 35) (tgt := 41) dX1_readersOf_35 (by decide) (fun h35 => ?_) (fun h35 => ?_)
          · refine r_iinc (d := mX1_readersOf) (pc := 41) (i := 3) (v := (j : Int)) (y := ((j + 1 : Nat) : Int)) (lv' := [(0, .inr (some a)), (1, .inl x), (2, .inl (rdrs (I f) (I g) x j)), (3, .inl ((j + 1 : Nat) : Int))]) dX1_readersOf_41 rfl (by decide) rfl (by omega) rfl ?_
            refine r_goto (d := mX1_readersOf) (pc := 44) (tgt := 4) dX1_readersOf_44 (by decide) ?_
            exact wpE (by simp [rdrs, *]) rfl (by rfl) (ih4 (by omega) (by omega))
          · refine r_iinc (d := mX1_readersOf) (pc := 38) (i := 2) (v := rdrs (I f) (I g) x j) (y := (rdrs (I f) (I g) x j + 1)) (lv' := [(0, .inr (some a)), (1, .inl x), (2, .inl (rdrs (I f) (I g) x j + 1)), (3, .inl (j : Int))]) dX1_readersOf_38 rfl (by decide) rfl rfl rfl ?_
            refine r_iinc (d := mX1_readersOf) (pc := 41) (i := 3) (v := (j : Int)) (y := ((j + 1 : Nat) : Int)) (lv' := [(0, .inr (some a)), (1, .inl x), (2, .inl (rdrs (I f) (I g) x j + 1)), (3, .inl ((j + 1 : Nat) : Int))]) dX1_readersOf_41 rfl (by decide) rfl (by omega) rfl ?_
            refine r_goto (d := mX1_readersOf) (pc := 44) (tgt := 4) dX1_readersOf_44 (by decide) ?_
            exact wpE (by simp [rdrs, *]) rfl (by rfl) (ih4 (by omega) (by omega))
  exact wpE (by simp [rdrs]) rfl (by rfl) (L4 0 (by omega))
set_option maxRecDepth 20000 in
set_option maxHeartbeats 4000000 in
theorem Fn_X1_makeFor (k : Nat) (I : mIt) (P : mPt) (a w c f g m : Nat) (hO : isOr P a w c f g m) (n : Nat) (hn : I a 0 = n) (hn6 : n ≤ 6) (x : Int) : WP (k + 0) mX1_makeFor none (0, 0) (Rt (some (.inl (bI (anyE (I c) x n = true)))) (lay0, I, P)) 0 [(0, .inr (some a)), (1, .inl x)] [] (lay0, I, P) := by
  refine r_iconst (d := mX1_makeFor) (pc := 0) (n := 0) dX1_makeFor_0 ?_
  refine r_istore_n (d := mX1_makeFor) (pc := 1) (i := 2) (lv' := [(0, .inr (some a)), (1, .inl x), (2, .inl 0)]) dX1_makeFor_1 rfl (by decide) rfl rfl ?_
  have L2 : ∀ j : Nat, j ≤ n → anyE (I c) x j = false → WP (k + 0) mX1_makeFor none (0, 0) (Rt (some (.inl (bI (anyE (I c) x n = true)))) (lay0, I, P)) 2 [(0, .inr (some a)), (1, .inl x), (2, .inl (j : Int))] [] (lay0, I, P) := by
    refine loopN (n) _ (fun j ih2 hj2 hy2 => ?_)
    refine r_iload_n (d := mX1_makeFor) (pc := 2) (i := 2) (v := (j : Int)) dX1_makeFor_2 rfl rfl ?_
    refine r_aload_n (d := mX1_makeFor) (pc := 3) (i := 0) (v := a) dX1_makeFor_3 rfl rfl ?_
    refine r_getIs (d := mX1_makeFor) (pc := 4) (a := a) (kd := 1) (j := 0) (x := (I a 0)) dX1_makeFor_4 flRX1_9 hO.1 (by decide) (by decide) rfl (rfl) ?_
    refine r_icmp_ge (d := mX1_makeFor) (pc := 7) (tgt := 34) dX1_makeFor_7 (by decide) (fun h7 => ?_) (fun h7 => ?_)
    · refine r_iconst (d := mX1_makeFor) (pc := 34) (n := 0) dX1_makeFor_34 ?_
      exact r_zret (d := mX1_makeFor) (pc := 35) dX1_makeFor_35 rfl (Or.inl rfl) (rtI (by rw [← show j = n by omega, hy2]; rfl) (by rfl)) (by decide) (by decide)
    · refine r_iload_n (d := mX1_makeFor) (pc := 10) (i := 2) (v := (j : Int)) dX1_makeFor_10 rfl rfl ?_
      refine r_bipush (d := mX1_makeFor) (pc := 11) (n := 6) dX1_makeFor_11 ?_
      refine r_icmp_ge (d := mX1_makeFor) (pc := 13) (tgt := 34) dX1_makeFor_13 (by decide) (fun h13 => ?_) (fun h13 => ?_)
      · refine r_iconst (d := mX1_makeFor) (pc := 34) (n := 0) dX1_makeFor_34 ?_
        exact r_zret (d := mX1_makeFor) (pc := 35) dX1_makeFor_35 rfl (Or.inl rfl) (rtI (by rw [← show j = n by omega, hy2]; rfl) (by rfl)) (by decide) (by decide)
      · refine r_aload_n (d := mX1_makeFor) (pc := 16) (i := 0) (v := a) dX1_makeFor_16 rfl rfl ?_
        refine r_getRs (d := mX1_makeFor) (pc := 17) (a := a) (kd := 1) (j := 2) (x := c) dX1_makeFor_17 flRX1_19 hO.1 (by decide) (by decide) rfl hO.2.2.2.2.2.2.2.1 ?_
        refine r_iload_n (d := mX1_makeFor) (pc := 20) (i := 2) (v := (j : Int)) dX1_makeFor_20 rfl rfl ?_
        refine r_ialds (d := mX1_makeFor) (pc := 21) (a := c) (x := (I c (j : Int))) dX1_makeFor_21 hO.2.2.1 (by omega) (by omega) (rfl) ?_
        refine r_iload_n (d := mX1_makeFor) (pc := 22) (i := 1) (v := x) dX1_makeFor_22 rfl rfl ?_
        refine r_icmp_ne (d := mX1_makeFor) (pc := 23) (tgt := 28) dX1_makeFor_23 (by decide) (fun h23 => ?_) (fun h23 => ?_)
        · refine r_iinc (d := mX1_makeFor) (pc := 28) (i := 2) (v := (j : Int)) (y := ((j + 1 : Nat) : Int)) (lv' := [(0, .inr (some a)), (1, .inl x), (2, .inl ((j + 1 : Nat) : Int))]) dX1_makeFor_28 rfl (by decide) rfl (by omega) rfl ?_
          refine r_goto (d := mX1_makeFor) (pc := 31) (tgt := 2) dX1_makeFor_31 (by decide) ?_
          exact wpE (by simp) rfl (by rfl) (ih2 (by omega) (by omega) (by simp [anyE, *]))
        · refine r_iconst (d := mX1_makeFor) (pc := 26) (n := 1) dX1_makeFor_26 ?_
          exact r_zret (d := mX1_makeFor) (pc := 27) dX1_makeFor_27 rfl (Or.inr rfl) (rtI (by exact (bI_t ((anyE_iff _ _ _).mpr ⟨j, by omega, h23⟩)).symm) (by rfl)) (by decide) (by decide)
  exact wpE (by simp) rfl (by rfl) (L2 0 (by omega) (by rfl))
set_option maxRecDepth 20000 in
set_option maxHeartbeats 4000000 in
theorem Fn_X1_forgetFirstMark (k : Nat) (I : mIt) (P : mPt) (a w c f g m : Nat) (hO : isOr P a w c f g m) (n : Nat) (hn : I a 0 = n) (hn6 : n ≤ 6) (ham : a ≠ m) : WP (k + 0) mX1_forgetFirstMark none (0, 0) (Rt none (lay0, cpy I m n (fun i => if 0 < I m i then I m i - 1 else I m i), P)) 0 [(0, .inr (some a))] [] (lay0, I, P) := by
  refine wpOk (fun hok => ?_)
  refine r_iconst (d := mX1_forgetFirstMark) (pc := 0) (n := 0) dX1_forgetFirstMark_0 ?_
  refine r_istore_n (d := mX1_forgetFirstMark) (pc := 1) (i := 1) (lv' := [(0, .inr (some a)), (1, .inl 0)]) dX1_forgetFirstMark_1 rfl (by decide) rfl rfl ?_
  have L2 : ∀ j : Nat, j ≤ n → WP (k + 0) mX1_forgetFirstMark none (0, 0) (Rt none (lay0, cpy I m n (fun i => if 0 < I m i then I m i - 1 else I m i), P)) 2 [(0, .inr (some a)), (1, .inl (j : Int))] [] (lay0, cpy I m j (fun i => if 0 < I m i then I m i - 1 else I m i), P) := by
    refine loopN (n) _ (fun j ih2 hj2 => ?_)
    refine r_iload_n (d := mX1_forgetFirstMark) (pc := 2) (i := 1) (v := (j : Int)) dX1_forgetFirstMark_2 rfl rfl ?_
    refine r_aload_n (d := mX1_forgetFirstMark) (pc := 3) (i := 0) (v := a) dX1_forgetFirstMark_3 rfl rfl ?_
    refine r_getIs (d := mX1_forgetFirstMark) (pc := 4) (a := a) (kd := 1) (j := 0) (x := (I a 0)) dX1_forgetFirstMark_4 flRX1_9 hO.1 (by decide) (by decide) rfl (by simp [mUp, cpy, fset, ham, Ne.symm ham]) ?_
    refine r_icmp_ge (d := mX1_forgetFirstMark) (pc := 7) (tgt := 41) dX1_forgetFirstMark_7 (by decide) (fun h7 => ?_) (fun h7 => ?_)
    · exact r_ret (d := mX1_forgetFirstMark) (pc := 41) dX1_forgetFirstMark_41 rfl (rtV (by rw [show j = n by omega])) (by decide) (by decide)
    · refine r_iload_n (d := mX1_forgetFirstMark) (pc := 10) (i := 1) (v := (j : Int)) dX1_forgetFirstMark_10 rfl rfl ?_
      refine r_bipush (d := mX1_forgetFirstMark) (pc := 11) (n := 6) dX1_forgetFirstMark_11 ?_
      refine r_icmp_ge (d := mX1_forgetFirstMark) (pc := 13) (tgt := 41) dX1_forgetFirstMark_13 (by decide) (fun h13 => ?_) (fun h13 => ?_)
      · exact r_ret (d := mX1_forgetFirstMark) (pc := 41) dX1_forgetFirstMark_41 rfl (rtV (by rw [show j = n by omega])) (by decide) (by decide)
      · refine r_aload_n (d := mX1_forgetFirstMark) (pc := 16) (i := 0) (v := a) dX1_forgetFirstMark_16 rfl rfl ?_
        refine r_getRs (d := mX1_forgetFirstMark) (pc := 17) (a := a) (kd := 1) (j := 5) (x := m) dX1_forgetFirstMark_17 flRX1_28 hO.1 (by decide) (by decide) rfl hO.2.2.2.2.2.2.2.2.2.2 ?_
        refine r_iload_n (d := mX1_forgetFirstMark) (pc := 20) (i := 1) (v := (j : Int)) dX1_forgetFirstMark_20 rfl rfl ?_
        refine r_ialds (d := mX1_forgetFirstMark) (pc := 21) (a := m) (x := (I m (j : Int))) dX1_forgetFirstMark_21 hO.2.2.2.2.2.1 (by omega) (by omega) (by simp [mUp, cpy, fset, ham, Ne.symm ham]) ?_
        refine r_if_le (d := mX1_forgetFirstMark) (pc := 22) (tgt := 35) dX1_forgetFirstMark_22 (by decide) (fun h22 => ?_) (fun h22 => ?_)
        · refine r_iinc (d := mX1_forgetFirstMark) (pc := 35) (i := 1) (v := (j : Int)) (y := ((j + 1 : Nat) : Int)) (lv' := [(0, .inr (some a)), (1, .inl ((j + 1 : Nat) : Int))]) dX1_forgetFirstMark_35 rfl (by decide) rfl (by omega) rfl ?_
          refine r_goto (d := mX1_forgetFirstMark) (pc := 38) (tgt := 2) dX1_forgetFirstMark_38 (by decide) ?_
          exact wpE (by simp) rfl (by first | (refine memE (cpy_s _ _ _ _ _ ?_); rw [if_pos (by omega)]; done) | (refine memE (cpy_skip _ ?_); rw [if_neg (by omega)]; done)) (ih2 (by omega) (by omega))
        · refine r_aload_n (d := mX1_forgetFirstMark) (pc := 25) (i := 0) (v := a) dX1_forgetFirstMark_25 rfl rfl ?_
          refine r_getRs (d := mX1_forgetFirstMark) (pc := 26) (a := a) (kd := 1) (j := 5) (x := m) dX1_forgetFirstMark_26 flRX1_28 hO.1 (by decide) (by decide) rfl hO.2.2.2.2.2.2.2.2.2.2 ?_
          refine r_iload_n (d := mX1_forgetFirstMark) (pc := 29) (i := 1) (v := (j : Int)) dX1_forgetFirstMark_29 rfl rfl ?_
          refine r_dup2 (d := mX1_forgetFirstMark) (pc := 30) dX1_forgetFirstMark_30 ?_
          refine r_ialds (d := mX1_forgetFirstMark) (pc := 31) (a := m) (x := (I m (j : Int))) dX1_forgetFirstMark_31 hO.2.2.2.2.2.1 (by omega) (by omega) (by simp [mUp, cpy, fset, ham, Ne.symm ham]) ?_
          refine r_iconst (d := mX1_forgetFirstMark) (pc := 32) (n := 1) dX1_forgetFirstMark_32 ?_
          refine r_isub (d := mX1_forgetFirstMark) (pc := 33) dX1_forgetFirstMark_33 ?_ (by have h9 : mI (I m j) := (hok m j).1; unfold mI at *; omega)
          refine r_iasts (d := mX1_forgetFirstMark) (pc := 34) (a := m) (lay0, mUp (cpy I m j (fun i => if 0 < I m i then I m i - 1 else I m i)) m (j : Int) ((I m (j : Int)) - 1), P) dX1_forgetFirstMark_34 hO.2.2.2.2.2.1 (by omega) (by omega) rfl ?_
          refine r_iinc (d := mX1_forgetFirstMark) (pc := 35) (i := 1) (v := (j : Int)) (y := ((j + 1 : Nat) : Int)) (lv' := [(0, .inr (some a)), (1, .inl ((j + 1 : Nat) : Int))]) dX1_forgetFirstMark_35 rfl (by decide) rfl (by omega) rfl ?_
          refine r_goto (d := mX1_forgetFirstMark) (pc := 38) (tgt := 2) dX1_forgetFirstMark_38 (by decide) ?_
          exact wpE (by simp) rfl (by first | (refine memE (cpy_s _ _ _ _ _ ?_); rw [if_pos (by omega)]; done) | (refine memE (cpy_skip _ ?_); rw [if_neg (by omega)]; done)) (ih2 (by omega) (by omega))
  exact wpE (by simp) rfl (by rw [cpy_0]) (L2 0 (by omega))
set_option maxRecDepth 20000 in
set_option maxHeartbeats 4000000 in
theorem Fn_X1_dropGivenAfter (k : Nat) (I : mIt) (P : mPt) (a w c f g m : Nat) (hO : isOr P a w c f g m) (n : Nat) (hn : I a 0 = n) (hn6 : n ≤ 6) (ham : a ≠ m) (x : Int) : WP (k + 0) mX1_dropGivenAfter none (0, 0) (Rt (some (.inl ((n : Int) - (dropF (I m) x n : Nat)))) (lay0, mUp I a 0 (dropF (I m) x n : Nat), P)) 0 [(0, .inr (some a)), (1, .inl x)] [] (lay0, I, P) := by
  refine r_aload_n (d := mX1_dropGivenAfter) (pc := 0) (i := 0) (v := a) dX1_dropGivenAfter_0 rfl rfl ?_
  refine r_getIs (d := mX1_dropGivenAfter) (pc := 1) (a := a) (kd := 1) (j := 0) (x := (I a 0)) dX1_dropGivenAfter_1 flRX1_9 hO.1 (by decide) (by decide) rfl (rfl) ?_
  refine r_istore_n (d := mX1_dropGivenAfter) (pc := 4) (i := 2) (lv' := [(0, .inr (some a)), (1, .inl x), (2, .inl (I a 0))]) dX1_dropGivenAfter_4 rfl (by decide) rfl rfl ?_
  have L5 : ∀ j : Nat, j ≤ n → dropF (I m) x j = dropF (I m) x n → WP (k + 0) mX1_dropGivenAfter none (0, 0) (Rt (some (.inl ((n : Int) - (dropF (I m) x n : Nat)))) (lay0, mUp I a 0 (dropF (I m) x n : Nat), P)) 5 [(0, .inr (some a)), (1, .inl x), (2, .inl (n : Int))] [] (lay0, mUp I a 0 (j : Int), P) := by
    refine loopD _ (fun j ih5 hj hd => ?_)
    refine r_aload_n (d := mX1_dropGivenAfter) (pc := 5) (i := 0) (v := a) dX1_dropGivenAfter_5 rfl rfl ?_
    refine r_getIs (d := mX1_dropGivenAfter) (pc := 6) (a := a) (kd := 1) (j := 0) (x := (j : Int)) dX1_dropGivenAfter_6 flRX1_9 hO.1 (by decide) (by decide) rfl (by simp [mUp, cpy, fset, ham, Ne.symm ham, mUp_mUp]) ?_
    refine r_if_le (d := mX1_dropGivenAfter) (pc := 9) (tgt := 49) dX1_dropGivenAfter_9 (by decide) (fun h9 => ?_) (fun h9 => ?_)
    · refine r_iload_n (d := mX1_dropGivenAfter) (pc := 49) (i := 2) (v := (n : Int)) dX1_dropGivenAfter_49 rfl rfl ?_
      refine r_aload_n (d := mX1_dropGivenAfter) (pc := 50) (i := 0) (v := a) dX1_dropGivenAfter_50 rfl rfl ?_
      refine r_getIs (d := mX1_dropGivenAfter) (pc := 51) (a := a) (kd := 1) (j := 0) (x := (j : Int)) dX1_dropGivenAfter_51 flRX1_9 hO.1 (by decide) (by decide) rfl (by simp [mUp, cpy, fset, ham, Ne.symm ham, mUp_mUp]) ?_
      refine r_isub (d := mX1_dropGivenAfter) (pc := 54) dX1_dropGivenAfter_54 ?_
      exact r_iret (d := mX1_dropGivenAfter) (pc := 55) dX1_dropGivenAfter_55 rfl (rtI (by rw [← hd, dropF_st (I m) x j (by omega)]) (by rw [← hd, dropF_st (I m) x j (by omega)])) (by decide) (by decide)
    · refine r_aload_n (d := mX1_dropGivenAfter) (pc := 12) (i := 0) (v := a) dX1_dropGivenAfter_12 rfl rfl ?_
      refine r_getIs (d := mX1_dropGivenAfter) (pc := 13) (a := a) (kd := 1) (j := 0) (x := (j : Int)) dX1_dropGivenAfter_13 flRX1_9 hO.1 (by decide) (by decide) rfl (by simp [mUp, cpy, fset, ham, Ne.symm ham, mUp_mUp]) ?_
      refine r_bipush (d := mX1_dropGivenAfter) (pc := 16) (n := 6) dX1_dropGivenAfter_16 ?_
      refine r_icmp_gt (d := mX1_dropGivenAfter) (pc := 18) (tgt := 49) dX1_dropGivenAfter_18 (by decide) (fun h18 => ?_) (fun h18 => ?_)
      · refine r_iload_n (d := mX1_dropGivenAfter) (pc := 49) (i := 2) (v := (n : Int)) dX1_dropGivenAfter_49 rfl rfl ?_
        refine r_aload_n (d := mX1_dropGivenAfter) (pc := 50) (i := 0) (v := a) dX1_dropGivenAfter_50 rfl rfl ?_
        refine r_getIs (d := mX1_dropGivenAfter) (pc := 51) (a := a) (kd := 1) (j := 0) (x := (j : Int)) dX1_dropGivenAfter_51 flRX1_9 hO.1 (by decide) (by decide) rfl (by simp [mUp, cpy, fset, ham, Ne.symm ham, mUp_mUp]) ?_
        refine r_isub (d := mX1_dropGivenAfter) (pc := 54) dX1_dropGivenAfter_54 ?_
        exact r_iret (d := mX1_dropGivenAfter) (pc := 55) dX1_dropGivenAfter_55 rfl (rtI (by rw [← hd, dropF_st (I m) x j (by omega)]) (by rw [← hd, dropF_st (I m) x j (by omega)])) (by decide) (by decide)
      · refine r_aload_n (d := mX1_dropGivenAfter) (pc := 21) (i := 0) (v := a) dX1_dropGivenAfter_21 rfl rfl ?_
        refine r_getRs (d := mX1_dropGivenAfter) (pc := 22) (a := a) (kd := 1) (j := 5) (x := m) dX1_dropGivenAfter_22 flRX1_28 hO.1 (by decide) (by decide) rfl hO.2.2.2.2.2.2.2.2.2.2 ?_
        refine r_aload_n (d := mX1_dropGivenAfter) (pc := 25) (i := 0) (v := a) dX1_dropGivenAfter_25 rfl rfl ?_
        refine r_getIs (d := mX1_dropGivenAfter) (pc := 26) (a := a) (kd := 1) (j := 0) (x := (j : Int)) dX1_dropGivenAfter_26 flRX1_9 hO.1 (by decide) (by decide) rfl (by simp [mUp, cpy, fset, ham, Ne.symm ham, mUp_mUp]) ?_
        refine r_iconst (d := mX1_dropGivenAfter) (pc := 29) (n := 1) dX1_dropGivenAfter_29 ?_
        refine r_isub (d := mX1_dropGivenAfter) (pc := 30) dX1_dropGivenAfter_30 ?_
        refine r_ialds (d := mX1_dropGivenAfter) (pc := 31) (a := m) (x := (I m ((j : Int) - 1))) dX1_dropGivenAfter_31 hO.2.2.2.2.2.1 (by omega) (by omega) (by simp [mUp, cpy, fset, ham, Ne.symm ham, mUp_mUp]) ?_
        refine r_iload_n (d := mX1_dropGivenAfter) (pc := 32) (i := 1) (v := x) dX1_dropGivenAfter_32 rfl rfl ?_
        refine r_icmp_le (d := mX1_dropGivenAfter) (pc := 33) (tgt := 49) dX1_dropGivenAfter_33 (by decide) (fun h33 => ?_) (fun h33 => ?_)
        · refine r_iload_n (d := mX1_dropGivenAfter) (pc := 49) (i := 2) (v := (n : Int)) dX1_dropGivenAfter_49 rfl rfl ?_
          refine r_aload_n (d := mX1_dropGivenAfter) (pc := 50) (i := 0) (v := a) dX1_dropGivenAfter_50 rfl rfl ?_
          refine r_getIs (d := mX1_dropGivenAfter) (pc := 51) (a := a) (kd := 1) (j := 0) (x := (j : Int)) dX1_dropGivenAfter_51 flRX1_9 hO.1 (by decide) (by decide) rfl (by simp [mUp, cpy, fset, ham, Ne.symm ham, mUp_mUp]) ?_
          refine r_isub (d := mX1_dropGivenAfter) (pc := 54) dX1_dropGivenAfter_54 ?_
          exact r_iret (d := mX1_dropGivenAfter) (pc := 55) dX1_dropGivenAfter_55 rfl (rtI (by rw [← hd, dropF_st (I m) x j (by omega)]) (by rw [← hd, dropF_st (I m) x j (by omega)])) (by decide) (by decide)
        · refine r_aload_n (d := mX1_dropGivenAfter) (pc := 36) (i := 0) (v := a) dX1_dropGivenAfter_36 rfl rfl ?_
          refine r_dup (d := mX1_dropGivenAfter) (pc := 37) dX1_dropGivenAfter_37 ?_
          refine r_getIs (d := mX1_dropGivenAfter) (pc := 38) (a := a) (kd := 1) (j := 0) (x := (j : Int)) dX1_dropGivenAfter_38 flRX1_9 hO.1 (by decide) (by decide) rfl (by simp [mUp, cpy, fset, ham, Ne.symm ham, mUp_mUp]) ?_
          refine r_iconst (d := mX1_dropGivenAfter) (pc := 41) (n := 1) dX1_dropGivenAfter_41 ?_
          refine r_isub (d := mX1_dropGivenAfter) (pc := 42) dX1_dropGivenAfter_42 ?_
          refine r_putIs (d := mX1_dropGivenAfter) (pc := 43) (a := a) (kd := 1) (j := 0) (lay0, mUp (mUp I a 0 (j : Int)) a 0 ((j : Int) - 1), P) dX1_dropGivenAfter_43 flRX1_9 hO.1 (by decide) (by decide) rfl rfl (Or.inl rfl) rfl ?_
          refine r_goto (d := mX1_dropGivenAfter) (pc := 46) (tgt := 5) dX1_dropGivenAfter_46 (by decide) ?_
          exact wpE (by rfl) rfl (by rw [mUp_mUp, show (((j - 1 : Nat) : Int)) = (j : Int) - 1 by omega]) (ih5 (j - 1) (by omega) (by omega) (by rw [← hd, show j = j - 1 + 1 by omega]; simp only [Nat.add_sub_cancel]; conv => rhs; unfold dropF; rw [if_pos (by rw [show (((j - 1 : Nat) : Int)) = (j : Int) - 1 by omega]; omega)]))
  exact wpE (by rw [hn]) rfl (by rw [mUp_self _ hn]) (L5 (n) (by omega) (by rfl))
set_option maxRecDepth 20000 in
set_option maxHeartbeats 4000000 in
theorem Fn_X1_become (k : Nat) (I : mIt) (P : mPt) (a w c f g m : Nat) (hO : isOr P a w c f g m) (n0 : a ≠ w ∧ a ≠ c ∧ a ≠ f ∧ a ≠ g ∧ a ≠ m) (n1 : w ≠ c ∧ w ≠ f ∧ w ≠ g ∧ w ≠ m) (n2 : c ≠ f ∧ c ≠ g ∧ c ≠ m) (n3 : f ≠ g ∧ f ≠ m) (n4 : g ≠ m) (a2 w2 c2 f2 g2 m2 : Nat) (hO2 : isOr P a2 w2 c2 f2 g2 m2) (q1 : w2 ≠ a ∧ w2 ≠ w ∧ w2 ≠ c ∧ w2 ≠ f ∧ w2 ≠ g ∧ w2 ≠ m) (q2 : c2 ≠ a ∧ c2 ≠ w ∧ c2 ≠ c ∧ c2 ≠ f ∧ c2 ≠ g ∧ c2 ≠ m) (q3 : f2 ≠ a ∧ f2 ≠ w ∧ f2 ≠ c ∧ f2 ≠ f ∧ f2 ≠ g ∧ f2 ≠ m) (q4 : g2 ≠ a ∧ g2 ≠ w ∧ g2 ≠ c ∧ g2 ≠ f ∧ g2 ≠ g ∧ g2 ≠ m) (q5 : m2 ≠ a ∧ m2 ≠ w ∧ m2 ≠ c ∧ m2 ≠ f ∧ m2 ≠ g ∧ m2 ≠ m) : WP (k + 0) mX1_become none (0, 0) (Rt none (lay0, cpy (cpy (cpy (cpy (cpy (mUp I a 0 (I a2 0)) w 6 (I w2)) c 6 (I c2)) f 6 (I f2)) g 6 (I g2)) m 6 (I m2), P)) 0 [(0, .inr (some a)), (1, .inr (some a2))] [] (lay0, I, P) := by
  refine r_aload_n (d := mX1_become) (pc := 0) (i := 0) (v := a) dX1_become_0 rfl rfl ?_
  refine r_aload_n (d := mX1_become) (pc := 1) (i := 1) (v := a2) dX1_become_1 rfl rfl ?_
  refine r_getIs (d := mX1_become) (pc := 2) (a := a2) (kd := 1) (j := 0) (x := (I a2 0)) dX1_become_2 flRX1_9 hO2.1 (by decide) (by decide) rfl (rfl) ?_
  refine r_putIs (d := mX1_become) (pc := 5) (a := a) (kd := 1) (j := 0) (lay0, mUp I a 0 (I a2 0), P) dX1_become_5 flRX1_9 hO.1 (by decide) (by decide) rfl rfl (Or.inl rfl) rfl ?_
  refine r_iconst (d := mX1_become) (pc := 8) (n := 0) dX1_become_8 ?_
  refine r_istore_n (d := mX1_become) (pc := 9) (i := 2) (lv' := [(0, .inr (some a)), (1, .inr (some a2)), (2, .inl 0)]) dX1_become_9 rfl (by decide) rfl rfl ?_
  have L10 : ∀ j : Nat, j ≤ 6 → WP (k + 0) mX1_become none (0, 0) (Rt none (lay0, cpy (cpy (cpy (cpy (cpy (mUp I a 0 (I a2 0)) w 6 (I w2)) c 6 (I c2)) f 6 (I f2)) g 6 (I g2)) m 6 (I m2), P)) 10 [(0, .inr (some a)), (1, .inr (some a2)), (2, .inl (j : Int))] [] (lay0, cpy (cpy (cpy (cpy (cpy (mUp I a 0 (I a2 0)) w j (I w2)) c j (I c2)) f j (I f2)) g j (I g2)) m j (I m2), P) := by
    refine loopN (6) _ (fun j ih10 hj10 => ?_)
    refine r_iload_n (d := mX1_become) (pc := 10) (i := 2) (v := (j : Int)) dX1_become_10 rfl rfl ?_
    refine r_bipush (d := mX1_become) (pc := 11) (n := 6) dX1_become_11 ?_
    refine r_icmp_ge (d := mX1_become) (pc := 13) (tgt := 82) dX1_become_13 (by decide) (fun h13 => ?_) (fun h13 => ?_)
    · exact r_ret (d := mX1_become) (pc := 82) dX1_become_82 rfl (rtV (by rw [show j = 6 by omega])) (by decide) (by decide)
    · refine r_aload_n (d := mX1_become) (pc := 16) (i := 0) (v := a) dX1_become_16 rfl rfl ?_
      refine r_getRs (d := mX1_become) (pc := 17) (a := a) (kd := 1) (j := 1) (x := w) dX1_become_17 flRX1_15 hO.1 (by decide) (by decide) rfl hO.2.2.2.2.2.2.1 ?_
      refine r_iload_n (d := mX1_become) (pc := 20) (i := 2) (v := (j : Int)) dX1_become_20 rfl rfl ?_
      refine r_aload_n (d := mX1_become) (pc := 21) (i := 1) (v := a2) dX1_become_21 rfl rfl ?_
      refine r_getRs (d := mX1_become) (pc := 22) (a := a2) (kd := 1) (j := 1) (x := w2) dX1_become_22 flRX1_15 hO2.1 (by decide) (by decide) rfl hO2.2.2.2.2.2.2.1 ?_
      refine r_iload_n (d := mX1_become) (pc := 25) (i := 2) (v := (j : Int)) dX1_become_25 rfl rfl ?_
      refine r_ialds (d := mX1_become) (pc := 26) (a := w2) (x := (I w2 (j : Int))) dX1_become_26 hO2.2.1 (by omega) (by omega) (by simp [mUp, cpy, fset, n0, n1, n2, n3, n4, Ne.symm n0.1, Ne.symm n0.2.1, Ne.symm n0.2.2.1, Ne.symm n0.2.2.2.1, Ne.symm n0.2.2.2.2, Ne.symm n1.1, Ne.symm n1.2.1, Ne.symm n1.2.2.1, Ne.symm n1.2.2.2, Ne.symm n2.1, Ne.symm n2.2.1, Ne.symm n2.2.2, Ne.symm n3.1, Ne.symm n3.2, Ne.symm n4, q1, q2, q3, q4, q5]) ?_
      refine r_iasts (d := mX1_become) (pc := 27) (a := w) (lay0, mUp (cpy (cpy (cpy (cpy (cpy (mUp I a 0 (I a2 0)) w j (I w2)) c j (I c2)) f j (I f2)) g j (I g2)) m j (I m2)) w (j : Int) (I w2 (j : Int)), P) dX1_become_27 hO.2.1 (by omega) (by omega) rfl ?_
      refine r_aload_n (d := mX1_become) (pc := 28) (i := 0) (v := a) dX1_become_28 rfl rfl ?_
      refine r_getRs (d := mX1_become) (pc := 29) (a := a) (kd := 1) (j := 2) (x := c) dX1_become_29 flRX1_19 hO.1 (by decide) (by decide) rfl hO.2.2.2.2.2.2.2.1 ?_
      refine r_iload_n (d := mX1_become) (pc := 32) (i := 2) (v := (j : Int)) dX1_become_32 rfl rfl ?_
      refine r_aload_n (d := mX1_become) (pc := 33) (i := 1) (v := a2) dX1_become_33 rfl rfl ?_
      refine r_getRs (d := mX1_become) (pc := 34) (a := a2) (kd := 1) (j := 2) (x := c2) dX1_become_34 flRX1_19 hO2.1 (by decide) (by decide) rfl hO2.2.2.2.2.2.2.2.1 ?_
      refine r_iload_n (d := mX1_become) (pc := 37) (i := 2) (v := (j : Int)) dX1_become_37 rfl rfl ?_
      refine r_ialds (d := mX1_become) (pc := 38) (a := c2) (x := (I c2 (j : Int))) dX1_become_38 hO2.2.2.1 (by omega) (by omega) (by simp [mUp, cpy, fset, n0, n1, n2, n3, n4, Ne.symm n0.1, Ne.symm n0.2.1, Ne.symm n0.2.2.1, Ne.symm n0.2.2.2.1, Ne.symm n0.2.2.2.2, Ne.symm n1.1, Ne.symm n1.2.1, Ne.symm n1.2.2.1, Ne.symm n1.2.2.2, Ne.symm n2.1, Ne.symm n2.2.1, Ne.symm n2.2.2, Ne.symm n3.1, Ne.symm n3.2, Ne.symm n4, q1, q2, q3, q4, q5]) ?_
      refine r_iasts (d := mX1_become) (pc := 39) (a := c) (lay0, mUp (mUp (cpy (cpy (cpy (cpy (cpy (mUp I a 0 (I a2 0)) w j (I w2)) c j (I c2)) f j (I f2)) g j (I g2)) m j (I m2)) w (j : Int) (I w2 (j : Int))) c (j : Int) (I c2 (j : Int)), P) dX1_become_39 hO.2.2.1 (by omega) (by omega) rfl ?_
      refine r_aload_n (d := mX1_become) (pc := 40) (i := 0) (v := a) dX1_become_40 rfl rfl ?_
      refine r_getRs (d := mX1_become) (pc := 41) (a := a) (kd := 1) (j := 3) (x := f) dX1_become_41 flRX1_22 hO.1 (by decide) (by decide) rfl hO.2.2.2.2.2.2.2.2.1 ?_
      refine r_iload_n (d := mX1_become) (pc := 44) (i := 2) (v := (j : Int)) dX1_become_44 rfl rfl ?_
      refine r_aload_n (d := mX1_become) (pc := 45) (i := 1) (v := a2) dX1_become_45 rfl rfl ?_
      refine r_getRs (d := mX1_become) (pc := 46) (a := a2) (kd := 1) (j := 3) (x := f2) dX1_become_46 flRX1_22 hO2.1 (by decide) (by decide) rfl hO2.2.2.2.2.2.2.2.2.1 ?_
      refine r_iload_n (d := mX1_become) (pc := 49) (i := 2) (v := (j : Int)) dX1_become_49 rfl rfl ?_
      refine r_ialds (d := mX1_become) (pc := 50) (a := f2) (x := (I f2 (j : Int))) dX1_become_50 hO2.2.2.2.1 (by omega) (by omega) (by simp [mUp, cpy, fset, n0, n1, n2, n3, n4, Ne.symm n0.1, Ne.symm n0.2.1, Ne.symm n0.2.2.1, Ne.symm n0.2.2.2.1, Ne.symm n0.2.2.2.2, Ne.symm n1.1, Ne.symm n1.2.1, Ne.symm n1.2.2.1, Ne.symm n1.2.2.2, Ne.symm n2.1, Ne.symm n2.2.1, Ne.symm n2.2.2, Ne.symm n3.1, Ne.symm n3.2, Ne.symm n4, q1, q2, q3, q4, q5]) ?_
      refine r_iasts (d := mX1_become) (pc := 51) (a := f) (lay0, mUp (mUp (mUp (cpy (cpy (cpy (cpy (cpy (mUp I a 0 (I a2 0)) w j (I w2)) c j (I c2)) f j (I f2)) g j (I g2)) m j (I m2)) w (j : Int) (I w2 (j : Int))) c (j : Int) (I c2 (j : Int))) f (j : Int) (I f2 (j : Int)), P) dX1_become_51 hO.2.2.2.1 (by omega) (by omega) rfl ?_
      refine r_aload_n (d := mX1_become) (pc := 52) (i := 0) (v := a) dX1_become_52 rfl rfl ?_
      refine r_getRs (d := mX1_become) (pc := 53) (a := a) (kd := 1) (j := 4) (x := g) dX1_become_53 flRX1_25 hO.1 (by decide) (by decide) rfl hO.2.2.2.2.2.2.2.2.2.1 ?_
      refine r_iload_n (d := mX1_become) (pc := 56) (i := 2) (v := (j : Int)) dX1_become_56 rfl rfl ?_
      refine r_aload_n (d := mX1_become) (pc := 57) (i := 1) (v := a2) dX1_become_57 rfl rfl ?_
      refine r_getRs (d := mX1_become) (pc := 58) (a := a2) (kd := 1) (j := 4) (x := g2) dX1_become_58 flRX1_25 hO2.1 (by decide) (by decide) rfl hO2.2.2.2.2.2.2.2.2.2.1 ?_
      refine r_iload_n (d := mX1_become) (pc := 61) (i := 2) (v := (j : Int)) dX1_become_61 rfl rfl ?_
      refine r_ialds (d := mX1_become) (pc := 62) (a := g2) (x := (I g2 (j : Int))) dX1_become_62 hO2.2.2.2.2.1 (by omega) (by omega) (by simp [mUp, cpy, fset, n0, n1, n2, n3, n4, Ne.symm n0.1, Ne.symm n0.2.1, Ne.symm n0.2.2.1, Ne.symm n0.2.2.2.1, Ne.symm n0.2.2.2.2, Ne.symm n1.1, Ne.symm n1.2.1, Ne.symm n1.2.2.1, Ne.symm n1.2.2.2, Ne.symm n2.1, Ne.symm n2.2.1, Ne.symm n2.2.2, Ne.symm n3.1, Ne.symm n3.2, Ne.symm n4, q1, q2, q3, q4, q5]) ?_
      refine r_iasts (d := mX1_become) (pc := 63) (a := g) (lay0, mUp (mUp (mUp (mUp (cpy (cpy (cpy (cpy (cpy (mUp I a 0 (I a2 0)) w j (I w2)) c j (I c2)) f j (I f2)) g j (I g2)) m j (I m2)) w (j : Int) (I w2 (j : Int))) c (j : Int) (I c2 (j : Int))) f (j : Int) (I f2 (j : Int))) g (j : Int) (I g2 (j : Int)), P) dX1_become_63 hO.2.2.2.2.1 (by omega) (by omega) rfl ?_
      refine r_aload_n (d := mX1_become) (pc := 64) (i := 0) (v := a) dX1_become_64 rfl rfl ?_
      refine r_getRs (d := mX1_become) (pc := 65) (a := a) (kd := 1) (j := 5) (x := m) dX1_become_65 flRX1_28 hO.1 (by decide) (by decide) rfl hO.2.2.2.2.2.2.2.2.2.2 ?_
      refine r_iload_n (d := mX1_become) (pc := 68) (i := 2) (v := (j : Int)) dX1_become_68 rfl rfl ?_
      refine r_aload_n (d := mX1_become) (pc := 69) (i := 1) (v := a2) dX1_become_69 rfl rfl ?_
      refine r_getRs (d := mX1_become) (pc := 70) (a := a2) (kd := 1) (j := 5) (x := m2) dX1_become_70 flRX1_28 hO2.1 (by decide) (by decide) rfl hO2.2.2.2.2.2.2.2.2.2.2 ?_
      refine r_iload_n (d := mX1_become) (pc := 73) (i := 2) (v := (j : Int)) dX1_become_73 rfl rfl ?_
      refine r_ialds (d := mX1_become) (pc := 74) (a := m2) (x := (I m2 (j : Int))) dX1_become_74 hO2.2.2.2.2.2.1 (by omega) (by omega) (by simp [mUp, cpy, fset, n0, n1, n2, n3, n4, Ne.symm n0.1, Ne.symm n0.2.1, Ne.symm n0.2.2.1, Ne.symm n0.2.2.2.1, Ne.symm n0.2.2.2.2, Ne.symm n1.1, Ne.symm n1.2.1, Ne.symm n1.2.2.1, Ne.symm n1.2.2.2, Ne.symm n2.1, Ne.symm n2.2.1, Ne.symm n2.2.2, Ne.symm n3.1, Ne.symm n3.2, Ne.symm n4, q1, q2, q3, q4, q5]) ?_
      refine r_iasts (d := mX1_become) (pc := 75) (a := m) (lay0, mUp (mUp (mUp (mUp (mUp (cpy (cpy (cpy (cpy (cpy (mUp I a 0 (I a2 0)) w j (I w2)) c j (I c2)) f j (I f2)) g j (I g2)) m j (I m2)) w (j : Int) (I w2 (j : Int))) c (j : Int) (I c2 (j : Int))) f (j : Int) (I f2 (j : Int))) g (j : Int) (I g2 (j : Int))) m (j : Int) (I m2 (j : Int)), P) dX1_become_75 hO.2.2.2.2.2.1 (by omega) (by omega) rfl ?_
      refine r_iinc (d := mX1_become) (pc := 76) (i := 2) (v := (j : Int)) (y := ((j + 1 : Nat) : Int)) (lv' := [(0, .inr (some a)), (1, .inr (some a2)), (2, .inl ((j + 1 : Nat) : Int))]) dX1_become_76 rfl (by decide) rfl (by omega) rfl ?_
      refine r_goto (d := mX1_become) (pc := 79) (tgt := 10) dX1_become_79 (by decide) ?_
      exact wpE (by simp) rfl (by rw [cpy5_s _ n1 n2 n3 n4]) (ih10 (by omega) (by omega))
  exact wpE (by simp) rfl (by simp only [cpy_0]) (L10 0 (by omega))
end
