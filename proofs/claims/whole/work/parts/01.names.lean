-- ===== PART A: goes FIRST, ahead of the names: the tables' words, and 'selects' of the private methods out of them =====
/-- a private method of a class that the tables say can be made, by its rows of tables_1 -/
def lw_okq (q : MethodName × Nat) : Prop := (q.1.cls ≠ "java/lang/invoke/MethodHandle" ∧ q.1.cls ≠ "java/lang/invoke/VarHandle") ∧ Cond.instantiable q.1.cls q.2 ∈ tables_1 ∧ Cond.privateMethod q.1 ∈ tables_1 ∧ Cond.instanceMethod q.1 ∈ tables_1
theorem lw_p0 : lw_okq (⟨"StayWhereFell$Field", "surround", "(III)V"⟩, 9) := ⟨⟨by decide +kernel, by decide +kernel⟩, List.mem_of_getElem? (i := 40) (by decide +kernel), List.mem_of_getElem? (i := 174) (by decide +kernel), List.mem_of_getElem? (i := 175) (by decide +kernel)⟩
theorem lw_p1 : lw_okq (⟨"StayWhereFell$Field", "cellAt", "(II)I"⟩, 9) := ⟨⟨by decide +kernel, by decide +kernel⟩, List.mem_of_getElem? (i := 40) (by decide +kernel), List.mem_of_getElem? (i := 185) (by decide +kernel), List.mem_of_getElem? (i := 186) (by decide +kernel)⟩
theorem lw_p2 : lw_okq (⟨"StayWhereFell$Field", "lookAhead", "(III)V"⟩, 9) := ⟨⟨by decide +kernel, by decide +kernel⟩, List.mem_of_getElem? (i := 40) (by decide +kernel), List.mem_of_getElem? (i := 199) (by decide +kernel), List.mem_of_getElem? (i := 200) (by decide +kernel)⟩
theorem lw_p3 : lw_okq (⟨"StayWhereFell$Text", "fits", "(I)Z"⟩, 2) := ⟨⟨by decide +kernel, by decide +kernel⟩, List.mem_of_getElem? (i := 25) (by decide +kernel), List.mem_of_getElem? (i := 248) (by decide +kernel), List.mem_of_getElem? (i := 249) (by decide +kernel)⟩
theorem lw_p4 : lw_okq (⟨"StayWhereFell$Text", "byteAt", "(I)I"⟩, 2) := ⟨⟨by decide +kernel, by decide +kernel⟩, List.mem_of_getElem? (i := 25) (by decide +kernel), List.mem_of_getElem? (i := 252) (by decide +kernel), List.mem_of_getElem? (i := 253) (by decide +kernel)⟩
theorem lw_p5 : lw_okq (⟨"StayWhereFell$Text", "end", "()I"⟩, 2) := ⟨⟨by decide +kernel, by decide +kernel⟩, List.mem_of_getElem? (i := 25) (by decide +kernel), List.mem_of_getElem? (i := 256) (by decide +kernel), List.mem_of_getElem? (i := 257) (by decide +kernel)⟩
theorem lw_p6 : lw_okq (⟨"StayWhereFell$Text", "figure", "(I)I"⟩, 2) := ⟨⟨by decide +kernel, by decide +kernel⟩, List.mem_of_getElem? (i := 25) (by decide +kernel), List.mem_of_getElem? (i := 264) (by decide +kernel), List.mem_of_getElem? (i := 265) (by decide +kernel)⟩
theorem lw_p7 : lw_okq (⟨"StayWhereFell", "isCell", "(I)Z"⟩, 8) := ⟨⟨by decide +kernel, by decide +kernel⟩, List.mem_of_getElem? (i := 17) (by decide +kernel), List.mem_of_getElem? (i := 417) (by decide +kernel), List.mem_of_getElem? (i := 418) (by decide +kernel)⟩
theorem lw_p8 : lw_okq (⟨"StayWhereFell$Field", "lines", "(III)I"⟩, 9) := ⟨⟨by decide +kernel, by decide +kernel⟩, List.mem_of_getElem? (i := 40) (by decide +kernel), List.mem_of_getElem? (i := 474) (by decide +kernel), List.mem_of_getElem? (i := 475) (by decide +kernel)⟩
theorem lw_p9 : lw_okq (⟨"StayWhereFell$Place", "listFrom", "(III)V"⟩, 11) := ⟨⟨by decide +kernel, by decide +kernel⟩, List.mem_of_getElem? (i := 80) (by decide +kernel), List.mem_of_getElem? (i := 509) (by decide +kernel), List.mem_of_getElem? (i := 510) (by decide +kernel)⟩
theorem lw_p10 : lw_okq (⟨"StayWhereFell", "may", "(LStayWhereFell$Place;I)Z"⟩, 8) := ⟨⟨by decide +kernel, by decide +kernel⟩, List.mem_of_getElem? (i := 17) (by decide +kernel), List.mem_of_getElem? (i := 522) (by decide +kernel), List.mem_of_getElem? (i := 523) (by decide +kernel)⟩
theorem lw_p11 : lw_okq (⟨"StayWhereFell$Shelf", "isInside", "(I)Z"⟩, 4) := ⟨⟨by decide +kernel, by decide +kernel⟩, List.mem_of_getElem? (i := 137) (by decide +kernel), List.mem_of_getElem? (i := 535) (by decide +kernel), List.mem_of_getElem? (i := 536) (by decide +kernel)⟩
theorem lw_p12 : lw_okq (⟨"StayWhereFell$Place", "age", "()V"⟩, 11) := ⟨⟨by decide +kernel, by decide +kernel⟩, List.mem_of_getElem? (i := 80) (by decide +kernel), List.mem_of_getElem? (i := 543) (by decide +kernel), List.mem_of_getElem? (i := 544) (by decide +kernel)⟩
theorem lw_p13 : lw_okq (⟨"StayWhereFell$Place", "fall", "(II)V"⟩, 11) := ⟨⟨by decide +kernel, by decide +kernel⟩, List.mem_of_getElem? (i := 80) (by decide +kernel), List.mem_of_getElem? (i := 548) (by decide +kernel), List.mem_of_getElem? (i := 549) (by decide +kernel)⟩
theorem lw_p14 : lw_okq (⟨"StayWhereFell", "refusedAhead", "(I)I"⟩, 8) := ⟨⟨by decide +kernel, by decide +kernel⟩, List.mem_of_getElem? (i := 17) (by decide +kernel), List.mem_of_getElem? (i := 590) (by decide +kernel), List.mem_of_getElem? (i := 591) (by decide +kernel)⟩
theorem lw_p15 : lw_okq (⟨"StayWhereFell", "listKeys", "(I)I"⟩, 8) := ⟨⟨by decide +kernel, by decide +kernel⟩, List.mem_of_getElem? (i := 17) (by decide +kernel), List.mem_of_getElem? (i := 617) (by decide +kernel), List.mem_of_getElem? (i := 618) (by decide +kernel)⟩
def lw_privs_1 : List (MethodName × Nat) := [(⟨"StayWhereFell$Field", "surround", "(III)V"⟩, 9), (⟨"StayWhereFell$Field", "cellAt", "(II)I"⟩, 9), (⟨"StayWhereFell$Field", "lookAhead", "(III)V"⟩, 9), (⟨"StayWhereFell$Text", "fits", "(I)Z"⟩, 2), (⟨"StayWhereFell$Text", "byteAt", "(I)I"⟩, 2), (⟨"StayWhereFell$Text", "end", "()I"⟩, 2), (⟨"StayWhereFell$Text", "figure", "(I)I"⟩, 2), (⟨"StayWhereFell", "isCell", "(I)Z"⟩, 8), (⟨"StayWhereFell$Field", "lines", "(III)I"⟩, 9), (⟨"StayWhereFell$Place", "listFrom", "(III)V"⟩, 11), (⟨"StayWhereFell", "may", "(LStayWhereFell$Place;I)Z"⟩, 8), (⟨"StayWhereFell$Shelf", "isInside", "(I)Z"⟩, 4), (⟨"StayWhereFell$Place", "age", "()V"⟩, 11), (⟨"StayWhereFell$Place", "fall", "(II)V"⟩, 11), (⟨"StayWhereFell", "refusedAhead", "(I)I"⟩, 8), (⟨"StayWhereFell", "listKeys", "(I)I"⟩, 8)]
theorem lw_r1 : ∀ q ∈ lw_privs_1, lw_okq q := List.forall_mem_cons.mpr ⟨lw_p0, List.forall_mem_cons.mpr ⟨lw_p1, List.forall_mem_cons.mpr ⟨lw_p2, List.forall_mem_cons.mpr ⟨lw_p3, List.forall_mem_cons.mpr ⟨lw_p4, List.forall_mem_cons.mpr ⟨lw_p5, List.forall_mem_cons.mpr ⟨lw_p6, List.forall_mem_cons.mpr ⟨lw_p7, List.forall_mem_cons.mpr ⟨lw_p8, List.forall_mem_cons.mpr ⟨lw_p9, List.forall_mem_cons.mpr ⟨lw_p10, List.forall_mem_cons.mpr ⟨lw_p11, List.forall_mem_cons.mpr ⟨lw_p12, List.forall_mem_cons.mpr ⟨lw_p13, List.forall_mem_cons.mpr ⟨lw_p14, List.forall_mem_cons.mpr ⟨lw_p15, fun _ h => absurd h List.not_mem_nil⟩⟩⟩⟩⟩⟩⟩⟩⟩⟩⟩⟩⟩⟩⟩⟩
theorem lw_p16 : lw_okq (⟨"StayWhereFell", "partsAheadOf", "(I)I"⟩, 8) := ⟨⟨by decide +kernel, by decide +kernel⟩, List.mem_of_getElem? (i := 17) (by decide +kernel), List.mem_of_getElem? (i := 637) (by decide +kernel), List.mem_of_getElem? (i := 638) (by decide +kernel)⟩
theorem lw_p17 : lw_okq (⟨"StayWhereFell", "canComeAt", "(II)Z"⟩, 8) := ⟨⟨by decide +kernel, by decide +kernel⟩, List.mem_of_getElem? (i := 17) (by decide +kernel), List.mem_of_getElem? (i := 672) (by decide +kernel), List.mem_of_getElem? (i := 673) (by decide +kernel)⟩
theorem lw_p18 : lw_okq (⟨"StayWhereFellModel", "fits", "(I)Z"⟩, 19) := ⟨⟨by decide +kernel, by decide +kernel⟩, List.mem_of_getElem? (i := 739) (by decide +kernel), List.mem_of_getElem? (i := 821) (by decide +kernel), List.mem_of_getElem? (i := 822) (by decide +kernel)⟩
theorem lw_p19 : lw_okq (⟨"StayWhereFellModel", "isCell", "(I)Z"⟩, 19) := ⟨⟨by decide +kernel, by decide +kernel⟩, List.mem_of_getElem? (i := 739) (by decide +kernel), List.mem_of_getElem? (i := 844) (by decide +kernel), List.mem_of_getElem? (i := 845) (by decide +kernel)⟩
theorem lw_p20 : lw_okq (⟨"StayWhereFellModel", "aimsOf", "(IIIZ)I"⟩, 19) := ⟨⟨by decide +kernel, by decide +kernel⟩, List.mem_of_getElem? (i := 739) (by decide +kernel), List.mem_of_getElem? (i := 856) (by decide +kernel), List.mem_of_getElem? (i := 857) (by decide +kernel)⟩
theorem lw_p21 : lw_okq (⟨"StayWhereFellModel", "step", "(III)I"⟩, 19) := ⟨⟨by decide +kernel, by decide +kernel⟩, List.mem_of_getElem? (i := 739) (by decide +kernel), List.mem_of_getElem? (i := 863) (by decide +kernel), List.mem_of_getElem? (i := 864) (by decide +kernel)⟩
theorem lw_p22 : lw_okq (⟨"StayWhereFellModel", "at", "(III)I"⟩, 19) := ⟨⟨by decide +kernel, by decide +kernel⟩, List.mem_of_getElem? (i := 739) (by decide +kernel), List.mem_of_getElem? (i := 867) (by decide +kernel), List.mem_of_getElem? (i := 868) (by decide +kernel)⟩
theorem lw_p23 : lw_okq (⟨"StayWhereFellModel", "line", "(IIIIZ)I"⟩, 19) := ⟨⟨by decide +kernel, by decide +kernel⟩, List.mem_of_getElem? (i := 739) (by decide +kernel), List.mem_of_getElem? (i := 871) (by decide +kernel), List.mem_of_getElem? (i := 872) (by decide +kernel)⟩
theorem lw_p24 : lw_okq (⟨"StayWhereFellModel", "isFree", "(IIZ)Z"⟩, 19) := ⟨⟨by decide +kernel, by decide +kernel⟩, List.mem_of_getElem? (i := 739) (by decide +kernel), List.mem_of_getElem? (i := 875) (by decide +kernel), List.mem_of_getElem? (i := 876) (by decide +kernel)⟩
theorem lw_p25 : lw_okq (⟨"StayWhereFellModel", "canOf", "(II)I"⟩, 19) := ⟨⟨by decide +kernel, by decide +kernel⟩, List.mem_of_getElem? (i := 739) (by decide +kernel), List.mem_of_getElem? (i := 883) (by decide +kernel), List.mem_of_getElem? (i := 884) (by decide +kernel)⟩
theorem lw_p26 : lw_okq (⟨"StayWhereFellModel", "going", "(IIIZ)I"⟩, 19) := ⟨⟨by decide +kernel, by decide +kernel⟩, List.mem_of_getElem? (i := 739) (by decide +kernel), List.mem_of_getElem? (i := 887) (by decide +kernel), List.mem_of_getElem? (i := 888) (by decide +kernel)⟩
theorem lw_p27 : lw_okq (⟨"StayWhereFellModel", "list", "(I)I"⟩, 19) := ⟨⟨by decide +kernel, by decide +kernel⟩, List.mem_of_getElem? (i := 739) (by decide +kernel), List.mem_of_getElem? (i := 895) (by decide +kernel), List.mem_of_getElem? (i := 896) (by decide +kernel)⟩
theorem lw_p28 : lw_okq (⟨"StayWhereFellModel", "isPly", "(III)Z"⟩, 19) := ⟨⟨by decide +kernel, by decide +kernel⟩, List.mem_of_getElem? (i := 739) (by decide +kernel), List.mem_of_getElem? (i := 903) (by decide +kernel), List.mem_of_getElem? (i := 904) (by decide +kernel)⟩
theorem lw_p29 : lw_okq (⟨"StayWhereFellModel", "keepPly", "()V"⟩, 19) := ⟨⟨by decide +kernel, by decide +kernel⟩, List.mem_of_getElem? (i := 739) (by decide +kernel), List.mem_of_getElem? (i := 907) (by decide +kernel), List.mem_of_getElem? (i := 908) (by decide +kernel)⟩
theorem lw_p30 : lw_okq (⟨"StayWhereFellModel", "make", "(III)I"⟩, 19) := ⟨⟨by decide +kernel, by decide +kernel⟩, List.mem_of_getElem? (i := 739) (by decide +kernel), List.mem_of_getElem? (i := 911) (by decide +kernel), List.mem_of_getElem? (i := 912) (by decide +kernel)⟩
theorem lw_p31 : lw_okq (⟨"StayWhereFellModel", "hasKing", "(II)Z"⟩, 19) := ⟨⟨by decide +kernel, by decide +kernel⟩, List.mem_of_getElem? (i := 739) (by decide +kernel), List.mem_of_getElem? (i := 915) (by decide +kernel), List.mem_of_getElem? (i := 916) (by decide +kernel)⟩
def lw_privs_2 : List (MethodName × Nat) := [(⟨"StayWhereFell", "partsAheadOf", "(I)I"⟩, 8), (⟨"StayWhereFell", "canComeAt", "(II)Z"⟩, 8), (⟨"StayWhereFellModel", "fits", "(I)Z"⟩, 19), (⟨"StayWhereFellModel", "isCell", "(I)Z"⟩, 19), (⟨"StayWhereFellModel", "aimsOf", "(IIIZ)I"⟩, 19), (⟨"StayWhereFellModel", "step", "(III)I"⟩, 19), (⟨"StayWhereFellModel", "at", "(III)I"⟩, 19), (⟨"StayWhereFellModel", "line", "(IIIIZ)I"⟩, 19), (⟨"StayWhereFellModel", "isFree", "(IIZ)Z"⟩, 19), (⟨"StayWhereFellModel", "canOf", "(II)I"⟩, 19), (⟨"StayWhereFellModel", "going", "(IIIZ)I"⟩, 19), (⟨"StayWhereFellModel", "list", "(I)I"⟩, 19), (⟨"StayWhereFellModel", "isPly", "(III)Z"⟩, 19), (⟨"StayWhereFellModel", "keepPly", "()V"⟩, 19), (⟨"StayWhereFellModel", "make", "(III)I"⟩, 19), (⟨"StayWhereFellModel", "hasKing", "(II)Z"⟩, 19)]
theorem lw_r2 : ∀ q ∈ lw_privs_2, lw_okq q := List.forall_mem_cons.mpr ⟨lw_p16, List.forall_mem_cons.mpr ⟨lw_p17, List.forall_mem_cons.mpr ⟨lw_p18, List.forall_mem_cons.mpr ⟨lw_p19, List.forall_mem_cons.mpr ⟨lw_p20, List.forall_mem_cons.mpr ⟨lw_p21, List.forall_mem_cons.mpr ⟨lw_p22, List.forall_mem_cons.mpr ⟨lw_p23, List.forall_mem_cons.mpr ⟨lw_p24, List.forall_mem_cons.mpr ⟨lw_p25, List.forall_mem_cons.mpr ⟨lw_p26, List.forall_mem_cons.mpr ⟨lw_p27, List.forall_mem_cons.mpr ⟨lw_p28, List.forall_mem_cons.mpr ⟨lw_p29, List.forall_mem_cons.mpr ⟨lw_p30, List.forall_mem_cons.mpr ⟨lw_p31, fun _ h => absurd h List.not_mem_nil⟩⟩⟩⟩⟩⟩⟩⟩⟩⟩⟩⟩⟩⟩⟩⟩
theorem lw_p32 : lw_okq (⟨"StayWhereFellModel", "layKeys", "(I)I"⟩, 19) := ⟨⟨by decide +kernel, by decide +kernel⟩, List.mem_of_getElem? (i := 739) (by decide +kernel), List.mem_of_getElem? (i := 940) (by decide +kernel), List.mem_of_getElem? (i := 941) (by decide +kernel)⟩
theorem lw_p33 : lw_okq (⟨"StayWhereFellModel", "isKey", "(II)Z"⟩, 19) := ⟨⟨by decide +kernel, by decide +kernel⟩, List.mem_of_getElem? (i := 739) (by decide +kernel), List.mem_of_getElem? (i := 944) (by decide +kernel), List.mem_of_getElem? (i := 945) (by decide +kernel)⟩
theorem lw_p34 : lw_okq (⟨"StayWhereFellModel", "isDone", "(I)Z"⟩, 19) := ⟨⟨by decide +kernel, by decide +kernel⟩, List.mem_of_getElem? (i := 739) (by decide +kernel), List.mem_of_getElem? (i := 948) (by decide +kernel), List.mem_of_getElem? (i := 949) (by decide +kernel)⟩
theorem lw_p35 : lw_okq (⟨"StayWhereFellModel", "winsNow", "(I)Z"⟩, 19) := ⟨⟨by decide +kernel, by decide +kernel⟩, List.mem_of_getElem? (i := 739) (by decide +kernel), List.mem_of_getElem? (i := 952) (by decide +kernel), List.mem_of_getElem? (i := 953) (by decide +kernel)⟩
theorem lw_p36 : lw_okq (⟨"StayWhereFellModel", "layParts", "()I"⟩, 19) := ⟨⟨by decide +kernel, by decide +kernel⟩, List.mem_of_getElem? (i := 739) (by decide +kernel), List.mem_of_getElem? (i := 975) (by decide +kernel), List.mem_of_getElem? (i := 976) (by decide +kernel)⟩
theorem lw_p37 : lw_okq (⟨"StayWhereFellModel", "spread", "(II)V"⟩, 19) := ⟨⟨by decide +kernel, by decide +kernel⟩, List.mem_of_getElem? (i := 739) (by decide +kernel), List.mem_of_getElem? (i := 979) (by decide +kernel), List.mem_of_getElem? (i := 980) (by decide +kernel)⟩
theorem lw_p38 : lw_okq (⟨"StayWhereFellModel", "comesTo", "(I)I"⟩, 19) := ⟨⟨by decide +kernel, by decide +kernel⟩, List.mem_of_getElem? (i := 739) (by decide +kernel), List.mem_of_getElem? (i := 991) (by decide +kernel), List.mem_of_getElem? (i := 992) (by decide +kernel)⟩
theorem lw_p39 : lw_okq (⟨"StayWhereFellModel", "areFoes", "(II)Z"⟩, 19) := ⟨⟨by decide +kernel, by decide +kernel⟩, List.mem_of_getElem? (i := 739) (by decide +kernel), List.mem_of_getElem? (i := 999) (by decide +kernel), List.mem_of_getElem? (i := 1000) (by decide +kernel)⟩
theorem lw_p40 : lw_okq (⟨"StayWhereFellModel", "canComeAt", "(II)Z"⟩, 19) := ⟨⟨by decide +kernel, by decide +kernel⟩, List.mem_of_getElem? (i := 739) (by decide +kernel), List.mem_of_getElem? (i := 1003) (by decide +kernel), List.mem_of_getElem? (i := 1004) (by decide +kernel)⟩
theorem lw_p41 : lw_okq (⟨"StayWhereFellModel", "oneWay", "(II)I"⟩, 19) := ⟨⟨by decide +kernel, by decide +kernel⟩, List.mem_of_getElem? (i := 739) (by decide +kernel), List.mem_of_getElem? (i := 1016) (by decide +kernel), List.mem_of_getElem? (i := 1017) (by decide +kernel)⟩
theorem lw_p42 : lw_okq (⟨"StayWhereFellModel", "isLike", "(II)Z"⟩, 19) := ⟨⟨by decide +kernel, by decide +kernel⟩, List.mem_of_getElem? (i := 739) (by decide +kernel), List.mem_of_getElem? (i := 1020) (by decide +kernel), List.mem_of_getElem? (i := 1021) (by decide +kernel)⟩
theorem lw_p43 : lw_okq (⟨"StayWhereFellModel", "twoWays", "(II)I"⟩, 19) := ⟨⟨by decide +kernel, by decide +kernel⟩, List.mem_of_getElem? (i := 739) (by decide +kernel), List.mem_of_getElem? (i := 1024) (by decide +kernel), List.mem_of_getElem? (i := 1025) (by decide +kernel)⟩
theorem lw_p44 : lw_okq (⟨"StayWhereFellModel", "men", "(I)I"⟩, 19) := ⟨⟨by decide +kernel, by decide +kernel⟩, List.mem_of_getElem? (i := 739) (by decide +kernel), List.mem_of_getElem? (i := 1039) (by decide +kernel), List.mem_of_getElem? (i := 1040) (by decide +kernel)⟩
theorem lw_p45 : lw_okq (⟨"StayWhereFellModel", "setOf", "(I)I"⟩, 19) := ⟨⟨by decide +kernel, by decide +kernel⟩, List.mem_of_getElem? (i := 739) (by decide +kernel), List.mem_of_getElem? (i := 1055) (by decide +kernel), List.mem_of_getElem? (i := 1056) (by decide +kernel)⟩
def lw_privs_3 : List (MethodName × Nat) := [(⟨"StayWhereFellModel", "layKeys", "(I)I"⟩, 19), (⟨"StayWhereFellModel", "isKey", "(II)Z"⟩, 19), (⟨"StayWhereFellModel", "isDone", "(I)Z"⟩, 19), (⟨"StayWhereFellModel", "winsNow", "(I)Z"⟩, 19), (⟨"StayWhereFellModel", "layParts", "()I"⟩, 19), (⟨"StayWhereFellModel", "spread", "(II)V"⟩, 19), (⟨"StayWhereFellModel", "comesTo", "(I)I"⟩, 19), (⟨"StayWhereFellModel", "areFoes", "(II)Z"⟩, 19), (⟨"StayWhereFellModel", "canComeAt", "(II)Z"⟩, 19), (⟨"StayWhereFellModel", "oneWay", "(II)I"⟩, 19), (⟨"StayWhereFellModel", "isLike", "(II)Z"⟩, 19), (⟨"StayWhereFellModel", "twoWays", "(II)I"⟩, 19), (⟨"StayWhereFellModel", "men", "(I)I"⟩, 19), (⟨"StayWhereFellModel", "setOf", "(I)I"⟩, 19)]
theorem lw_r3 : ∀ q ∈ lw_privs_3, lw_okq q := List.forall_mem_cons.mpr ⟨lw_p32, List.forall_mem_cons.mpr ⟨lw_p33, List.forall_mem_cons.mpr ⟨lw_p34, List.forall_mem_cons.mpr ⟨lw_p35, List.forall_mem_cons.mpr ⟨lw_p36, List.forall_mem_cons.mpr ⟨lw_p37, List.forall_mem_cons.mpr ⟨lw_p38, List.forall_mem_cons.mpr ⟨lw_p39, List.forall_mem_cons.mpr ⟨lw_p40, List.forall_mem_cons.mpr ⟨lw_p41, List.forall_mem_cons.mpr ⟨lw_p42, List.forall_mem_cons.mpr ⟨lw_p43, List.forall_mem_cons.mpr ⟨lw_p44, List.forall_mem_cons.mpr ⟨lw_p45, fun _ h => absurd h List.not_mem_nil⟩⟩⟩⟩⟩⟩⟩⟩⟩⟩⟩⟩⟩⟩
def lw_privs : List (MethodName × Nat) := lw_privs_1 ++ (lw_privs_2 ++ (lw_privs_3))
def lw_tbl : List Cond := k2_sels lw_privs ++ tables_1
theorem lw_privs_ok : ∀ q ∈ lw_privs, lw_okq q := by
  show ∀ q ∈ lw_privs_1 ++ (lw_privs_2 ++ (lw_privs_3)), lw_okq q
  exact List.forall_mem_append.mpr ⟨lw_r1, List.forall_mem_append.mpr ⟨lw_r2, lw_r3⟩⟩
-- ===== end of PART A; then your names; then what follows =====
/-! ===== BEGIN words of one list among another's, by their places ===== -/
theorem goodIn_r {big : List Cond} (ws : List Cond) (ps : List Nat) (hp : ws = ps.filterMap (fun i => big[i]?)) (h : ws.all goodWord = true) : GoodIn big ws := by
  intro w hw
  have h1 := List.all_eq_true.mp h w hw
  rw [hp] at hw
  obtain ⟨i, -, hi⟩ := List.mem_filterMap.mp hw
  have hm : w ∈ big := by first | exact List.mem_of_getElem? hi | exact List.getElem?_mem hi
  exact ⟨hm, good_of_word h1⟩
theorem goodIn_app {big a b : List Cond} (ha : GoodIn big a) (hb : GoodIn big b) : GoodIn big (a ++ b) := fun w h => (List.mem_append.mp h).elim (ha w) (hb w)
theorem goodIn_ca {big a b : List Cond} {c : Cond} (ha : GoodIn big (c :: a)) (hb : GoodIn big b) : GoodIn big (c :: (a ++ b)) := fun w h => (List.mem_cons.mp h).elim (fun e => ha w (List.mem_cons.mpr (Or.inl e))) (fun h => (List.mem_append.mp h).elim (fun h => ha w (List.mem_cons.mpr (Or.inr h))) (hb w))
theorem goodIn_sub {big ws : List Cond} (hm : ∀ w ∈ ws, w ∈ big) (h : ws.all goodWord = true) : GoodIn big ws := fun w hw => ⟨hm w hw, good_of_word (List.all_eq_true.mp h w hw)⟩
/-! ===== END ===== -/

/-! ===== BEGIN printed: names, fields, word lists, decode rows ===== -/
def RX0 : String := "StayWhereFell$Field"
def TX0 : u_T := fun k => match k with
  | 0 => ("StayWhereFell$Field", "beside", "[I", true)
  | 1 => ("StayWhereFell$Field", "around", "[I", true)
  | 2 => ("StayWhereFell$Field", "leaps", "[I", true)
  | 3 => ("StayWhereFell$Field", "slants", "[I", true)
  | 4 => ("StayWhereFell$Field", "steps", "[I", true)
  | 5 => ("StayWhereFell$Field", "width", "I", false)
  | 6 => ("StayWhereFell$Field", "height", "I", false)
  | 7 => ("StayWhereFell$Field", "last", "I", false)
  | _ => ("StayWhereFell$Field", "cells", "I", false)
def tyX0 : Nat → FieldType := fun k => match k with
  | 0 => .array .int
  | 1 => .array .int
  | 2 => .array .int
  | 3 => .array .int
  | 4 => .array .int
  | 5 => .int
  | 6 => .int
  | 7 => .int
  | _ => .int
abbrev wsX00 : List Cond := u_ws RX0 TX0 9
theorem nmX0 : ∀ a, a < 9 → ∀ b, b < 9 → a ≠ b → (TX0 a).2.1 ≠ (TX0 b).2.1 := by decide +kernel
theorem tyX0_ok : ∀ k, k < 9 → parseFieldDescriptor (TX0 k).2.2.1 = some (tyX0 k) := by decide +kernel
abbrev cX0_init : ByteArray := prog_2_method_1_code
def yX0_init : MethodName := ⟨RX0, "<init>", "()V"⟩
abbrev cX0_shape : ByteArray := prog_2_method_2_code
def yX0_shape : MethodName := ⟨RX0, "shape", "(III)V"⟩
abbrev cX0_all : ByteArray := prog_2_method_3_code
def yX0_all : MethodName := ⟨RX0, "all", "()I"⟩
abbrev cX0_aimed : ByteArray := prog_2_method_4_code
def yX0_aimed : MethodName := ⟨RX0, "aimed", "(III)I"⟩
abbrev cX0_going : ByteArray := prog_2_method_5_code
def yX0_going : MethodName := ⟨RX0, "going", "(III)I"⟩
abbrev cX0_coming : ByteArray := prog_2_method_6_code
def yX0_coming : MethodName := ⟨RX0, "coming", "(III)I"⟩
abbrev cX0_threatened : ByteArray := prog_2_method_7_code
def yX0_threatened : MethodName := ⟨RX0, "threatened", "(III)I"⟩
abbrev cX0_hanging : ByteArray := prog_2_method_8_code
def yX0_hanging : MethodName := ⟨RX0, "hanging", "(II)I"⟩
abbrev cX0_surround : ByteArray := prog_2_method_9_code
def yX0_surround : MethodName := ⟨RX0, "surround", "(III)V"⟩
abbrev cX0_lookAhead : ByteArray := prog_2_method_10_code
def yX0_lookAhead : MethodName := ⟨RX0, "lookAhead", "(III)V"⟩
abbrev cX0_cellAt : ByteArray := prog_2_method_11_code
def yX0_cellAt : MethodName := ⟨RX0, "cellAt", "(II)I"⟩
abbrev cX0_bitOf : ByteArray := prog_2_method_12_code
def yX0_bitOf : MethodName := ⟨RX0, "bitOf", "(I)I"⟩
abbrev cX0_lines : ByteArray := prog_2_method_13_code
def yX0_lines : MethodName := ⟨RX0, "lines", "(III)I"⟩
def RX1 : String := "StayWhereFell$Past"
def TX1 : u_T := fun k => match k with
  | 0 => ("StayWhereFell$Past", "places", "LStayWhereFell$Shelf;", true)
  | 1 => ("StayWhereFell$Past", "first", "I", false)
  | _ => ("StayWhereFell$Past", "size", "I", false)
def tyX1 : Nat → FieldType := fun k => match k with
  | 0 => .object "StayWhereFell$Shelf"
  | 1 => .int
  | _ => .int
abbrev wsX10 : List Cond := u_ws RX1 TX1 3
theorem nmX1 : ∀ a, a < 3 → ∀ b, b < 3 → a ≠ b → (TX1 a).2.1 ≠ (TX1 b).2.1 := by decide +kernel
theorem tyX1_ok : ∀ k, k < 3 → parseFieldDescriptor (TX1 k).2.2.1 = some (tyX1 k) := by decide +kernel
abbrev cX1_init : ByteArray := prog_3_method_1_code
def yX1_init : MethodName := ⟨RX1, "<init>", "()V"⟩
abbrev cX1_clear : ByteArray := prog_3_method_2_code
def yX1_clear : MethodName := ⟨RX1, "clear", "()V"⟩
abbrev cX1_add : ByteArray := prog_3_method_3_code
def yX1_add : MethodName := ⟨RX1, "add", "(LStayWhereFell$Place;)V"⟩
abbrev cX1_takeLast : ByteArray := prog_3_method_4_code
def yX1_takeLast : MethodName := ⟨RX1, "takeLast", "(LStayWhereFell$Place;)V"⟩
def RX2 : String := "StayWhereFell$Place"
def TX2 : u_T := fun k => match k with
  | 0 => ("StayWhereFell$Place", "under", "LStayWhereFell$Place;", true)
  | 1 => ("StayWhereFell$Place", "row", "[I", true)
  | 2 => ("StayWhereFell$Place", "size", "I", false)
  | 3 => ("StayWhereFell$Place", "signs", "J", false)
  | 4 => ("StayWhereFell$Place", "times", "J", false)
  | 5 => ("StayWhereFell$Place", "white", "I", false)
  | 6 => ("StayWhereFell$Place", "black", "I", false)
  | 7 => ("StayWhereFell$Place", "dead", "I", false)
  | 8 => ("StayWhereFell$Place", "kings", "I", false)
  | 9 => ("StayWhereFell$Place", "on", "I", false)
  | _ => ("StayWhereFell$Place", "lost", "I", false)
def tyX2 : Nat → FieldType := fun k => match k with
  | 0 => .object "StayWhereFell$Place"
  | 1 => .array .int
  | 2 => .int
  | 3 => .long
  | 4 => .long
  | 5 => .int
  | 6 => .int
  | 7 => .int
  | 8 => .int
  | 9 => .int
  | _ => .int
abbrev wsX20 : List Cond := u_ws RX2 TX2 11
theorem nmX2 : ∀ a, a < 11 → ∀ b, b < 11 → a ≠ b → (TX2 a).2.1 ≠ (TX2 b).2.1 := by decide +kernel
theorem tyX2_ok : ∀ k, k < 11 → parseFieldDescriptor (TX2 k).2.2.1 = some (tyX2 k) := by decide +kernel
abbrev cX2_init : ByteArray := prog_4_method_1_code
def yX2_init : MethodName := ⟨RX2, "<init>", "(LStayWhereFell$Place;)V"⟩
abbrev cX2_clear : ByteArray := prog_4_method_2_code
def yX2_clear : MethodName := ⟨RX2, "clear", "()V"⟩
abbrev cX2_set : ByteArray := prog_4_method_3_code
def yX2_set : MethodName := ⟨RX2, "set", "(JJII)V"⟩
abbrev cX2_copy : ByteArray := prog_4_method_4_code
def yX2_copy : MethodName := ⟨RX2, "copy", "(LStayWhereFell$Place;)V"⟩
abbrev cX2_put : ByteArray := prog_4_method_5_code
def yX2_put : MethodName := ⟨RX2, "put", "(II)V"⟩
abbrev cX2_sign : ByteArray := prog_4_method_6_code
def yX2_sign : MethodName := ⟨RX2, "sign", "(I)I"⟩
abbrev cX2_lying : ByteArray := prog_4_method_7_code
def yX2_lying : MethodName := ⟨RX2, "lying", "(I)I"⟩
abbrev cX2_men : ByteArray := prog_4_method_8_code
def yX2_men : MethodName := ⟨RX2, "men", "(I)I"⟩
abbrev cX2_menCount : ByteArray := prog_4_method_9_code
def yX2_menCount : MethodName := ⟨RX2, "menCount", "()I"⟩
abbrev cX2_full : ByteArray := prog_4_method_10_code
def yX2_full : MethodName := ⟨RX2, "full", "()I"⟩
abbrev cX2_reach : ByteArray := prog_4_method_11_code
def yX2_reach : MethodName := ⟨RX2, "reach", "(LStayWhereFell$Field;I)I"⟩
abbrev cX2_list : ByteArray := prog_4_method_12_code
def yX2_list : MethodName := ⟨RX2, "list", "(LStayWhereFell$Field;)I"⟩
abbrev cX2_ply : ByteArray := prog_4_method_13_code
def yX2_ply : MethodName := ⟨RX2, "ply", "(I)I"⟩
abbrev cX2_setPly : ByteArray := prog_4_method_14_code
def yX2_setPly : MethodName := ⟨RX2, "setPly", "(II)V"⟩
abbrev cX2_follow : ByteArray := prog_4_method_15_code
def yX2_follow : MethodName := ⟨RX2, "follow", "(LStayWhereFell$Place;II)V"⟩
abbrev cX2_make : ByteArray := prog_4_method_16_code
def yX2_make : MethodName := ⟨RX2, "make", "(II)V"⟩
abbrev cX2_canFellLast : ByteArray := prog_4_method_17_code
def yX2_canFellLast : MethodName := ⟨RX2, "canFellLast", "(LStayWhereFell$Field;)Z"⟩
abbrev cX2_differing : ByteArray := prog_4_method_18_code
def yX2_differing : MethodName := ⟨RX2, "differing", "(LStayWhereFell$Place;)I"⟩
abbrev cX2_isAs : ByteArray := prog_4_method_19_code
def yX2_isAs : MethodName := ⟨RX2, "isAs", "(LStayWhereFell$Place;)Z"⟩
abbrev cX2_listFrom : ByteArray := prog_4_method_20_code
def yX2_listFrom : MethodName := ⟨RX2, "listFrom", "(III)V"⟩
abbrev cX2_fall : ByteArray := prog_4_method_21_code
def yX2_fall : MethodName := ⟨RX2, "fall", "(II)V"⟩
abbrev cX2_age : ByteArray := prog_4_method_22_code
def yX2_age : MethodName := ⟨RX2, "age", "()V"⟩
abbrev cX2_nibble : ByteArray := prog_4_method_23_code
def yX2_nibble : MethodName := ⟨RX2, "nibble", "(JI)I"⟩
abbrev cX2_with : ByteArray := prog_4_method_24_code
def yX2_with : MethodName := ⟨RX2, "with", "(IIZ)I"⟩
def RX3 : String := "StayWhereFell$Shelf"
def TX3 : u_T := fun k => match k with
  | 0 => ("StayWhereFell$Shelf", "signs", "[J", true)
  | 1 => ("StayWhereFell$Shelf", "times", "[J", true)
  | 2 => ("StayWhereFell$Shelf", "ons", "[I", true)
  | _ => ("StayWhereFell$Shelf", "losts", "[I", true)
def tyX3 : Nat → FieldType := fun k => match k with
  | 0 => .array .long
  | 1 => .array .long
  | 2 => .array .int
  | _ => .array .int
abbrev wsX30 : List Cond := u_ws RX3 TX3 4
theorem nmX3 : ∀ a, a < 4 → ∀ b, b < 4 → a ≠ b → (TX3 a).2.1 ≠ (TX3 b).2.1 := by decide +kernel
theorem tyX3_ok : ∀ k, k < 4 → parseFieldDescriptor (TX3 k).2.2.1 = some (tyX3 k) := by decide +kernel
abbrev cX3_init : ByteArray := prog_5_method_1_code
def yX3_init : MethodName := ⟨RX3, "<init>", "(I)V"⟩
abbrev cX3_clear : ByteArray := prog_5_method_2_code
def yX3_clear : MethodName := ⟨RX3, "clear", "()V"⟩
abbrev cX3_holds : ByteArray := prog_5_method_3_code
def yX3_holds : MethodName := ⟨RX3, "holds", "(I)Z"⟩
abbrev cX3_set : ByteArray := prog_5_method_4_code
def yX3_set : MethodName := ⟨RX3, "set", "(ILStayWhereFell$Place;)V"⟩
abbrev cX3_get : ByteArray := prog_5_method_5_code
def yX3_get : MethodName := ⟨RX3, "get", "(ILStayWhereFell$Place;)V"⟩
abbrev cX3_isInside : ByteArray := prog_5_method_6_code
def yX3_isInside : MethodName := ⟨RX3, "isInside", "(I)Z"⟩
def RX4 : String := "StayWhereFell$Text"
def TX4 : u_T := fun k => match k with
  | 0 => ("StayWhereFell$Text", "bytes", "[B", true)
  | _ => ("StayWhereFell$Text", "length", "I", false)
def tyX4 : Nat → FieldType := fun k => match k with
  | 0 => .array .byte
  | _ => .int
abbrev wsX40 : List Cond := u_ws RX4 TX4 2
theorem nmX4 : ∀ a, a < 2 → ∀ b, b < 2 → a ≠ b → (TX4 a).2.1 ≠ (TX4 b).2.1 := by decide +kernel
theorem tyX4_ok : ∀ k, k < 2 → parseFieldDescriptor (TX4 k).2.2.1 = some (tyX4 k) := by decide +kernel
abbrev cX4_init : ByteArray := prog_6_method_1_code
def yX4_init : MethodName := ⟨RX4, "<init>", "()V"⟩
abbrev cX4_add : ByteArray := prog_6_method_2_code
def yX4_add : MethodName := ⟨RX4, "add", "(IJ)V"⟩
abbrev cX4_firstFault : ByteArray := prog_6_method_3_code
def yX4_firstFault : MethodName := ⟨RX4, "firstFault", "()I"⟩
abbrev cX4_width : ByteArray := prog_6_method_4_code
def yX4_width : MethodName := ⟨RX4, "width", "()I"⟩
abbrev cX4_height : ByteArray := prog_6_method_5_code
def yX4_height : MethodName := ⟨RX4, "height", "()I"⟩
abbrev cX4_last : ByteArray := prog_6_method_6_code
def yX4_last : MethodName := ⟨RX4, "last", "()I"⟩
abbrev cX4_side : ByteArray := prog_6_method_7_code
def yX4_side : MethodName := ⟨RX4, "side", "()I"⟩
abbrev cX4_signOf : ByteArray := prog_6_method_8_code
def yX4_signOf : MethodName := ⟨RX4, "signOf", "(I)I"⟩
abbrev cX4_byteAt : ByteArray := prog_6_method_9_code
def yX4_byteAt : MethodName := ⟨RX4, "byteAt", "(I)I"⟩
abbrev cX4_figure : ByteArray := prog_6_method_10_code
def yX4_figure : MethodName := ⟨RX4, "figure", "(I)I"⟩
abbrev cX4_end : ByteArray := prog_6_method_11_code
def yX4_end : MethodName := ⟨RX4, "end", "()I"⟩
abbrev cX4_fits : ByteArray := prog_6_method_12_code
def yX4_fits : MethodName := ⟨RX4, "fits", "(I)Z"⟩
def RX5 : String := "StayWhereFell"
def TX5 : u_T := fun k => match k with
  | 0 => ("StayWhereFell", "text", "LStayWhereFell$Text;", true)
  | 1 => ("StayWhereFell", "field", "LStayWhereFell$Field;", true)
  | 2 => ("StayWhereFell", "ahead", "LStayWhereFell$Place;", true)
  | 3 => ("StayWhereFell", "now", "LStayWhereFell$Place;", true)
  | 4 => ("StayWhereFell", "kept", "LStayWhereFell$Place;", true)
  | 5 => ("StayWhereFell", "past", "LStayWhereFell$Past;", true)
  | 6 => ("StayWhereFell", "slots", "LStayWhereFell$Shelf;", true)
  | _ => ("StayWhereFell", "chance", "J", false)
def tyX5 : Nat → FieldType := fun k => match k with
  | 0 => .object "StayWhereFell$Text"
  | 1 => .object "StayWhereFell$Field"
  | 2 => .object "StayWhereFell$Place"
  | 3 => .object "StayWhereFell$Place"
  | 4 => .object "StayWhereFell$Place"
  | 5 => .object "StayWhereFell$Past"
  | 6 => .object "StayWhereFell$Shelf"
  | _ => .long
abbrev wsX50 : List Cond := u_ws RX5 TX5 8
theorem nmX5 : ∀ a, a < 8 → ∀ b, b < 8 → a ≠ b → (TX5 a).2.1 ≠ (TX5 b).2.1 := by decide +kernel
theorem tyX5_ok : ∀ k, k < 8 → parseFieldDescriptor (TX5 k).2.2.1 = some (tyX5 k) := by decide +kernel
abbrev cX5_init : ByteArray := prog_1_method_1_code
def yX5_init : MethodName := ⟨RX5, "<init>", "()V"⟩
abbrev cX5_write : ByteArray := prog_1_method_2_code
def yX5_write : MethodName := ⟨RX5, "write", "(IJ)I"⟩
abbrev cX5_wipe : ByteArray := prog_1_method_3_code
def yX5_wipe : MethodName := ⟨RX5, "wipe", "()I"⟩
abbrev cX5_fault : ByteArray := prog_1_method_4_code
def yX5_fault : MethodName := ⟨RX5, "fault", "()I"⟩
abbrev cX5_board : ByteArray := prog_1_method_5_code
def yX5_board : MethodName := ⟨RX5, "board", "()I"⟩
abbrev cX5_cell : ByteArray := prog_1_method_6_code
def yX5_cell : MethodName := ⟨RX5, "cell", "(I)I"⟩
abbrev cX5_gone : ByteArray := prog_1_method_7_code
def yX5_gone : MethodName := ⟨RX5, "gone", "(I)I"⟩
abbrev cX5_aims : ByteArray := prog_1_method_8_code
def yX5_aims : MethodName := ⟨RX5, "aims", "(I)I"⟩
abbrev cX5_can : ByteArray := prog_1_method_9_code
def yX5_can : MethodName := ⟨RX5, "can", "(I)I"⟩
abbrev cX5_plies : ByteArray := prog_1_method_10_code
def yX5_plies : MethodName := ⟨RX5, "plies", "()I"⟩
abbrev cX5_move : ByteArray := prog_1_method_11_code
def yX5_move : MethodName := ⟨RX5, "move", "(II)I"⟩
abbrev cX5_pass : ByteArray := prog_1_method_12_code
def yX5_pass : MethodName := ⟨RX5, "pass", "()I"⟩
abbrev cX5_undo : ByteArray := prog_1_method_13_code
def yX5_undo : MethodName := ⟨RX5, "undo", "()I"⟩
abbrev cX5_judge : ByteArray := prog_1_method_14_code
def yX5_judge : MethodName := ⟨RX5, "judge", "(II)I"⟩
abbrev cX5_wins : ByteArray := prog_1_method_15_code
def yX5_wins : MethodName := ⟨RX5, "wins", "(I)I"⟩
abbrev cX5_keys : ByteArray := prog_1_method_16_code
def yX5_keys : MethodName := ⟨RX5, "keys", "(I)I"⟩
abbrev cX5_keyAt : ByteArray := prog_1_method_17_code
def yX5_keyAt : MethodName := ⟨RX5, "keyAt", "(II)I"⟩
abbrev cX5_odds : ByteArray := prog_1_method_18_code
def yX5_odds : MethodName := ⟨RX5, "odds", "(Z)I"⟩
abbrev cX5_parts : ByteArray := prog_1_method_19_code
def yX5_parts : MethodName := ⟨RX5, "parts", "()I"⟩
abbrev cX5_part : ByteArray := prog_1_method_20_code
def yX5_part : MethodName := ⟨RX5, "part", "(I)I"⟩
abbrev cX5_comes : ByteArray := prog_1_method_21_code
def yX5_comes : MethodName := ⟨RX5, "comes", "(I)I"⟩
abbrev cX5_comesAt : ByteArray := prog_1_method_22_code
def yX5_comesAt : MethodName := ⟨RX5, "comesAt", "(II)I"⟩
abbrev cX5_shut : ByteArray := prog_1_method_23_code
def yX5_shut : MethodName := ⟨RX5, "shut", "()I"⟩
abbrev cX5_ways : ByteArray := prog_1_method_24_code
def yX5_ways : MethodName := ⟨RX5, "ways", "(II)I"⟩
abbrev cX5_seed : ByteArray := prog_1_method_25_code
def yX5_seed : MethodName := ⟨RX5, "seed", "(J)J"⟩
abbrev cX5_play : ByteArray := prog_1_method_26_code
def yX5_play : MethodName := ⟨RX5, "play", "(I)I"⟩
abbrev cX5_keep : ByteArray := prog_1_method_27_code
def yX5_keep : MethodName := ⟨RX5, "keep", "(I)I"⟩
abbrev cX5_again : ByteArray := prog_1_method_28_code
def yX5_again : MethodName := ⟨RX5, "again", "(I)I"⟩
abbrev cX5_count : ByteArray := prog_1_method_29_code
def yX5_count : MethodName := ⟨RX5, "count", "(I)I"⟩
abbrev cX5_isCell : ByteArray := prog_1_method_30_code
def yX5_isCell : MethodName := ⟨RX5, "isCell", "(I)Z"⟩
abbrev cX5_isSlot : ByteArray := prog_1_method_31_code
def yX5_isSlot : MethodName := ⟨RX5, "isSlot", "(I)Z"⟩
abbrev cX5_refusedAhead : ByteArray := prog_1_method_32_code
def yX5_refusedAhead : MethodName := ⟨RX5, "refusedAhead", "(I)I"⟩
abbrev cX5_may : ByteArray := prog_1_method_33_code
def yX5_may : MethodName := ⟨RX5, "may", "(LStayWhereFell$Place;I)Z"⟩
abbrev cX5_listKeys : ByteArray := prog_1_method_34_code
def yX5_listKeys : MethodName := ⟨RX5, "listKeys", "(I)I"⟩
abbrev cX5_partsAheadOf : ByteArray := prog_1_method_35_code
def yX5_partsAheadOf : MethodName := ⟨RX5, "partsAheadOf", "(I)I"⟩
abbrev cX5_canComeAt : ByteArray := prog_1_method_36_code
def yX5_canComeAt : MethodName := ⟨RX5, "canComeAt", "(II)Z"⟩
abbrev cX5_isForced : ByteArray := prog_1_method_37_code
def yX5_isForced : MethodName := ⟨RX5, "isForced", "(LStayWhereFell$Field;LStayWhereFell$Place;II)Z"⟩
abbrev cX5_rowsTo : ByteArray := prog_1_method_38_code
def yX5_rowsTo : MethodName := ⟨RX5, "rowsTo", "(LStayWhereFell$Field;LStayWhereFell$Place;LStayWhereFell$Place;I)I"⟩
abbrev cX5_greatestCommon : ByteArray := prog_1_method_39_code
def yX5_greatestCommon : MethodName := ⟨RX5, "greatestCommon", "(II)I"⟩
abbrev cX5_has : ByteArray := prog_1_method_40_code
def yX5_has : MethodName := ⟨RX5, "has", "(II)Z"⟩
abbrev cX5_lowest : ByteArray := prog_1_method_41_code
def yX5_lowest : MethodName := ⟨RX5, "lowest", "(I)I"⟩
abbrev cX5_at : ByteArray := prog_1_method_42_code
def yX5_at : MethodName := ⟨RX5, "at", "([II)I"⟩
abbrev cX5_lay : ByteArray := prog_1_method_43_code
def yX5_lay : MethodName := ⟨RX5, "lay", "([III)V"⟩
abbrev cX5_letter : ByteArray := prog_1_method_44_code
def yX5_letter : MethodName := ⟨RX5, "letter", "(I)I"⟩
abbrev cX5_sideOf : ByteArray := prog_1_method_45_code
def yX5_sideOf : MethodName := ⟨RX5, "sideOf", "(I)I"⟩
abbrev cX5_kindOf : ByteArray := prog_1_method_46_code
def yX5_kindOf : MethodName := ⟨RX5, "kindOf", "(I)I"⟩
def RX6 : String := "StayWhereFellModel"
def TX6 : u_T := fun k => match k with
  | 0 => ("StayWhereFellModel", "width", "I", false)
  | 1 => ("StayWhereFellModel", "height", "I", false)
  | 2 => ("StayWhereFellModel", "last", "I", false)
  | 3 => ("StayWhereFellModel", "cells", "[I", true)
  | 4 => ("StayWhereFellModel", "goes", "[I", true)
  | 5 => ("StayWhereFellModel", "on", "[I", true)
  | 6 => ("StayWhereFellModel", "lost", "[I", true)
  | 7 => ("StayWhereFellModel", "text", "[I", true)
  | 8 => ("StayWhereFellModel", "length", "I", false)
  | 9 => ("StayWhereFellModel", "listed", "[I", true)
  | 10 => ("StayWhereFellModel", "listedMany", "[I", true)
  | 11 => ("StayWhereFellModel", "plies", "I", false)
  | 12 => ("StayWhereFellModel", "next", "I", false)
  | 13 => ("StayWhereFellModel", "row", "[I", true)
  | 14 => ("StayWhereFellModel", "found", "[I", true)
  | 15 => ("StayWhereFellModel", "parted", "[I", true)
  | 16 => ("StayWhereFellModel", "seed", "J", false)
  | 17 => ("StayWhereFellModel", "isKept", "[Z", true)
  | _ => ("StayWhereFellModel", "kept", "[I", true)
def tyX6 : Nat → FieldType := fun k => match k with
  | 0 => .int
  | 1 => .int
  | 2 => .int
  | 3 => .array .int
  | 4 => .array .int
  | 5 => .array .int
  | 6 => .array .int
  | 7 => .array .int
  | 8 => .int
  | 9 => .array .int
  | 10 => .array .int
  | 11 => .int
  | 12 => .int
  | 13 => .array .int
  | 14 => .array .int
  | 15 => .array .int
  | 16 => .long
  | 17 => .array .boolean
  | _ => .array .int
abbrev wsX60 : List Cond := u_ws RX6 TX6 19
theorem nmX6 : ∀ a, a < 19 → ∀ b, b < 19 → a ≠ b → (TX6 a).2.1 ≠ (TX6 b).2.1 := by decide +kernel
theorem tyX6_ok : ∀ k, k < 19 → parseFieldDescriptor (TX6 k).2.2.1 = some (tyX6 k) := by decide +kernel
abbrev cX6_init : ByteArray := prog_8_method_1_code
def yX6_init : MethodName := ⟨RX6, "<init>", "()V"⟩
abbrev cX6_in : ByteArray := prog_8_method_3_code
def yX6_in : MethodName := ⟨RX6, "in", "(JJJ)Z"⟩
abbrev cX6_write : ByteArray := prog_8_method_4_code
def yX6_write : MethodName := ⟨RX6, "write", "(IJ)I"⟩
abbrev cX6_wipe : ByteArray := prog_8_method_5_code
def yX6_wipe : MethodName := ⟨RX6, "wipe", "()I"⟩
abbrev cX6_sideOf : ByteArray := prog_8_method_6_code
def yX6_sideOf : MethodName := ⟨RX6, "sideOf", "(I)I"⟩
abbrev cX6_isCellSign : ByteArray := prog_8_method_7_code
def yX6_isCellSign : MethodName := ⟨RX6, "isCellSign", "(I)Z"⟩
abbrev cX6_fits : ByteArray := prog_8_method_8_code
def yX6_fits : MethodName := ⟨RX6, "fits", "(I)Z"⟩
abbrev cX6_fault : ByteArray := prog_8_method_9_code
def yX6_fault : MethodName := ⟨RX6, "fault", "()I"⟩
abbrev cX6_board : ByteArray := prog_8_method_10_code
def yX6_board : MethodName := ⟨RX6, "board", "()I"⟩
abbrev cX6_isCell : ByteArray := prog_8_method_11_code
def yX6_isCell : MethodName := ⟨RX6, "isCell", "(I)Z"⟩
abbrev cX6_cell : ByteArray := prog_8_method_12_code
def yX6_cell : MethodName := ⟨RX6, "cell", "(I)I"⟩
abbrev cX6_gone : ByteArray := prog_8_method_13_code
def yX6_gone : MethodName := ⟨RX6, "gone", "(I)I"⟩
abbrev cX6_kindOf : ByteArray := prog_8_method_14_code
def yX6_kindOf : MethodName := ⟨RX6, "kindOf", "(I)I"⟩
abbrev cX6_at : ByteArray := prog_8_method_15_code
def yX6_at : MethodName := ⟨RX6, "at", "(III)I"⟩
abbrev cX6_isFree : ByteArray := prog_8_method_16_code
def yX6_isFree : MethodName := ⟨RX6, "isFree", "(IIZ)Z"⟩
abbrev cX6_line : ByteArray := prog_8_method_17_code
def yX6_line : MethodName := ⟨RX6, "line", "(IIIIZ)I"⟩
abbrev cX6_step : ByteArray := prog_8_method_18_code
def yX6_step : MethodName := ⟨RX6, "step", "(III)I"⟩
abbrev cX6_aimsOf : ByteArray := prog_8_method_19_code
def yX6_aimsOf : MethodName := ⟨RX6, "aimsOf", "(IIIZ)I"⟩
abbrev cX6_aims : ByteArray := prog_8_method_20_code
def yX6_aims : MethodName := ⟨RX6, "aims", "(I)I"⟩
abbrev cX6_going : ByteArray := prog_8_method_21_code
def yX6_going : MethodName := ⟨RX6, "going", "(IIIZ)I"⟩
abbrev cX6_canOf : ByteArray := prog_8_method_22_code
def yX6_canOf : MethodName := ⟨RX6, "canOf", "(II)I"⟩
abbrev cX6_can : ByteArray := prog_8_method_23_code
def yX6_can : MethodName := ⟨RX6, "can", "(I)I"⟩
abbrev cX6_list : ByteArray := prog_8_method_24_code
def yX6_list : MethodName := ⟨RX6, "list", "(I)I"⟩
abbrev cX6_hasKing : ByteArray := prog_8_method_25_code
def yX6_hasKing : MethodName := ⟨RX6, "hasKing", "(II)Z"⟩
abbrev cX6_make : ByteArray := prog_8_method_26_code
def yX6_make : MethodName := ⟨RX6, "make", "(III)I"⟩
abbrev cX6_plies : ByteArray := prog_8_method_27_code
def yX6_plies : MethodName := ⟨RX6, "plies", "()I"⟩
abbrev cX6_keepPly : ByteArray := prog_8_method_28_code
def yX6_keepPly : MethodName := ⟨RX6, "keepPly", "()V"⟩
abbrev cX6_isPly : ByteArray := prog_8_method_29_code
def yX6_isPly : MethodName := ⟨RX6, "isPly", "(III)Z"⟩
abbrev cX6_move : ByteArray := prog_8_method_30_code
def yX6_move : MethodName := ⟨RX6, "move", "(II)I"⟩
abbrev cX6_pass : ByteArray := prog_8_method_31_code
def yX6_pass : MethodName := ⟨RX6, "pass", "()I"⟩
abbrev cX6_undo : ByteArray := prog_8_method_32_code
def yX6_undo : MethodName := ⟨RX6, "undo", "()I"⟩
abbrev cX6_tenTo : ByteArray := prog_8_method_33_code
def yX6_tenTo : MethodName := ⟨RX6, "tenTo", "(I)I"⟩
abbrev cX6_judge : ByteArray := prog_8_method_34_code
def yX6_judge : MethodName := ⟨RX6, "judge", "(II)I"⟩
abbrev cX6_winsNow : ByteArray := prog_8_method_35_code
def yX6_winsNow : MethodName := ⟨RX6, "winsNow", "(I)Z"⟩
abbrev cX6_isDone : ByteArray := prog_8_method_36_code
def yX6_isDone : MethodName := ⟨RX6, "isDone", "(I)Z"⟩
abbrev cX6_isKey : ByteArray := prog_8_method_37_code
def yX6_isKey : MethodName := ⟨RX6, "isKey", "(II)Z"⟩
abbrev cX6_layKeys : ByteArray := prog_8_method_38_code
def yX6_layKeys : MethodName := ⟨RX6, "layKeys", "(I)I"⟩
abbrev cX6_wins : ByteArray := prog_8_method_39_code
def yX6_wins : MethodName := ⟨RX6, "wins", "(I)I"⟩
abbrev cX6_keys : ByteArray := prog_8_method_40_code
def yX6_keys : MethodName := ⟨RX6, "keys", "(I)I"⟩
abbrev cX6_keyAt : ByteArray := prog_8_method_41_code
def yX6_keyAt : MethodName := ⟨RX6, "keyAt", "(II)I"⟩
abbrev cX6_common : ByteArray := prog_8_method_42_code
def yX6_common : MethodName := ⟨RX6, "common", "(II)I"⟩
abbrev cX6_odds : ByteArray := prog_8_method_43_code
def yX6_odds : MethodName := ⟨RX6, "odds", "(Z)I"⟩
abbrev cX6_layParts : ByteArray := prog_8_method_44_code
def yX6_layParts : MethodName := ⟨RX6, "layParts", "()I"⟩
abbrev cX6_spread : ByteArray := prog_8_method_45_code
def yX6_spread : MethodName := ⟨RX6, "spread", "(II)V"⟩
abbrev cX6_parts : ByteArray := prog_8_method_46_code
def yX6_parts : MethodName := ⟨RX6, "parts", "()I"⟩
abbrev cX6_part : ByteArray := prog_8_method_47_code
def yX6_part : MethodName := ⟨RX6, "part", "(I)I"⟩
abbrev cX6_comesTo : ByteArray := prog_8_method_48_code
def yX6_comesTo : MethodName := ⟨RX6, "comesTo", "(I)I"⟩
abbrev cX6_comes : ByteArray := prog_8_method_49_code
def yX6_comes : MethodName := ⟨RX6, "comes", "(I)I"⟩
abbrev cX6_canComeAt : ByteArray := prog_8_method_50_code
def yX6_canComeAt : MethodName := ⟨RX6, "canComeAt", "(II)Z"⟩
abbrev cX6_areFoes : ByteArray := prog_8_method_51_code
def yX6_areFoes : MethodName := ⟨RX6, "areFoes", "(II)Z"⟩
abbrev cX6_comesAt : ByteArray := prog_8_method_52_code
def yX6_comesAt : MethodName := ⟨RX6, "comesAt", "(II)I"⟩
abbrev cX6_shut : ByteArray := prog_8_method_53_code
def yX6_shut : MethodName := ⟨RX6, "shut", "()I"⟩
abbrev cX6_isLike : ByteArray := prog_8_method_54_code
def yX6_isLike : MethodName := ⟨RX6, "isLike", "(II)Z"⟩
abbrev cX6_oneWay : ByteArray := prog_8_method_55_code
def yX6_oneWay : MethodName := ⟨RX6, "oneWay", "(II)I"⟩
abbrev cX6_twoWays : ByteArray := prog_8_method_56_code
def yX6_twoWays : MethodName := ⟨RX6, "twoWays", "(II)I"⟩
abbrev cX6_ways : ByteArray := prog_8_method_57_code
def yX6_ways : MethodName := ⟨RX6, "ways", "(II)I"⟩
abbrev cX6_seed : ByteArray := prog_8_method_58_code
def yX6_seed : MethodName := ⟨RX6, "seed", "(J)J"⟩
abbrev cX6_men : ByteArray := prog_8_method_59_code
def yX6_men : MethodName := ⟨RX6, "men", "(I)I"⟩
abbrev cX6_play : ByteArray := prog_8_method_60_code
def yX6_play : MethodName := ⟨RX6, "play", "(I)I"⟩
abbrev cX6_keep : ByteArray := prog_8_method_61_code
def yX6_keep : MethodName := ⟨RX6, "keep", "(I)I"⟩
abbrev cX6_again : ByteArray := prog_8_method_62_code
def yX6_again : MethodName := ⟨RX6, "again", "(I)I"⟩
abbrev cX6_setOf : ByteArray := prog_8_method_63_code
def yX6_setOf : MethodName := ⟨RX6, "setOf", "(I)I"⟩
abbrev cX6_count : ByteArray := prog_8_method_64_code
def yX6_count : MethodName := ⟨RX6, "count", "(I)I"⟩
def RJ11 : String := "java/lang/Character"
def TJ11 : u_T := fun k => match k with
  | _ => ("", "", "", false)
def tyJ11 : Nat → FieldType := fun k => match k with
  | _ => .int
abbrev wsJ110 : List Cond := u_ws RJ11 TJ11 0
theorem nmJ11 : ∀ a, a < 0 → ∀ b, b < 0 → a ≠ b → (TJ11 a).2.1 ≠ (TJ11 b).2.1 := by decide +kernel
theorem tyJ11_ok : ∀ k, k < 0 → parseFieldDescriptor (TJ11 k).2.2.1 = some (tyJ11 k) := by decide +kernel
abbrev cJ11_isValidCodePoint_9a6ad : ByteArray := prog_9_method_11_code
def yJ11_isValidCodePoint_9a6ad : MethodName := ⟨RJ11, "isValidCodePoint", "(I)Z"⟩
abbrev cJ11_highSurrogate_5068e : ByteArray := prog_9_method_28_code
def yJ11_highSurrogate_5068e : MethodName := ⟨RJ11, "highSurrogate", "(I)C"⟩
abbrev cJ11_lowSurrogate_5068e : ByteArray := prog_9_method_29_code
def yJ11_lowSurrogate_5068e : MethodName := ⟨RJ11, "lowSurrogate", "(I)C"⟩
def RJ6 : String := "java/lang/Integer"
def TJ6 : u_T := fun k => match k with
  | _ => ("", "", "", false)
def tyJ6 : Nat → FieldType := fun k => match k with
  | _ => .int
abbrev wsJ60 : List Cond := u_ws RJ6 TJ6 0
theorem nmJ6 : ∀ a, a < 0 → ∀ b, b < 0 → a ≠ b → (TJ6 a).2.1 ≠ (TJ6 b).2.1 := by decide +kernel
theorem tyJ6_ok : ∀ k, k < 0 → parseFieldDescriptor (TJ6 k).2.2.1 = some (tyJ6 k) := by decide +kernel
abbrev cJ6_bitCount_0f7a4 : ByteArray := prog_10_method_49_code
def yJ6_bitCount_0f7a4 : MethodName := ⟨RJ6, "bitCount", "(I)I"⟩
def RJ13 : String := "java/lang/Long"
def TJ13 : u_T := fun k => match k with
  | _ => ("", "", "", false)
def tyJ13 : Nat → FieldType := fun k => match k with
  | _ => .int
abbrev wsJ130 : List Cond := u_ws RJ13 TJ13 0
theorem nmJ13 : ∀ a, a < 0 → ∀ b, b < 0 → a ≠ b → (TJ13 a).2.1 ≠ (TJ13 b).2.1 := by decide +kernel
theorem tyJ13_ok : ∀ k, k < 0 → parseFieldDescriptor (TJ13 k).2.2.1 = some (tyJ13 k) := by decide +kernel
abbrev cJ13_bitCount_95d88 : ByteArray := prog_11_method_50_code
def yJ13_bitCount_95d88 : MethodName := ⟨RJ13, "bitCount", "(J)I"⟩
def RJ9 : String := "java/lang/Math"
def TJ9 : u_T := fun k => match k with
  | _ => ("", "", "", false)
def tyJ9 : Nat → FieldType := fun k => match k with
  | _ => .int
abbrev wsJ90 : List Cond := u_ws RJ9 TJ9 0
theorem nmJ9 : ∀ a, a < 0 → ∀ b, b < 0 → a ≠ b → (TJ9 a).2.1 ≠ (TJ9 b).2.1 := by decide +kernel
theorem tyJ9_ok : ∀ k, k < 0 → parseFieldDescriptor (TJ9 k).2.2.1 = some (tyJ9 k) := by decide +kernel
abbrev cJ9_max_7cf53 : ByteArray := prog_12_method_65_code
def yJ9_max_7cf53 : MethodName := ⟨RJ9, "max", "(II)I"⟩
abbrev cJ9_min_7cf53 : ByteArray := prog_12_method_69_code
def yJ9_min_7cf53 : MethodName := ⟨RJ9, "min", "(II)I"⟩
def RJ0 : String := "java/lang/String"
def TJ0 : u_T := fun k => match k with
  | _ => ("", "", "", false)
def tyJ0 : Nat → FieldType := fun k => match k with
  | _ => .int
abbrev wsJ00 : List Cond := u_ws RJ0 TJ0 0
theorem nmJ0 : ∀ a, a < 0 → ∀ b, b < 0 → a ≠ b → (TJ0 a).2.1 ≠ (TJ0 b).2.1 := by decide +kernel
theorem tyJ0_ok : ∀ k, k < 0 → parseFieldDescriptor (TJ0 k).2.2.1 = some (tyJ0 k) := by decide +kernel
abbrev cJ0_length_8abf5 : ByteArray := prog_13_method_54_code
def yJ0_length_8abf5 : MethodName := ⟨RJ0, "length", "()I"⟩
abbrev cJ0_charAt_5068e : ByteArray := prog_13_method_56_code
def yJ0_charAt_5068e : MethodName := ⟨RJ0, "charAt", "(I)C"⟩
abbrev cJ0_indexOf_0f7a4 : ByteArray := prog_13_method_79_code
def yJ0_indexOf_0f7a4 : MethodName := ⟨RJ0, "indexOf", "(I)I"⟩
abbrev cJ0_indexOf_7cf53 : ByteArray := prog_13_method_80_code
def yJ0_indexOf_7cf53 : MethodName := ⟨RJ0, "indexOf", "(II)I"⟩
abbrev cJ0_coder_7d493 : ByteArray := prog_13_method_152_code
def yJ0_coder_7d493 : MethodName := ⟨RJ0, "coder", "()B"⟩
abbrev cJ0_isLatin1_aae02 : ByteArray := prog_13_method_154_code
def yJ0_isLatin1_aae02 : MethodName := ⟨RJ0, "isLatin1", "()Z"⟩
abbrev cJ0_checkIndex_df160 : ByteArray := prog_13_method_155_code
def yJ0_checkIndex_df160 : MethodName := ⟨RJ0, "checkIndex", "(II)V"⟩
abbrev cJ0_checkBoundsBeginEnd_23922 : ByteArray := prog_13_method_158_code
def yJ0_checkBoundsBeginEnd_23922 : MethodName := ⟨RJ0, "checkBoundsBeginEnd", "(III)V"⟩
def RJ1 : String := "java/lang/StringLatin1"
def TJ1 : u_T := fun k => match k with
  | _ => ("", "", "", false)
def tyJ1 : Nat → FieldType := fun k => match k with
  | _ => .int
abbrev wsJ10 : List Cond := u_ws RJ1 TJ1 0
theorem nmJ1 : ∀ a, a < 0 → ∀ b, b < 0 → a ≠ b → (TJ1 a).2.1 ≠ (TJ1 b).2.1 := by decide +kernel
theorem tyJ1_ok : ∀ k, k < 0 → parseFieldDescriptor (TJ1 k).2.2.1 = some (tyJ1 k) := by decide +kernel
abbrev cJ1_charAt_3b067 : ByteArray := prog_14_method_2_code
def yJ1_charAt_3b067 : MethodName := ⟨RJ1, "charAt", "([BI)C"⟩
abbrev cJ1_canEncode_9a6ad : ByteArray := prog_14_method_4_code
def yJ1_canEncode_9a6ad : MethodName := ⟨RJ1, "canEncode", "(I)Z"⟩
abbrev cJ1_indexOf_4cfef : ByteArray := prog_14_method_22_code
def yJ1_indexOf_4cfef : MethodName := ⟨RJ1, "indexOf", "([BIII)I"⟩
abbrev cJ1_indexOfChar_4cfef : ByteArray := prog_14_method_23_code
def yJ1_indexOfChar_4cfef : MethodName := ⟨RJ1, "indexOfChar", "([BIII)I"⟩
def RJ2 : String := "java/lang/StringUTF16"
def TJ2 : u_T := fun k => match k with
  | _ => ("", "", "", false)
def tyJ2 : Nat → FieldType := fun k => match k with
  | _ => .int
abbrev wsJ20 : List Cond := u_ws RJ2 TJ2 0
theorem nmJ2 : ∀ a, a < 0 → ∀ b, b < 0 → a ≠ b → (TJ2 a).2.1 ≠ (TJ2 b).2.1 := by decide +kernel
theorem tyJ2_ok : ∀ k, k < 0 → parseFieldDescriptor (TJ2 k).2.2.1 = some (tyJ2 k) := by decide +kernel
abbrev cJ2_getChar_3b067 : ByteArray := prog_15_method_5_code
def yJ2_getChar_3b067 : MethodName := ⟨RJ2, "getChar", "([BI)C"⟩
abbrev cJ2_length_9d52b : ByteArray := prog_15_method_6_code
def yJ2_length_9d52b : MethodName := ⟨RJ2, "length", "([B)I"⟩
abbrev cJ2_indexOf_4cfef : ByteArray := prog_15_method_40_code
def yJ2_indexOf_4cfef : MethodName := ⟨RJ2, "indexOf", "([BIII)I"⟩
abbrev cJ2_indexOfChar_4cfef : ByteArray := prog_15_method_47_code
def yJ2_indexOfChar_4cfef : MethodName := ⟨RJ2, "indexOfChar", "([BIII)I"⟩
abbrev cJ2_indexOfCharUnsafe_4cfef : ByteArray := prog_15_method_48_code
def yJ2_indexOfCharUnsafe_4cfef : MethodName := ⟨RJ2, "indexOfCharUnsafe", "([BIII)I"⟩
abbrev cJ2_indexOfSupplementary_4cfef : ByteArray := prog_15_method_49_code
def yJ2_indexOfSupplementary_4cfef : MethodName := ⟨RJ2, "indexOfSupplementary", "([BIII)I"⟩
abbrev cJ2_charAt_3b067 : ByteArray := prog_15_method_83_code
def yJ2_charAt_3b067 : MethodName := ⟨RJ2, "charAt", "([BI)C"⟩
abbrev cJ2_checkIndex_2214a : ByteArray := prog_15_method_91_code
def yJ2_checkIndex_2214a : MethodName := ⟨RJ2, "checkIndex", "(I[B)V"⟩
abbrev cJ2_checkBoundsBeginEnd_d044e : ByteArray := prog_15_method_93_code
def yJ2_checkBoundsBeginEnd_d044e : MethodName := ⟨RJ2, "checkBoundsBeginEnd", "(II[B)V"⟩
def RJ3 : String := "jdk/internal/util/Preconditions"
def TJ3 : u_T := fun k => match k with
  | _ => ("", "", "", false)
def tyJ3 : Nat → FieldType := fun k => match k with
  | _ => .int
abbrev wsJ30 : List Cond := u_ws RJ3 TJ3 0
theorem nmJ3 : ∀ a, a < 0 → ∀ b, b < 0 → a ≠ b → (TJ3 a).2.1 ≠ (TJ3 b).2.1 := by decide +kernel
theorem tyJ3_ok : ∀ k, k < 0 → parseFieldDescriptor (TJ3 k).2.2.1 = some (tyJ3 k) := by decide +kernel
abbrev cJ3_checkIndex_8e157 : ByteArray := prog_16_method_11_code
def yJ3_checkIndex_8e157 : MethodName := ⟨RJ3, "checkIndex", "(IILjava/util/function/BiFunction;)I"⟩
abbrev cJ3_checkFromToIndex_8c36e : ByteArray := prog_16_method_12_code
def yJ3_checkFromToIndex_8c36e : MethodName := ⟨RJ3, "checkFromToIndex", "(IIILjava/util/function/BiFunction;)I"⟩
def RL : String := "StayWhereFellLaw"
abbrev cL_law : ByteArray := code
def yL_law : MethodName := ⟨RL, "law", "([I)Z"⟩
def wsL_law_r1 : List Cond := [Cond.classLink RL 7 RX5, Cond.instantiable RX5 8, Cond.initialized RX5, Cond.classLink RL 10 RX6, Cond.instantiable RX6 19, Cond.initialized RX6, Cond.constantLong RL 13 (4294967295), Cond.methodLink RL 9 yX5_init, Cond.instanceMethod yX5_init, Cond.code yX5_init cX5_init 1 none, Cond.methodLink RX5 3 objectInit, Cond.instanceMethod objectInit, Cond.code objectInit ⟨#[0xb1]⟩ 1 none, Cond.classLink RX5 9 RX4, Cond.instantiable RX4 2, Cond.initialized RX4, Cond.fieldLink RX5 12 "StayWhereFell" "text" "LStayWhereFell$Text;", Cond.classLink RX5 16 RX0, Cond.instantiable RX0 9, Cond.initialized RX0, Cond.fieldLink RX5 19 "StayWhereFell" "field" "LStayWhereFell$Field;", Cond.classLink RX5 23 RX2, Cond.instantiable RX2 11, Cond.initialized RX2]
def wsL_law_r2 : List Cond := [Cond.fieldLink RX5 28 "StayWhereFell" "ahead" "LStayWhereFell$Place;", Cond.fieldLink RX5 32 "StayWhereFell" "now" "LStayWhereFell$Place;", Cond.fieldLink RX5 35 "StayWhereFell" "kept" "LStayWhereFell$Place;", Cond.classLink RX5 38 RX1, Cond.instantiable RX1 3, Cond.initialized RX1, Cond.fieldLink RX5 41 "StayWhereFell" "past" "LStayWhereFell$Past;", Cond.classLink RX5 45 RX3, Cond.instantiable RX3 4, Cond.initialized RX3, Cond.fieldLink RX5 50 "StayWhereFell" "slots" "LStayWhereFell$Shelf;", Cond.fieldLink RX5 54 "StayWhereFell" "chance" "J", Cond.instanceMethod yX4_init, Cond.code yX4_init cX4_init 1 none, Cond.methodLink RX4 3 objectInit, Cond.arrayClass .byte, Cond.fieldLink RX4 9 "StayWhereFell$Text" "bytes" "[B", Cond.fieldLink RX4 15 "StayWhereFell$Text" "length" "I", Cond.instanceMethod yX0_init, Cond.code yX0_init cX0_init 1 none, Cond.methodLink RX0 3 objectInit, Cond.arrayClass .int, Cond.fieldLink RX0 11 "StayWhereFell$Field" "beside" "[I", Cond.fieldLink RX0 15 "StayWhereFell$Field" "around" "[I"]
def wsL_law_r3 : List Cond := [Cond.fieldLink RX0 18 "StayWhereFell$Field" "leaps" "[I", Cond.fieldLink RX0 21 "StayWhereFell$Field" "slants" "[I", Cond.fieldLink RX0 24 "StayWhereFell$Field" "steps" "[I", Cond.fieldLink RX0 27 "StayWhereFell$Field" "width" "I", Cond.fieldLink RX0 31 "StayWhereFell$Field" "height" "I", Cond.fieldLink RX0 34 "StayWhereFell$Field" "last" "I", Cond.fieldLink RX0 37 "StayWhereFell$Field" "cells" "I", Cond.methodLink RX5 25 yX2_init, Cond.instanceMethod yX2_init, Cond.code yX2_init cX2_init 2 none, Cond.methodLink RX2 3 objectInit, Cond.fieldLink RX2 9 "StayWhereFell$Place" "row" "[I", Cond.fieldLink RX2 15 "StayWhereFell$Place" "size" "I", Cond.fieldLink RX2 19 "StayWhereFell$Place" "signs" "J", Cond.fieldLink RX2 23 "StayWhereFell$Place" "times" "J", Cond.fieldLink RX2 26 "StayWhereFell$Place" "white" "I", Cond.fieldLink RX2 29 "StayWhereFell$Place" "black" "I", Cond.fieldLink RX2 32 "StayWhereFell$Place" "dead" "I", Cond.fieldLink RX2 35 "StayWhereFell$Place" "kings" "I", Cond.fieldLink RX2 38 "StayWhereFell$Place" "on" "I", Cond.fieldLink RX2 41 "StayWhereFell$Place" "lost" "I", Cond.fieldLink RX2 44 "StayWhereFell$Place" "under" "LStayWhereFell$Place;", Cond.instanceMethod yX1_init, Cond.code yX1_init cX1_init 1 none]
def wsL_law_r4 : List Cond := [Cond.methodLink RX1 3 objectInit, Cond.classLink RX1 9 RX3, Cond.fieldLink RX1 14 "StayWhereFell$Past" "places" "LStayWhereFell$Shelf;", Cond.fieldLink RX1 20 "StayWhereFell$Past" "first" "I", Cond.fieldLink RX1 24 "StayWhereFell$Past" "size" "I", Cond.methodLink RX1 11 yX3_init, Cond.instanceMethod yX3_init, Cond.code yX3_init cX3_init 4 none, Cond.methodLink RX3 3 objectInit, Cond.arrayClass .long, Cond.fieldLink RX3 9 "StayWhereFell$Shelf" "signs" "[J", Cond.fieldLink RX3 15 "StayWhereFell$Shelf" "times" "[J", Cond.fieldLink RX3 18 "StayWhereFell$Shelf" "ons" "[I", Cond.fieldLink RX3 22 "StayWhereFell$Shelf" "losts" "[I", Cond.methodLink RX5 47 yX3_init, Cond.methodLink RX5 58 yX0_shape, Cond.instanceMethod yX0_shape, Cond.selects RX0 yX0_shape yX0_shape, Cond.code yX0_shape cX0_shape 6 none, Cond.methodLink RX0 40 yX0_surround, Cond.instanceMethod yX0_surround, Cond.selects RX0 yX0_surround yX0_surround, Cond.code yX0_surround cX0_surround 8 none, Cond.fieldLink RX0 78 "StayWhereFell$Field" "ACROSS" "[I"]
def wsL_law_r5 : List Cond := [Cond.fieldLink RX0 81 "StayWhereFell$Field" "DOWN" "[I", Cond.fieldLink RX0 95 "StayWhereFell$Field" "LEAP_ACROSS" "[I", Cond.fieldLink RX0 98 "StayWhereFell$Field" "LEAP_DOWN" "[I", Cond.static yX5_at, Cond.code yX5_at cX5_at 2 (some .int), Cond.methodLink RX0 84 yX0_cellAt, Cond.instanceMethod yX0_cellAt, Cond.selects RX0 yX0_cellAt yX0_cellAt, Cond.code yX0_cellAt cX0_cellAt 4 (some .int), Cond.static yX5_lay, Cond.code yX5_lay cX5_lay 3 none, Cond.methodLink RX0 92 yX0_bitOf, Cond.static yX0_bitOf, Cond.code yX0_bitOf cX0_bitOf 1 (some .int), Cond.methodLink RX0 44 yX0_lookAhead, Cond.instanceMethod yX0_lookAhead, Cond.selects RX0 yX0_lookAhead yX0_lookAhead, Cond.code yX0_lookAhead cX0_lookAhead 4 none, Cond.methodLink RL 12 yX6_init, Cond.instanceMethod yX6_init, Cond.code yX6_init cX6_init 1 none, Cond.methodLink RX6 1 objectInit, Cond.fieldLink RX6 7 "StayWhereFellModel" "cells" "[I", Cond.fieldLink RX6 13 "StayWhereFellModel" "goes" "[I"]
def wsL_law_r6 : List Cond := [Cond.fieldLink RX6 16 "StayWhereFellModel" "on" "[I", Cond.fieldLink RX6 19 "StayWhereFellModel" "lost" "[I", Cond.fieldLink RX6 22 "StayWhereFellModel" "text" "[I", Cond.fieldLink RX6 25 "StayWhereFellModel" "listed" "[I", Cond.fieldLink RX6 28 "StayWhereFellModel" "listedMany" "[I", Cond.fieldLink RX6 31 "StayWhereFellModel" "row" "[I", Cond.fieldLink RX6 34 "StayWhereFellModel" "found" "[I", Cond.fieldLink RX6 37 "StayWhereFellModel" "parted" "[I", Cond.arrayClass .boolean, Cond.fieldLink RX6 40 "StayWhereFellModel" "isKept" "[Z", Cond.fieldLink RX6 44 "StayWhereFellModel" "kept" "[I", Cond.fieldLink RX6 47 "StayWhereFellModel" "width" "I", Cond.fieldLink RX6 51 "StayWhereFellModel" "height" "I", Cond.methodLink RL 15 yX5_write, Cond.instanceMethod yX5_write, Cond.selects RX5 yX5_write yX5_write, Cond.code yX5_write cX5_write 4 (some .int), Cond.methodLink RX5 66 yX4_add, Cond.instanceMethod yX4_add, Cond.selects RX4 yX4_add yX4_add, Cond.code yX4_add cX4_add 5 none, Cond.methodLink RL 19 yX6_write, Cond.instanceMethod yX6_write, Cond.selects RX6 yX6_write yX6_write]
def wsL_law_r7 : List Cond := [Cond.code yX6_write cX6_write 5 (some .int), Cond.constantLong RX6 54 (8), Cond.fieldLink RX6 60 "StayWhereFellModel" "length" "I", Cond.constantLong RX6 63 (255), Cond.methodLink RX6 56 yX6_in, Cond.static yX6_in, Cond.code yX6_in cX6_in 6 (some .boolean), Cond.methodLink RL 20 yX5_wipe, Cond.instanceMethod yX5_wipe, Cond.selects RX5 yX5_wipe yX5_wipe, Cond.code yX5_wipe cX5_wipe 2 (some .int), Cond.methodLink RL 24 yX6_wipe, Cond.instanceMethod yX6_wipe, Cond.selects RX6 yX6_wipe yX6_wipe, Cond.code yX6_wipe cX6_wipe 2 (some .int), Cond.methodLink RL 25 yX5_fault, Cond.instanceMethod yX5_fault, Cond.selects RX5 yX5_fault yX5_fault, Cond.code yX5_fault cX5_fault 1 (some .int), Cond.methodLink RX5 70 yX4_firstFault, Cond.instanceMethod yX4_firstFault, Cond.selects RX4 yX4_firstFault yX4_firstFault, Cond.code yX4_firstFault cX4_firstFault 2 (some .int), Cond.methodLink RX4 19 yX4_fits]
def wsL_law_r8 : List Cond := [Cond.instanceMethod yX4_fits, Cond.selects RX4 yX4_fits yX4_fits, Cond.code yX4_fits cX4_fits 3 (some .boolean), Cond.methodLink RX4 31 yX4_byteAt, Cond.instanceMethod yX4_byteAt, Cond.selects RX4 yX4_byteAt yX4_byteAt, Cond.code yX4_byteAt cX4_byteAt 2 (some .int), Cond.methodLink RX4 23 yX4_end, Cond.instanceMethod yX4_end, Cond.selects RX4 yX4_end yX4_end, Cond.code yX4_end cX4_end 1 (some .int), Cond.methodLink RX4 41 yX4_width, Cond.instanceMethod yX4_width, Cond.selects RX4 yX4_width yX4_width, Cond.code yX4_width cX4_width 1 (some .int), Cond.methodLink RX4 27 yX4_figure, Cond.instanceMethod yX4_figure, Cond.selects RX4 yX4_figure yX4_figure, Cond.code yX4_figure cX4_figure 2 (some .int), Cond.methodLink RX4 44 yX4_height, Cond.instanceMethod yX4_height, Cond.selects RX4 yX4_height yX4_height, Cond.code yX4_height cX4_height 1 (some .int), Cond.methodLink RX4 47 yX4_signOf]
def wsL_law_r9 : List Cond := [Cond.instanceMethod yX4_signOf, Cond.selects RX4 yX4_signOf yX4_signOf, Cond.code yX4_signOf cX4_signOf 2 (some .int), Cond.methodLink RX4 36 yJ0_indexOf_0f7a4, Cond.instanceMethod yJ0_indexOf_0f7a4, Cond.selects RJ0 yJ0_indexOf_0f7a4 yJ0_indexOf_0f7a4, Cond.initialized RJ0, Cond.code yJ0_indexOf_0f7a4 cJ0_indexOf_0f7a4 2 (some .int), Cond.methodLink RJ0 633 yJ0_indexOf_7cf53, Cond.instanceMethod yJ0_indexOf_7cf53, Cond.selects RJ0 yJ0_indexOf_7cf53 yJ0_indexOf_7cf53, Cond.code yJ0_indexOf_7cf53 cJ0_indexOf_7cf53 3 (some .int), Cond.fieldLink RJ0 9 "java/lang/String" "value" "[B", Cond.methodLink RJ0 492 yJ0_isLatin1_aae02, Cond.instanceMethod yJ0_isLatin1_aae02, Cond.selects RJ0 yJ0_isLatin1_aae02 yJ0_isLatin1_aae02, Cond.code yJ0_isLatin1_aae02 cJ0_isLatin1_aae02 1 (some .boolean), Cond.fieldLink RJ0 38 "java/lang/String" "COMPACT_STRINGS" "Z", Cond.fieldLink RJ0 15 "java/lang/String" "coder" "B", Cond.methodLink RJ0 505 yJ0_length_8abf5, Cond.instanceMethod yJ0_length_8abf5, Cond.selects RJ0 yJ0_length_8abf5 yJ0_length_8abf5, Cond.code yJ0_length_8abf5 cJ0_length_8abf5 1 (some .int), Cond.methodLink RJ0 335 yJ0_coder_7d493]
def wsL_law_r10 : List Cond := [Cond.instanceMethod yJ0_coder_7d493, Cond.selects RJ0 yJ0_coder_7d493 yJ0_coder_7d493, Cond.code yJ0_coder_7d493 cJ0_coder_7d493 1 (some .byte), Cond.methodLink RJ0 637 yJ1_indexOf_4cfef, Cond.static yJ1_indexOf_4cfef, Cond.initialized RJ1, Cond.code yJ1_indexOf_4cfef cJ1_indexOf_4cfef 4 (some .int), Cond.methodLink RJ1 92 Lib.Math.max.name, Cond.static Lib.Math.max.name, Cond.initialized "java/lang/Math", Cond.code Lib.Math.max.name Lib.Math.max.code 2 (some .int), Cond.methodLink RJ1 38 Lib.Math.min.name, Cond.static Lib.Math.min.name, Cond.code Lib.Math.min.name Lib.Math.min.code 2 (some .int), Cond.methodLink RJ1 88 yJ1_canEncode_9a6ad, Cond.static yJ1_canEncode_9a6ad, Cond.code yJ1_canEncode_9a6ad cJ1_canEncode_9a6ad 1 (some .boolean), Cond.methodLink RJ1 95 yJ1_indexOfChar_4cfef, Cond.static yJ1_indexOfChar_4cfef, Cond.code yJ1_indexOfChar_4cfef cJ1_indexOfChar_4cfef 6 (some .int), Cond.methodLink RJ0 640 yJ2_indexOf_4cfef, Cond.static yJ2_indexOf_4cfef, Cond.initialized RJ2, Cond.code yJ2_indexOf_4cfef cJ2_indexOf_4cfef 4 (some .int)]
def wsL_law_r11 : List Cond := [Cond.methodLink RJ2 224 Lib.Math.max.name, Cond.methodLink RJ2 183 Lib.Math.min.name, Cond.constant RJ2 227 (65536), Cond.methodLink RJ2 228 yJ2_indexOfChar_4cfef, Cond.static yJ2_indexOfChar_4cfef, Cond.code yJ2_indexOfChar_4cfef cJ2_indexOfChar_4cfef 4 (some .int), Cond.methodLink RJ2 96 yJ2_checkBoundsBeginEnd_d044e, Cond.static yJ2_checkBoundsBeginEnd_d044e, Cond.code yJ2_checkBoundsBeginEnd_d044e cJ2_checkBoundsBeginEnd_d044e 3 none, Cond.methodLink RJ2 48 yJ2_length_9d52b, Cond.static yJ2_length_9d52b, Cond.code yJ2_length_9d52b cJ2_length_9d52b 1 (some .int), Cond.methodLink RJ2 241 yJ0_checkBoundsBeginEnd_23922, Cond.static yJ0_checkBoundsBeginEnd_23922, Cond.code yJ0_checkBoundsBeginEnd_23922 cJ0_checkBoundsBeginEnd_23922 3 none, Cond.fieldLink RJ0 1053 "jdk/internal/util/Preconditions" "SIOOBE_FORMATTER" "Ljava/util/function/BiFunction;", Cond.methodLink RJ0 1062 yJ3_checkFromToIndex_8c36e, Cond.static yJ3_checkFromToIndex_8c36e, Cond.initialized RJ3, Cond.code yJ3_checkFromToIndex_8c36e cJ3_checkFromToIndex_8c36e 4 (some .int), Cond.methodLink RJ2 244 yJ2_indexOfCharUnsafe_4cfef, Cond.static yJ2_indexOfCharUnsafe_4cfef, Cond.code yJ2_indexOfCharUnsafe_4cfef cJ2_indexOfCharUnsafe_4cfef 5 (some .int), Cond.methodLink RJ2 71 yJ2_getChar_3b067]
def wsL_law_r12 : List Cond := [Cond.static yJ2_getChar_3b067, Cond.code yJ2_getChar_3b067 cJ2_getChar_3b067 2 (some .char), Cond.fieldLink RJ2 44 "java/lang/StringUTF16" "$assertionsDisabled" "Z", Cond.fieldLink RJ2 59 "java/lang/StringUTF16" "HI_BYTE_SHIFT" "I", Cond.fieldLink RJ2 63 "java/lang/StringUTF16" "LO_BYTE_SHIFT" "I", Cond.methodLink RJ2 232 yJ2_indexOfSupplementary_4cfef, Cond.static yJ2_indexOfSupplementary_4cfef, Cond.code yJ2_indexOfSupplementary_4cfef cJ2_indexOfSupplementary_4cfef 7 (some .int), Cond.methodLink RJ2 164 yJ11_isValidCodePoint_9a6ad, Cond.static yJ11_isValidCodePoint_9a6ad, Cond.initialized RJ11, Cond.code yJ11_isValidCodePoint_9a6ad cJ11_isValidCodePoint_9a6ad 2 (some .boolean), Cond.methodLink RJ2 157 yJ11_highSurrogate_5068e, Cond.static yJ11_highSurrogate_5068e, Cond.code yJ11_highSurrogate_5068e cJ11_highSurrogate_5068e 1 (some .char), Cond.constant RJ11 110 (55232), Cond.methodLink RJ2 161 yJ11_lowSurrogate_5068e, Cond.static yJ11_lowSurrogate_5068e, Cond.code yJ11_lowSurrogate_5068e cJ11_lowSurrogate_5068e 1 (some .char), Cond.constant RJ11 76 (56320), Cond.methodLink RL 28 yX6_fault, Cond.instanceMethod yX6_fault, Cond.selects RX6 yX6_fault yX6_fault, Cond.code yX6_fault cX6_fault 2 (some .int)]
def wsL_law_r13 : List Cond := [Cond.methodLink RX6 81 yX6_fits, Cond.instanceMethod yX6_fits, Cond.selects RX6 yX6_fits yX6_fits, Cond.code yX6_fits cX6_fits 3 (some .boolean), Cond.constantLong RX6 69 (49), Cond.constantLong RX6 71 (52), Cond.constantLong RX6 73 (48), Cond.constantLong RX6 75 (57), Cond.methodLink RX6 77 yX6_isCellSign, Cond.static yX6_isCellSign, Cond.code yX6_isCellSign cX6_isCellSign 1 (some .boolean), Cond.methodLink RX6 65 yX6_sideOf, Cond.static yX6_sideOf, Cond.code yX6_sideOf cX6_sideOf 1 (some .int), Cond.methodLink RL 29 yX5_board, Cond.instanceMethod yX5_board, Cond.selects RX5 yX5_board yX5_board, Cond.code yX5_board cX5_board 2 (some .int), Cond.methodLink RX5 74 yX4_width, Cond.methodLink RX5 77 yX4_height, Cond.methodLink RX5 80 yX4_last, Cond.instanceMethod yX4_last, Cond.selects RX4 yX4_last yX4_last, Cond.code yX4_last cX4_last 1 (some .int)]
def wsL_law_r14 : List Cond := [Cond.methodLink RX5 83 yX2_clear, Cond.instanceMethod yX2_clear, Cond.selects RX2 yX2_clear yX2_clear, Cond.code yX2_clear cX2_clear 1 none, Cond.methodLink RX2 48 yX2_set, Cond.instanceMethod yX2_set, Cond.selects RX2 yX2_set yX2_set, Cond.code yX2_set cX2_set 8 none, Cond.methodLink RX2 52 yX2_nibble, Cond.static yX2_nibble, Cond.code yX2_nibble cX2_nibble 3 (some .int), Cond.methodLink RX2 56 yX2_put, Cond.instanceMethod yX2_put, Cond.selects RX2 yX2_put yX2_put, Cond.code yX2_put cX2_put 5 none, Cond.constantLong RX2 64 (15), Cond.constantLong RX2 66 (-1), Cond.static yX5_sideOf, Cond.code yX5_sideOf cX5_sideOf 1 (some .int), Cond.methodLink RX2 68 yX2_with, Cond.static yX2_with, Cond.code yX2_with cX2_with 3 (some .int), Cond.static yX5_kindOf, Cond.code yX5_kindOf cX5_kindOf 1 (some .int)]
def wsL_law_r15 : List Cond := [Cond.methodLink RX5 89 yX4_signOf, Cond.methodLink RX5 93 yX2_put, Cond.methodLink RX5 97 yX4_side, Cond.instanceMethod yX4_side, Cond.selects RX4 yX4_side yX4_side, Cond.code yX4_side cX4_side 1 (some .int), Cond.methodLink RX5 103 yX1_clear, Cond.instanceMethod yX1_clear, Cond.selects RX1 yX1_clear yX1_clear, Cond.code yX1_clear cX1_clear 1 none, Cond.methodLink RX5 104 yX3_clear, Cond.instanceMethod yX3_clear, Cond.selects RX3 yX3_clear yX3_clear, Cond.code yX3_clear cX3_clear 2 none, Cond.methodLink RL 32 yX6_board, Cond.instanceMethod yX6_board, Cond.selects RX6 yX6_board yX6_board, Cond.code yX6_board cX6_board 2 (some .int), Cond.fieldLink RX6 88 "StayWhereFellModel" "last" "I", Cond.fieldLink RX6 91 "StayWhereFellModel" "plies" "I", Cond.methodLink RX6 84 yX6_fault, Cond.methodLink RL 33 yX5_cell, Cond.instanceMethod yX5_cell, Cond.selects RX5 yX5_cell yX5_cell]
def wsL_law_r16 : List Cond := [Cond.code yX5_cell cX5_cell 2 (some .int), Cond.methodLink RX5 105 yX5_isCell, Cond.instanceMethod yX5_isCell, Cond.selects RX5 yX5_isCell yX5_isCell, Cond.code yX5_isCell cX5_isCell 2 (some .boolean), Cond.methodLink RX5 109 yX2_sign, Cond.instanceMethod yX2_sign, Cond.selects RX2 yX2_sign yX2_sign, Cond.code yX2_sign cX2_sign 2 (some .int), Cond.methodLink RX5 112 yX5_letter, Cond.static yX5_letter, Cond.code yX5_letter cX5_letter 1 (some .int), Cond.methodLink RX5 270 yJ0_length_8abf5, Cond.methodLink RX5 274 yJ0_charAt_5068e, Cond.instanceMethod yJ0_charAt_5068e, Cond.selects RJ0 yJ0_charAt_5068e yJ0_charAt_5068e, Cond.code yJ0_charAt_5068e cJ0_charAt_5068e 2 (some .char), Cond.methodLink RJ0 495 yJ1_charAt_3b067, Cond.static yJ1_charAt_3b067, Cond.code yJ1_charAt_3b067 cJ1_charAt_3b067 2 (some .char), Cond.methodLink RJ1 9 yJ0_checkIndex_df160, Cond.static yJ0_checkIndex_df160, Cond.code yJ0_checkIndex_df160 cJ0_checkIndex_df160 2 none, Cond.methodLink RJ0 1059 yJ3_checkIndex_8e157]
def wsL_law_r17 : List Cond := [Cond.static yJ3_checkIndex_8e157, Cond.code yJ3_checkIndex_8e157 cJ3_checkIndex_8e157 3 (some .int), Cond.methodLink RJ0 498 yJ2_charAt_3b067, Cond.static yJ2_charAt_3b067, Cond.code yJ2_charAt_3b067 cJ2_charAt_3b067 2 (some .char), Cond.methodLink RJ2 67 yJ2_checkIndex_2214a, Cond.static yJ2_checkIndex_2214a, Cond.code yJ2_checkIndex_2214a cJ2_checkIndex_2214a 2 none, Cond.methodLink RJ2 414 yJ0_checkIndex_df160, Cond.methodLink RL 37 yX6_cell, Cond.instanceMethod yX6_cell, Cond.selects RX6 yX6_cell yX6_cell, Cond.code yX6_cell cX6_cell 2 (some .int), Cond.methodLink RX6 94 yX6_isCell, Cond.instanceMethod yX6_isCell, Cond.selects RX6 yX6_isCell yX6_isCell, Cond.code yX6_isCell cX6_isCell 2 (some .boolean), Cond.methodLink RL 38 yX5_gone, Cond.instanceMethod yX5_gone, Cond.selects RX5 yX5_gone yX5_gone, Cond.code yX5_gone cX5_gone 2 (some .int), Cond.methodLink RX5 118 yX5_has, Cond.static yX5_has, Cond.code yX5_has cX5_has 2 (some .boolean)]
def wsL_law_r18 : List Cond := [Cond.methodLink RX5 122 yX2_lying, Cond.instanceMethod yX2_lying, Cond.selects RX2 yX2_lying yX2_lying, Cond.code yX2_lying cX2_lying 2 (some .int), Cond.methodLink RL 41 yX6_gone, Cond.instanceMethod yX6_gone, Cond.selects RX6 yX6_gone yX6_gone, Cond.code yX6_gone cX6_gone 2 (some .int), Cond.methodLink RL 42 yX5_aims, Cond.instanceMethod yX5_aims, Cond.selects RX5 yX5_aims yX5_aims, Cond.code yX5_aims cX5_aims 2 (some .int), Cond.methodLink RX5 125 yX2_full, Cond.instanceMethod yX2_full, Cond.selects RX2 yX2_full yX2_full, Cond.code yX2_full cX2_full 1 (some .int), Cond.methodLink RX5 128 yX0_aimed, Cond.instanceMethod yX0_aimed, Cond.selects RX0 yX0_aimed yX0_aimed, Cond.code yX0_aimed cX0_aimed 4 (some .int), Cond.methodLink RX0 55 yX0_lines, Cond.instanceMethod yX0_lines, Cond.selects RX0 yX0_lines yX0_lines, Cond.code yX0_lines cX0_lines 8 (some .int)]
def wsL_law_r19 : List Cond := [Cond.methodLink RL 45 yX6_aims, Cond.instanceMethod yX6_aims, Cond.selects RX6 yX6_aims yX6_aims, Cond.code yX6_aims cX6_aims 2 (some .int), Cond.methodLink RX6 115 yX6_aimsOf, Cond.instanceMethod yX6_aimsOf, Cond.selects RX6 yX6_aimsOf yX6_aimsOf, Cond.code yX6_aimsOf cX6_aimsOf 11 (some .int), Cond.methodLink RX6 105 yX6_kindOf, Cond.static yX6_kindOf, Cond.code yX6_kindOf cX6_kindOf 1 (some .int), Cond.methodLink RX6 108 yX6_step, Cond.instanceMethod yX6_step, Cond.selects RX6 yX6_step yX6_step, Cond.code yX6_step cX6_step 5 (some .int), Cond.methodLink RX6 97 yX6_at, Cond.instanceMethod yX6_at, Cond.selects RX6 yX6_at yX6_at, Cond.code yX6_at cX6_at 6 (some .int), Cond.methodLink RX6 111 yX6_line, Cond.instanceMethod yX6_line, Cond.selects RX6 yX6_line yX6_line, Cond.code yX6_line cX6_line 9 (some .int), Cond.methodLink RX6 101 yX6_isFree]
def wsL_law_r20 : List Cond := [Cond.instanceMethod yX6_isFree, Cond.selects RX6 yX6_isFree yX6_isFree, Cond.code yX6_isFree cX6_isFree 4 (some .boolean), Cond.methodLink RL 46 yX5_can, Cond.instanceMethod yX5_can, Cond.selects RX5 yX5_can yX5_can, Cond.code yX5_can cX5_can 2 (some .int), Cond.methodLink RX5 132 yX2_reach, Cond.instanceMethod yX2_reach, Cond.selects RX2 yX2_reach yX2_reach, Cond.code yX2_reach cX2_reach 7 (some .int), Cond.methodLink RX2 80 yX2_sign, Cond.methodLink RX2 83 yX2_full, Cond.methodLink RX2 87 yX0_aimed, Cond.methodLink RX2 93 yX0_going, Cond.instanceMethod yX0_going, Cond.selects RX0 yX0_going yX0_going, Cond.code yX0_going cX0_going 4 (some .int), Cond.methodLink RX2 96 yX2_men, Cond.instanceMethod yX2_men, Cond.selects RX2 yX2_men yX2_men, Cond.code yX2_men cX2_men 2 (some .int), Cond.methodLink RL 49 yX6_can, Cond.instanceMethod yX6_can]
def wsL_law_r21 : List Cond := [Cond.selects RX6 yX6_can yX6_can, Cond.code yX6_can cX6_can 2 (some .int), Cond.methodLink RX6 122 yX6_canOf, Cond.instanceMethod yX6_canOf, Cond.selects RX6 yX6_canOf yX6_canOf, Cond.code yX6_canOf cX6_canOf 7 (some .int), Cond.methodLink RX6 119 yX6_going, Cond.instanceMethod yX6_going, Cond.selects RX6 yX6_going yX6_going, Cond.code yX6_going cX6_going 8 (some .int), Cond.methodLink RL 50 yX5_plies, Cond.instanceMethod yX5_plies, Cond.selects RX5 yX5_plies yX5_plies, Cond.code yX5_plies cX5_plies 1 (some .int), Cond.methodLink RX5 136 yX2_list, Cond.instanceMethod yX2_list, Cond.selects RX2 yX2_list yX2_list, Cond.code yX2_list cX2_list 4 (some .int), Cond.methodLink RX2 106 yX2_reach, Cond.methodLink RX2 110 yX2_listFrom, Cond.instanceMethod yX2_listFrom, Cond.selects RX2 yX2_listFrom yX2_listFrom, Cond.code yX2_listFrom cX2_listFrom 5 none, Cond.methodLink RX2 114 yX2_setPly]
def wsL_law_r22 : List Cond := [Cond.instanceMethod yX2_setPly, Cond.selects RX2 yX2_setPly yX2_setPly, Cond.code yX2_setPly cX2_setPly 3 none, Cond.methodLink RL 53 yX6_plies, Cond.instanceMethod yX6_plies, Cond.selects RX6 yX6_plies yX6_plies, Cond.code yX6_plies cX6_plies 1 (some .int), Cond.methodLink RX6 130 yX6_list, Cond.instanceMethod yX6_list, Cond.selects RX6 yX6_list yX6_list, Cond.code yX6_list cX6_list 6 (some .int), Cond.methodLink RL 54 yX5_move, Cond.instanceMethod yX5_move, Cond.selects RX5 yX5_move yX5_move, Cond.code yX5_move cX5_move 5 (some .int), Cond.methodLink RX5 140 yX5_may, Cond.instanceMethod yX5_may, Cond.selects RX5 yX5_may yX5_may, Cond.code yX5_may cX5_may 5 (some .boolean), Cond.methodLink RX5 176 yX2_men, Cond.methodLink RX5 144 yX1_add, Cond.instanceMethod yX1_add, Cond.selects RX1 yX1_add yX1_add, Cond.code yX1_add cX1_add 2 none]
def wsL_law_r23 : List Cond := [Cond.methodLink RX1 27 yX3_set, Cond.instanceMethod yX3_set, Cond.selects RX3 yX3_set yX3_set, Cond.code yX3_set cX3_set 3 none, Cond.methodLink RX3 25 yX3_isInside, Cond.instanceMethod yX3_isInside, Cond.selects RX3 yX3_isInside yX3_isInside, Cond.code yX3_isInside cX3_isInside 2 (some .boolean), Cond.methodLink RX5 148 yX2_make, Cond.instanceMethod yX2_make, Cond.selects RX2 yX2_make yX2_make, Cond.code yX2_make cX2_make 5 none, Cond.methodLink RX2 132 yX2_age, Cond.instanceMethod yX2_age, Cond.selects RX2 yX2_age yX2_age, Cond.code yX2_age cX2_age 3 none, Cond.methodLink RX2 145 yX2_lying, Cond.methodLink RX2 135 yX2_fall, Cond.instanceMethod yX2_fall, Cond.selects RX2 yX2_fall yX2_fall, Cond.code yX2_fall cX2_fall 5 none, Cond.methodLink RL 58 yX6_move, Cond.instanceMethod yX6_move, Cond.selects RX6 yX6_move yX6_move]
def wsL_law_r24 : List Cond := [Cond.code yX6_move cX6_move 4 (some .int), Cond.methodLink RX6 136 yX6_isPly, Cond.instanceMethod yX6_isPly, Cond.selects RX6 yX6_isPly yX6_isPly, Cond.code yX6_isPly cX6_isPly 4 (some .boolean), Cond.methodLink RX6 140 yX6_keepPly, Cond.instanceMethod yX6_keepPly, Cond.selects RX6 yX6_keepPly yX6_keepPly, Cond.code yX6_keepPly cX6_keepPly 2 none, Cond.fieldLink RX6 133 "StayWhereFellModel" "next" "I", Cond.methodLink RX6 143 yX6_make, Cond.instanceMethod yX6_make, Cond.selects RX6 yX6_make yX6_make, Cond.code yX6_make cX6_make 9 (some .int), Cond.methodLink RX6 126 yX6_hasKing, Cond.instanceMethod yX6_hasKing, Cond.selects RX6 yX6_hasKing yX6_hasKing, Cond.code yX6_hasKing cX6_hasKing 5 (some .boolean), Cond.methodLink RL 59 yX5_pass, Cond.instanceMethod yX5_pass, Cond.selects RX5 yX5_pass yX5_pass, Cond.code yX5_pass cX5_pass 1 (some .int), Cond.methodLink RX5 151 yX2_ply, Cond.instanceMethod yX2_ply]
def wsL_law_r25 : List Cond := [Cond.selects RX2 yX2_ply yX2_ply, Cond.code yX2_ply cX2_ply 2 (some .int), Cond.methodLink RL 62 yX6_pass, Cond.instanceMethod yX6_pass, Cond.selects RX6 yX6_pass yX6_pass, Cond.code yX6_pass cX6_pass 1 (some .int), Cond.methodLink RL 63 yX5_undo, Cond.instanceMethod yX5_undo, Cond.selects RX5 yX5_undo yX5_undo, Cond.code yX5_undo cX5_undo 1 (some .int), Cond.methodLink RX5 157 yX1_takeLast, Cond.instanceMethod yX1_takeLast, Cond.selects RX1 yX1_takeLast yX1_takeLast, Cond.code yX1_takeLast cX1_takeLast 2 none, Cond.methodLink RX1 31 yX3_get, Cond.instanceMethod yX3_get, Cond.selects RX3 yX3_get yX3_get, Cond.code yX3_get cX3_get 3 none, Cond.methodLink RX3 43 yX3_holds, Cond.instanceMethod yX3_holds, Cond.selects RX3 yX3_holds yX3_holds, Cond.code yX3_holds cX3_holds 2 (some .boolean), Cond.methodLink RX3 46 yX2_set, Cond.methodLink RL 66 yX6_undo]
def wsL_law_r26 : List Cond := [Cond.instanceMethod yX6_undo, Cond.selects RX6 yX6_undo yX6_undo, Cond.code yX6_undo cX6_undo 2 (some .int), Cond.methodLink RL 67 yX5_judge, Cond.instanceMethod yX5_judge, Cond.selects RX5 yX5_judge yX5_judge, Cond.code yX5_judge cX5_judge 5 (some .int), Cond.methodLink RX5 160 yX2_copy, Cond.instanceMethod yX2_copy, Cond.selects RX2 yX2_copy yX2_copy, Cond.code yX2_copy cX2_copy 2 none, Cond.methodLink RL 70 yX6_judge, Cond.instanceMethod yX6_judge, Cond.selects RX6 yX6_judge yX6_judge, Cond.code yX6_judge cX6_judge 5 (some .int), Cond.constantLong RX6 146 (2), Cond.methodLink RX6 148 yX6_tenTo, Cond.static yX6_tenTo, Cond.code yX6_tenTo cX6_tenTo 3 (some .int), Cond.methodLink RL 71 yX5_wins, Cond.instanceMethod yX5_wins, Cond.selects RX5 yX5_wins yX5_wins, Cond.code yX5_wins cX5_wins 3 (some .int), Cond.methodLink RX5 163 yX5_refusedAhead]
def wsL_law_r27 : List Cond := [Cond.instanceMethod yX5_refusedAhead, Cond.selects RX5 yX5_refusedAhead yX5_refusedAhead, Cond.code yX5_refusedAhead cX5_refusedAhead 2 (some .int), Cond.methodLink RX5 166 yX5_isForced, Cond.static yX5_isForced, Cond.code yX5_isForced cX5_isForced 8 (some .boolean), Cond.methodLink RX5 248 yX2_canFellLast, Cond.instanceMethod yX2_canFellLast, Cond.selects RX2 yX2_canFellLast yX2_canFellLast, Cond.code yX2_canFellLast cX2_canFellLast 5 (some .boolean), Cond.methodLink RX2 75 yJ6_bitCount_0f7a4, Cond.static yJ6_bitCount_0f7a4, Cond.initialized RJ6, Cond.code yJ6_bitCount_0f7a4 cJ6_bitCount_0f7a4 1 (some .int), Cond.constant RJ6 265 (1431655765), Cond.constant RJ6 266 (858993459), Cond.constant RJ6 267 (252645135), Cond.methodLink RX5 232 yX2_follow, Cond.instanceMethod yX2_follow, Cond.selects RX2 yX2_follow yX2_follow, Cond.code yX2_follow cX2_follow 4 none, Cond.methodLink RX2 125 yX2_copy, Cond.methodLink RX2 129 yX2_make, Cond.methodLink RL 74 yX6_wins]
def wsL_law_r28 : List Cond := [Cond.instanceMethod yX6_wins, Cond.selects RX6 yX6_wins yX6_wins, Cond.code yX6_wins cX6_wins 2 (some .int), Cond.constantLong RX6 160 (4), Cond.methodLink RX6 162 yX6_layKeys, Cond.instanceMethod yX6_layKeys, Cond.selects RX6 yX6_layKeys yX6_layKeys, Cond.code yX6_layKeys cX6_layKeys 5 (some .int), Cond.methodLink RX6 157 yX6_isKey, Cond.instanceMethod yX6_isKey, Cond.selects RX6 yX6_isKey yX6_isKey, Cond.code yX6_isKey cX6_isKey 3 (some .boolean), Cond.methodLink RX6 154 yX6_isDone, Cond.instanceMethod yX6_isDone, Cond.selects RX6 yX6_isDone yX6_isDone, Cond.code yX6_isDone cX6_isDone 5 (some .boolean), Cond.methodLink RX6 151 yX6_winsNow, Cond.instanceMethod yX6_winsNow, Cond.selects RX6 yX6_winsNow yX6_winsNow, Cond.code yX6_winsNow cX6_winsNow 5 (some .boolean), Cond.methodLink RL 75 yX5_keys, Cond.instanceMethod yX5_keys, Cond.selects RX5 yX5_keys yX5_keys, Cond.code yX5_keys cX5_keys 3 (some .int)]
def wsL_law_r29 : List Cond := [Cond.methodLink RX5 170 yX5_listKeys, Cond.instanceMethod yX5_listKeys, Cond.selects RX5 yX5_listKeys yX5_listKeys, Cond.code yX5_listKeys cX5_listKeys 6 (some .int), Cond.methodLink RX5 236 yX2_setPly, Cond.methodLink RL 78 yX6_keys, Cond.instanceMethod yX6_keys, Cond.selects RX6 yX6_keys yX6_keys, Cond.code yX6_keys cX6_keys 2 (some .int), Cond.methodLink RL 79 yX5_keyAt, Cond.instanceMethod yX5_keyAt, Cond.selects RX5 yX5_keyAt yX5_keyAt, Cond.code yX5_keyAt cX5_keyAt 4 (some .int), Cond.methodLink RL 82 yX6_keyAt, Cond.instanceMethod yX6_keyAt, Cond.selects RX6 yX6_keyAt yX6_keyAt, Cond.code yX6_keyAt cX6_keyAt 4 (some .int), Cond.methodLink RL 83 yX5_odds, Cond.instanceMethod yX5_odds, Cond.selects RX5 yX5_odds yX5_odds, Cond.code yX5_odds cX5_odds 7 (some .int), Cond.methodLink RX5 179 yX5_greatestCommon, Cond.static yX5_greatestCommon, Cond.code yX5_greatestCommon cX5_greatestCommon 6 (some .int)]
def wsL_law_r30 : List Cond := [Cond.methodLink RL 87 yX6_odds, Cond.instanceMethod yX6_odds, Cond.selects RX6 yX6_odds yX6_odds, Cond.code yX6_odds cX6_odds 5 (some .int), Cond.methodLink RX6 165 yX6_common, Cond.static yX6_common, Cond.code yX6_common cX6_common 5 (some .int), Cond.methodLink RL 88 yX5_parts, Cond.instanceMethod yX5_parts, Cond.selects RX5 yX5_parts yX5_parts, Cond.code yX5_parts cX5_parts 1 (some .int), Cond.methodLink RX5 183 yX5_partsAheadOf, Cond.instanceMethod yX5_partsAheadOf, Cond.selects RX5 yX5_partsAheadOf yX5_partsAheadOf, Cond.code yX5_partsAheadOf cX5_partsAheadOf 7 (some .int), Cond.methodLink RX5 239 yX0_all, Cond.instanceMethod yX0_all, Cond.selects RX0 yX0_all yX0_all, Cond.code yX0_all cX0_all 1 (some .int), Cond.methodLink RX5 242 yX0_hanging, Cond.instanceMethod yX0_hanging, Cond.selects RX0 yX0_hanging yX0_hanging, Cond.code yX0_hanging cX0_hanging 7 (some .int), Cond.static yX5_lowest]
def wsL_law_r31 : List Cond := [Cond.code yX5_lowest cX5_lowest 1 (some .int), Cond.methodLink RX5 263 yJ6_bitCount_0f7a4, Cond.methodLink RL 91 yX6_parts, Cond.instanceMethod yX6_parts, Cond.selects RX6 yX6_parts yX6_parts, Cond.code yX6_parts cX6_parts 1 (some .int), Cond.methodLink RX6 172 yX6_layParts, Cond.instanceMethod yX6_layParts, Cond.selects RX6 yX6_layParts yX6_layParts, Cond.code yX6_layParts cX6_layParts 3 (some .int), Cond.methodLink RX6 168 yX6_spread, Cond.instanceMethod yX6_spread, Cond.selects RX6 yX6_spread yX6_spread, Cond.code yX6_spread cX6_spread 7 none, Cond.methodLink RL 92 yX5_part, Cond.instanceMethod yX5_part, Cond.selects RX5 yX5_part yX5_part, Cond.code yX5_part cX5_part 2 (some .int), Cond.methodLink RL 95 yX6_part, Cond.instanceMethod yX6_part, Cond.selects RX6 yX6_part yX6_part, Cond.code yX6_part cX6_part 2 (some .int), Cond.methodLink RL 96 yX5_comes, Cond.instanceMethod yX5_comes]
def wsL_law_r32 : List Cond := [Cond.selects RX5 yX5_comes yX5_comes, Cond.code yX5_comes cX5_comes 2 (some .int), Cond.methodLink RX5 186 yX0_coming, Cond.instanceMethod yX0_coming, Cond.selects RX0 yX0_coming yX0_coming, Cond.code yX0_coming cX0_coming 8 (some .int), Cond.methodLink RX0 65 yX0_aimed, Cond.methodLink RX0 68 yX0_going, Cond.methodLink RL 99 yX6_comes, Cond.instanceMethod yX6_comes, Cond.selects RX6 yX6_comes yX6_comes, Cond.code yX6_comes cX6_comes 2 (some .int), Cond.methodLink RX6 175 yX6_comesTo, Cond.instanceMethod yX6_comesTo, Cond.selects RX6 yX6_comesTo yX6_comesTo, Cond.code yX6_comesTo cX6_comesTo 6 (some .int), Cond.methodLink RL 100 yX5_comesAt, Cond.instanceMethod yX5_comesAt, Cond.selects RX5 yX5_comesAt yX5_comesAt, Cond.code yX5_comesAt cX5_comesAt 4 (some .int), Cond.methodLink RX5 189 yX5_sideOf, Cond.methodLink RX5 192 yX5_canComeAt, Cond.instanceMethod yX5_canComeAt, Cond.selects RX5 yX5_canComeAt yX5_canComeAt]
def wsL_law_r33 : List Cond := [Cond.code yX5_canComeAt cX5_canComeAt 6 (some .boolean), Cond.methodLink RX5 245 yX0_threatened, Cond.instanceMethod yX0_threatened, Cond.selects RX0 yX0_threatened yX0_threatened, Cond.code yX0_threatened cX0_threatened 7 (some .int), Cond.methodLink RX0 71 yX0_coming, Cond.methodLink RL 103 yX6_comesAt, Cond.instanceMethod yX6_comesAt, Cond.selects RX6 yX6_comesAt yX6_comesAt, Cond.code yX6_comesAt cX6_comesAt 3 (some .int), Cond.methodLink RX6 178 yX6_areFoes, Cond.instanceMethod yX6_areFoes, Cond.selects RX6 yX6_areFoes yX6_areFoes, Cond.code yX6_areFoes cX6_areFoes 4 (some .boolean), Cond.methodLink RX6 181 yX6_canComeAt, Cond.instanceMethod yX6_canComeAt, Cond.selects RX6 yX6_canComeAt yX6_canComeAt, Cond.code yX6_canComeAt cX6_canComeAt 7 (some .boolean), Cond.methodLink RL 104 yX5_shut, Cond.instanceMethod yX5_shut, Cond.selects RX5 yX5_shut yX5_shut, Cond.code yX5_shut cX5_shut 1 (some .int), Cond.methodLink RL 107 yX6_shut, Cond.instanceMethod yX6_shut]
def wsL_law_r34 : List Cond := [Cond.selects RX6 yX6_shut yX6_shut, Cond.code yX6_shut cX6_shut 3 (some .int), Cond.methodLink RL 108 yX5_ways, Cond.instanceMethod yX5_ways, Cond.selects RX5 yX5_ways yX5_ways, Cond.code yX5_ways cX5_ways 3 (some .int), Cond.methodLink RX5 201 yX5_isSlot, Cond.static yX5_isSlot, Cond.code yX5_isSlot cX5_isSlot 1 (some .boolean), Cond.methodLink RX5 204 yX3_holds, Cond.methodLink RX5 207 yX3_get, Cond.methodLink RX5 211 yX5_rowsTo, Cond.static yX5_rowsTo, Cond.code yX5_rowsTo cX5_rowsTo 8 (some .int), Cond.methodLink RX5 255 yX2_differing, Cond.instanceMethod yX2_differing, Cond.selects RX2 yX2_differing yX2_differing, Cond.code yX2_differing cX2_differing 4 (some .int), Cond.constantLong RX2 138 (1229782938247303441), Cond.methodLink RX2 140 yJ13_bitCount_95d88, Cond.static yJ13_bitCount_95d88, Cond.initialized RJ13, Cond.code yJ13_bitCount_95d88 cJ13_bitCount_95d88 2 (some .int), Cond.constantLong RJ13 314 (6148914691236517205)]
def wsL_law_r35 : List Cond := [Cond.constantLong RJ13 316 (3689348814741910323), Cond.constantLong RJ13 318 (1085102592571150095), Cond.methodLink RX5 259 yX2_isAs, Cond.instanceMethod yX2_isAs, Cond.selects RX2 yX2_isAs yX2_isAs, Cond.code yX2_isAs cX2_isAs 2 (some .boolean), Cond.methodLink RL 111 yX6_ways, Cond.instanceMethod yX6_ways, Cond.selects RX6 yX6_ways yX6_ways, Cond.code yX6_ways cX6_ways 6 (some .int), Cond.constantLong RX6 190 (3), Cond.methodLink RX6 187 yX6_oneWay, Cond.instanceMethod yX6_oneWay, Cond.selects RX6 yX6_oneWay yX6_oneWay, Cond.code yX6_oneWay cX6_oneWay 6 (some .int), Cond.methodLink RX6 184 yX6_isLike, Cond.instanceMethod yX6_isLike, Cond.selects RX6 yX6_isLike yX6_isLike, Cond.code yX6_isLike cX6_isLike 5 (some .boolean), Cond.methodLink RX6 192 yX6_twoWays, Cond.instanceMethod yX6_twoWays, Cond.selects RX6 yX6_twoWays yX6_twoWays, Cond.code yX6_twoWays cX6_twoWays 6 (some .int), Cond.methodLink RL 112 yX5_seed]
def wsL_law_r36 : List Cond := [Cond.instanceMethod yX5_seed, Cond.selects RX5 yX5_seed yX5_seed, Cond.code yX5_seed cX5_seed 5 (some .long), Cond.methodLink RL 116 yX6_seed, Cond.instanceMethod yX6_seed, Cond.selects RX6 yX6_seed yX6_seed, Cond.code yX6_seed cX6_seed 5 (some .long), Cond.fieldLink RX6 195 "StayWhereFellModel" "seed" "J", Cond.methodLink RL 117 yX5_play, Cond.instanceMethod yX5_play, Cond.selects RX5 yX5_play yX5_play, Cond.code yX5_play cX5_play 4 (some .int), Cond.constantLong RX5 215 (6364136223846793005), Cond.constantLong RX5 217 (1442695040888963407), Cond.methodLink RX5 219 yX2_menCount, Cond.instanceMethod yX2_menCount, Cond.selects RX2 yX2_menCount yX2_menCount, Cond.code yX2_menCount cX2_menCount 1 (some .int), Cond.methodLink RL 120 yX6_play, Cond.instanceMethod yX6_play, Cond.selects RX6 yX6_play yX6_play, Cond.code yX6_play cX6_play 5 (some .int), Cond.constantLong RX6 199 (40), Cond.constantLong RX6 201 (6364136223846793005)]
def wsL_law_r37 : List Cond := [Cond.constantLong RX6 203 (1442695040888963407), Cond.methodLink RX6 205 yX6_men, Cond.instanceMethod yX6_men, Cond.selects RX6 yX6_men yX6_men, Cond.code yX6_men cX6_men 4 (some .int), Cond.methodLink RL 121 yX5_keep, Cond.instanceMethod yX5_keep, Cond.selects RX5 yX5_keep yX5_keep, Cond.code yX5_keep cX5_keep 2 (some .int), Cond.methodLink RX5 222 yX3_set, Cond.methodLink RL 124 yX6_keep, Cond.instanceMethod yX6_keep, Cond.selects RX6 yX6_keep yX6_keep, Cond.code yX6_keep cX6_keep 3 (some .int), Cond.methodLink RL 125 yX5_again, Cond.instanceMethod yX5_again, Cond.selects RX5 yX5_again yX5_again, Cond.code yX5_again cX5_again 2 (some .int), Cond.methodLink RL 128 yX6_again, Cond.instanceMethod yX6_again, Cond.selects RX6 yX6_again yX6_again, Cond.code yX6_again cX6_again 3 (some .int), Cond.methodLink RL 129 yX5_count, Cond.instanceMethod yX5_count]
def wsL_law_r38 : List Cond := [Cond.selects RX5 yX5_count yX5_count, Cond.code yX5_count cX5_count 2 (some .int), Cond.methodLink RL 132 yX6_count, Cond.instanceMethod yX6_count, Cond.selects RX6 yX6_count yX6_count, Cond.code yX6_count cX6_count 4 (some .int), Cond.methodLink RX6 208 yX6_setOf, Cond.instanceMethod yX6_setOf, Cond.selects RX6 yX6_setOf yX6_setOf, Cond.code yX6_setOf cX6_setOf 4 (some .int)]
def wsL_law : List Cond := (wsL_law_r1 ++ (wsL_law_r2 ++ (wsL_law_r3 ++ (wsL_law_r4 ++ (wsL_law_r5 ++ (wsL_law_r6 ++ (wsL_law_r7 ++ (wsL_law_r8 ++ (wsL_law_r9 ++ (wsL_law_r10 ++ (wsL_law_r11 ++ (wsL_law_r12 ++ (wsL_law_r13 ++ (wsL_law_r14 ++ (wsL_law_r15 ++ (wsL_law_r16 ++ (wsL_law_r17 ++ (wsL_law_r18 ++ (wsL_law_r19 ++ (wsL_law_r20 ++ (wsL_law_r21 ++ (wsL_law_r22 ++ (wsL_law_r23 ++ (wsL_law_r24 ++ (wsL_law_r25 ++ (wsL_law_r26 ++ (wsL_law_r27 ++ (wsL_law_r28 ++ (wsL_law_r29 ++ (wsL_law_r30 ++ (wsL_law_r31 ++ (wsL_law_r32 ++ (wsL_law_r33 ++ (wsL_law_r34 ++ (wsL_law_r35 ++ (wsL_law_r36 ++ (wsL_law_r37 ++ wsL_law_r38))))))))))))))))))))))))))))))))))))) ++ wsX50 ++ wsX60 ++ wsX40 ++ wsX00 ++ wsX20 ++ wsX10 ++ wsX30 ++ ([] : List Cond)
set_option maxRecDepth 20000 in
theorem wsL_law_in : ∀ w ∈ wsL_law, w ∈ lw_tbl := fun w h => (goodIn_p wsL_law [66, 69, 74, 89, 129, 180, 186, 218, 222, 227, 233, 236, 239, 247, 788, 276, 280, 852, 856, 284, 861, 288, 292, 296, 300, 304, 308, 312, 316, 320, 325, 329, 333, 339, 343, 346, 352, 355, 349, 358, 361, 367, 370, 373, 376, 381, 384, 387, 396, 399, 402, 406, 865, 869, 876, 879, 411, 417, 421, 425, 428, 432, 435, 440, 443, 449, 453, 457, 883, 461, 465, 469, 472, 478, 481, 484, 487, 490, 493, 888, 892, 498, 501, 505, 896, 509, 513, 517, 522, 900, 904, 907, 911, 915, 919, 923, 528, 532, 539, 543, 927, 931, 935, 547, 551, 557, 561, 939, 943, 566, 570, 575, 579, 583, 587, 591, 596, 947, 951, 955, 959, 963, 600, 604, 967, 609, 613, 617, 621, 971, 626, 630, 975, 979, 634, 638, 641, 645, 648, 655, 983, 988, 992, 996, 1000, 661, 665, 1004, 670, 1008, 674, 677, 1012, 1015, 681, 685, 689, 693, 696, 1019, 1023, 1027, 701, 1031, 705, 709, 1035, 1039, 715, 720, 724, 1043, 1047, 1051, 729, 1055, 733, 736, 741, 745, 749, 756, 1059, 1064, 1068, 1072, 760, 1076, 764, 770, 1080, 1087, 774, 1091, 779, 1095, 783, 1099, 1103] (by decide +kernel) (by decide +kernel) w h).1
theorem inlX0 : ∀ w ∈ wsX00, w ∈ wsL_law := fun _ h => List.mem_append_left _ (List.mem_append_left _ (List.mem_append_left _ (List.mem_append_left _ (List.mem_append_right _ h))))
theorem inX0 : ∀ w ∈ wsX00, w ∈ lw_tbl := fun w h => wsL_law_in w (inlX0 w h)
theorem inlX1 : ∀ w ∈ wsX10, w ∈ wsL_law := fun _ h => List.mem_append_left _ (List.mem_append_left _ (List.mem_append_right _ h))
theorem inX1 : ∀ w ∈ wsX10, w ∈ lw_tbl := fun w h => wsL_law_in w (inlX1 w h)
theorem inlX2 : ∀ w ∈ wsX20, w ∈ wsL_law := fun _ h => List.mem_append_left _ (List.mem_append_left _ (List.mem_append_left _ (List.mem_append_right _ h)))
theorem inX2 : ∀ w ∈ wsX20, w ∈ lw_tbl := fun w h => wsL_law_in w (inlX2 w h)
theorem inlX3 : ∀ w ∈ wsX30, w ∈ wsL_law := fun _ h => List.mem_append_left _ (List.mem_append_right _ h)
theorem inX3 : ∀ w ∈ wsX30, w ∈ lw_tbl := fun w h => wsL_law_in w (inlX3 w h)
theorem inlX4 : ∀ w ∈ wsX40, w ∈ wsL_law := fun _ h => List.mem_append_left _ (List.mem_append_left _ (List.mem_append_left _ (List.mem_append_left _ (List.mem_append_left _ (List.mem_append_right _ h)))))
theorem inX4 : ∀ w ∈ wsX40, w ∈ lw_tbl := fun w h => wsL_law_in w (inlX4 w h)
theorem inlX5 : ∀ w ∈ wsX50, w ∈ wsL_law := fun _ h => List.mem_append_left _ (List.mem_append_left _ (List.mem_append_left _ (List.mem_append_left _ (List.mem_append_left _ (List.mem_append_left _ (List.mem_append_left _ (List.mem_append_right _ h)))))))
theorem inX5 : ∀ w ∈ wsX50, w ∈ lw_tbl := fun w h => wsL_law_in w (inlX5 w h)
theorem inlX6 : ∀ w ∈ wsX60, w ∈ wsL_law := fun _ h => List.mem_append_left _ (List.mem_append_left _ (List.mem_append_left _ (List.mem_append_left _ (List.mem_append_left _ (List.mem_append_left _ (List.mem_append_right _ h))))))
theorem inX6 : ∀ w ∈ wsX60, w ∈ lw_tbl := fun w h => wsL_law_in w (inlX6 w h)
theorem inJ11 : ∀ w ∈ wsJ110, w ∈ lw_tbl := by decide +kernel
theorem inJ6 : ∀ w ∈ wsJ60, w ∈ lw_tbl := by decide +kernel
theorem inJ13 : ∀ w ∈ wsJ130, w ∈ lw_tbl := by decide +kernel
theorem inJ9 : ∀ w ∈ wsJ90, w ∈ lw_tbl := by decide +kernel
theorem inJ0 : ∀ w ∈ wsJ00, w ∈ lw_tbl := by decide +kernel
theorem inJ1 : ∀ w ∈ wsJ10, w ∈ lw_tbl := by decide +kernel
theorem inJ2 : ∀ w ∈ wsJ20, w ∈ lw_tbl := by decide +kernel
theorem inJ3 : ∀ w ∈ wsJ30, w ∈ lw_tbl := by decide +kernel
abbrev vwCl : List vw_C := [(RX0, TX0, 9), (RX1, TX1, 3), (RX2, TX2, 11), (RX3, TX3, 4), (RX4, TX4, 2), (RX5, TX5, 8), (RX6, TX6, 19)]
